/-! Clashes, reasons and the last day by all orders: steps of the law. -/
/-- joining, out of the invariant -/
theorem pq_inv_jn {X n : Nat} {B par : Nat → Nat} {sz : Nat} {sk : pb_Sk} {rf : pb_Rf} {S S' : pb_Sg} (hsk : pq_sk X n B par sz sk rf) (h : pq_inv X n B par S S') {b : Nat} (b0 : 0 < b) (hb : b < n) : pq_jr S S' (pb_jnN S (X + 28) (B b) (B (par b)) 16) (pb_mjN S' (X + 45) b (par b) 16).1 (pb_mjN S' (X + 45) b (par b) 16).2 (X + 28) (X + 45) 16 ∧ pq_gpN (pb_jnN S (X + 28) (B b) (B (par b)) 16) (X + 29) 16 := by
  have hp := pq_par hsk b0 hb
  have hn8 := pq_n8 hsk
  have l1 := pq_bl hsk hb
  have l2 := pq_bl hsk (show par b < n by omega)
  have i1 := h.2.1 b hb
  have i2 := h.2.1 (par b) (by omega)
  have i3 := h.2.2.1 b b0 hb
  exact pq_join (by omega) (by omega) (by unfold pq_aj; omega) (by unfold pq_aj; omega) i1.1 i2.1 i3.1 i3.2.2 i1.2.1 i2.2.1 16 (by omega)
theorem pq_inv_mj {X n : Nat} {B par : Nat → Nat} {S S' : pb_Sg} {b f : Nat} (h : pq_inv X n B par S S') (hn : n ≤ 8) {T y} (hj : pq_jr S S' T (pb_mjN S' (X + 45) b f 16).1 y (X + 28) (X + 45) 16) : pq_inv X n B par S (pb_mjN S' (X + 45) b f 16).1 := by
  obtain ⟨r1, r2, r3, r4, -⟩ := hj
  refine h.ofJ hn (fun k j hk => ?_) (r3 8 (by omega)) (r3 20 (by omega))
  rcases hk with ⟨k1, k4, hj⟩ | ⟨k5, k18⟩
  · exact r4 k k1 k4 j hj
  · rw [r2 _ (by omega)]
/-- what the class's memory is behind joining or judging: as before, but for room -/
def pq_scr (X : Nat) (C S : pb_Sg) : Prop := (∀ a j, (a < X ∨ (X < a ∧ a < X + 28) ∨ X + 44 < a) → C a j = S a j) ∧ C X 1 = S X 1
theorem pq_scr.inv {X n : Nat} {B par : Nat → Nat} {sz : Nat} {sk : pb_Sk} {rf : pb_Rf} {S C S' : pb_Sg} (hc : pq_scr X C S) (hsk : pq_sk X n B par sz sk rf) (h : pq_inv X n B par S S') : pq_inv X n B par C S' := h.ofC (fun c hc => pq_bl hsk hc) (fun a ha => by funext j; exact hc.1 a j (by omega)) hc.2
theorem pq_scr.f {X : Nat} {S C : pb_Sg} (hc : pq_scr X C S) : ∀ a, X + 45 ≤ a → a < X + 70 → C a = S a := fun a h1 h2 => by funext j; exact hc.1 a j (by omega)
theorem pq_jr_scr {X M : Nat} {S S' T T' : pb_Sg} {y : Int32} {n : Nat} (h : pq_jr S S' T T' y (X + 28) M n) : pq_scr X T S := ⟨fun a j ha => by rw [h.1 a (by omega)], by rw [h.1 X (by omega)]⟩
/-- judging, out of the invariant -/
theorem pq_inv_jd {X n : Nat} {B par : Nat → Nat} {sz : Nat} {sk : pb_Sk} {rf : pb_Rf} {S S' : pb_Sg} (hsk : pq_sk X n B par sz sk rf) (h : pq_inv X n B par S S') {b : Nat} (b0 : 0 < b) (hb : b < n) (m : Bool) {L : Nat} (hh : pq_hd S S' (X + 20) (X + 45) L) {J : pb_Sg} (hJ : J = (pb_mjN S' (X + 45) b (par b) 16).1) : (pb_jdg S X (B b) (B (par b)) (if m = true then B (par b) else B b)).1 = (pb_mrs J (X + 45) (pb_mto m (par b) b) L).1 ∧ pb_low ((pb_jdg S X (B b) (B (par b)) (if m = true then B (par b) else B b)).2 X 6) 16 = (pb_mrt (pb_mrs J (X + 45) (pb_mto m (par b) b) L) (X + 45) (pb_mto m (par b) b) L).1 ∧ pq_scr X (pb_jdg S X (B b) (B (par b)) (if m = true then B (par b) else B b)).2 S ∧ pq_eq (pb_jdg S X (B b) (B (par b)) (if m = true then B (par b) else B b)).2 (pb_mrs J (X + 45) (pb_mto m (par b) b) L).2 (X + 29) (X + 45) 16 ∧ pq_gpN (pb_jdg S X (B b) (B (par b)) (if m = true then B (par b) else B b)).2 (X + 29) 16 := by
  have hp := pq_par hsk b0 hb
  have hn8 := pq_n8 hsk
  have l1 := pq_bl hsk hb
  have l2 := pq_bl hsk (show par b < n by omega)
  have i1 := h.2.1 b hb
  have i2 := h.2.1 (par b) (by omega)
  have i3 := h.2.2.1 b b0 hb
  have hg : ((if m = true then B (par b) else B b) = X + 2 ∨ X + 45 ≤ (if m = true then B (par b) else B b)) ∧ S (if m = true then B (par b) else B b) 0 = nI (pb_mto m (par b) b) ∧ S (if m = true then B (par b) else B b) 6 = S' (X + 45 + 6) (pb_mto m (par b) b) := by
    cases m
    · exact ⟨by show B b = X + 2 ∨ X + 45 ≤ B b; omega, i1.2.2.1, i1.2.2.2.1⟩
    · exact ⟨by show B (par b) = X + 2 ∨ X + 45 ≤ B (par b); omega, i2.2.2.1, i2.2.2.2.1⟩
  obtain ⟨r1, r2, r3, r4, r5, r6⟩ := pq_judge (X := X) hJ (by omega) (by omega) (by omega) (by omega) i1.1 i2.1 i3.1 i3.2.2 i1.2.1 i2.2.1 hh hg.1 hg.2.1 hg.2.2
  exact ⟨r1, r2, ⟨r3, r4 1 (by omega)⟩, r5, r6⟩
theorem pq_jd_sc {X n : Nat} {B par : Nat → Nat} {sz : Nat} {sk : pb_Sk} {rf : pb_Rf} {S : pb_Sg} (hsk : pq_sk X n B par sz sk rf) (h : pq_inv X n B par S S) {b : Nat} (b0 : 0 < b) (hb : b < n) (m : Bool) : pq_scr X (pb_jdg S X (B b) (B (par b)) (if m = true then B (par b) else B b)).2 S := by
  obtain ⟨L, -, -, -, hh⟩ := pq_inv_hd h
  exact (pq_inv_jd hsk h b0 hb m hh rfl).2.2.1
set_option maxHeartbeats 1000000 in
theorem pq_st_clashes {l : Launch} (hfl : l.stackTraces = false) {X sz : Nat} {sk : pb_Sk} {rf : pb_Rf} {sg : pb_Sg} (hI : pq_INV X sz sk rf sg) (p0 : Int32) : pq_stp l mL_clashes mX8_clashes X [.int p0] (fun _ => True) sz sk rf sg := by
  obtain ⟨n, B, par, hsk, hinv⟩ := hI
  obtain ⟨hX, hl, hm, hO, hz, hB⟩ := id hsk
  have hn8 := pq_n8 hsk
  have hn := hinv.1.2.1
  by_cases hx : ∃ b, b < n ∧ p0 = nI b
  · obtain ⟨b, hb, rfl⟩ := hx
    have hbl := pq_bl hsk hb
    by_cases hz0 : b = 0
    · obtain ⟨v, hv⟩ : ∃ v, (nI 0 : Int32) = v := ⟨_, rfl⟩
      have hS : pq_inv X n B par sg (pb_up sg (X + 70) 0 v) := pq_in0 hinv (fun a h1 h2 => rfl)
      have hT := pq_up_M (x := nI 0) hS
      skip
      refine pq_stp_okv hv hsk trivial (by omega) (ok_L_clashes hfl hX.1 hO (d9 := 7) (by omega) (c0_X7_clashes hfl hX hb hz0)) (c0_X8_clashes hfl hm hS.1.2.1 hn8 hb hz0) (pb_up_self) ?_ (fun a ha => pb_up_neA (by omega)) (hT)
      rfl
    · have b0 : 0 < b := by omega
      have hfb := pq_par hsk b0 hb
      have jq := pq_inv_jn hsk hinv b0 hb
      obtain ⟨v, hv⟩ : ∃ v, ((pb_jnN sg (X + 28) (B b) (B (par b)) 16) (X + 28) 1 : Int32) = v := ⟨_, rfl⟩
      have hS : pq_inv X n B par sg (pb_up (pb_jnN sg (X + 28) (B b) (B (par b)) 16) (X + 70) 0 v) := pq_in0 hinv ((pq_jr_scr jq.1).f)
      have hT := pq_up_M (x := nI 0) hS
      skip
      have jr := pq_inv_jn hsk hT b0 hb
      refine pq_stp_okv hv hsk trivial (by omega) (ok_L_clashes hfl hX.1 hO (d9 := 7) (by omega) (c_X7_clashes hfl hX hb b0)) (c_X8_clashes hfl hm hS.1.2.1 hn8 hb b0 (by omega) (hS.2.2.1 b b0 hb).2.1 rfl) (by rw [jr.1.2.2.1 0 (by omega)]; exact pb_up_self) ?_ (fun a ha => by rw [jr.1.2.1 a (by omega), pb_up_neA (by omega)]) ((pq_jr_scr jq.1).inv hsk (pq_inv_mj hT hn8.2 jr.1))
      exact jr.1.2.2.2.2.2.1
  · have hx2 : ∀ b, b < n → ¬ p0 = nI b := fun b hb q => hx ⟨b, hb, q⟩
    exact pq_stp_x0 hsk hinv (k := 1) (by omega) trivial (by omega) (x1_L_clashes hfl hX.1 hO (d9 := 7) (by omega) (x1_X7_clashes hfl hX hx2)) (fun sz' => x1_X8_clashes hfl hm hn hn8 hx2)
theorem pq_mrs_inv {X n : Nat} {B par : Nat → Nat} {S S' J : pb_Sg} {to L : Nat} (h : pq_inv X n B par S J) (hS' : S' = (pb_mrs J (X + 45) to L).2 ∨ S' = (pb_mrt (pb_mrs J (X + 45) to L) (X + 45) to L).2) : pq_inv X n B par S S' := by
  have hx : ∀ x, (x < X + 45 + 19 ∨ X + 45 + 23 < x) → S' x = J x := fun x hx => by
    rcases hS' with rfl | rfl
    · exact pb_mrs_ne hx
    · exact pq_mrt_ne hx
  exact h.ofM (fun k k1 k2 => hx _ (by omega)) (by rw [hx _ (by omega)]) (by rw [hx _ (by omega)])
set_option maxHeartbeats 1000000 in
theorem pq_st_reason {l : Launch} (hfl : l.stackTraces = false) {X sz : Nat} {sk : pb_Sk} {rf : pb_Rf} {sg : pb_Sg} (hI : pq_INV X sz sk rf sg) (p0 : Int32) (p1 : Bool) : pq_stp l mL_reason mX8_reason X [.int p0, .int (pb_b p1)] (fun _ => True) sz sk rf sg := by
  obtain ⟨n, B, par, hsk, hinv⟩ := hI
  obtain ⟨hX, hl, hm, hO, hz, hB⟩ := id hsk
  have hn8 := pq_n8 hsk
  have hn := hinv.1.2.1
  by_cases hx : ∃ b, b < n ∧ p0 = nI b
  · obtain ⟨b, hb, rfl⟩ := hx
    have hbl := pq_bl hsk hb
    by_cases hz0 : b = 0
    · exact pq_stp_x0 hsk hinv (k := 2) (by omega) trivial (by omega) (x2_L_reason hfl hX.1 hO (d9 := 8) (by omega) (x2_X7_reason hfl hX hb hz0)) (fun sz' => x2_X8_reason hfl hm hn hn8 hb hz0)
    · have b0 : 0 < b := by omega
      have hfb := pq_par hsk b0 hb
      have jq := pq_inv_jn hsk hinv b0 hb
      have hsc := pq_jd_sc hsk hinv b0 hb p1
      obtain ⟨v, hv⟩ : ∃ v, ((pb_jdg sg X (B b) (B (par b)) (if p1 = true then B (par b) else B b)).1 : Int32) = v := ⟨_, rfl⟩
      have hS : pq_inv X n B par sg (pb_up (pb_jdg sg X (B b) (B (par b)) (if p1 = true then B (par b) else B b)).2 (X + 70) 0 v) := pq_in0 hinv (hsc.f)
      have hT := pq_up_M (x := nI 0) hS
      skip
      obtain ⟨L, hL40, -, hL, hh⟩ := pq_inv_hd hS
      have hhT : pq_hd sg (pb_up (pb_up (pb_jdg sg X (B b) (B (par b)) (if p1 = true then B (par b) else B b)).2 (X + 70) 0 v) (X + 45) 0 (nI 0)) (X + 20) (X + 45) L := pq_hd_of hh (fun _ _ _ => rfl) (fun k k1 k2 => pb_up_neA (by omega))
      have jr := pq_inv_jn hsk hT b0 hb
      have rq := pq_inv_jd hsk hT b0 hb p1 hhT rfl
      refine pq_stp_okv hv hsk trivial (by omega) (ok_L_reason hfl hX.1 hO (d9 := 7) (by omega) (c_X7_reason hfl hX hb b0 (pq_gp_wf jq.2))) (c_X8_reason hfl hm hS.1.2.1 hn8 hb b0 (by omega) (hS.2.2.1 b b0 hb).2.1 hL hL40 (m := p1) rfl (pq_mw jr.1.2.2.2.2.1 (pq_gp_wf jr.2)) rfl) (by rw [pb_mrs_ne (by omega), jr.1.2.2.1 0 (by omega)]; exact pb_up_self) ?_ (fun a ha => by rw [pb_mrs_ne (by omega), jr.1.2.1 a (by omega), pb_up_neA (by omega)]) (hsc.inv hsk (pq_mrs_inv (pq_inv_mj hT hn8.2 jr.1) (Or.inl rfl)))
      exact rq.1
  · have hx2 : ∀ b, b < n → ¬ p0 = nI b := fun b hb q => hx ⟨b, hb, q⟩
    exact pq_stp_x0 hsk hinv (k := 1) (by omega) trivial (by omega) (x1_L_reason hfl hX.1 hO (d9 := 7) (by omega) (x1_X7_reason hfl hX hx2)) (fun sz' => x1_X8_reason hfl hm hn hn8 hx2)
set_option maxHeartbeats 1000000 in
theorem pq_st_reasonTask {l : Launch} (hfl : l.stackTraces = false) {X sz : Nat} {sk : pb_Sk} {rf : pb_Rf} {sg : pb_Sg} (hI : pq_INV X sz sk rf sg) (p0 : Int32) (p1 : Bool) : pq_stp l mL_reasonTask mX8_reasonTask X [.int p0, .int (pb_b p1)] (fun _ => True) sz sk rf sg := by
  obtain ⟨n, B, par, hsk, hinv⟩ := hI
  obtain ⟨hX, hl, hm, hO, hz, hB⟩ := id hsk
  have hn8 := pq_n8 hsk
  have hn := hinv.1.2.1
  by_cases hx : ∃ b, b < n ∧ p0 = nI b
  · obtain ⟨b, hb, rfl⟩ := hx
    have hbl := pq_bl hsk hb
    by_cases hz0 : b = 0
    · exact pq_stp_x0 hsk hinv (k := 2) (by omega) trivial (by omega) (x2_L_reasonTask hfl hX.1 hO (d9 := 8) (by omega) (x2_X7_reasonTask hfl hX hb hz0)) (fun sz' => x2_X8_reasonTask hfl hm hn hn8 hb hz0)
    · have b0 : 0 < b := by omega
      have hfb := pq_par hsk b0 hb
      have jq := pq_inv_jn hsk hinv b0 hb
      have hsc := pq_jd_sc hsk hinv b0 hb p1
      obtain ⟨v, hv⟩ : ∃ v, (pb_low ((pb_jdg sg X (B b) (B (par b)) (if p1 = true then B (par b) else B b)).2 X 6) 16 : Int32) = v := ⟨_, rfl⟩
      have hS : pq_inv X n B par sg (pb_up (pb_jdg sg X (B b) (B (par b)) (if p1 = true then B (par b) else B b)).2 (X + 70) 0 v) := pq_in0 hinv (hsc.f)
      have hT := pq_up_M (x := nI 0) hS
      skip
      obtain ⟨L, hL40, -, hL, hh⟩ := pq_inv_hd hS
      have hhT : pq_hd sg (pb_up (pb_up (pb_jdg sg X (B b) (B (par b)) (if p1 = true then B (par b) else B b)).2 (X + 70) 0 v) (X + 45) 0 (nI 0)) (X + 20) (X + 45) L := pq_hd_of hh (fun _ _ _ => rfl) (fun k k1 k2 => pb_up_neA (by omega))
      have jr := pq_inv_jn hsk hT b0 hb
      have rq := pq_inv_jd hsk hT b0 hb p1 hhT rfl
      refine pq_stp_okv hv hsk trivial (by omega) (ok_L_reasonTask hfl hX.1 hO (d9 := 7) (by omega) (c_X7_reasonTask hfl hX hb b0 (pq_gp_wf jq.2))) (c_X8_reasonTask hfl hm hS.1.2.1 hn8 hb b0 (by omega) (hS.2.2.1 b b0 hb).2.1 hL hL40 (m := p1) rfl (pq_mw jr.1.2.2.2.2.1 (pq_gp_wf jr.2)) rfl rfl) (by rw [pq_mrt_ne (by omega), jr.1.2.2.1 0 (by omega)]; exact pb_up_self) ?_ (fun a ha => by rw [pq_mrt_ne (by omega), jr.1.2.1 a (by omega), pb_up_neA (by omega)]) (hsc.inv hsk (pq_mrs_inv (pq_inv_mj hT hn8.2 jr.1) (Or.inr rfl)))
      exact rq.2.1
  · have hx2 : ∀ b, b < n → ¬ p0 = nI b := fun b hb q => hx ⟨b, hb, q⟩
    exact pq_stp_x0 hsk hinv (k := 1) (by omega) trivial (by omega) (x1_L_reasonTask hfl hX.1 hO (d9 := 7) (by omega) (x1_X7_reasonTask hfl hX hx2)) (fun sz' => x1_X8_reasonTask hfl hm hn hn8 hx2)
set_option maxHeartbeats 1000000 in
theorem pq_st_lastDayByAll {l : Launch} (hfl : l.stackTraces = false) {X sz : Nat} {sk : pb_Sk} {rf : pb_Rf} {sg : pb_Sg} (hI : pq_INV X sz sk rf sg) (p0 : Int32) : pq_stp l mL_lastDayByAll mX8_lastDayByAll X [.int p0] (fun _ => True) sz sk rf sg := by
  obtain ⟨n, B, par, hsk, hinv⟩ := hI
  obtain ⟨hX, hl, hm, hO, hz, hB⟩ := id hsk
  have hn8 := pq_n8 hsk
  have hn := hinv.1.2.1
  by_cases hx : ∃ b, b < n ∧ p0 = nI b
  · obtain ⟨b, hb, rfl⟩ := hx
    have hbl := pq_bl hsk hb
    have hap : pb_apX X (B b + 1) := by unfold pb_apX; omega
    have hq0 := hinv.2.1 b hb
    have hcn : ∀ S' : pb_Sg, pq_eq sg S' (B b + 1) (X + 45) b → pb_bc (pb_pres (sg (B b + 1 + 1))) = nI (pb_cnt (fun t => pb_has (S' (X + 45 + 1)) (16 * b + t)) 16) := fun S' h9 => by
      rw [pq_bc pq_pres_W]
      congr 1
      exact pb_cnt_congr fun i hi => (pq_pres_in hi).trans (pq_hasE h9 hi)
    have hle : ∀ m : Nat, m ≤ 16 → (nI m ≤ nI 6 ↔ m ≤ 6) := fun m hm => nI_leI (by omega) (by omega)
    have hc16 := pb_cnt_le (fun t => pb_has (sg (X + 45 + 1)) (16 * b + t)) 16
    have hcs := hcn sg hq0.1
    have hbT : ∀ v, pq_inv X n B par sg (pb_up (pb_stC sg (X + 37) (X + 20) (sg (B b) 0) 5) (X + 70) 0 v) := fun v => pq_in0 hinv (fun a h1 h2 => by funext j; exact pb_stC_out (by omega) 5 j (by omega))
    by_cases hm6 : pb_cnt (fun t => pb_has (sg (X + 45 + 1)) (16 * b + t)) 16 ≤ 6
    · by_cases hmz : pb_cnt (fun t => pb_has (sg (X + 45 + 1)) (16 * b + t)) 16 = 0
      · obtain ⟨v, hv⟩ : ∃ v, (pb_ea (pb_stC sg (X + 37) (X + 20) (sg (B b) 0) 5) (X + 37) (B b + 1) : Int32) = v := ⟨_, rfl⟩
        have hS : pq_inv X n B par sg (pb_up (pb_stC sg (X + 37) (X + 20) (sg (B b) 0) 5) (X + 70) 0 v) := pq_in0 hinv (fun a h1 h2 => by funext j; exact pb_stC_out (by omega) 5 j (by omega))
        have hT := pq_up_M (x := nI 0) hS
        skip
        have hm0 : pb_cnt (fun t => pb_has (pb_up (pb_stC sg (X + 37) (X + 20) (sg (B b) 0) 5) (X + 70) 0 v (X + 45 + 1)) (16 * b + t)) 16 = 0 := by
          exact (pb_cnt_congr fun i hi => by rw [← pq_hasE (hS.2.1 b hb).1 hi, pq_hasE hq0.1 hi]).trans hmz
        refine pq_stp_okv hv hsk trivial (by omega) (ok_L_lastDayByAll hfl hX.1 hO (d9 := 13) (by omega) (c_X7_lastDayByAll hfl hX hb (by rw [hcs, hle _ hc16]; exact hm6) hap (pq_gp_wf hq0.2.1))) (c0_X8_lastDayByAll hfl hm hS.1.2.1 hn8 hb rfl hm0 rfl) (by rw [pb_mor_ne (by omega)]; exact pb_up_self) ?_ (fun a ha => by rw [pb_mor_ne (by omega), pb_up_neA (by omega)]) ((hT.ofM (fun k k1 k2 => pb_mor_ne (by omega) 16) (by rw [pb_mor_ne (by omega)]) (by rw [pb_mor_ne (by omega)])).ofC (fun c hc => pq_bl hsk hc) (fun a ha => by funext j; exact pb_stC_out (by omega) 5 j (by omega)) (pb_stC_out (by omega) 5 1 (by omega)))
        refine pq_byall_0 ?_
        have e1 : pb_pres ((pb_stC sg (X + 37) (X + 20) (sg (B b) 0) 5) (B b + 1 + 1)) = pb_pres (sg (B b + 1 + 1)) := by rw [show (pb_stC sg (X + 37) (X + 20) (sg (B b) 0) 5) (B b + 1 + 1) = sg (B b + 1 + 1) from funext fun j => pb_stC_out (by omega) 5 j (by omega)]
        rw [e1]
        refine pq_cnt0 pq_pres_W ?_
        exact (pb_cnt_congr fun i hi => (pq_pres_in hi).trans (pq_hasE hq0.1 hi)).trans hmz
      · obtain ⟨v, hv⟩ : ∃ v, (pb_ea (pb_stC sg (X + 37) (X + 20) (sg (B b) 0) 5) (X + 37) (B b + 1) : Int32) = v := ⟨_, rfl⟩
        have hS : pq_inv X n B par sg (pb_up (pb_stC sg (X + 37) (X + 20) (sg (B b) 0) 5) (X + 70) 0 v) := pq_in0 hinv (fun a h1 h2 => by funext j; exact pb_stC_out (by omega) 5 j (by omega))
        have hT := pq_up_M (x := nI 0) hS
        skip
        obtain ⟨L, hL40, -, hL, hh⟩ := pq_inv_hd hS
        have ecm : pb_cnt (fun t => pb_has (pb_up (pb_stC sg (X + 37) (X + 20) (sg (B b) 0) 5) (X + 70) 0 v (X + 45 + 1)) (16 * b + t)) 16 = pb_cnt (fun t => pb_has (sg (X + 45 + 1)) (16 * b + t)) 16 := pb_cnt_congr fun i hi => by rw [← pq_hasE (hS.2.1 b hb).1 hi, pq_hasE hq0.1 hi]
        have hm1 : 1 ≤ pb_cnt (fun t => pb_has (pb_up (pb_stC sg (X + 37) (X + 20) (sg (B b) 0) 5) (X + 70) 0 v (X + 45 + 1)) (16 * b + t)) 16 := by rw [ecm]; omega
        have hm62 : pb_cnt (fun t => pb_has (pb_up (pb_stC sg (X + 37) (X + 20) (sg (B b) 0) 5) (X + 70) 0 v (X + 45 + 1)) (16 * b + t)) 16 ≤ 6 := by rw [ecm]; exact hm6
        obtain ⟨N, hN1, hN2, hN3⟩ := pq_byall (s := X + 37) (cr := X + 20) hap.ap (by omega) (hS.2.1 b hb).1 (pq_gp_wf hq0.2.1) (pq_gp_nb hq0.2.1) hh (T := pb_stC sg (X + 37) (X + 20) (sg (B b) 0) 5) (by rw [hq0.2.2.1]) rfl rfl rfl hm1 hm62
        have hR : ∀ x, (x < X + 45 + 19 ∨ X + 45 + 24 < x) → x ≠ X + 45 → (pb_mbl (X + 45) b (pb_cnt (fun t => pb_has (pb_up (pb_stC sg (X + 37) (X + 20) (sg (B b) 0) 5) (X + 70) 0 v (X + 45 + 1)) (16 * b + t)) 16) N (pb_mfd (pb_mor (pb_up (pb_up (pb_stC sg (X + 37) (X + 20) (sg (B b) 0) 5) (X + 70) 0 v) (X + 45) 0 (nI 0)) (X + 45) b (fun t => pb_has (pb_up (pb_stC sg (X + 37) (X + 20) (sg (B b) 0) 5) (X + 70) 0 v (X + 45 + 1)) (16 * b + t)) 16) (X + 45) b L 2000) (-1)).1 x = pb_up (pb_stC sg (X + 37) (X + 20) (sg (B b) 0) 5) (X + 70) 0 v x := fun x hx hx0 => by
          rw [hN3 x (by omega) (by omega) (by omega), pb_mfd_ne (by omega), pb_mor_ne (by omega), pb_up_neA hx0]
        have hR0 : (pb_mbl (X + 45) b (pb_cnt (fun t => pb_has (pb_up (pb_stC sg (X + 37) (X + 20) (sg (B b) 0) 5) (X + 70) 0 v (X + 45 + 1)) (16 * b + t)) 16) N (pb_mfd (pb_mor (pb_up (pb_up (pb_stC sg (X + 37) (X + 20) (sg (B b) 0) 5) (X + 70) 0 v) (X + 45) 0 (nI 0)) (X + 45) b (fun t => pb_has (pb_up (pb_stC sg (X + 37) (X + 20) (sg (B b) 0) 5) (X + 70) 0 v (X + 45 + 1)) (16 * b + t)) 16) (X + 45) b L 2000) (-1)).1 (X + 45) = pb_up (pb_up (pb_stC sg (X + 37) (X + 20) (sg (B b) 0) 5) (X + 70) 0 v) (X + 45) 0 (nI 0) (X + 45) := by
          rw [hN3 (X + 45) (by omega) (by omega) (by omega), pb_mfd_ne (by omega), pb_mor_ne (by omega)]
        refine pq_stp_okv hv hsk trivial (by omega) (ok_L_lastDayByAll hfl hX.1 hO (d9 := 13) (by omega) (c_X7_lastDayByAll hfl hX hb (by rw [hcs, hle _ hc16]; exact hm6) hap (pq_gp_wf hq0.2.1))) (c_X8_lastDayByAll hfl hm hS.1.2.1 hn8 hb hL hL40 (pq_mw (hS.2.1 b hb).1 (pq_gp_wf hq0.2.1)) rfl hm1 hm62 rfl hN1 rfl) (by rw [hR0]; exact pb_up_self) ?_ (fun a ha => hR a (by omega) (by omega)) ((hS.ofM (fun k k1 k2 => hR _ (by omega) (by omega)) (by rw [hR0]; exact pb_up_ne3 (by omega)) (by rw [hR0]; exact pb_up_ne3 (by omega))).ofC (fun c hc => pq_bl hsk hc) (fun a ha => by funext j; exact pb_stC_out (by omega) 5 j (by omega)) (pb_stC_out (by omega) 5 1 (by omega)))
        exact hN2.symm
    · exact pq_stp_x0 hsk hinv (k := 2) (by omega) trivial (by omega) (x2_L_lastDayByAll hfl hX.1 hO (d9 := 8) (by omega) (x2_X7_lastDayByAll hfl hX hb (by rw [hcs, hle _ hc16]; exact hm6))) (fun sz' => x2_X8_lastDayByAll hfl hm hn hn8 hb rfl hm6)
  · have hx2 : ∀ b, b < n → ¬ p0 = nI b := fun b hb q => hx ⟨b, hb, q⟩
    exact pq_stp_x0 hsk hinv (k := 1) (by omega) trivial (by omega) (x1_L_lastDayByAll hfl hX.1 hO (d9 := 7) (by omega) (x1_X7_lastDayByAll hfl hX hx2)) (fun sz' => x1_X8_lastDayByAll hfl hm hn hn8 hx2)
