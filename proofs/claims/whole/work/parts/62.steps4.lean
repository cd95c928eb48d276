/-! Merging, bringing up to date, beginning: steps of the law. -/
theorem pq_mmg_ne {T : pb_Sg} {M b f x : Nat} (h : x < M + 1 ∨ M + 13 < x) : pb_mmg T M b f x = T x := by
  unfold pb_mmg
  rw [pb_fill_ne (by omega), pb_mcN_ne (by omega), pb_up_neA (by omega), pb_mcN_ne (by omega), pb_up_neA (by omega), pb_mcN_ne (by omega)]
theorem pq_mud_ne {T : pb_Sg} {M b f x : Nat} (h : x < M + 1 ∨ M + 13 < x) : pb_mud T M b f x = T x := by
  unfold pb_mud
  rw [pb_fill_ne (by omega), pb_mcN_ne (by omega), pb_up_neA (by omega), pb_mcN_ne (by omega)]
theorem pq_sf_ne {S : pb_Sg} {b r a : Nat} (h : a < b + 6 ∨ b + 17 < a) : pb_sf S b r a = S a := by
  unfold pb_sf
  rw [pb_fill_ne (by omega), pb_up_neA (by omega), pq_copy_ne (by omega)]
set_option maxHeartbeats 1000000 in
theorem pq_st_merge {l : Launch} (hfl : l.stackTraces = false) {X sz : Nat} {sk : pb_Sk} {rf : pb_Rf} {sg : pb_Sg} (hI : pq_INV X sz sk rf sg) (p0 : Int32) : pq_stp l mL_merge mX8_merge X [.int p0] (fun _ => True) sz sk rf sg := by
  obtain ⟨n, B, par, hsk, hinv⟩ := hI
  obtain ⟨hX, hl, hm, hO, hz, hB⟩ := id hsk
  have hn8 := pq_n8 hsk
  have hn := hinv.1.2.1
  by_cases hx : ∃ b, b < n ∧ p0 = nI b
  · obtain ⟨b, hb, rfl⟩ := hx
    have hbl := pq_bl hsk hb
    by_cases hz0 : b = 0
    · exact pq_stp_x0 hsk hinv (k := 2) (by omega) trivial (by omega) (x2_L_merge hfl hX.1 hO (d9 := 8) (by omega) (x2_X7_merge hfl hX hb hz0)) (fun sz' => x2_X8_merge hfl hm hn hn8 hb hz0)
    · have b0 : 0 < b := by omega
      have hfb := pq_par hsk b0 hb
      have hbl2 := pq_bl hsk (show par b < n by omega)
      have hdis := pq_dis hsk hb (show par b < n by omega) (by omega)
      have jq := pq_inv_jn hsk hinv b0 hb
      have hsc : pq_scr X (pb_jdg sg X (B b) (B (par b)) (B (par b))).2 sg := by
        have h9 := pq_jd_sc hsk hinv b0 hb true
        rw [if_pos rfl] at h9
        exact h9
      by_cases hj : (pb_jdg sg X (B b) (B (par b)) (B (par b))).1 = 0
      · obtain ⟨v, hv⟩ : ∃ v, (nI (pb_cnt (fun t => !pb_same (pb_jdg sg X (B b) (B (par b)) (B (par b))).2 (B (par b) + 1) (X + 29) t) 16) : Int32) = v := ⟨_, rfl⟩
        have hF : ∀ a, X + 45 ≤ a → a < X + 70 → (pb_mg (pb_jdg sg X (B b) (B (par b)) (B (par b))).2 X (B b) (B (par b))) a = sg a := fun a h1 h2 => by
          unfold pb_mg
          rw [pq_sf_ne (by omega), pq_copy_ne (by omega), pb_up_neA (by omega), pq_copy_ne (by omega), hsc.f a h1 h2]
        have hS : pq_inv X n B par sg (pb_up (pb_mg (pb_jdg sg X (B b) (B (par b)) (B (par b))).2 X (B b) (B (par b))) (X + 70) 0 v) := pq_in0 hinv hF
        obtain ⟨L, hL40, -, hL, hh⟩ := pq_inv_hd hS
        have jr := pq_inv_jn hsk hS b0 hb
        have rq := pq_inv_jd hsk hS b0 hb true hh rfl
        rw [if_pos rfl] at rq
        have hZ := hsc.inv hsk (pq_up_M (x := nI 0) (pq_mrs_inv (to := pb_mto true (par b) b) (L := L) (pq_inv_mj hS hn8.2 jr.1) (Or.inl rfl)))
        have hjZ := rq.2.2.2.1.of (T := (pb_jdg sg X (B b) (B (par b)) (B (par b))).2) (T' := pb_up (pb_mrs (pb_mjN (pb_up (pb_mg (pb_jdg sg X (B b) (B (par b)) (B (par b))).2 X (B b) (B (par b))) (X + 70) 0 v) (X + 45) b (par b) 16).1 (X + 45) (pb_mto true (par b) b) L).2 (X + 45) 0 (nI 0)) (fun _ _ _ _ => rfl) (fun k k1 k4 t ht => by rw [pb_up_neA (by omega)])
        have hgZ := rq.2.2.2.2
        refine pq_stp_okv hv hsk trivial (by omega) (ok_L_merge hfl hX.1 hO (d9 := 7) (by omega) (c_X7_merge hfl hX hb b0 (pq_gp_wf jq.2) hj)) (c_X8_merge hfl hm hS.1.2.1 hn8 hb b0 (by omega) (hS.2.2.1 b b0 hb).2.1 hL hL40 rfl (pq_mw jr.1.2.2.2.2.1 (pq_gp_wf jr.2)) rfl (rq.1.symm.trans hj)) (by rw [pq_mmg_ne (by omega)]; exact pb_up_self) ?_ (fun a ha => by rw [pq_mmg_ne (by omega), pb_up_neA (by omega), pb_mrs_ne (by omega), jr.1.2.1 a (by omega)]) ?_
        · congr 1
          exact pb_cnt_congr fun t ht => by rw [pq_same (hZ.2.1 (par b) (by omega)).1 hjZ ht]
        · obtain ⟨k1, k2, k3⟩ := pq_bec hsk hZ (show par b < n by omega) hjZ hgZ
          exact pq_sft hsk k1 hb b0 k2 k3 k2 (by omega) (by omega) (by omega)
      · have hS9 : pq_inv X n B par sg (pb_jdg sg X (B b) (B (par b)) (B (par b))).2 := hinv.ofM (fun k k1 k2 => hsc.f _ (by omega) (by omega)) (by rw [hsc.f _ (by omega) (by omega)]) (by rw [hsc.f _ (by omega) (by omega)])
        obtain ⟨L, hL40, -, hL, hh⟩ := pq_inv_hd hS9
        have jr := pq_inv_jn hsk hS9 b0 hb
        have rq := pq_inv_jd hsk hS9 b0 hb true hh rfl
        rw [if_pos rfl] at rq
        have hZ := hsc.inv hsk (pq_up_M (x := nI 2) (pq_mrs_inv (to := pb_mto true (par b) b) (L := L) (pq_inv_mj hS9 hn8.2 jr.1) (Or.inl rfl)))
        exact pq_stp_x hsk (k := 2) (by omega) trivial (by omega) (x2_L_merge hfl hX.1 hO (d9 := 8) (by omega) (x3_X7_merge hfl hX hb b0 (pq_gp_wf jq.2) hj)) (fun sz' => x3_X8_merge hfl hm hS9.1.2.1 hn8 hb b0 (by omega) (hS9.2.2.1 b b0 hb).2.1 hL hL40 rfl (pq_mw jr.1.2.2.2.2.1 (pq_gp_wf jr.2)) rfl (fun q => hj (rq.1.trans q))) pb_up_self (fun a ha => by rw [pb_up_neA (by omega), pb_mrs_ne (by omega), jr.1.2.1 a (by omega)]) hZ
  · have hx2 : ∀ b, b < n → ¬ p0 = nI b := fun b hb q => hx ⟨b, hb, q⟩
    exact pq_stp_x0 hsk hinv (k := 1) (by omega) trivial (by omega) (x1_L_merge hfl hX.1 hO (d9 := 7) (by omega) (x1_X7_merge hfl hX hx2)) (fun sz' => x1_X8_merge hfl hm hn hn8 hx2)
set_option maxHeartbeats 1000000 in
theorem pq_st_update {l : Launch} (hfl : l.stackTraces = false) {X sz : Nat} {sk : pb_Sk} {rf : pb_Rf} {sg : pb_Sg} (hI : pq_INV X sz sk rf sg) (p0 : Int32) : pq_stp l mL_update mX8_update X [.int p0] (fun _ => True) sz sk rf sg := by
  obtain ⟨n, B, par, hsk, hinv⟩ := hI
  obtain ⟨hX, hl, hm, hO, hz, hB⟩ := id hsk
  have hn8 := pq_n8 hsk
  have hn := hinv.1.2.1
  by_cases hx : ∃ b, b < n ∧ p0 = nI b
  · obtain ⟨b, hb, rfl⟩ := hx
    have hbl := pq_bl hsk hb
    by_cases hz0 : b = 0
    · exact pq_stp_x0 hsk hinv (k := 2) (by omega) trivial (by omega) (x2_L_update hfl hX.1 hO (d9 := 8) (by omega) (x2_X7_update hfl hX hb hz0)) (fun sz' => x2_X8_update hfl hm hn hn8 hb hz0)
    · have b0 : 0 < b := by omega
      have hfb := pq_par hsk b0 hb
      have hbl2 := pq_bl hsk (show par b < n by omega)
      have hdis := pq_dis hsk hb (show par b < n by omega) (by omega)
      have jq := pq_inv_jn hsk hinv b0 hb
      have hsc : pq_scr X (pb_jdg sg X (B b) (B (par b)) (B b)).2 sg := by
        have h9 := pq_jd_sc hsk hinv b0 hb false
        rw [if_neg (by decide)] at h9
        exact h9
      by_cases hj : (pb_jdg sg X (B b) (B (par b)) (B b)).1 = 0
      · obtain ⟨v, hv⟩ : ∃ v, (nI (pb_cnt (fun t => !pb_same (pb_jdg sg X (B b) (B (par b)) (B b)).2 (B b + 1) (X + 29) t) 16) : Int32) = v := ⟨_, rfl⟩
        have hF : ∀ a, X + 45 ≤ a → a < X + 70 → (pb_ud (pb_jdg sg X (B b) (B (par b)) (B b)).2 X (B b) (B (par b))) a = sg a := fun a h1 h2 => by
          unfold pb_ud
          rw [pq_sf_ne (by omega), pq_copy_ne (by omega), hsc.f a h1 h2]
        have hS : pq_inv X n B par sg (pb_up (pb_ud (pb_jdg sg X (B b) (B (par b)) (B b)).2 X (B b) (B (par b))) (X + 70) 0 v) := pq_in0 hinv hF
        obtain ⟨L, hL40, -, hL, hh⟩ := pq_inv_hd hS
        have jr := pq_inv_jn hsk hS b0 hb
        have rq := pq_inv_jd hsk hS b0 hb false hh rfl
        rw [if_neg (by decide)] at rq
        have hZ := hsc.inv hsk (pq_up_M (x := nI 0) (pq_mrs_inv (to := pb_mto false (par b) b) (L := L) (pq_inv_mj hS hn8.2 jr.1) (Or.inl rfl)))
        have hjZ := rq.2.2.2.1.of (T := (pb_jdg sg X (B b) (B (par b)) (B b)).2) (T' := pb_up (pb_mrs (pb_mjN (pb_up (pb_ud (pb_jdg sg X (B b) (B (par b)) (B b)).2 X (B b) (B (par b))) (X + 70) 0 v) (X + 45) b (par b) 16).1 (X + 45) (pb_mto false (par b) b) L).2 (X + 45) 0 (nI 0)) (fun _ _ _ _ => rfl) (fun k k1 k4 t ht => by rw [pb_up_neA (by omega)])
        have hgZ := rq.2.2.2.2
        refine pq_stp_okv hv hsk trivial (by omega) (ok_L_update hfl hX.1 hO (d9 := 7) (by omega) (c_X7_update hfl hX hb b0 (pq_gp_wf jq.2) hj)) (c_X8_update hfl hm hS.1.2.1 hn8 hb b0 (by omega) (hS.2.2.1 b b0 hb).2.1 hL hL40 rfl (pq_mw jr.1.2.2.2.2.1 (pq_gp_wf jr.2)) rfl (rq.1.symm.trans hj)) (by rw [pq_mud_ne (by omega)]; exact pb_up_self) ?_ (fun a ha => by rw [pq_mud_ne (by omega), pb_up_neA (by omega), pb_mrs_ne (by omega), jr.1.2.1 a (by omega)]) ?_
        · congr 1
          exact pb_cnt_congr fun t ht => by rw [pq_same (hZ.2.1 b (by omega)).1 hjZ ht]
        · exact pq_sft hsk hZ hb b0 hjZ hgZ (hZ.2.1 (par b) (by omega)).1 (by omega) (by omega) (by omega)
      · have hS9 : pq_inv X n B par sg (pb_jdg sg X (B b) (B (par b)) (B b)).2 := hinv.ofM (fun k k1 k2 => hsc.f _ (by omega) (by omega)) (by rw [hsc.f _ (by omega) (by omega)]) (by rw [hsc.f _ (by omega) (by omega)])
        obtain ⟨L, hL40, -, hL, hh⟩ := pq_inv_hd hS9
        have jr := pq_inv_jn hsk hS9 b0 hb
        have rq := pq_inv_jd hsk hS9 b0 hb false hh rfl
        rw [if_neg (by decide)] at rq
        have hZ := hsc.inv hsk (pq_up_M (x := nI 2) (pq_mrs_inv (to := pb_mto false (par b) b) (L := L) (pq_inv_mj hS9 hn8.2 jr.1) (Or.inl rfl)))
        exact pq_stp_x hsk (k := 2) (by omega) trivial (by omega) (x2_L_update hfl hX.1 hO (d9 := 8) (by omega) (x3_X7_update hfl hX hb b0 (pq_gp_wf jq.2) hj)) (fun sz' => x3_X8_update hfl hm hS9.1.2.1 hn8 hb b0 (by omega) (hS9.2.2.1 b b0 hb).2.1 hL hL40 rfl (pq_mw jr.1.2.2.2.2.1 (pq_gp_wf jr.2)) rfl (fun q => hj (rq.1.trans q))) pb_up_self (fun a ha => by rw [pb_up_neA (by omega), pb_mrs_ne (by omega), jr.1.2.1 a (by omega)]) hZ
  · have hx2 : ∀ b, b < n → ¬ p0 = nI b := fun b hb q => hx ⟨b, hb, q⟩
    exact pq_stp_x0 hsk hinv (k := 1) (by omega) trivial (by omega) (x1_L_update hfl hX.1 hO (d9 := 7) (by omega) (x1_X7_update hfl hX hx2)) (fun sz' => x1_X8_update hfl hm hn hn8 hx2)
theorem pq_md_of {sk sk' : pb_Sk} {rf rf' : pb_Rf} {M : Nat} (h : pb_md sk rf M) (h1 : ∀ a, M ≤ a → a ≤ M + 24 → sk' a = sk a) (h2 : rf' M = rf M) : pb_md sk' rf' M := by
  unfold pb_md at h ⊢
  rw [h2, h1 M (by omega) (by omega), h1 (M + 1) (by omega) (by omega), h1 (M + 2) (by omega) (by omega), h1 (M + 3) (by omega) (by omega), h1 (M + 4) (by omega) (by omega), h1 (M + 5) (by omega) (by omega), h1 (M + 6) (by omega) (by omega), h1 (M + 7) (by omega) (by omega), h1 (M + 8) (by omega) (by omega), h1 (M + 9) (by omega) (by omega), h1 (M + 10) (by omega) (by omega), h1 (M + 11) (by omega) (by omega), h1 (M + 12) (by omega) (by omega), h1 (M + 13) (by omega) (by omega), h1 (M + 14) (by omega) (by omega), h1 (M + 15) (by omega) (by omega), h1 (M + 16) (by omega) (by omega), h1 (M + 17) (by omega) (by omega), h1 (M + 18) (by omega) (by omega), h1 (M + 19) (by omega) (by omega), h1 (M + 20) (by omega) (by omega), h1 (M + 21) (by omega) (by omega), h1 (M + 22) (by omega) (by omega), h1 (M + 23) (by omega) (by omega), h1 (M + 24) (by omega) (by omega)]
  exact h
set_option maxHeartbeats 1000000 in
theorem pq_beg {X n : Nat} {B par : Nat → Nat} {sz : Nat} {sk : pb_Sk} {rf : pb_Rf} {S S' sg1 : pb_Sg} (hsk : pq_sk X n B par sz sk rf) (h : pq_inv X n B par S S') {b : Nat} (hb : b < n) (hn : n < 8) (h1 : ∀ a, a < sz → sg1 a = S a) (q0 : sg1 sz 0 = nI n) (q6 : sg1 sz 6 = 1000000) (q5 : sg1 (sz + 11) 5 = 0) (q7 : sg1 (sz + 11) 6 = 0) (qs : ∀ t, t < 16 → sg1 (sz + 17) t = -1) : pq_inv X (n + 1) (pb_ad B n sz) (pb_ad par n b) (pb_bgM sg1 X sz (B b) n) (pb_mbg S' (X + 45) b n) := by
  have hbl := pq_bl hsk hb
  have hz := hsk.2.2.2.2.1
  have hBz : ∀ c, c < n → B c + 18 ≤ sz := fun c hc => by
    by_cases e : c = 0
    · rw [e, hsk.2.1.1]; omega
    · exact (hsk.2.2.2.2.2 c (by omega) hc).2
  have hbz := hBz b hb
  have hn1 := (pq_n8 hsk).1
  have i1 := h.2.1 b hb
  obtain ⟨nx, s, hr⟩ := i1.2.2.2.2
  have eM : pb_mbg S' (X + 45) b n = pb_up (pb_up (pb_fillN (pb_mcN (pb_mcN (pb_up (pb_up S' (X + 45 + 5) n (nI b)) (X + 45 + 6) n 1000000) (X + 45) b n 16) (X + 45) b (8 + n) 16) (X + 45 + 7) (16 * n) (-1) 16) (X + 45 + 13) b (nI 0)) (X + 45) 8 (nI n + nI 1) := rfl
  have bn : ∀ a, a < sz → a ≠ X → a ≠ B b + 11 → pb_bgM sg1 X sz (B b) n a = S a := fun a a1 a2 a3 => by
    unfold pb_bgM
    rw [pb_up_neA a2, pb_up_neA a3, pq_copy_ne (by omega), pq_copy_ne (by omega), h1 a a1]
  have mn : ∀ k j, 1 ≤ k → (k ≤ 4 → ¬ (16 * n ≤ j ∧ j < 16 * n + 16) ∧ ¬ (16 * (8 + n) ≤ j ∧ j < 16 * (8 + n) + 16)) → ((k = 5 ∨ k = 6) → j ≠ n) → (k = 7 → ¬ (16 * n ≤ j ∧ j < 16 * n + 16)) → (k = 13 → j ≠ b) → pb_mbg S' (X + 45) b n (X + 45 + k) j = S' (X + 45 + k) j := fun k j k1 a1 a2 a3 a4 => by
    rw [eM, pb_up_ne2 (by omega), pb_up_at, if_neg (fun q => a4 (by omega) q.2), pb_fill_at, if_neg (fun q => a3 (by omega) q.2), pq_mcN_o (by omega) k1 (fun k4 => (a1 k4).2), pq_mcN_o (by omega) k1 (fun k4 => (a1 k4).1), pb_up_at, if_neg (fun q => a2 (by omega) q.2), pb_up_at, if_neg (fun q => a2 (by omega) q.2)]
  have mM : ∀ j, j ≠ 8 → pb_mbg S' (X + 45) b n (X + 45) j = S' (X + 45) j := fun j hj => by
    rw [eM, pb_up_ne3 hj, pb_up_neA (by omega), pb_fill_ne (by omega), pb_mcN_ne (by omega), pb_mcN_ne (by omega), pb_up_neA (by omega), pb_up_neA (by omega)]
  have E0 : pq_eq sg1 (pb_up (pb_up S' (X + 45 + 5) n (nI b)) (X + 45 + 6) n 1000000) (B b + 1) (X + 45) b := i1.1.of (fun k hk t ht => by rw [h1 _ (by omega)]) (fun k k1 k4 t ht => by rw [pb_up_neA (by omega), pb_up_neA (by omega)])
  have G0 : pq_gpN sg1 (B b + 1) 16 := pq_gpN_of i1.2.1 (fun k k1 k4 t ht => by rw [h1 _ (by omega)])
  have E1 := pq_eq_copy (p := sz + 1) (o := n) E0 (by omega) (by omega)
  have E1b : pq_eq (pb_copyN sg1 (sz + 1) (B b + 1) 16) (pb_mcN (pb_up (pb_up S' (X + 45 + 5) n (nI b)) (X + 45 + 6) n 1000000) (X + 45) b n 16) (B b + 1) (X + 45) b := E0.of (fun k hk t ht => by rw [pq_copy_ne (by omega)]) (fun k k1 k4 t ht => by rw [pq_mcN_o (by omega) k1 (by omega)])
  have E2 := pq_eq_copy (p := sz + 6) (o := 8 + n) E1b (by omega) (by omega)
  refine ⟨⟨?_, ?_, ?_, fun c c1 c2 => ?_⟩, fun c hc => ?_, fun c c0 hc => ?_, ?_⟩
  · unfold pb_bgM
    rw [pb_up_self, nI_add]
  · rw [eM, pb_up_self, nI_add]
  · rw [mn 5 0 (by omega) (by omega) (by omega) (by omega) (by omega), h.1.2.2.1]
  · rw [mn 13 c (by omega) (by omega) (by omega) (by omega) (by omega), h.1.2.2.2 c (by omega) c2]
  · by_cases e : c = n
    · rw [e, pb_ad_eq]
      refine ⟨?_, ?_, ?_, ?_, 0, 0, pq_hr_0 (by omega) ?_ ?_ ?_⟩
      · exact E1.of (fun k hk t ht => by
          unfold pb_bgM
          rw [pb_up_neA (by omega), pb_up_neA (by omega), pq_copy_ne (by omega)]) (fun k k1 k4 t ht => by rw [eM, pb_up_neA (by omega), pb_up_neA (by omega), pb_fill_ne (by omega), pq_mcN_o (by omega) k1 (by omega)])
      · exact pq_gpN_of (pq_gp_copy (p := sz + 1) G0 (by omega)) (fun k k1 k4 t ht => by
          unfold pb_bgM
          rw [pb_up_neA (by omega), pb_up_neA (by omega), pq_copy_ne (by omega)])
      · unfold pb_bgM
        rw [pb_up_neA (by omega), pb_up_neA (by omega), pq_copy_ne (by omega), pq_copy_ne (by omega), q0]
      · unfold pb_bgM
        rw [pb_up_neA (by omega), pb_up_neA (by omega), pq_copy_ne (by omega), pq_copy_ne (by omega), q6, eM, pb_up_neA (by omega), pb_up_neA (by omega), pb_fill_ne (by omega), pb_mcN_ne (by omega), pb_mcN_ne (by omega), pb_up_self]
      · unfold pb_bgM
        rw [pb_up_neA (by omega), pb_up_neA (by omega), pq_copy_ne (by omega), pq_copy_ne (by omega), q5]
        rfl
      · unfold pb_bgM
        rw [pb_up_neA (by omega), pb_up_neA (by omega), pq_copy_ne (by omega), pq_copy_ne (by omega), q7]
        rfl
      · rw [mn 13 n (by omega) (by omega) (by omega) (by omega) (by omega), h.1.2.2.2 n (by omega) hn]
    · rw [pb_ad_ne e]
      have hc2 : c < n := by omega
      have hcl := pq_bl hsk hc2
      have hcz := hBz c hc2
      by_cases e2 : c = b
      · rw [e2]
        refine ⟨?_, ?_, ?_, ?_, nx, 0, pq_hr_0 hr.1 ?_ ?_ ?_⟩
        · exact i1.1.of (fun k hk t ht => by rw [bn _ (by omega) (by omega) (by omega)]) (fun k k1 k4 t ht => mn k _ k1 (by omega) (by omega) (by omega) (by omega))
        · exact pq_gpN_of i1.2.1 (fun k k1 k4 t ht => by rw [bn _ (by omega) (by omega) (by omega)])
        · rw [bn _ (by omega) (by omega) (by omega), i1.2.2.1]
        · rw [bn _ (by omega) (by omega) (by omega), mn 6 b (by omega) (by omega) (by omega) (by omega) (by omega), i1.2.2.2.1]
        · unfold pb_bgM
          rw [pb_up_neA (by omega), pb_up_ne3 (by omega), pq_copy_ne (by omega), pq_copy_ne (by omega), h1 _ (by omega), hr.2.2.1]
        · unfold pb_bgM
          rw [pb_up_neA (by omega), pb_up_self]
        · rw [eM, pb_up_neA (by omega), pb_up_self]
      · have hd := pq_dis hsk hc2 hb e2
        exact (h.2.1 c hc2).of (fun a a1 a2 => bn a (by omega) (by omega) (by omega)) (fun k j hk => mn k j (by unfold pq_oB at hk; omega) (by unfold pq_oB at hk; omega) (by unfold pq_oB at hk; omega) (by unfold pq_oB at hk; omega) (by unfold pq_oB at hk; omega))
  · by_cases e : c = n
    · rw [e, pb_ad_eq, pb_ad_eq]
      refine ⟨?_, ?_, fun t ht => ?_⟩
      · exact E2.of (fun k hk t ht => by
          unfold pb_bgM
          rw [pb_up_neA (by omega), pb_up_neA (by omega)]) (fun k k1 k4 t ht => by rw [eM, pb_up_neA (by omega), pb_up_neA (by omega), pb_fill_ne (by omega)])
      · rw [eM, pb_up_neA (by omega), pb_up_neA (by omega), pb_fill_ne (by omega), pb_mcN_ne (by omega), pb_mcN_ne (by omega), pb_up_neA (by omega), pb_up_self]
      · unfold pb_bgM
        rw [pb_up_neA (by omega), pb_up_neA (by omega), pq_copy_ne (by omega), pq_copy_ne (by omega), qs t ht, eM, pb_up_neA (by omega), pb_up_neA (by omega), pb_fill_at, if_pos (by omega)]
    · rw [pb_ad_ne e, pb_ad_ne e]
      have hc2 : c < n := by omega
      have hcl := pq_bl hsk hc2
      have hcz := hBz c hc2
      exact (h.2.2.1 c c0 hc2).of (fun a a1 a2 a3 => bn a (by omega) (by omega) (by
        by_cases e2 : c = b
        · rw [e2] at a1 a2 a3; omega
        · have hd := pq_dis hsk hc2 hb e2; omega)) (fun k j hk => mn k j (by unfold pq_oC at hk; omega) (by unfold pq_oC at hk; omega) (by unfold pq_oC at hk; omega) (by unfold pq_oC at hk; omega) (by unfold pq_oC at hk; omega))
  · exact h.2.2.2.of (fun a a1 a2 => bn a (by omega) (by omega) (by omega)) (by rw [bn _ (by omega) (by omega) (by omega)]) (fun k k1 k2 => by funext j; exact mn k j (by omega) (by omega) (by omega) (by omega) (by omega)) (mM 20 (by omega))
set_option maxHeartbeats 1000000 in
theorem pq_st_begin {l : Launch} (hfl : l.stackTraces = false) {X sz : Nat} {sk : pb_Sk} {rf : pb_Rf} {sg : pb_Sg} (hI : pq_INV X sz sk rf sg) (p0 : Int32) : pq_stp l mL_begin mX8_begin X [.int p0] (fun _ => True) sz sk rf sg := by
  obtain ⟨n, B, par, hsk, hinv⟩ := hI
  obtain ⟨hX, hl, hm, hO, hz, hB⟩ := id hsk
  have hn8 := pq_n8 hsk
  have hn := hinv.1.2.1
  by_cases hx : ∃ b, b < n ∧ p0 = nI b
  · obtain ⟨b, hb, rfl⟩ := hx
    have hbl := pq_bl hsk hb
    have hBz : ∀ c, c < n → B c + 18 ≤ sz := fun c hc => by
      by_cases e : c = 0
      · rw [e, hl.1]; omega
      · exact (hB c (by omega) hc).2
    by_cases hn7 : n < 8
    · refine ⟨0, 18, 400, _, by omega, by omega, by omega, ok_L_begin hfl hX.1 (d9 := 7) (by omega) (Q := pb_bgP X n b sz B par sk rf sg) (fun sk9 rf9 sg9 h9 => by rw [h9.2.1 _ (by omega)]; exact hO) (c_X7_begin hfl hX hl (by omega) hBz hb hinv.1.1 hn7), ?_⟩
      rintro r sz' sk' rf' sg' ⟨rfl, rfl, sgm, ⟨hX2, hk2, hr2, sg1, rfl, h1, q0, q6, q5, q7, qs⟩, rfl⟩
      have hF : ∀ a, X + 45 ≤ a → a < X + 70 → pb_bgM sg1 X sz (B b) n a = sg a := fun a a1 a2 => by
        unfold pb_bgM
        rw [pb_up_neA (by omega), pb_up_neA (by omega), pq_copy_ne (by omega), pq_copy_ne (by omega), h1 a (by omega)]
      have hS : pq_inv X n B par sg (pb_up (pb_bgM sg1 X sz (B b) n) (X + 70) 0 (nI n)) := pq_in0 hinv hF
      have hT := pq_up_M (x := nI 0) hS
      have hm2 : pb_md sk' rf' (X + 45) := pq_md_of hm (fun a a1 a2 => hk2 a (by omega)) (hr2 _ (by omega) (by omega))
      have hsk2 : pq_sk X (n + 1) (pb_ad B n sz) (pb_ad par n b) (sz + 18) sk' rf' := ⟨hX2, pb_lyt_ad hl (by omega) hBz hn8.1, hm2, by rw [hk2 _ (by omega)]; exact hO, by omega, fun c c0 hc => by
        by_cases e : c = n
        · rw [e, pb_ad_eq]; omega
        · rw [pb_ad_ne e]; have := hB c c0 (by omega); omega⟩
      have hbg := pq_beg hsk hT hb hn7 h1 q0 q6 q5 q7 qs
      have hmf : ∀ a, (a < X + 45 ∨ X + 69 < a) → pb_mbg (pb_up (pb_up (pb_bgM sg1 X sz (B b) n) (X + 70) 0 (nI n)) (X + 45) 0 (nI 0)) (X + 45) b n a = pb_up (pb_bgM sg1 X sz (B b) n) (X + 70) 0 (nI n) a := fun a ha => by
        unfold pb_mbg
        rw [pb_up_neA (by omega), pb_up_neA (by omega), pb_fill_ne (by omega), pb_mcN_ne (by omega), pb_mcN_ne (by omega), pb_up_neA (by omega), pb_up_neA (by omega), pb_up_neA (by omega)]
      refine ⟨rfl, 6, nI n, _, by omega, trivial, c_X8_begin hfl hm2 hS.1.2.1 hn8 hb hn7, ?_, fun _ => ?_, n + 1, _, _, hsk2, pq_fin hbg (fun c hc => pq_bl hsk2 hc) (fun a ha => ?_)⟩
      · unfold pb_mbg
        rw [pb_up_ne3 (by omega), pb_up_neA (by omega), pb_fill_ne (by omega), pb_mcN_ne (by omega), pb_mcN_ne (by omega), pb_up_neA (by omega), pb_up_neA (by omega), pb_up_self]
      · rw [hmf _ (by omega), pb_up_self]
      · rw [hmf a (by omega), pb_up_neA (by omega)]
    · have hn9 : n = 8 := by omega
      exact pq_stp_x0 hsk hinv (k := 2) (by omega) trivial (by omega) (x2_L_begin hfl hX.1 hO (d9 := 8) (by omega) (x2_X7_begin hfl hX hb hinv.1.1 hn9)) (fun sz' => x2_X8_begin hfl hm hn hn8 hb hn9)
  · have hx2 : ∀ b, b < n → ¬ p0 = nI b := fun b hb q => hx ⟨b, hb, q⟩
    exact pq_stp_x0 hsk hinv (k := 1) (by omega) trivial (by omega) (x1_L_begin hfl hX.1 hO (d9 := 7) (by omega) (x1_X7_begin hfl hX hx2)) (fun sz' => x1_X8_begin hfl hm hn hn8 hx2)
