/-! The calls that only ask, class and reference: each is a step of the law. -/
theorem pq_inv.ofJ {X n : Nat} {B par : Nat → Nat} {S S' T' : pb_Sg} (h : pq_inv X n B par S S') (hn : n ≤ 8) (h1 : ∀ k j, (1 ≤ k ∧ k ≤ 4 ∧ j < 256) ∨ (5 ≤ k ∧ k ≤ 18) → T' (X + 45 + k) j = S' (X + 45 + k) j) (h2 : T' (X + 45) 8 = S' (X + 45) 8) (h3 : T' (X + 45) 20 = S' (X + 45) 20) : pq_inv X n B par S T' := by
  obtain ⟨⟨a1, a2, a3⟩, a4, a5, a6⟩ := h
  refine ⟨⟨a1, by rw [h2, a2], by rw [h1 5 0 (by omega), a3.1], fun c c1 c2 => by rw [h1 13 c (by omega), a3.2 c c1 c2]⟩, fun b hb => (a4 b hb).of (fun _ _ _ => rfl) (fun k j hk => h1 k j (by unfold pq_oB at hk; omega)), fun b b0 hb => (a5 b b0 hb).of (fun _ _ _ _ => rfl) (fun k j hk => h1 k j (by unfold pq_oC at hk; omega)), a6.of (fun _ _ _ => rfl) rfl (fun k k1 k2 => by funext j; exact h1 k j (by omega)) h3⟩
theorem pq_gr_len {l c e : Int32} (h : pq_gr l c e) : nI 0 ≤ l := by
  obtain ⟨k, hk, rfl⟩ := h.1
  exact nI_le (Nat.zero_le _) (by omega)
theorem pq_stp_okv {l : Launch} {μL μ8 : pb_M} {X n : Nat} {B par : Nat → Nat} {av : List Value} {P : Int32 → Prop} {sz : Nat} {sk : pb_Sk} {rf : pb_Rf} {sg C sg2 : pb_Sg} {d8 : Nat} {V v w : Int32} (hv : V = v) (hsk : pq_sk X n B par sz sk rf) (hP : P w) (hd : d8 ≤ 7) (hL : pb_Met l μL 20 0 0 (.ref X :: (av ++ [.ref (X + 70)])) sz sk rf sg (pb_is (some (.int (nI 0))) sz sk rf (pb_up C (X + 70) 0 V))) (h8 : pb_Met l μ8 d8 0 0 (.ref (X + 45) :: av) sz sk rf (pb_up C (X + 70) 0 v) (pb_is (some (.int w)) sz sk rf sg2)) (ht : sg2 (X + 45) 0 = nI 0) (hvw : V = w) (hF : ∀ a, (a < X + 45 ∨ X + 69 < a) → sg2 a = pb_up C (X + 70) 0 v a) (hi : pq_inv X n B par C sg2) : pq_stp l μL μ8 X av P sz sk rf sg := by
  subst hv
  exact pq_stp_ok hsk hP hd hL h8 ht hvw hF hi
set_option maxHeartbeats 1000000 in
theorem pq_st_tasks {l : Launch} (hfl : l.stackTraces = false) {X sz : Nat} {sk : pb_Sk} {rf : pb_Rf} {sg : pb_Sg} (hI : pq_INV X sz sk rf sg) (p0 : Int32) : pq_stp l mL_tasks mX8_tasks X [.int p0] (fun _ => True) sz sk rf sg := by
  obtain ⟨n, B, par, hsk, hinv⟩ := hI
  obtain ⟨hX, hl, hm, hO, hz, hB⟩ := id hsk
  have hn8 := pq_n8 hsk
  have hn := hinv.1.2.1
  by_cases hx : ∃ b, b < n ∧ p0 = nI b
  · obtain ⟨b, hb, rfl⟩ := hx
    have hbl := pq_bl hsk hb
    obtain ⟨v, hv⟩ : ∃ v, (pb_pres (sg (B b + 1 + 1)) : Int32) = v := ⟨_, rfl⟩
    have hS : pq_inv X n B par sg (pb_up sg (X + 70) 0 v) := pq_in0 hinv (fun a h1 h2 => rfl)
    have hT := pq_up_M (x := nI 0) hS
    have hq := hT.2.1 b hb
    refine pq_stp_okv hv hsk trivial (by omega) (ok_L_tasks hfl hX.1 hO (d9 := 7) (by omega) (c_X7_tasks hfl hX hb)) (c_X8_tasks hfl hm hS.1.2.1 hn8 hb) (pb_up_self) ?_ (fun a ha => pb_up_neA (by omega)) (hT)
    exact pq_presE hq.1
  · have hx2 : ∀ b, b < n → ¬ p0 = nI b := fun b hb q => hx ⟨b, hb, q⟩
    exact pq_stp_x0 hsk hinv (k := 1) (by omega) trivial (by omega) (x1_L_tasks hfl hX.1 hO (d9 := 7) (by omega) (x1_X7_tasks hfl hX hx2)) (fun sz' => x1_X8_tasks hfl hm hn hn8 hx2)
set_option maxHeartbeats 1000000 in
theorem pq_st_cost {l : Launch} (hfl : l.stackTraces = false) {X sz : Nat} {sk : pb_Sk} {rf : pb_Rf} {sg : pb_Sg} (hI : pq_INV X sz sk rf sg) (p0 : Int32) : pq_stp l mL_cost mX8_cost X [.int p0] (fun _ => True) sz sk rf sg := by
  obtain ⟨n, B, par, hsk, hinv⟩ := hI
  obtain ⟨hX, hl, hm, hO, hz, hB⟩ := id hsk
  have hn8 := pq_n8 hsk
  have hn := hinv.1.2.1
  by_cases hx : ∃ b, b < n ∧ p0 = nI b
  · obtain ⟨b, hb, rfl⟩ := hx
    have hbl := pq_bl hsk hb
    obtain ⟨v, hv⟩ : ∃ v, (pb_cost sg (B b + 1) : Int32) = v := ⟨_, rfl⟩
    have hS : pq_inv X n B par sg (pb_up sg (X + 70) 0 v) := pq_in0 hinv (fun a h1 h2 => rfl)
    have hT := pq_up_M (x := nI 0) hS
    have hq := hT.2.1 b hb
    refine pq_stp_okv hv hsk trivial (by omega) (ok_L_cost hfl hX.1 hO (d9 := 7) (by omega) (c_X7_cost hfl hX hb)) (c_X8_cost hfl hm hS.1.2.1 hn8 hb) (pb_up_self) ?_ (fun a ha => pb_up_neA (by omega)) (hT)
    exact pq_costE hq.1
  · have hx2 : ∀ b, b < n → ¬ p0 = nI b := fun b hb q => hx ⟨b, hb, q⟩
    exact pq_stp_x0 hsk hinv (k := 1) (by omega) trivial (by omega) (x1_L_cost hfl hX.1 hO (d9 := 7) (by omega) (x1_X7_cost hfl hX hx2)) (fun sz' => x1_X8_cost hfl hm hn hn8 hx2)
set_option maxHeartbeats 1000000 in
theorem pq_st_length {l : Launch} (hfl : l.stackTraces = false) {X sz : Nat} {sk : pb_Sk} {rf : pb_Rf} {sg : pb_Sg} (hI : pq_INV X sz sk rf sg) (p0 : Int32) (p1 : Int32) : pq_stp l mL_length mX8_length X [.int p0, .int p1] (fun _ => True) sz sk rf sg := by
  obtain ⟨n, B, par, hsk, hinv⟩ := hI
  obtain ⟨hX, hl, hm, hO, hz, hB⟩ := id hsk
  have hn8 := pq_n8 hsk
  have hn := hinv.1.2.1
  by_cases hx : ∃ b, b < n ∧ p0 = nI b
  · obtain ⟨b, hb, rfl⟩ := hx
    have hbl := pq_bl hsk hb
    by_cases ht9 : nI 0 ≤ p1 ∧ p1 ≤ nI 15
    · obtain ⟨t, ht15, rfl⟩ := pq_rng (by omega) ht9
      have ht : t < 16 := by omega
      obtain ⟨v, hv⟩ : ∃ v, (sg (B b + 1 + 1) t : Int32) = v := ⟨_, rfl⟩
      have hS : pq_inv X n B par sg (pb_up sg (X + 70) 0 v) := pq_in0 hinv (fun a h1 h2 => rfl)
      have hT := pq_up_M (x := nI 0) hS
      have hq := hT.2.1 b hb
      refine pq_stp_okv hv hsk trivial (by omega) (ok_L_length hfl hX.1 hO (d9 := 7) (by omega) (c_X7_length hfl hX hb ht)) (c_X8_length hfl hm hS.1.2.1 hn8 hb ht) (pb_up_self) ?_ (fun a ha => pb_up_neA (by omega)) (hT)
      exact (hq.1 t ht).1
    · exact pq_stp_x0 hsk hinv (k := 2) (by omega) trivial (by omega) (x2_L_length hfl hX.1 hO (d9 := 8) (by omega) (x2_X7_length hfl hX hb ht9)) (fun sz' => x2_X8_length hfl hm hn hn8 hb ht9)
  · have hx2 : ∀ b, b < n → ¬ p0 = nI b := fun b hb q => hx ⟨b, hb, q⟩
    exact pq_stp_x0 hsk hinv (k := 1) (by omega) trivial (by omega) (x1_L_length hfl hX.1 hO (d9 := 7) (by omega) (x1_X7_length hfl hX hx2)) (fun sz' => x1_X8_length hfl hm hn hn8 hx2)
set_option maxHeartbeats 1000000 in
theorem pq_st_crew {l : Launch} (hfl : l.stackTraces = false) {X sz : Nat} {sk : pb_Sk} {rf : pb_Rf} {sg : pb_Sg} (hI : pq_INV X sz sk rf sg) (p0 : Int32) (p1 : Int32) : pq_stp l mL_crew mX8_crew X [.int p0, .int p1] (fun _ => True) sz sk rf sg := by
  obtain ⟨n, B, par, hsk, hinv⟩ := hI
  obtain ⟨hX, hl, hm, hO, hz, hB⟩ := id hsk
  have hn8 := pq_n8 hsk
  have hn := hinv.1.2.1
  by_cases hx : ∃ b, b < n ∧ p0 = nI b
  · obtain ⟨b, hb, rfl⟩ := hx
    have hbl := pq_bl hsk hb
    by_cases ht9 : nI 0 ≤ p1 ∧ p1 ≤ nI 15
    · obtain ⟨t, ht15, rfl⟩ := pq_rng (by omega) ht9
      have ht : t < 16 := by omega
      obtain ⟨v, hv⟩ : ∃ v, (sg (B b + 1 + 2) t : Int32) = v := ⟨_, rfl⟩
      have hS : pq_inv X n B par sg (pb_up sg (X + 70) 0 v) := pq_in0 hinv (fun a h1 h2 => rfl)
      have hT := pq_up_M (x := nI 0) hS
      have hq := hT.2.1 b hb
      refine pq_stp_okv hv hsk trivial (by omega) (ok_L_crew hfl hX.1 hO (d9 := 7) (by omega) (c_X7_crew hfl hX hb ht)) (c_X8_crew hfl hm hS.1.2.1 hn8 hb ht) (pb_up_self) ?_ (fun a ha => pb_up_neA (by omega)) (hT)
      exact (hq.1 t ht).2.1
    · exact pq_stp_x0 hsk hinv (k := 2) (by omega) trivial (by omega) (x2_L_crew hfl hX.1 hO (d9 := 8) (by omega) (x2_X7_crew hfl hX hb ht9)) (fun sz' => x2_X8_crew hfl hm hn hn8 hb ht9)
  · have hx2 : ∀ b, b < n → ¬ p0 = nI b := fun b hb q => hx ⟨b, hb, q⟩
    exact pq_stp_x0 hsk hinv (k := 1) (by omega) trivial (by omega) (x1_L_crew hfl hX.1 hO (d9 := 7) (by omega) (x1_X7_crew hfl hX hx2)) (fun sz' => x1_X8_crew hfl hm hn hn8 hx2)
set_option maxHeartbeats 1000000 in
theorem pq_st_needs {l : Launch} (hfl : l.stackTraces = false) {X sz : Nat} {sk : pb_Sk} {rf : pb_Rf} {sg : pb_Sg} (hI : pq_INV X sz sk rf sg) (p0 : Int32) (p1 : Int32) : pq_stp l mL_needs mX8_needs X [.int p0, .int p1] (fun _ => True) sz sk rf sg := by
  obtain ⟨n, B, par, hsk, hinv⟩ := hI
  obtain ⟨hX, hl, hm, hO, hz, hB⟩ := id hsk
  have hn8 := pq_n8 hsk
  have hn := hinv.1.2.1
  by_cases hx : ∃ b, b < n ∧ p0 = nI b
  · obtain ⟨b, hb, rfl⟩ := hx
    have hbl := pq_bl hsk hb
    by_cases ht9 : nI 0 ≤ p1 ∧ p1 ≤ nI 15
    · obtain ⟨t, ht15, rfl⟩ := pq_rng (by omega) ht9
      have ht : t < 16 := by omega
      obtain ⟨v, hv⟩ : ∃ v, (sg (B b + 1 + 4) t : Int32) = v := ⟨_, rfl⟩
      have hS : pq_inv X n B par sg (pb_up sg (X + 70) 0 v) := pq_in0 hinv (fun a h1 h2 => rfl)
      have hT := pq_up_M (x := nI 0) hS
      have hq := hT.2.1 b hb
      refine pq_stp_okv hv hsk trivial (by omega) (ok_L_needs hfl hX.1 hO (d9 := 7) (by omega) (c_X7_needs hfl hX hb ht)) (c_X8_needs hfl hm hS.1.2.1 hn8 hb ht) (pb_up_self) ?_ (fun a ha => pb_up_neA (by omega)) (hT)
      exact (hq.1 t ht).2.2.2
    · exact pq_stp_x0 hsk hinv (k := 2) (by omega) trivial (by omega) (x2_L_needs hfl hX.1 hO (d9 := 8) (by omega) (x2_X7_needs hfl hX hb ht9)) (fun sz' => x2_X8_needs hfl hm hn hn8 hb ht9)
  · have hx2 : ∀ b, b < n → ¬ p0 = nI b := fun b hb q => hx ⟨b, hb, q⟩
    exact pq_stp_x0 hsk hinv (k := 1) (by omega) trivial (by omega) (x1_L_needs hfl hX.1 hO (d9 := 7) (by omega) (x1_X7_needs hfl hX hx2)) (fun sz' => x1_X8_needs hfl hm hn hn8 hx2)
set_option maxHeartbeats 1000000 in
theorem pq_st_parent {l : Launch} (hfl : l.stackTraces = false) {X sz : Nat} {sk : pb_Sk} {rf : pb_Rf} {sg : pb_Sg} (hI : pq_INV X sz sk rf sg) (p0 : Int32) : pq_stp l mL_parent mX8_parent X [.int p0] (fun _ => True) sz sk rf sg := by
  obtain ⟨n, B, par, hsk, hinv⟩ := hI
  obtain ⟨hX, hl, hm, hO, hz, hB⟩ := id hsk
  have hn8 := pq_n8 hsk
  have hn := hinv.1.2.1
  by_cases hx : ∃ b, b < n ∧ p0 = nI b
  · obtain ⟨b, hb, rfl⟩ := hx
    have hbl := pq_bl hsk hb
    by_cases hz0 : b = 0
    · obtain ⟨v, hv⟩ : ∃ v, (-1 : Int32) = v := ⟨_, rfl⟩
      have hS : pq_inv X n B par sg (pb_up sg (X + 70) 0 v) := pq_in0 hinv (fun a h1 h2 => rfl)
      have hT := pq_up_M (x := nI 0) hS
      skip
      refine pq_stp_okv hv hsk trivial (by omega) (ok_L_parent hfl hX.1 hO (d9 := 7) (by omega) (c0_X7_parent hfl hX hb hz0)) (c_X8_parent hfl hm hS.1.2.1 hn8 hb) (pb_up_self) ?_ (fun a ha => pb_up_neA (by omega)) (hT)
      subst hz0
      exact hT.1.2.2.1.symm
    · have hp0 : 0 < b := by omega
      have hpb := pq_par hsk hp0 hb
      obtain ⟨v, hv⟩ : ∃ v, (sg (B (par b)) 0 : Int32) = v := ⟨_, rfl⟩
      have hS : pq_inv X n B par sg (pb_up sg (X + 70) 0 v) := pq_in0 hinv (fun a h1 h2 => rfl)
      have hT := pq_up_M (x := nI 0) hS
      skip
      refine pq_stp_okv hv hsk trivial (by omega) (ok_L_parent hfl hX.1 hO (d9 := 7) (by omega) (c_X7_parent hfl hX hb hp0)) (c_X8_parent hfl hm hS.1.2.1 hn8 hb) (pb_up_self) ?_ (fun a ha => pb_up_neA (by omega)) (hT)
      rw [(hT.2.1 (par b) (by omega)).2.2.1]
      exact (hT.2.2.1 b hp0 hb).2.1.symm
  · have hx2 : ∀ b, b < n → ¬ p0 = nI b := fun b hb q => hx ⟨b, hb, q⟩
    exact pq_stp_x0 hsk hinv (k := 1) (by omega) trivial (by omega) (x1_L_parent hfl hX.1 hO (d9 := 7) (by omega) (x1_X7_parent hfl hX hx2)) (fun sz' => x1_X8_parent hfl hm hn hn8 hx2)
set_option maxHeartbeats 1000000 in
theorem pq_st_holder {l : Launch} (hfl : l.stackTraces = false) {X sz : Nat} {sk : pb_Sk} {rf : pb_Rf} {sg : pb_Sg} (hI : pq_INV X sz sk rf sg) (p0 : Int32) (p1 : Int32) : pq_stp l mL_holder mX8_holder X [.int p0, .int p1] (fun _ => True) sz sk rf sg := by
  obtain ⟨n, B, par, hsk, hinv⟩ := hI
  obtain ⟨hX, hl, hm, hO, hz, hB⟩ := id hsk
  have hn8 := pq_n8 hsk
  have hn := hinv.1.2.1
  by_cases hbad : (nI 0 ≤ p0 ∧ p0 ≤ nI 4) ∧ (nI 0 ≤ p1 ∧ p1 ≤ nI 399)
  · obtain ⟨c, hc4, rfl⟩ := pq_rng (by omega) hbad.1
    obtain ⟨dy, hd, rfl⟩ := pq_rng (by omega) hbad.2
    have hc : c < 5 := by omega
    have hd4 : dy < 400 := by omega
    obtain ⟨v, hv⟩ : ∃ v, (pb_held sg (X + 20) c dy : Int32) = v := ⟨_, rfl⟩
    have hS : pq_inv X n B par sg (pb_up sg (X + 70) 0 v) := pq_in0 hinv (fun a h1 h2 => rfl)
    have hT := pq_up_M (x := nI 0) hS
    skip
    obtain ⟨L, hL40, -, hL, hh⟩ := pq_inv_hd hS
    refine pq_stp_okv hv hsk trivial (by omega) (ok_L_holder hfl hX.1 hO (d9 := 7) (by omega) (c_X7_holder hfl hX hc hd4)) (c_X8_holder hfl hm hc hd4 hL hL40) (pb_up_self) ?_ (fun a ha => pb_up_neA (by omega)) (hT)
    exact (pq_hd_of hh (fun _ _ _ => rfl) (fun k k1 k2 => pb_up_neA (by omega))) c hc dy hd4
  · exact pq_stp_x0 hsk hinv (k := 1) (by omega) trivial (by omega) (x1_L_holder hfl hX.1 hO (d9 := 8) (by omega) (x2_X7_holder hfl hX hbad)) (fun sz' => x1_X8_holder hfl hm hbad)
set_option maxHeartbeats 1000000 in
theorem pq_st_way {l : Launch} (hfl : l.stackTraces = false) {X sz : Nat} {sk : pb_Sk} {rf : pb_Rf} {sg : pb_Sg} (hI : pq_INV X sz sk rf sg) (p0 : Int32) : pq_stp l mL_way mX8_way X [.int p0] (fun _ => True) sz sk rf sg := by
  obtain ⟨n, B, par, hsk, hinv⟩ := hI
  obtain ⟨hX, hl, hm, hO, hz, hB⟩ := id hsk
  have hn8 := pq_n8 hsk
  have hn := hinv.1.2.1
  by_cases hx : ∃ b, b < n ∧ p0 = nI b
  · obtain ⟨b, hb, rfl⟩ := hx
    have hbl := pq_bl hsk hb
    obtain ⟨v, hv⟩ : ∃ v, ((pb_meas sg (X + 34) (B b + 1)) (X + 34) 2 : Int32) = v := ⟨_, rfl⟩
    have hS : pq_inv X n B par sg (pb_up (pb_meas sg (X + 34) (B b + 1)) (X + 70) 0 v) := pq_in0 hinv (fun a h1 h2 => by funext j; exact pb_meas_ne (by omega) j)
    have hT := pq_up_M (x := nI 0) hS
    have hq := hT.2.1 b hb
    have haw : pq_aw (X + 34) (B b + 1) := by unfold pq_aw; omega
    obtain ⟨m1, m2⟩ := pq_meas haw hq.1
    refine pq_stp_okv hv hsk trivial (by omega) (ok_L_way hfl hX.1 hO (d9 := 7) (by omega) (c_X7_way hfl hX hb)) (c_X8_way hfl hm hS.1.2.1 hn8 hb) (by rw [pb_gK_ne (by omega)]; exact pb_up_self) ?_ (fun a ha => by rw [pb_gK_ne (by omega), pb_up_neA (by omega)]) ((hT.ofM (fun k k1 k2 => pb_gK_ne (by omega) 16) (by rw [pb_gK_ne (by omega)]) (by rw [pb_gK_ne (by omega)])).ofC (fun c hc => pq_bl hsk hc) (fun a ha => by funext j; exact pb_meas_ne (by omega) j) (pb_meas_ne (by omega) 1))
    exact m2
  · have hx2 : ∀ b, b < n → ¬ p0 = nI b := fun b hb q => hx ⟨b, hb, q⟩
    exact pq_stp_x0 hsk hinv (k := 1) (by omega) trivial (by omega) (x1_L_way hfl hX.1 hO (d9 := 7) (by omega) (x1_X7_way hfl hX hx2)) (fun sz' => x1_X8_way hfl hm hn hn8 hx2)
set_option maxHeartbeats 1000000 in
theorem pq_st_tail {l : Launch} (hfl : l.stackTraces = false) {X sz : Nat} {sk : pb_Sk} {rf : pb_Rf} {sg : pb_Sg} (hI : pq_INV X sz sk rf sg) (p0 : Int32) (p1 : Int32) : pq_stp l mL_tail mX8_tail X [.int p0, .int p1] (fun _ => True) sz sk rf sg := by
  obtain ⟨n, B, par, hsk, hinv⟩ := hI
  obtain ⟨hX, hl, hm, hO, hz, hB⟩ := id hsk
  have hn8 := pq_n8 hsk
  have hn := hinv.1.2.1
  by_cases hx : ∃ b, b < n ∧ p0 = nI b
  · obtain ⟨b, hb, rfl⟩ := hx
    have hbl := pq_bl hsk hb
    by_cases ht9 : nI 0 ≤ p1 ∧ p1 ≤ nI 15
    · obtain ⟨t, ht15, rfl⟩ := pq_rng (by omega) ht9
      have ht : t < 16 := by omega
      obtain ⟨v, hv⟩ : ∃ v, (pb_meas sg (X + 34) (B b + 1) (X + 34 + 1) t : Int32) = v := ⟨_, rfl⟩
      have hS : pq_inv X n B par sg (pb_up (pb_meas sg (X + 34) (B b + 1)) (X + 70) 0 v) := pq_in0 hinv (fun a h1 h2 => by funext j; exact pb_meas_ne (by omega) j)
      have hT := pq_up_M (x := nI 0) hS
      have hq := hT.2.1 b hb
      have haw : pq_aw (X + 34) (B b + 1) := by unfold pq_aw; omega
      obtain ⟨m1, m2⟩ := pq_meas haw hq.1
      refine pq_stp_okv hv hsk trivial (by omega) (ok_L_tail hfl hX.1 hO (d9 := 7) (by omega) (c_X7_tail hfl hX hb ht)) (c_X8_tail hfl hm hS.1.2.1 hn8 hb ht) (by rw [pb_gK_ne (by omega)]; exact pb_up_self) ?_ (fun a ha => by rw [pb_gK_ne (by omega), pb_up_neA (by omega)]) ((hT.ofM (fun k k1 k2 => pb_gK_ne (by omega) 16) (by rw [pb_gK_ne (by omega)]) (by rw [pb_gK_ne (by omega)])).ofC (fun c hc => pq_bl hsk hc) (fun a ha => by funext j; exact pb_meas_ne (by omega) j) (pb_meas_ne (by omega) 1))
      rw [pq_tail0 ht (by rw [← (hq.1 t ht).1]; exact pq_gr_len (hq.2.1 t ht))]
      exact (m1 t ht).1
    · exact pq_stp_x0 hsk hinv (k := 2) (by omega) trivial (by omega) (x2_L_tail hfl hX.1 hO (d9 := 8) (by omega) (x2_X7_tail hfl hX hb ht9)) (fun sz' => x2_X8_tail hfl hm hn hn8 hb ht9)
  · have hx2 : ∀ b, b < n → ¬ p0 = nI b := fun b hb q => hx ⟨b, hb, q⟩
    exact pq_stp_x0 hsk hinv (k := 1) (by omega) trivial (by omega) (x1_L_tail hfl hX.1 hO (d9 := 7) (by omega) (x1_X7_tail hfl hX hx2)) (fun sz' => x1_X8_tail hfl hm hn hn8 hx2)
set_option maxHeartbeats 1000000 in
theorem pq_st_slack {l : Launch} (hfl : l.stackTraces = false) {X sz : Nat} {sk : pb_Sk} {rf : pb_Rf} {sg : pb_Sg} (hI : pq_INV X sz sk rf sg) (p0 : Int32) (p1 : Int32) : pq_stp l mL_slack mX8_slack X [.int p0, .int p1] (fun _ => True) sz sk rf sg := by
  obtain ⟨n, B, par, hsk, hinv⟩ := hI
  obtain ⟨hX, hl, hm, hO, hz, hB⟩ := id hsk
  have hn8 := pq_n8 hsk
  have hn := hinv.1.2.1
  by_cases hx : ∃ b, b < n ∧ p0 = nI b
  · obtain ⟨b, hb, rfl⟩ := hx
    have hbl := pq_bl hsk hb
    by_cases ht9 : nI 0 ≤ p1 ∧ p1 ≤ nI 15
    · obtain ⟨t, ht15, rfl⟩ := pq_rng (by omega) ht9
      have ht : t < 16 := by omega
      cases hh : pb_has (sg (B b + 1 + 1)) t
      · obtain ⟨v, hv⟩ : ∃ v, (-1 : Int32) = v := ⟨_, rfl⟩
        have hS : pq_inv X n B par sg (pb_up sg (X + 70) 0 v) := pq_in0 hinv (fun a h1 h2 => rfl)
        have hT := pq_up_M (x := nI 0) hS
        have hq := hT.2.1 b hb
        have haw : pq_aw (X + 34) (B b + 1) := by unfold pq_aw; omega
        obtain ⟨m1, m2⟩ := pq_meas haw hq.1
        refine pq_stp_okv hv hsk trivial (by omega) (ok_L_slack hfl hX.1 hO (d9 := 7) (by omega) (c0_X7_slack hfl hX hb ht hh)) (c0_X8_slack hfl hm hS.1.2.1 hn8 hb ht ((pq_hasE (hS.2.1 b hb).1 ht).symm.trans hh)) (by rw [pb_gK_ne (by omega)]; exact pb_up_self) ?_ (fun a ha => by rw [pb_gK_ne (by omega), pb_up_neA (by omega)]) ((hT.ofM (fun k k1 k2 => pb_gK_ne (by omega) 16) (by rw [pb_gK_ne (by omega)]) (by rw [pb_gK_ne (by omega)])))
        rfl
      · obtain ⟨v, hv⟩ : ∃ v, (pb_meas sg (X + 34) (B b + 1) (X + 34) 2 - pb_meas sg (X + 34) (B b + 1) (X + 34 + 2) t - pb_meas sg (X + 34) (B b + 1) (X + 34 + 1) t : Int32) = v := ⟨_, rfl⟩
        have hS : pq_inv X n B par sg (pb_up (pb_meas sg (X + 34) (B b + 1)) (X + 70) 0 v) := pq_in0 hinv (fun a h1 h2 => by funext j; exact pb_meas_ne (by omega) j)
        have hT := pq_up_M (x := nI 0) hS
        have hq := hT.2.1 b hb
        have haw : pq_aw (X + 34) (B b + 1) := by unfold pq_aw; omega
        obtain ⟨m1, m2⟩ := pq_meas haw hq.1
        refine pq_stp_okv hv hsk trivial (by omega) (ok_L_slack hfl hX.1 hO (d9 := 7) (by omega) (c_X7_slack hfl hX hb ht hh)) (c_X8_slack hfl hm hS.1.2.1 hn8 hb ht ((pq_hasE (hS.2.1 b hb).1 ht).symm.trans hh)) (by rw [pb_gK_ne (by omega)]; exact pb_up_self) ?_ (fun a ha => by rw [pb_gK_ne (by omega), pb_up_neA (by omega)]) ((hT.ofM (fun k k1 k2 => pb_gK_ne (by omega) 16) (by rw [pb_gK_ne (by omega)]) (by rw [pb_gK_ne (by omega)])).ofC (fun c hc => pq_bl hsk hc) (fun a ha => by funext j; exact pb_meas_ne (by omega) j) (pb_meas_ne (by omega) 1))
        rw [m2, (m1 t ht).1, (m1 t ht).2]
    · exact pq_stp_x0 hsk hinv (k := 2) (by omega) trivial (by omega) (x2_L_slack hfl hX.1 hO (d9 := 8) (by omega) (x2_X7_slack hfl hX hb ht9)) (fun sz' => x2_X8_slack hfl hm hn hn8 hb ht9)
  · have hx2 : ∀ b, b < n → ¬ p0 = nI b := fun b hb q => hx ⟨b, hb, q⟩
    exact pq_stp_x0 hsk hinv (k := 1) (by omega) trivial (by omega) (x1_L_slack hfl hX.1 hO (d9 := 7) (by omega) (x1_X7_slack hfl hX hx2)) (fun sz' => x1_X8_slack hfl hm hn hn8 hx2)
set_option maxHeartbeats 1000000 in
theorem pq_st_critical {l : Launch} (hfl : l.stackTraces = false) {X sz : Nat} {sk : pb_Sk} {rf : pb_Rf} {sg : pb_Sg} (hI : pq_INV X sz sk rf sg) (p0 : Int32) : pq_stp l mL_critical mX8_critical X [.int p0] (fun _ => True) sz sk rf sg := by
  obtain ⟨n, B, par, hsk, hinv⟩ := hI
  obtain ⟨hX, hl, hm, hO, hz, hB⟩ := id hsk
  have hn8 := pq_n8 hsk
  have hn := hinv.1.2.1
  by_cases hx : ∃ b, b < n ∧ p0 = nI b
  · obtain ⟨b, hb, rfl⟩ := hx
    have hbl := pq_bl hsk hb
    obtain ⟨v, hv⟩ : ∃ v, (pb_set (fun t => pb_has ((pb_meas sg (X + 34) (B b + 1)) (B b + 1 + 1)) t && decide ((pb_meas sg (X + 34) (B b + 1)) (X + 34) 2 - (pb_meas sg (X + 34) (B b + 1)) (X + 34 + 2) t - (pb_meas sg (X + 34) (B b + 1)) (X + 34 + 1) t = 0)) 16 : Int32) = v := ⟨_, rfl⟩
    have hS : pq_inv X n B par sg (pb_up (pb_meas sg (X + 34) (B b + 1)) (X + 70) 0 v) := pq_in0 hinv (fun a h1 h2 => by funext j; exact pb_meas_ne (by omega) j)
    have hT := pq_up_M (x := nI 0) hS
    have hq := hT.2.1 b hb
    have haw : pq_aw (X + 34) (B b + 1) := by unfold pq_aw; omega
    obtain ⟨m1, m2⟩ := pq_meas haw hq.1
    refine pq_stp_okv hv hsk trivial (by omega) (ok_L_critical hfl hX.1 hO (d9 := 7) (by omega) (c_X7_critical hfl hX hb)) (c_X8_critical hfl hm hS.1.2.1 hn8 hb) (by rw [pb_gK_ne (by omega)]; exact pb_up_self) ?_ (fun a ha => by rw [pb_gK_ne (by omega), pb_up_neA (by omega)]) ((hT.ofM (fun k k1 k2 => pb_gK_ne (by omega) 16) (by rw [pb_gK_ne (by omega)]) (by rw [pb_gK_ne (by omega)])).ofC (fun c hc => pq_bl hsk hc) (fun a ha => by funext j; exact pb_meas_ne (by omega) j) (pb_meas_ne (by omega) 1))
    refine pb_set_congr fun t ht => ?_
    congr 1
    · unfold pb_has
      rw [pb_meas_ne (by omega), pb_gK_ne (by omega), (hq.1 t ht).1]
    · rw [decide_eq_decide, pq_crit, m2, (m1 t ht).1, (m1 t ht).2]
  · have hx2 : ∀ b, b < n → ¬ p0 = nI b := fun b hb q => hx ⟨b, hb, q⟩
    exact pq_stp_x0 hsk hinv (k := 1) (by omega) trivial (by omega) (x1_L_critical hfl hX.1 hO (d9 := 7) (by omega) (x1_X7_critical hfl hX hx2)) (fun sz' => x1_X8_critical hfl hm hn hn8 hx2)
set_option maxHeartbeats 1000000 in
theorem pq_st_firstDay {l : Launch} (hfl : l.stackTraces = false) {X sz : Nat} {sk : pb_Sk} {rf : pb_Rf} {sg : pb_Sg} (hI : pq_INV X sz sk rf sg) (p0 : Int32) (p1 : Int32) : pq_stp l mL_firstDay mX8_firstDay X [.int p0, .int p1] (fun _ => True) sz sk rf sg := by
  obtain ⟨n, B, par, hsk, hinv⟩ := hI
  obtain ⟨hX, hl, hm, hO, hz, hB⟩ := id hsk
  have hn8 := pq_n8 hsk
  have hn := hinv.1.2.1
  by_cases hx : ∃ b, b < n ∧ p0 = nI b
  · obtain ⟨b, hb, rfl⟩ := hx
    have hbl := pq_bl hsk hb
    by_cases ht9 : nI 0 ≤ p1 ∧ p1 ≤ nI 15
    · obtain ⟨t, ht15, rfl⟩ := pq_rng (by omega) ht9
      have ht : t < 16 := by omega
      have hap : pb_apX X (B b + 1) := by unfold pb_apX; omega
      have hq0 := hinv.2.1 b hb
      have r4 : ∀ a j, (a < X + 34 ∨ X + 44 < a) → pb_pbr sg X (B b + 1) (B b) a j = sg a j := by
        obtain ⟨L, -, -, -, hh⟩ := pq_inv_hd hinv
        exact (pq_rule hap hq0.1 (pq_gp_wf hq0.2.1) (pq_gp_nb hq0.2.1) hh (g := B b) (by omega) hq0.2.2.1).2.2.2
      obtain ⟨v, hv⟩ : ∃ v, ((pb_pbr sg X (B b + 1) (B b)) (X + 37 + 1) t : Int32) = v := ⟨_, rfl⟩
      have hS : pq_inv X n B par sg (pb_up (pb_pbr sg X (B b + 1) (B b)) (X + 70) 0 v) := pq_in0 hinv (fun a h1 h2 => by funext j; exact r4 a j (by omega))
      have hT := pq_up_M (x := nI 0) hS
      have hq := hT.2.1 b hb
      obtain ⟨L, hL40, -, hL, hh⟩ := pq_inv_hd hS
      have hw8 := pq_mw (hS.2.1 b hb).1 (pq_gp_wf hq.2.1)
      obtain ⟨r1, r2, r3, -⟩ := pq_rule hap hq.1 (pq_gp_wf hq.2.1) (pq_gp_nb hq.2.1) (pq_hd_of hh (fun _ _ _ => rfl) (fun k k1 k2 => pb_up_neA (by omega))) (g := B b) (by omega) hq.2.2.1
      refine pq_stp_okv hv hsk trivial (by omega) (ok_L_firstDay hfl hX.1 hO (d9 := 7) (by omega) (c_X7_firstDay hfl hX hb ht hap (pq_gp_wf hq0.2.1))) (c_X8_firstDay hfl hm hS.1.2.1 hn8 hb ht hL hL40 hw8 rfl) (by rw [pb_mun_ne (by omega)]; exact pb_up_self) ?_ (fun a ha => by rw [pb_mun_ne (by omega), pb_up_neA (by omega)]) ((hT.ofM (fun k k1 k2 => pb_mun_ne (by omega)) (by rw [pb_mun_ne (by omega)]) (by rw [pb_mun_ne (by omega)])).ofC (fun c hc => pq_bl hsk hc) (fun a ha => by funext j; exact r4 a j (by omega)) (r4 X 1 (by omega)))
      rw [r1.2.1 t ht]
      split
      · rename_i e
        rw [r2, pb_in_and, pb_in_xor, pb_in_m1 (by omega), r1.2.2.1 t ht] at e
        apply Classical.byContradiction
        intro q
        rw [decide_eq_false q] at e
        simp at e
      · rfl
    · exact pq_stp_x0 hsk hinv (k := 2) (by omega) trivial (by omega) (x2_L_firstDay hfl hX.1 hO (d9 := 8) (by omega) (x2_X7_firstDay hfl hX hb ht9)) (fun sz' => x2_X8_firstDay hfl hm hn hn8 hb ht9)
  · have hx2 : ∀ b, b < n → ¬ p0 = nI b := fun b hb q => hx ⟨b, hb, q⟩
    exact pq_stp_x0 hsk hinv (k := 1) (by omega) trivial (by omega) (x1_L_firstDay hfl hX.1 hO (d9 := 7) (by omega) (x1_X7_firstDay hfl hX hx2)) (fun sz' => x1_X8_firstDay hfl hm hn hn8 hx2)
set_option maxHeartbeats 1000000 in
theorem pq_st_leftOut {l : Launch} (hfl : l.stackTraces = false) {X sz : Nat} {sk : pb_Sk} {rf : pb_Rf} {sg : pb_Sg} (hI : pq_INV X sz sk rf sg) (p0 : Int32) : pq_stp l mL_leftOut mX8_leftOut X [.int p0] (fun _ => True) sz sk rf sg := by
  obtain ⟨n, B, par, hsk, hinv⟩ := hI
  obtain ⟨hX, hl, hm, hO, hz, hB⟩ := id hsk
  have hn8 := pq_n8 hsk
  have hn := hinv.1.2.1
  by_cases hx : ∃ b, b < n ∧ p0 = nI b
  · obtain ⟨b, hb, rfl⟩ := hx
    have hbl := pq_bl hsk hb
    have hap : pb_apX X (B b + 1) := by unfold pb_apX; omega
    have hq0 := hinv.2.1 b hb
    have r4 : ∀ a j, (a < X + 34 ∨ X + 44 < a) → pb_pbr sg X (B b + 1) (B b) a j = sg a j := by
      obtain ⟨L, -, -, -, hh⟩ := pq_inv_hd hinv
      exact (pq_rule hap hq0.1 (pq_gp_wf hq0.2.1) (pq_gp_nb hq0.2.1) hh (g := B b) (by omega) hq0.2.2.1).2.2.2
    obtain ⟨v, hv⟩ : ∃ v, (pb_pres ((pb_pbr sg X (B b + 1) (B b)) (B b + 1 + 1)) &&& ((pb_pbr sg X (B b + 1) (B b)) (X + 37) 2 ^^^ (-1)) : Int32) = v := ⟨_, rfl⟩
    have hS : pq_inv X n B par sg (pb_up (pb_pbr sg X (B b + 1) (B b)) (X + 70) 0 v) := pq_in0 hinv (fun a h1 h2 => by funext j; exact r4 a j (by omega))
    have hT := pq_up_M (x := nI 0) hS
    have hq := hT.2.1 b hb
    obtain ⟨L, hL40, -, hL, hh⟩ := pq_inv_hd hS
    have hw8 := pq_mw (hS.2.1 b hb).1 (pq_gp_wf hq.2.1)
    obtain ⟨r1, r2, r3, -⟩ := pq_rule hap hq.1 (pq_gp_wf hq.2.1) (pq_gp_nb hq.2.1) (pq_hd_of hh (fun _ _ _ => rfl) (fun k k1 k2 => pb_up_neA (by omega))) (g := B b) (by omega) hq.2.2.1
    refine pq_stp_okv hv hsk trivial (by omega) (ok_L_leftOut hfl hX.1 hO (d9 := 7) (by omega) (c_X7_leftOut hfl hX hb hap (pq_gp_wf hq0.2.1))) (c_X8_leftOut hfl hm hS.1.2.1 hn8 hb hL hL40 hw8 rfl) (by rw [pb_mun_ne (by omega)]; exact pb_up_self) ?_ (fun a ha => by rw [pb_mun_ne (by omega), pb_up_neA (by omega)]) ((hT.ofM (fun k k1 k2 => pb_mun_ne (by omega)) (by rw [pb_mun_ne (by omega)]) (by rw [pb_mun_ne (by omega)])).ofC (fun c hc => pq_bl hsk hc) (fun a ha => by funext j; exact r4 a j (by omega)) (r4 X 1 (by omega)))
    rw [r2, show pb_pbr sg X (B b + 1) (B b) (B b + 1 + 1) = sg (B b + 1 + 1) from funext fun j => r4 _ j (by omega)]
  · have hx2 : ∀ b, b < n → ¬ p0 = nI b := fun b hb q => hx ⟨b, hb, q⟩
    exact pq_stp_x0 hsk hinv (k := 1) (by omega) trivial (by omega) (x1_L_leftOut hfl hX.1 hO (d9 := 7) (by omega) (x1_X7_leftOut hfl hX hx2)) (fun sz' => x1_X8_leftOut hfl hm hn hn8 hx2)
set_option maxHeartbeats 1000000 in
theorem pq_st_lastDay {l : Launch} (hfl : l.stackTraces = false) {X sz : Nat} {sk : pb_Sk} {rf : pb_Rf} {sg : pb_Sg} (hI : pq_INV X sz sk rf sg) (p0 : Int32) : pq_stp l mL_lastDay mX8_lastDay X [.int p0] (fun _ => True) sz sk rf sg := by
  obtain ⟨n, B, par, hsk, hinv⟩ := hI
  obtain ⟨hX, hl, hm, hO, hz, hB⟩ := id hsk
  have hn8 := pq_n8 hsk
  have hn := hinv.1.2.1
  by_cases hx : ∃ b, b < n ∧ p0 = nI b
  · obtain ⟨b, hb, rfl⟩ := hx
    have hbl := pq_bl hsk hb
    have hap : pb_apX X (B b + 1) := by unfold pb_apX; omega
    have hq0 := hinv.2.1 b hb
    have r4 : ∀ a j, (a < X + 34 ∨ X + 44 < a) → pb_pbr sg X (B b + 1) (B b) a j = sg a j := by
      obtain ⟨L, -, -, -, hh⟩ := pq_inv_hd hinv
      exact (pq_rule hap hq0.1 (pq_gp_wf hq0.2.1) (pq_gp_nb hq0.2.1) hh (g := B b) (by omega) hq0.2.2.1).2.2.2
    obtain ⟨v, hv⟩ : ∃ v, (pb_eo (pb_pbr sg X (B b + 1) (B b)) (X + 37) (B b + 1) 16 : Int32) = v := ⟨_, rfl⟩
    have hS : pq_inv X n B par sg (pb_up (pb_pbr sg X (B b + 1) (B b)) (X + 70) 0 v) := pq_in0 hinv (fun a h1 h2 => by funext j; exact r4 a j (by omega))
    have hT := pq_up_M (x := nI 0) hS
    have hq := hT.2.1 b hb
    obtain ⟨L, hL40, -, hL, hh⟩ := pq_inv_hd hS
    have hw8 := pq_mw (hS.2.1 b hb).1 (pq_gp_wf hq.2.1)
    obtain ⟨r1, r2, r3, -⟩ := pq_rule hap hq.1 (pq_gp_wf hq.2.1) (pq_gp_nb hq.2.1) (pq_hd_of hh (fun _ _ _ => rfl) (fun k k1 k2 => pb_up_neA (by omega))) (g := B b) (by omega) hq.2.2.1
    refine pq_stp_okv hv hsk trivial (by omega) (ok_L_lastDay hfl hX.1 hO (d9 := 7) (by omega) (c_X7_lastDay hfl hX hb hap (pq_gp_wf hq0.2.1))) (c_X8_lastDay hfl hm hS.1.2.1 hn8 hb hL hL40 hw8 rfl) (by rw [pb_mun_ne (by omega)]; exact pb_up_self) ?_ (fun a ha => by rw [pb_mun_ne (by omega), pb_up_neA (by omega)]) ((hT.ofM (fun k k1 k2 => pb_mun_ne (by omega)) (by rw [pb_mun_ne (by omega)]) (by rw [pb_mun_ne (by omega)])).ofC (fun c hc => pq_bl hsk hc) (fun a ha => by funext j; exact r4 a j (by omega)) (r4 X 1 (by omega)))
    rw [(pq_mlast r1 16 (by omega)).1]
    split
    · rename_i e
      refine pq_mlast_none (fun t ht => ?_) 16 (by omega)
      apply Classical.byContradiction
      intro q
      have e1 := r3 t ht q
      have e2 := congrArg (fun x => pb_in x t) e
      rw [pb_mun_ne (by omega), ← pq_presE hq.1] at e2
      have e3 : pb_in (pb_pres (sg (B b + 1 + 1)) &&& (pb_pbr sg X (B b + 1) (B b) (X + 37) 2 ^^^ (-1))) t = pb_in (pb_pres (sg (B b + 1 + 1))) t := by rw [← r2]; exact e2
      rw [pb_in_and, pb_in_xor, pb_in_m1 (by omega), r1.2.2.1 t ht, decide_eq_false q, e1] at e3
      exact absurd e3 (by decide)
    · rfl
  · have hx2 : ∀ b, b < n → ¬ p0 = nI b := fun b hb q => hx ⟨b, hb, q⟩
    exact pq_stp_x0 hsk hinv (k := 1) (by omega) trivial (by omega) (x1_L_lastDay hfl hX.1 hO (d9 := 7) (by omega) (x1_X7_lastDay hfl hX hx2)) (fun sz' => x1_X8_lastDay hfl hm hn hn8 hx2)
set_option maxHeartbeats 1000000 in
theorem pq_st_taskOn {l : Launch} (hfl : l.stackTraces = false) {X sz : Nat} {sk : pb_Sk} {rf : pb_Rf} {sg : pb_Sg} (hI : pq_INV X sz sk rf sg) (p0 : Int32) (p1 : Int32) (p2 : Int32) : pq_stp l mL_taskOn mX8_taskOn X [.int p0, .int p1, .int p2] (fun _ => True) sz sk rf sg := by
  obtain ⟨n, B, par, hsk, hinv⟩ := hI
  obtain ⟨hX, hl, hm, hO, hz, hB⟩ := id hsk
  have hn8 := pq_n8 hsk
  have hn := hinv.1.2.1
  by_cases hx : ∃ b, b < n ∧ p0 = nI b
  · obtain ⟨b, hb, rfl⟩ := hx
    have hbl := pq_bl hsk hb
    by_cases hbad : (nI 0 ≤ p1 ∧ p1 ≤ nI 4) ∧ (nI 0 ≤ p2 ∧ p2 ≤ nI 399)
    · obtain ⟨c, hc4, rfl⟩ := pq_rng (by omega) hbad.1
      obtain ⟨dy, hd, rfl⟩ := pq_rng (by omega) hbad.2
      have hc : c < 5 := by omega
      have hd4 : dy < 400 := by omega
      have hap : pb_apX X (B b + 1) := by unfold pb_apX; omega
      have hq0 := hinv.2.1 b hb
      have r4 : ∀ a j, (a < X + 34 ∨ X + 44 < a) → pb_pbr sg X (B b + 1) (B b) a j = sg a j := by
        obtain ⟨L, -, -, -, hh⟩ := pq_inv_hd hinv
        exact (pq_rule hap hq0.1 (pq_gp_wf hq0.2.1) (pq_gp_nb hq0.2.1) hh (g := B b) (by omega) hq0.2.2.1).2.2.2
      obtain ⟨v, hv⟩ : ∃ v, (pb_mx (-1) ((pb_pbr sg X (B b + 1) (B b)) (X + 37 + 3 + c) dy) : Int32) = v := ⟨_, rfl⟩
      have hS : pq_inv X n B par sg (pb_up (pb_pbr sg X (B b + 1) (B b)) (X + 70) 0 v) := pq_in0 hinv (fun a h1 h2 => by funext j; exact r4 a j (by omega))
      have hT := pq_up_M (x := nI 0) hS
      have hq := hT.2.1 b hb
      obtain ⟨L, hL40, -, hL, hh⟩ := pq_inv_hd hS
      have hw8 := pq_mw (hS.2.1 b hb).1 (pq_gp_wf hq.2.1)
      obtain ⟨r1, r2, r3, -⟩ := pq_rule hap hq.1 (pq_gp_wf hq.2.1) (pq_gp_nb hq.2.1) (pq_hd_of hh (fun _ _ _ => rfl) (fun k k1 k2 => pb_up_neA (by omega))) (g := B b) (by omega) hq.2.2.1
      refine pq_stp_okv hv hsk trivial (by omega) (ok_L_taskOn hfl hX.1 hO (d9 := 7) (by omega) (c_X7_taskOn hfl hX hb hc hd4 hap (pq_gp_wf hq0.2.1))) (c_X8_taskOn hfl hm hS.1.2.1 hn8 hb hc hd4 hL hL40 hw8 rfl) (by rw [pb_mun_ne (by omega)]; exact pb_up_self) ?_ (fun a ha => by rw [pb_mun_ne (by omega), pb_up_neA (by omega)]) ((hT.ofM (fun k k1 k2 => pb_mun_ne (by omega)) (by rw [pb_mun_ne (by omega)]) (by rw [pb_mun_ne (by omega)])).ofC (fun c hc => pq_bl hsk hc) (fun a ha => by funext j; exact r4 a j (by omega)) (r4 X 1 (by omega)))
      rw [if_neg (pq_neg (by rw [r2, pb_in_and, pq_pres_W 31 (by omega), Bool.false_and]))]
      exact (r1.2.2.2.1 c hc dy hd4).2
    · exact pq_stp_x0 hsk hinv (k := 2) (by omega) trivial (by omega) (x2_L_taskOn hfl hX.1 hO (d9 := 8) (by omega) (x2_X7_taskOn hfl hX hb hbad)) (fun sz' => x2_X8_taskOn hfl hm hn hn8 hb hbad)
  · have hx2 : ∀ b, b < n → ¬ p0 = nI b := fun b hb q => hx ⟨b, hb, q⟩
    exact pq_stp_x0 hsk hinv (k := 1) (by omega) trivial (by omega) (x1_L_taskOn hfl hX.1 hO (d9 := 7) (by omega) (x1_X7_taskOn hfl hX hx2)) (fun sz' => x1_X8_taskOn hfl hm hn hn8 hx2)
