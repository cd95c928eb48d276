/-! Changes: steps of the law. -/
theorem pq_T {X : Nat} {S C : pb_Sg} {v : Int32} (hF : ∀ a, X + 45 ≤ a → a < X + 70 → C a = S a) : ∀ a, X + 45 < a → a < X + 70 → pb_up (pb_up C (X + 70) 0 v) (X + 45) 0 (nI 0) a = S a := fun a h1 h2 => by rw [pb_up_neA (by omega), pb_up_neA (by omega), hF a (by omega) h2]
theorem pq_hr_T {X b nx s o : Nat} {S C : pb_Sg} {v : Int32} (hF : ∀ a, X + 45 ≤ a → a < X + 70 → C a = S a) (h : pq_hr S S o (X + 45) b nx s) : pq_hr S (pb_up (pb_up C (X + 70) 0 v) (X + 45) 0 (nI 0)) o (X + 45) b nx s := h.of (fun _ _ _ => rfl) (fun k k1 k2 i hi => by rw [pq_T hF _ (by omega) (by omega)]) (by rw [pq_T hF _ (by omega) (by omega)])
theorem pq_keep_F {X n b t nx s : Nat} {B par : Nat → Nat} {sz : Nat} {sk : pb_Sk} {rf : pb_Rf} {S : pb_Sg} {x y z w : Int32} (hsk : pq_sk X n B par sz sk rf) (hb : b < n) : ∀ a, X + 45 ≤ a → a < X + 70 → pb_put (pb_keep S (B b + 11) (B b + 1) t nx s) (B b + 1) t x y z w a = S a := fun a h1 h2 => by
  have := pq_bl hsk hb
  rw [pq_put_ne (by omega), pq_keep_ne (by omega) (by omega)]
theorem pq_ml_M {S : pb_Sg} {M k : Nat} {x y z w : Int32} : pb_ml S M k x y z w M = S M := pb_ml_ne (by omega)
set_option maxHeartbeats 1000000 in
theorem pq_st_setTask {l : Launch} (hfl : l.stackTraces = false) {X sz : Nat} {sk : pb_Sk} {rf : pb_Rf} {sg : pb_Sg} (hI : pq_INV X sz sk rf sg) (p0 : Int32) (p1 : Int32) (p2 : Int32) (p3 : Int32) (p4 : Int32) : pq_stp l mL_setTask mX8_setTask X [.int p0, .int p1, .int p2, .int p3, .int p4] (fun w => ∃ bv, w = pb_b bv) sz sk rf sg := by
  obtain ⟨n, B, par, hsk, hinv⟩ := hI
  obtain ⟨hX, hl, hm, hO, hz, hB⟩ := id hsk
  have hn8 := pq_n8 hsk
  have hn := hinv.1.2.1
  by_cases hx : ∃ b, b < n ∧ p0 = nI b
  · obtain ⟨b, hb, rfl⟩ := hx
    have hbl := pq_bl hsk hb
    by_cases hbad : (nI 0 ≤ p1 ∧ p1 ≤ nI 15) ∧ (nI 1 ≤ p2 ∧ p2 ≤ nI 20) ∧ (-1 ≤ p3 ∧ p3 ≤ nI 4) ∧ (nI 0 ≤ p4 ∧ p4 ≤ nI 1000)
    · obtain ⟨⟨t9, t9b⟩, ⟨h1, h2⟩, ⟨h3, h4⟩, h5, h6⟩ := hbad
      obtain ⟨t, ht15, rfl⟩ := pq_rng (by omega) ⟨t9, t9b⟩
      have ht : t < 16 := by omega
      obtain ⟨nx, s, hr0⟩ := (hinv.2.1 b hb).2.2.2.2
      have hq0 := hinv.2.1 b hb
      have hne : (if pb_has (sg (B b + 1 + 1)) t = true then sg (B b + 1 + 4) t else nI 0) = sg (B b + 1 + 4) t := pq_needs0 (hq0.2.1 t ht) rfl
      obtain ⟨v, hv⟩ : ∃ v, (pb_b (pb_has (sg (B b + 1 + 1)) t) : Int32) = v := ⟨_, rfl⟩
      have hF := pq_keep_F (S := sg) (t := t) (nx := nx) (s := s) (x := p2) (y := p3) (z := p4) (w := (if pb_has (sg (B b + 1 + 1)) t = true then sg (B b + 1 + 4) t else nI 0)) hsk hb
      have hS : pq_inv X n B par sg (pb_up (pb_put (pb_keep sg (B b + 11) (B b + 1) t nx s) (B b + 1) t p2 p3 p4 (if pb_has (sg (B b + 1 + 1)) t = true then sg (B b + 1 + 4) t else nI 0)) (X + 70) 0 v) := pq_in0 hinv hF
      have hT := pq_up_M (x := nI 0) hS
      have hq := hT.2.1 b hb
      have hrT := pq_hr_T (v := v) hF hr0
      have hrS : pb_up (pb_put (pb_keep sg (B b + 11) (B b + 1) t nx s) (B b + 1) t p2 p3 p4 (if pb_has (sg (B b + 1 + 1)) t = true then sg (B b + 1 + 4) t else nI 0)) (X + 70) 0 v (X + 45 + 13) b = nI s := by rw [pb_up_neA (by omega), hF _ (by omega) (by omega)]; exact hr0.2.2.2.2.1
      refine pq_stp_okv hv hsk ⟨_, rfl⟩ (by omega) (ok_L_setTask hfl hX.1 hO (d9 := 7) (by omega) (c_X7_setTask hfl hX hb ht h1 h2 h3 h4 h5 h6 hr0.2.2.1 hr0.1 hr0.2.2.2.1 hr0.2.1)) (c_X8_setTask hfl hm hS.1.2.1 hn8 hb ht h1 h2 h3 h4 h5 h6 hrS hr0.2.1) (by rw [pq_ml_M, pq_mkk_ne (by omega)]; exact pb_up_self) ?_ (fun a ha => by rw [pb_ml_ne (by omega), pq_mkk_ne (by omega), pb_up_neA (by omega)]) ?_
      · rw [pq_mkk_ne (by omega), ← pq_hasE hq.1 ht]
      · have e4 : pb_mkk (pb_up (pb_up (pb_put (pb_keep sg (B b + 11) (B b + 1) t nx s) (B b + 1) t p2 p3 p4 (if pb_has (sg (B b + 1 + 1)) t = true then sg (B b + 1 + 4) t else nI 0)) (X + 70) 0 v) (X + 45) 0 (nI 0)) (X + 45) b t s (X + 45 + 4) (16 * b + t) = (if pb_has (sg (B b + 1 + 1)) t = true then sg (B b + 1 + 4) t else nI 0) := by
          rw [pq_mkk_ne (by omega)]
          exact (hq.1 t ht).2.2.2.symm.trans hne.symm
        rw [e4]
        refine pq_chg hsk hT hb ht hrT ⟨(pq_len_gr h1 h2).1, pq_crew_gr h3 h4, ?_, fun q => absurd q (pq_len_gr h1 h2).2⟩
        rw [hne]
        exact (hq0.2.1 t ht).2.2.1
    · exact pq_stp_x0 hsk hinv (k := 2) (by omega) ⟨false, rfl⟩ (by omega) (x2_L_setTask hfl hX.1 hO (d9 := 8) (by omega) (x2_X7_setTask hfl hX hb hbad)) (fun sz' => x2_X8_setTask hfl hm hn hn8 hb hbad)
  · have hx2 : ∀ b, b < n → ¬ p0 = nI b := fun b hb q => hx ⟨b, hb, q⟩
    exact pq_stp_x0 hsk hinv (k := 1) (by omega) ⟨false, rfl⟩ (by omega) (x1_L_setTask hfl hX.1 hO (d9 := 7) (by omega) (x1_X7_setTask hfl hX hx2)) (fun sz' => x1_X8_setTask hfl hm hn hn8 hx2)
set_option maxHeartbeats 1000000 in
theorem pq_st_removeTask {l : Launch} (hfl : l.stackTraces = false) {X sz : Nat} {sk : pb_Sk} {rf : pb_Rf} {sg : pb_Sg} (hI : pq_INV X sz sk rf sg) (p0 : Int32) (p1 : Int32) : pq_stp l mL_removeTask mX8_removeTask X [.int p0, .int p1] (fun _ => True) sz sk rf sg := by
  obtain ⟨n, B, par, hsk, hinv⟩ := hI
  obtain ⟨hX, hl, hm, hO, hz, hB⟩ := id hsk
  have hn8 := pq_n8 hsk
  have hn := hinv.1.2.1
  by_cases hx : ∃ b, b < n ∧ p0 = nI b
  · obtain ⟨b, hb, rfl⟩ := hx
    have hbl := pq_bl hsk hb
    by_cases ht9 : nI 0 ≤ p1 ∧ p1 ≤ nI 15
    · obtain ⟨t, ht15, rfl⟩ := pq_rng (by omega) ht9
      have ht : t < 16 := by omega
      have hq0 := hinv.2.1 b hb
      have hse : ∀ S9 : pb_Sg, pq_eq sg S9 (B b + 1) (X + 45) b → pb_set (fun o => pb_in (S9 (X + 45 + 4) (16 * b + o)) t) 16 = pb_set (fun o => pb_in (sg (B b + 1 + 4) o) t) 16 := fun S9 h9 => pb_set_congr fun j hj => by rw [(h9 j hj).2.2.2]
      by_cases hc : pb_has (sg (B b + 1 + 1)) t = true ∧ pb_set (fun o => pb_in (sg (B b + 1 + 4) o) t) 16 = 0
      · obtain ⟨nx, s, hr0⟩ := (hinv.2.1 b hb).2.2.2.2
        obtain ⟨v, hv⟩ : ∃ v, (sg (B b + 1 + 1) t : Int32) = v := ⟨_, rfl⟩
        have hF := pq_keep_F (S := sg) (t := t) (nx := nx) (s := s) (x := nI 0) (y := -1) (z := nI 0) (w := nI 0) hsk hb
        have hS : pq_inv X n B par sg (pb_up (pb_put (pb_keep sg (B b + 11) (B b + 1) t nx s) (B b + 1) t (nI 0) (-1) (nI 0) (nI 0)) (X + 70) 0 v) := pq_in0 hinv hF
        have hT := pq_up_M (x := nI 0) hS
        have hq := hT.2.1 b hb
        have hqS := hS.2.1 b hb
        have hrT := pq_hr_T (v := v) hF hr0
        have hrS : pb_up (pb_put (pb_keep sg (B b + 11) (B b + 1) t nx s) (B b + 1) t (nI 0) (-1) (nI 0) (nI 0)) (X + 70) 0 v (X + 45 + 13) b = nI s := by rw [pb_up_neA (by omega), hF _ (by omega) (by omega)]; exact hr0.2.2.2.2.1
        refine pq_stp_okv hv hsk trivial (by omega) (ok_L_removeTask hfl hX.1 hO (d9 := 7) (by omega) (c_X7_removeTask hfl hX hb ht hc.1 hc.2 hr0.2.2.1 hr0.1 hr0.2.2.2.1 hr0.2.1)) (c_X8_removeTask hfl hm hS.1.2.1 hn8 hb ht ((pq_hasE hqS.1 ht).symm.trans hc.1) ((pq_set_any 16 (by omega)).mp ((hse _ hqS.1).trans hc.2)) hrS hr0.2.1) (by rw [pq_ml_M, pq_mkk_ne (by omega)]; exact pb_up_self) ?_ (fun a ha => by rw [pb_ml_ne (by omega), pq_mkk_ne (by omega), pb_up_neA (by omega)]) ?_
        · rw [pq_mkk_ne (by omega)]
          exact (hq.1 t ht).1
        · exact pq_chg hsk hT hb ht hrT ⟨⟨0, by omega, rfl⟩, Or.inl rfl, fun j _ => pb_in_0 j, fun _ => rfl⟩
      · exact pq_stp_x0 hsk hinv (k := 3) (by omega) trivial (by omega) (x3_L_removeTask hfl hX.1 hO (d9 := 8) (by omega) (x3_X7_removeTask hfl hX hb ht (fun q1 q2 => hc ⟨q1, q2⟩))) (fun sz' => x3_X8_removeTask hfl hm hn hn8 hb ht (fun q1 => by cases e9 : pb_any (fun k => pb_in (sg (X + 45 + 4) (16 * b + k)) t) 16; exact absurd ⟨(pq_hasE hq0.1 ht).trans q1, (hse _ hq0.1).symm.trans ((pq_set_any 16 (by omega)).mpr e9)⟩ hc; rfl))
    · exact pq_stp_x0 hsk hinv (k := 2) (by omega) trivial (by omega) (x2_L_removeTask hfl hX.1 hO (d9 := 8) (by omega) (x2_X7_removeTask hfl hX hb ht9)) (fun sz' => x2_X8_removeTask hfl hm hn hn8 hb ht9)
  · have hx2 : ∀ b, b < n → ¬ p0 = nI b := fun b hb q => hx ⟨b, hb, q⟩
    exact pq_stp_x0 hsk hinv (k := 1) (by omega) trivial (by omega) (x1_L_removeTask hfl hX.1 hO (d9 := 7) (by omega) (x1_X7_removeTask hfl hX hx2)) (fun sz' => x1_X8_removeTask hfl hm hn hn8 hx2)
theorem pq_nIne {a b : Nat} (ha : a < 16) (hb : b < 16) : nI a = nI b ↔ a = b := nI_eq (by omega) (by omega)
set_option maxHeartbeats 1000000 in
theorem pq_st_setNeed {l : Launch} (hfl : l.stackTraces = false) {X sz : Nat} {sk : pb_Sk} {rf : pb_Rf} {sg : pb_Sg} (hI : pq_INV X sz sk rf sg) (p0 : Int32) (p1 : Int32) (p2 : Int32) (p3 : Bool) : pq_stp l mL_setNeed mX8_setNeed X [.int p0, .int p1, .int p2, .int (pb_b p3)] (fun w => ∃ bv, w = pb_b bv) sz sk rf sg := by
  obtain ⟨n, B, par, hsk, hinv⟩ := hI
  obtain ⟨hX, hl, hm, hO, hz, hB⟩ := id hsk
  have hn8 := pq_n8 hsk
  have hn := hinv.1.2.1
  by_cases hx : ∃ b, b < n ∧ p0 = nI b
  · obtain ⟨b, hb, rfl⟩ := hx
    have hbl := pq_bl hsk hb
    by_cases hbad : (nI 0 ≤ p1 ∧ p1 ≤ nI 15) ∧ (nI 0 ≤ p2 ∧ p2 ≤ nI 15) ∧ ¬ p1 = p2
    · obtain ⟨t, ht15, rfl⟩ := pq_rng (by omega) hbad.1
      obtain ⟨o, ho15, rfl⟩ := pq_rng (by omega) hbad.2.1
      have ht : t < 16 := by omega
      have ho : o < 16 := by omega
      have hne : ¬ t = o := fun q => hbad.2.2 (by rw [q])
      have hq0 := hinv.2.1 b hb
      have hal : ∀ S9 : pb_Sg, pq_eq sg S9 (B b + 1) (X + 45) b → pb_all (sg (B b + 1 + 4)) o = pb_mall (fun t => S9 (X + 45 + 4) (16 * b + t)) o := fun S9 h9 => pq_all (f' := fun t => S9 (X + 45 + 4) (16 * b + t)) (fun j hj => (h9 j hj).2.2.2) (fun j hj => (hq0.2.1 j hj).2.2.1) ho
      by_cases hc : (pb_has (sg (B b + 1 + 1)) t = true ∧ pb_has (sg (B b + 1 + 1)) o = true) ∧ (p3 = true → pb_in (pb_all (sg (B b + 1 + 4)) o) t = false)
      · obtain ⟨nx, s, hr0⟩ := (hinv.2.1 b hb).2.2.2.2
        have hbl2 := hbl
        have kn4 : (pb_keep sg (B b + 11) (B b + 1) t nx s) (B b + 1 + 4) = sg (B b + 1 + 4) := pq_keep_ne (by omega) (by omega)
        obtain ⟨v, hv⟩ : ∃ v, (pb_b (pb_in (sg (B b + 1 + 4) t) o) : Int32) = v := ⟨_, rfl⟩
        obtain ⟨w9, hw9⟩ : ∃ w, (if p3 = true then sg (B b + 1 + 4) t ||| (nI 1 <<< (nI o &&& 31)) else sg (B b + 1 + 4) t &&& ((nI 1 <<< (nI o &&& 31)) ^^^ (-1))) = w := ⟨_, rfl⟩
        have hC : (if p3 = true then pb_up (pb_keep sg (B b + 11) (B b + 1) t nx s) (B b + 1 + 4) t ((pb_keep sg (B b + 11) (B b + 1) t nx s) (B b + 1 + 4) t ||| (nI 1 <<< (nI o &&& 31))) else pb_up (pb_keep sg (B b + 11) (B b + 1) t nx s) (B b + 1 + 4) t ((pb_keep sg (B b + 11) (B b + 1) t nx s) (B b + 1 + 4) t &&& ((nI 1 <<< (nI o &&& 31)) ^^^ (-1)))) = pb_up (pb_keep sg (B b + 11) (B b + 1) t nx s) (B b + 1 + 4) t w9 := by
          rw [← hw9, kn4]
          cases p3 <;> rfl
        have hF : ∀ a, X + 45 ≤ a → a < X + 70 → pb_up (pb_keep sg (B b + 11) (B b + 1) t nx s) (B b + 1 + 4) t w9 a = sg a := fun a h1 h2 => by rw [pb_up_neA (by omega), pq_keep_ne (by omega) (by omega)]
        have hS : pq_inv X n B par sg (pb_up (pb_up (pb_keep sg (B b + 11) (B b + 1) t nx s) (B b + 1 + 4) t w9) (X + 70) 0 v) := pq_in0 hinv hF
        have hT := pq_up_M (x := nI 0) hS
        have hq := hT.2.1 b hb
        have hqS := hS.2.1 b hb
        have hrT := pq_hr_T (v := v) hF hr0
        have hrS : pb_up (pb_up (pb_keep sg (B b + 11) (B b + 1) t nx s) (B b + 1 + 4) t w9) (X + 70) 0 v (X + 45 + 13) b = nI s := by rw [pb_up_neA (by omega), hF _ (by omega) (by omega)]; exact hr0.2.2.2.2.1
        have h7 := c_X7_setNeed (sz := sz) (sk := sk) (rf := rf) (sg := sg) hfl hX hb ht ho hne hc.1.1 hc.1.2 hc.2 hr0.2.2.1 hr0.1 hr0.2.2.2.1 hr0.2.1
        rw [hC] at h7
        refine pq_stp_okv hv hsk ⟨_, rfl⟩ (by omega) (ok_L_setNeed hfl hX.1 hO (d9 := 7) (by omega) h7) (c_X8_setNeed hfl hm hS.1.2.1 hn8 hb ht ho hne ((pq_hasE hqS.1 ht).symm.trans hc.1.1) ((pq_hasE hqS.1 ho).symm.trans hc.1.2) (fun q => by rw [← hal _ hqS.1]; exact hc.2 q) hrS hr0.2.1) (by rw [pb_up_neA (by omega), pq_mkk_ne (by omega)]; exact pb_up_self) ?_ (fun a ha => by rw [pb_up_neA (by omega), pq_mkk_ne (by omega), pb_up_neA (by omega)]) ?_
        · rw [pq_mkk_ne (by omega), ← (hq.1 t ht).2.2.2]
        · rw [pq_mkk_ne (show X + 45 + 4 < X + 45 + 8 ∨ X + 45 + 13 < X + 45 + 4 by omega), ← (hq.1 t ht).2.2.2, pq_offon ho, hw9]
          refine pq_chgN hsk hT hb ht hrT ?_ hc.1.1
          rw [← hw9]
          have gW := (hq0.2.1 t ht).2.2.1
          cases p3
          · exact pq_W_and gW
          · exact pq_W_on ho gW
      · have hbd : pb_has (sg (B b + 1 + 1)) t = true → pb_has (sg (B b + 1 + 1)) o = true → p3 = true ∧ pb_in (pb_all (sg (B b + 1 + 4)) o) t = true := fun q1 q2 => by
          apply Classical.byContradiction
          intro q3
          refine hc ⟨⟨q1, q2⟩, fun q4 => ?_⟩
          cases e9 : pb_in (pb_all (sg (B b + 1 + 4)) o) t
          · rfl
          · exact absurd ⟨q4, e9⟩ q3
        exact pq_stp_x0 hsk hinv (k := 3) (by omega) ⟨false, rfl⟩ (by omega) (x3_L_setNeed hfl hX.1 hO (d9 := 8) (by omega) (x3_X7_setNeed hfl hX hb ht ho hne hbd)) (fun sz' => x3_X8_setNeed hfl hm hn hn8 hb ht ho hne (fun q1 q2 => by rw [← hal _ hq0.1]; exact hbd ((pq_hasE hq0.1 ht).trans q1) ((pq_hasE hq0.1 ho).trans q2)))
    · exact pq_stp_x0 hsk hinv (k := 2) (by omega) ⟨false, rfl⟩ (by omega) (x2_L_setNeed hfl hX.1 hO (d9 := 8) (by omega) (x2_X7_setNeed hfl hX hb hbad)) (fun sz' => x2_X8_setNeed hfl hm hn hn8 hb hbad)
  · have hx2 : ∀ b, b < n → ¬ p0 = nI b := fun b hb q => hx ⟨b, hb, q⟩
    exact pq_stp_x0 hsk hinv (k := 1) (by omega) ⟨false, rfl⟩ (by omega) (x1_L_setNeed hfl hX.1 hO (d9 := 7) (by omega) (x1_X7_setNeed hfl hX hx2)) (fun sz' => x1_X8_setNeed hfl hm hn hn8 hx2)
set_option maxHeartbeats 1000000 in
theorem pq_st_undo {l : Launch} (hfl : l.stackTraces = false) {X sz : Nat} {sk : pb_Sk} {rf : pb_Rf} {sg : pb_Sg} (hI : pq_INV X sz sk rf sg) (p0 : Int32) : pq_stp l mL_undo mX8_undo X [.int p0] (fun _ => True) sz sk rf sg := by
  obtain ⟨n, B, par, hsk, hinv⟩ := hI
  obtain ⟨hX, hl, hm, hO, hz, hB⟩ := id hsk
  have hn8 := pq_n8 hsk
  have hn := hinv.1.2.1
  by_cases hx : ∃ b, b < n ∧ p0 = nI b
  · obtain ⟨b, hb, rfl⟩ := hx
    have hbl := pq_bl hsk hb
    obtain ⟨nx, s, hr0⟩ := (hinv.2.1 b hb).2.2.2.2
    by_cases hs0 : s = 0
    · subst hs0
      exact pq_stp_x0 hsk hinv (k := 2) (by omega) trivial (by omega) (x2_L_undo hfl hX.1 hO (d9 := 8) (by omega) (x2_X7_undo hfl hX hb hr0.2.2.2.1)) (fun sz' => x2_X8_undo hfl hm hn hn8 hb hr0.2.2.2.2.1)
    · have hs1 : 0 < s := by omega
      have hpv := pq_pv hr0.1 hr0.2.1 hs1
      obtain ⟨⟨t, ht, he1, he2⟩, he3⟩ := hr0.2.2.2.2.2 (s - 1) (by omega)
      rw [hpv.2.1] at he1
      obtain ⟨v, hv⟩ : ∃ v, (nI (s - 1) : Int32) = v := ⟨_, rfl⟩
      have hF : ∀ a, X + 45 ≤ a → a < X + 70 → (pb_rest sg (B b + 11) (B b + 1) t nx s) a = sg a := fun a h1 h2 => by
        unfold pb_rest
        rw [pq_put_ne (by omega)]
        unfold pb_a2
        rw [pb_up_neA (by omega), pb_up_neA (by omega)]
      have hS : pq_inv X n B par sg (pb_up (pb_rest sg (B b + 11) (B b + 1) t nx s) (X + 70) 0 v) := pq_in0 hinv hF
      have hT := pq_up_M (x := nI 0) hS
      have hrT := pq_hr_T (v := v) hF hr0
      have hTT := pq_T (v := v) hF
      have hrS : pb_up (pb_rest sg (B b + 11) (B b + 1) t nx s) (X + 70) 0 v (X + 45 + 13) b = nI s := by rw [pb_up_neA (by omega), hF _ (by omega) (by omega)]; exact hr0.2.2.2.2.1
      refine pq_stp_okv hv hsk trivial (by omega) (ok_L_undo hfl hX.1 hO (d9 := 7) (by omega) (c_X7_undo hfl hX hb ht hr0.2.2.1 hr0.1 hr0.2.2.2.1 hs1 hr0.2.1 he1)) (c_X8_undo hfl hm hS.1.2.1 hn8 hb ht hrS hs1 hr0.2.1 (by rw [pb_up_neA (by omega), hF _ (by omega) (by omega)]; exact he2)) (by rw [pq_ml_M, pb_up_neA (by omega)]; exact pb_up_self) rfl (fun a ha => by rw [pb_ml_ne (by omega), pb_up_neA (by omega), pb_up_neA (by omega)]) ?_
      have hu := pq_und hsk hT hb ht hrT hs1
      rw [pb_up_neA (show X + 45 + 9 ≠ X + 45 + 13 by omega), pb_up_neA (show X + 45 + 10 ≠ X + 45 + 13 by omega), pb_up_neA (show X + 45 + 11 ≠ X + 45 + 13 by omega), pb_up_neA (show X + 45 + 12 ≠ X + 45 + 13 by omega)]
      exact hu
  · have hx2 : ∀ b, b < n → ¬ p0 = nI b := fun b hb q => hx ⟨b, hb, q⟩
    exact pq_stp_x0 hsk hinv (k := 1) (by omega) trivial (by omega) (x1_L_undo hfl hX.1 hO (d9 := 7) (by omega) (x1_X7_undo hfl hX hx2)) (fun sz' => x1_X8_undo hfl hm hn hn8 hx2)
set_option maxHeartbeats 1000000 in
theorem pq_st_setBudget {l : Launch} (hfl : l.stackTraces = false) {X sz : Nat} {sk : pb_Sk} {rf : pb_Rf} {sg : pb_Sg} (hI : pq_INV X sz sk rf sg) (p0 : Int32) (p1 : Int32) : pq_stp l mL_setBudget mX8_setBudget X [.int p0, .int p1] (fun _ => True) sz sk rf sg := by
  obtain ⟨n, B, par, hsk, hinv⟩ := hI
  obtain ⟨hX, hl, hm, hO, hz, hB⟩ := id hsk
  have hn8 := pq_n8 hsk
  have hn := hinv.1.2.1
  by_cases hx : ∃ b, b < n ∧ p0 = nI b
  · obtain ⟨b, hb, rfl⟩ := hx
    have hbl := pq_bl hsk hb
    by_cases hbad : nI 0 ≤ p1 ∧ p1 ≤ 1000000
    · obtain ⟨v, hv⟩ : ∃ v, (sg (B b) 6 : Int32) = v := ⟨_, rfl⟩
      have hS : pq_inv X n B par sg (pb_up (pb_up sg (B b) 6 p1) (X + 70) 0 v) := pq_in0 hinv (fun a h1 h2 => pb_up_neA (by omega))
      have hT := pq_up_M (x := nI 0) hS
      have hq := hT.2.1 b hb
      refine pq_stp_okv hv hsk trivial (by omega) (ok_L_setBudget hfl hX.1 hO (d9 := 7) (by omega) (c_X7_setBudget hfl hX hb hbad.1 hbad.2)) (c_X8_setBudget hfl hm hS.1.2.1 hn8 hb hbad) (by rw [pb_up_neA (by omega)]; exact pb_up_self) ?_ (fun a ha => by rw [pb_up_neA (by omega), pb_up_neA (by omega)]) (pq_bud hsk hT hb)
      exact hq.2.2.2.1
    · exact pq_stp_x0 hsk hinv (k := 2) (by omega) trivial (by omega) (x2_L_setBudget hfl hX.1 hO (d9 := 8) (by omega) (x2_X7_setBudget hfl hX hb hbad)) (fun sz' => x2_X8_setBudget hfl hm hn hn8 hb hbad)
  · have hx2 : ∀ b, b < n → ¬ p0 = nI b := fun b hb q => hx ⟨b, hb, q⟩
    exact pq_stp_x0 hsk hinv (k := 1) (by omega) trivial (by omega) (x1_L_setBudget hfl hX.1 hO (d9 := 7) (by omega) (x1_X7_setBudget hfl hX hx2)) (fun sz' => x1_X8_setBudget hfl hm hn hn8 hx2)
set_option maxHeartbeats 1000000 in
theorem pq_st_resolve {l : Launch} (hfl : l.stackTraces = false) {X sz : Nat} {sk : pb_Sk} {rf : pb_Rf} {sg : pb_Sg} (hI : pq_INV X sz sk rf sg) (p0 : Int32) (p1 : Int32) (p2 : Int32) : pq_stp l mL_resolve mX8_resolve X [.int p0, .int p1, .int p2] (fun _ => True) sz sk rf sg := by
  obtain ⟨n, B, par, hsk, hinv⟩ := hI
  obtain ⟨hX, hl, hm, hO, hz, hB⟩ := id hsk
  have hn8 := pq_n8 hsk
  have hn := hinv.1.2.1
  by_cases hx : ∃ b, b < n ∧ p0 = nI b
  · obtain ⟨b, hb, rfl⟩ := hx
    have hbl := pq_bl hsk hb
    by_cases hbad : (nI 0 ≤ p1 ∧ p1 ≤ nI 15) ∧ (-1 ≤ p2 ∧ p2 ≤ nI 1)
    · obtain ⟨t, ht15, rfl⟩ := pq_rng (by omega) hbad.1
      have ht : t < 16 := by omega
      by_cases hz0 : b = 0
      · exact pq_stp_x0 hsk hinv (k := 3) (by omega) trivial (by omega) (x3_L_resolve hfl hX.1 hO (d9 := 8) (by omega) (x3_X7_resolve hfl hX hb hz0 ht hbad.2.1 hbad.2.2)) (fun sz' => x3_X8_resolve hfl hm hn hn8 hb ht hz0 hbad.2)
      · have b0 : 0 < b := by omega
        obtain ⟨v, hv⟩ : ∃ v, (sg (B b + 17) t : Int32) = v := ⟨_, rfl⟩
        have hS : pq_inv X n B par sg (pb_up (pb_up sg (B b + 17) t p2) (X + 70) 0 v) := pq_in0 hinv (fun a h1 h2 => pb_up_neA (by omega))
        have hT := pq_up_M (x := nI 0) hS
        have hq := hT.2.1 b hb
        refine pq_stp_okv hv hsk trivial (by omega) (ok_L_resolve hfl hX.1 hO (d9 := 7) (by omega) (c_X7_resolve hfl hX hb b0 ht hbad.2.1 hbad.2.2)) (c_X8_resolve hfl hm hS.1.2.1 hn8 hb ht b0 hbad.2) (by rw [pb_up_neA (by omega)]; exact pb_up_self) ?_ (fun a ha => by rw [pb_up_neA (by omega), pb_up_neA (by omega)]) (pq_rsl hsk hT hb b0 ht)
        exact (hT.2.2.1 b b0 hb).2.2 t ht
    · exact pq_stp_x0 hsk hinv (k := 2) (by omega) trivial (by omega) (x2_L_resolve hfl hX.1 hO (d9 := 8) (by omega) (x2_X7_resolve hfl hX hb hbad)) (fun sz' => x2_X8_resolve hfl hm hn hn8 hb hbad)
  · have hx2 : ∀ b, b < n → ¬ p0 = nI b := fun b hb q => hx ⟨b, hb, q⟩
    exact pq_stp_x0 hsk hinv (k := 1) (by omega) trivial (by omega) (x1_L_resolve hfl hX.1 hO (d9 := 7) (by omega) (x1_X7_resolve hfl hX hx2)) (fun sz' => x1_X8_resolve hfl hm hn hn8 hx2)
theorem pq_giv {X n : Nat} {B par : Nat → Nat} {sz : Nat} {sk : pb_Sk} {rf : pb_Rf} {S S' : pb_Sg} (hsk : pq_sk X n B par sz sk rf) (h : pq_inv X n B par S S') {c : Nat} {x : Int32} : pq_inv X n B par (pb_up S (X + 20 + 1) c x) (pb_up S' (X + 45 + 14) c x) := by
  obtain ⟨⟨a1, a2, a3⟩, a4, a5, a6, k, a7, a8, a9, a10⟩ := h
  refine ⟨⟨by rw [pb_up_neA (by omega), a1], by rw [pb_up_neA (by omega), a2], by rw [pb_up_neA (by omega), a3.1], fun c c1 c2 => by rw [pb_up_neA (by omega), a3.2 c c1 c2]⟩, fun b hb => (a4 b hb).of (fun a e1 e2 => pb_up_neA (by have := pq_bl hsk hb; omega)) (fun k j hk => by rw [pb_up_neA (by unfold pq_oB at hk; omega)]), fun b b0 hb => (a5 b b0 hb).of (fun a e1 e2 e3 => pb_up_neA (by have := pq_bl hsk hb; omega)) (fun k j hk => by rw [pb_up_neA (by unfold pq_oC at hk; omega)]), fun i hi => ?_, k, a7, by rw [pb_up_neA (by omega), a8], by rw [pb_up_neA (by omega), a9], fun i hi d hd y => ?_⟩
  · rw [pb_up_at, pb_up_at]
    by_cases e : i = c
    · rw [if_pos ⟨rfl, e⟩, if_pos ⟨rfl, e⟩]
    · rw [if_neg (fun q => e q.2), if_neg (fun q => e q.2), a6 i hi]
  · rw [pq_mh2_of (S := S') (fun j j1 j2 => pb_up_neA (by omega)), pb_up_neA (by omega)]
    exact a10 i hi d hd y
theorem pq_mh2_lt {S T : pb_Sg} {M c : Nat} {x y : Int32} (n : Nat) (h : ∀ k, 15 ≤ k → k ≤ 18 → ∀ j, j < n → T (M + k) j = S (M + k) j) : pq_mh2 T M c x y n = pq_mh2 S M c x y n := by
  induction n with
  | zero => rfl
  | succ n ih =>
    unfold pq_mh2
    rw [ih (fun k k1 k2 j hj => h k k1 k2 j (by omega)), h 15 (by omega) (by omega) n (by omega), h 16 (by omega) (by omega) n (by omega), h 17 (by omega) (by omega) n (by omega), h 18 (by omega) (by omega) n (by omega)]
theorem pq_mld_ne {S : pb_Sg} {M c b lo hi k a : Nat} (h : a ≠ M) (h2 : a < M + 15 ∨ M + 18 < a) : pb_mld S M c b lo hi k a = S a := by
  unfold pb_mld
  rw [pb_up_neA (by omega), pb_up_neA (by omega), pb_up_neA (by omega), pb_up_neA (by omega), pb_up_neA (by omega)]
theorem pq_mld_lo {S : pb_Sg} {M c b lo hi k : Nat} : ∀ i, 15 ≤ i → i ≤ 18 → ∀ j, j < k → pb_mld S M c b lo hi k (M + i) j = S (M + i) j := fun i i1 i2 j hj => by
  unfold pb_mld
  rw [pb_up_ne2 (by omega), pb_up_ne3 (by omega), pb_up_ne3 (by omega), pb_up_ne3 (by omega), pb_up_ne3 (by omega)]
theorem pq_mld_k {S : pb_Sg} {M c b lo hi k : Nat} : pb_mld S M c b lo hi k (M + 15) k = nI c ∧ pb_mld S M c b lo hi k (M + 16) k = nI b ∧ pb_mld S M c b lo hi k (M + 17) k = nI lo ∧ pb_mld S M c b lo hi k (M + 18) k = nI hi := by
  unfold pb_mld
  refine ⟨?_, ?_, ?_, ?_⟩
  · rw [pb_up_ne2 (by omega), pb_up_ne2 (by omega), pb_up_ne2 (by omega), pb_up_ne2 (by omega), pb_up_self]
  · rw [pb_up_ne2 (by omega), pb_up_ne2 (by omega), pb_up_ne2 (by omega), pb_up_self]
  · rw [pb_up_ne2 (by omega), pb_up_ne2 (by omega), pb_up_self]
  · rw [pb_up_ne2 (by omega), pb_up_self]
theorem pq_len {X n : Nat} {B par : Nat → Nat} {sz : Nat} {sk : pb_Sk} {rf : pb_Rf} {S S' : pb_Sg} (hsk : pq_sk X n B par sz sk rf) (h : pq_inv X n B par S S') {c b lo hi k : Nat} (hc : c < 5) (hb8 : b < 8) (hlo : lo ≤ hi) (hhi : hi < 400) (hk : S (X + 20) 2 = nI k) (hk40 : k < 40) : pq_inv X n B par (pb_up (pb_fillN S (X + 20 + 3 + c) lo (nI b) (hi + 1 - lo)) (X + 20) 2 ((pb_fillN S (X + 20 + 3 + c) lo (nI b) (hi + 1 - lo)) (X + 20) 2 + nI 1)) (pb_mld S' (X + 45) c b lo hi k) := by
  obtain ⟨⟨a1, a2, a3⟩, a4, a5, a6, k2, a7, a8, a9, a10⟩ := h
  have ek : k2 = k := by
    rw [hk] at a8
    exact ((nI_eq (by omega) (by omega)).mp a8).symm
  subst ek
  have cf : ∀ a, a ≠ X + 20 → a ≠ X + 20 + 3 + c → pb_up (pb_fillN S (X + 20 + 3 + c) lo (nI b) (hi + 1 - lo)) (X + 20) 2 ((pb_fillN S (X + 20 + 3 + c) lo (nI b) (hi + 1 - lo)) (X + 20) 2 + nI 1) a = S a := fun a e1 e2 => by rw [pb_up_neA e1, pb_fill_ne e2]
  have mM : ∀ j, j ≠ 20 → pb_mld S' (X + 45) c b lo hi k2 (X + 45) j = S' (X + 45) j := fun j hj => by
    unfold pb_mld
    rw [pb_up_ne3 hj, pb_up_neA (by omega), pb_up_neA (by omega), pb_up_neA (by omega), pb_up_neA (by omega)]
  refine ⟨⟨by rw [cf X (by omega) (by omega), a1], by rw [mM 8 (by omega), a2], by rw [pq_mld_ne (by omega) (by omega), a3.1], fun c c1 c2 => by rw [pq_mld_ne (by omega) (by omega), a3.2 c c1 c2]⟩, fun d hd => (a4 d hd).of (fun a e1 e2 => by have := pq_bl hsk hd; exact cf a (by omega) (by omega)) (fun i j hi9 => by rw [pq_mld_ne (by unfold pq_oB at hi9; omega) (by unfold pq_oB at hi9; omega)]), fun d d0 hd => (a5 d d0 hd).of (fun a e1 e2 e3 => by have := pq_bl hsk hd; exact cf a (by omega) (by omega)) (fun i j hi9 => by rw [pq_mld_ne (by unfold pq_oC at hi9; omega) (by unfold pq_oC at hi9; omega)]), fun i hi9 => ?_, k2 + 1, by omega, ?_, ?_, fun i hi9 d hd y => ?_⟩
  · rw [cf _ (by omega) (by omega), pq_mld_ne (by omega) (by omega), a6 i hi9]
  · rw [pb_up_self, pb_fill_ne (by omega), a8, nI_add]
  · unfold pb_mld
    rw [pb_up_self, nI_add]
  · unfold pq_mh2
    rw [pq_mh2_lt (S := S') k2 pq_mld_lo, pq_mld_k.1, pq_mld_k.2.1, pq_mld_k.2.2.1, pq_mld_k.2.2.2, a10 i hi9 d hd y, pb_up_ne2 (show X + 20 + 3 + i ≠ X + 20 by omega), pb_fill_at]
    by_cases e : i = c ∧ lo ≤ d ∧ d ≤ hi
    · obtain ⟨rfl, e2, e3⟩ := e
      rw [if_pos (show nI i = nI i ∧ nI lo ≤ nI d ∧ nI d ≤ nI hi from ⟨rfl, nI_le e2 (by omega), nI_le e3 (by omega)⟩), if_pos (show X + 20 + 3 + i = X + 20 + 3 + i ∧ lo ≤ d ∧ d < lo + (hi + 1 - lo) from ⟨rfl, e2, by omega⟩), if_neg (show ¬ nI b = -1 from pb_m1_ne (by omega))]
    · rw [if_neg (show ¬ (nI c = nI i ∧ nI lo ≤ nI d ∧ nI d ≤ nI hi) from fun q => e ⟨((nI_eq (by omega) (by omega)).mp q.1).symm, (nI_leI (by omega) (by omega)).mp q.2.1, (nI_leI (by omega) (by omega)).mp q.2.2⟩), if_neg (show ¬ (X + 20 + 3 + i = X + 20 + 3 + c ∧ lo ≤ d ∧ d < lo + (hi + 1 - lo)) from fun q => e ⟨by omega, q.2.1, by omega⟩)]
set_option maxHeartbeats 1000000 in
theorem pq_st_give {l : Launch} (hfl : l.stackTraces = false) {X sz : Nat} {sk : pb_Sk} {rf : pb_Rf} {sg : pb_Sg} (hI : pq_INV X sz sk rf sg) (p0 : Int32) (p1 : Int32) : pq_stp l mL_give mX8_give X [.int p0, .int p1] (fun _ => True) sz sk rf sg := by
  obtain ⟨n, B, par, hsk, hinv⟩ := hI
  obtain ⟨hX, hl, hm, hO, hz, hB⟩ := id hsk
  have hn8 := pq_n8 hsk
  have hn := hinv.1.2.1
  by_cases hx : ∃ b, b < n ∧ p1 = nI b
  · obtain ⟨b, hb, rfl⟩ := hx
    have hbl := pq_bl hsk hb
    by_cases hbad : nI 0 ≤ p0 ∧ p0 ≤ nI 4
    · obtain ⟨c, hc4, rfl⟩ := pq_rng (by omega) hbad
      have hc : c < 5 := by omega
      obtain ⟨v, hv⟩ : ∃ v, (sg (X + 20 + 1) c : Int32) = v := ⟨_, rfl⟩
      have hS : pq_inv X n B par sg (pb_up (pb_up sg (X + 20 + 1) c (nI b)) (X + 70) 0 v) := pq_in0 hinv (fun a h1 h2 => pb_up_neA (by omega))
      have hT := pq_up_M (x := nI 0) hS
      have hq := hT.2.1 b hb
      refine pq_stp_okv hv hsk trivial (by omega) (ok_L_give hfl hX.1 hO (d9 := 7) (by omega) (c_X7_give hfl hX hb hc)) (c_X8_give hfl hm hS.1.2.1 hn8 hb hc) (by rw [pb_up_neA (by omega)]; exact pb_up_self) ?_ (fun a ha => by rw [pb_up_neA (by omega), pb_up_neA (by omega)]) (pq_giv hsk hT)
      exact hT.2.2.2.1 c hc
    · exact pq_stp_x0 hsk hinv (k := 2) (by omega) trivial (by omega) (x2_L_give hfl hX.1 hO (d9 := 8) (by omega) (x2_X7_give hfl hX hb hbad)) (fun sz' => x2_X8_give hfl hm hn hn8 hb hbad)
  · have hx2 : ∀ b, b < n → ¬ p1 = nI b := fun b hb q => hx ⟨b, hb, q⟩
    exact pq_stp_x0 hsk hinv (k := 1) (by omega) trivial (by omega) (x1_L_give hfl hX.1 hO (d9 := 7) (by omega) (x1_X7_give hfl hX hx2)) (fun sz' => x1_X8_give hfl hm hn hn8 hx2)
set_option maxHeartbeats 1000000 in
theorem pq_st_lend {l : Launch} (hfl : l.stackTraces = false) {X sz : Nat} {sk : pb_Sk} {rf : pb_Rf} {sg : pb_Sg} (hI : pq_INV X sz sk rf sg) (p0 : Int32) (p1 : Int32) (p2 : Int32) (p3 : Int32) : pq_stp l mL_lend mX8_lend X [.int p0, .int p1, .int p2, .int p3] (fun _ => True) sz sk rf sg := by
  obtain ⟨n, B, par, hsk, hinv⟩ := hI
  obtain ⟨hX, hl, hm, hO, hz, hB⟩ := id hsk
  have hn8 := pq_n8 hsk
  have hn := hinv.1.2.1
  by_cases hx : ∃ b, b < n ∧ p1 = nI b
  · obtain ⟨b, hb, rfl⟩ := hx
    have hbl := pq_bl hsk hb
    by_cases hbad : (nI 0 ≤ p0 ∧ p0 ≤ nI 4) ∧ (nI 0 ≤ p2 ∧ p2 ≤ nI 399) ∧ (p2 ≤ p3 ∧ p3 ≤ nI 399)
    · obtain ⟨c, hc4, rfl⟩ := pq_rng (by omega) hbad.1
      obtain ⟨lo, hlo9, rfl⟩ := pq_rng (by omega) hbad.2.1
      obtain ⟨hi, hhi9, rfl⟩ := pq_rng (by omega) ⟨Int32.le_trans hbad.2.1.1 hbad.2.2.1, hbad.2.2.2⟩
      have hc : c < 5 := by omega
      have hlo : lo ≤ hi := (nI_leI (by omega) (by omega)).mp hbad.2.2.1
      have hhi : hi < 400 := by omega
      obtain ⟨k, hk40, hk7, hk8, -⟩ := pq_inv_hd hinv
      by_cases hk : k = 40
      · subst hk
        exact pq_stp_x0 hsk hinv (k := 3) (by omega) trivial (by omega) (x3_L_lend hfl hX.1 hO (d9 := 8) (by omega) (x3_X7_lend hfl hX hb hc hlo hhi hk7)) (fun sz' => x3_X8_lend hfl hm hn hn8 hb hc hlo hhi hk8)
      · have hk39 : k < 40 := by omega
        obtain ⟨v, hv⟩ : ∃ v, (nI (k + 1) : Int32) = v := ⟨_, rfl⟩
        have hS : pq_inv X n B par sg (pb_up (pb_up (pb_fillN sg (X + 20 + 3 + c) lo (nI b) (hi + 1 - lo)) (X + 20) 2 ((pb_fillN sg (X + 20 + 3 + c) lo (nI b) (hi + 1 - lo)) (X + 20) 2 + nI 1)) (X + 70) 0 v) := pq_in0 hinv (fun a h1 h2 => by rw [pb_up_neA (by omega), pb_fill_ne (by omega)])
        have hT := pq_up_M (x := nI 0) hS
        skip
        refine pq_stp_okv hv hsk trivial (by omega) (ok_L_lend hfl hX.1 hO (d9 := 7) (by omega) (c_X7_lend hfl hX hb hc hlo hhi hk7 hk39)) (c_X8_lend hfl hm hS.1.2.1 hn8 hb hc hlo hhi (k := k) (by rw [pb_up_neA (by omega), pb_up_neA (by omega), pb_fill_ne (by omega)]; exact hk8) hk39) (by unfold pb_mld; rw [pb_up_ne3 (by omega), pb_up_neA (by omega), pb_up_neA (by omega), pb_up_neA (by omega), pb_up_neA (by omega)]; exact pb_up_self) ?_ (fun a ha => by rw [pq_mld_ne (by omega) (by omega), pb_up_neA (by omega)]) (pq_len hsk hT hc (by omega) hlo hhi hk7 hk39)
        rfl
    · exact pq_stp_x0 hsk hinv (k := 2) (by omega) trivial (by omega) (x2_L_lend hfl hX.1 hO (d9 := 8) (by omega) (x2_X7_lend hfl hX hb hbad)) (fun sz' => x2_X8_lend hfl hm hn hn8 hb hbad)
  · have hx2 : ∀ b, b < n → ¬ p1 = nI b := fun b hb q => hx ⟨b, hb, q⟩
    exact pq_stp_x0 hsk hinv (k := 1) (by omega) trivial (by omega) (x1_L_lend hfl hX.1 hO (d9 := 7) (by omega) (x1_X7_lend hfl hX hx2)) (fun sz' => x1_X8_lend hfl hm hn hn8 hx2)
