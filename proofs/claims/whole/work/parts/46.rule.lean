/-! The rule, class and reference side by side. -/
theorem pq_pbt_0 {s p a k : Nat} {S : pb_Sg} {U : Int32} (h : (pb_nbt S s p U a 16).1 = none) : pb_pbt s p a (k + 1) S U = S := by
  unfold pb_pbt
  rw [h]
theorem pq_pbt_1 {s p a k t : Nat} {S : pb_Sg} {U : Int32} (h : (pb_nbt S s p U a 16).1 = some t) (he : pb_ear S s p t = none) : pb_pbt s p a (k + 1) S U = pb_pbt s p a k S (pb_off U t) := by
  conv => lhs; unfold pb_pbt
  rw [h]
  simp only [he]
  rfl
theorem pq_pbt_2 {s p a k t d : Nat} {S : pb_Sg} {U : Int32} (h : (pb_nbt S s p U a 16).1 = some t) (he : pb_ear S s p t = some d) : pb_pbt s p a (k + 1) S U = pb_pbt s p a k (pb_place S s p t d) (pb_off U t) := by
  conv => lhs; unfold pb_pbt
  rw [h]
  simp only [he]
  rfl
theorem pq_nb.of {S T : pb_Sg} {p : Nat} (h : pq_nb S p) (e : ∀ t, t < 16 → T (p + 4) t = S (p + 4) t) : pq_nb T p := fun t ht j hj => by
  rw [e t ht]; exact h t ht j hj
theorem pq_off_sub {U : Int32} {t j : Nat} (ht : t < 16) (hj : j < 16) (h : pb_in (pb_off U t) j = true) : pb_in U j = true ∧ j ≠ t := by
  rw [pb_off_in (by omega) (by omega), Bool.and_eq_true] at h
  refine ⟨h.1, fun q => ?_⟩
  rw [decide_eq_true q] at h
  exact absurd h.2 (by decide)
theorem pq_off_O {P x : Int32} {t : Nat} (ht : t < 16) : pb_off (P &&& (x ^^^ (-1))) t = (P &&& ((x ||| (nI 1 <<< (nI t &&& 31))) ^^^ (-1))) := by
  apply pb_in_ext
  intro j hj
  rw [pb_off_in (by omega) hj, pb_in_and, pb_in_xor, pb_in_m1 hj, pb_in_and, pb_in_xor, pb_in_or, pb_in_bit (by omega) hj, pb_in_m1 hj]
  cases pb_in P j <;> cases pb_in x j <;> cases decide (j = t) <;> rfl
theorem pq_pbt {s p M q a : Nat} {P : Int32} (ha : pb_ap s p) (hsa : a < s ∨ s + 7 < a) : ∀ (k : Nat) (S S' : pb_Sg) (U O : Int32), pq_sr S S' s p M q → pq_nb S p → (∀ t, t < 16 → S a t = S' (M + 19) t) → (∀ t, t < 16 → pb_in U t = true → nI 0 < S' (M + 19) t) → (∀ t, t < 16 → pb_in U t = true → pb_has (S (p + 1)) t = true) → pb_cnt (pb_in U) 16 ≤ k → O = (P &&& (S s 2 ^^^ (-1))) → (∀ t, t < 16 → ¬ S' (M + 21) t = -1 → pb_in P t = true) → (∀ t, t < 16 → pb_in U t = true → pb_in P t = true) →
    pq_sr (pb_pbt s p a k S U) (pb_mul M q (k + 1) S' U O).1 s p M q ∧ (pb_mul M q (k + 1) S' U O).2 = (P &&& (pb_pbt s p a k S U s 2 ^^^ (-1))) ∧ (∀ t, t < 16 → ¬ (pb_mul M q (k + 1) S' U O).1 (M + 21) t = -1 → pb_in P t = true) ∧ (∀ b j, (b < s ∨ s + 7 < b) → pb_pbt s p a k S U b j = S b j) := by
  intro k
  induction k with
  | zero =>
    intro S S' U O h hn ht hp hh hc hO hF hU
    have e : pb_mnx S' M q U 16 = none := by
      cases e : pb_mnx S' M q U 16 with
      | none => rfl
      | some t =>
        obtain ⟨h1, h2⟩ := pb_mnx_lt e
        have := pb_off_cnt h1 h2
        omega
    rw [pb_mul_0 e]
    exact ⟨h, hO, hF, fun _ _ _ => rfl⟩
  | succ k ih =>
    intro S S' U O h hn ht hp hh hc hO hF hU
    have e0 := (pq_nbt h hn ht hp 16 (by omega)).1
    cases e : pb_mnx S' M q U 16 with
    | none =>
      rw [pb_mul_0 e, pq_pbt_0 (e0.trans e)]
      exact ⟨h, hO, hF, fun _ _ _ => rfl⟩
    | some t =>
      obtain ⟨h1, h2⟩ := pb_mnx_lt e
      have hcn := pb_off_cnt h1 h2
      have ee := pq_ear h h1 (hh t h1 h2)
      cases e2 : pb_mear S' M q t with
      | none =>
        rw [pb_mul_1 e e2, pq_pbt_1 (e0.trans e) (ee.trans e2)]
        exact ih S S' (pb_off U t) O h hn ht (fun j hj hi => hp j hj (pq_off_sub h1 hj hi).1) (fun j hj hi => hh j hj (pq_off_sub h1 hj hi).1) (by omega) hO hF (fun j hj hi => hU j hj (pq_off_sub h1 hj hi).1)
      | some d =>
        rw [pb_mul_2 e e2, pq_pbt_2 (e0.trans e) (ee.trans e2)]
        have hs := pq_place ha h h1 (ee.trans e2)
        have hwf := h.2.2.2.2.1
        have e19 := pb_mpl_ne (sg := S') (M := M) (q := q) (t := t) (f := d) (show M + 19 ≠ M + 21 by omega) (show M + 19 ≠ M + 22 by omega)
        obtain ⟨r1, r2, r3, r4⟩ := ih (pb_place S s p t d) (pb_mpl S' M q t d) (pb_off U t) (pb_off O t) hs (hn.of fun j hj => pb_place_p ha (by omega) hwf h1) (fun j hj => by rw [pq_place_out hwf h1 ha hsa, e19]; exact ht j hj) (fun j hj hi => by rw [e19]; exact hp j hj (pq_off_sub h1 hj hi).1) (fun j hj hi => by
            have h9 := hh j hj (pq_off_sub h1 hj hi).1
            unfold pb_has at h9 ⊢
            rw [pb_place_p ha (by omega) hwf h1]
            exact h9) (by omega) (by rw [hO, pb_place_0]; exact pq_off_O h1) (fun j hj hi => by
            rw [pb_mpl_21] at hi
            by_cases e3 : j = t
            · rw [e3]; exact hU t h1 h2
            · rw [if_neg e3] at hi; exact hF j hj hi) (fun j hj hi => hU j hj (pq_off_sub h1 hj hi).1)
        refine ⟨r1, r2, r3, fun b j hb => ?_⟩
        rw [r4 b j hb, pq_place_out hwf h1 ha hb]
/-- who holds the crews -/
def pq_hd (S S' : pb_Sg) (c M L : Nat) : Prop := ∀ i, i < 5 → ∀ d, d < 400 → pb_held S c i d = pb_mh S' M i (nI d) L
theorem pq_held_of {S T : pb_Sg} {c i d : Nat} (h1 : T (c + 3 + i) d = S (c + 3 + i) d) (h2 : T (c + 1) i = S (c + 1) i) : pb_held T c i d = pb_held S c i d := by
  unfold pb_held
  rw [h1, h2]
theorem pq_stD {S : pb_Sg} {s c k : Nat} {x : Int32} (hc : c + 7 < s ∨ s + 7 < c) (hk : k < 5) (n d : Nat) : pb_stD S s c x k n (s + 3 + k) d = if d < n then (if pb_held S c k d = x then -1 else -2) else S (s + 3 + k) d := by
  induction n with
  | zero => rfl
  | succ n ih =>
    show pb_up (pb_stD S s c x k n) (s + 3 + k) n _ (s + 3 + k) d = _
    rw [pb_up_at, pq_held_of (S := S) (pb_stD_ne (by omega) n n) (pb_stD_ne (by omega) n k), ih]
    by_cases e : d = n
    · rw [if_pos ⟨rfl, e⟩, e, if_pos (show n < n + 1 by omega)]
    · rw [if_neg (fun q => e q.2)]
      by_cases e2 : d < n
      · rw [if_pos e2, if_pos (show d < n + 1 by omega)]
      · rw [if_neg e2, if_neg (show ¬ d < n + 1 by omega)]
theorem pq_stC {S : pb_Sg} {s c i d : Nat} {x : Int32} (hc : c + 7 < s ∨ s + 7 < c) (n : Nat) (hn : n ≤ 5) (hi : i < n) (hd : d < 400) : pb_stC S s c x n (s + 3 + i) d = if pb_held S c i d = x then -1 else -2 := by
  induction n with
  | zero => omega
  | succ n ih =>
    show pb_stD (pb_stC S s c x n) s c x n 400 (s + 3 + i) d = _
    by_cases e : i = n
    · subst e
      rw [pq_stD hc (by omega), if_pos hd, pq_held_of (S := S) (pb_stC_out (by omega) i d (by omega)) (pb_stC_out (by omega) i i (by omega))]
    · rw [pb_stD_ne (by omega), ih (by omega) (by omega)]
theorem pq_start {S S' : pb_Sg} {s c p M q : Nat} {x : Int32} (hp : pb_ap s p) (hc : c + 7 < s ∨ s + 7 < c) (h : pq_eq S S' p M q) (hw : pb_wf S p) (h1 : ∀ t, t < 16 → S' (M + 21) t = -1) (h2 : ∀ k, k < 2000 → S' (M + 22) k = -1) (h3 : ∀ i, i < 5 → ∀ d, d < 400 → S' (M + 23) (400 * i + d) = pb_b (decide (pb_held S c i d = x))) : pq_sr (pb_stC S s c x 5) S' s p M q := by
  have hp2 := hp
  unfold pb_ap at hp2
  refine ⟨h.of (fun k hk j hj => pb_stC_out (by omega) 5 j (by omega)) (fun _ _ _ _ _ => rfl), fun t ht => ?_, fun t ht => ?_, fun i hi d hd => ?_, pb_si_start hp hw⟩
  · rw [pb_stC_1 5 t (by omega) ht, h1 t ht]
  · rw [pb_stC_0 5 (by omega), pb_in_0, h1 t ht]
    rfl
  · rw [pq_stC hc 5 (by omega) hi hd, h2 (400 * i + d) (by omega), h3 i hi d hd]
    by_cases e : pb_held S c i d = x
    · rw [if_pos e, decide_eq_true e]
      exact ⟨⟨fun _ => ⟨by decide, rfl⟩, fun _ => rfl⟩, by decide⟩
    · rw [if_neg e, decide_eq_false e]
      exact ⟨⟨fun q => absurd q (by decide), fun q => absurd rfl q.1⟩, by decide⟩
theorem pq_mh_of {S T : pb_Sg} {M i : Nat} {x : Int32} (h : ∀ k, 14 ≤ k → k ≤ 18 → T (M + k) = S (M + k)) (n : Nat) : pb_mh T M i x n = pb_mh S M i x n := by
  induction n with
  | zero => exact congrFun (h 14 (by omega) (by omega)) i
  | succ n ih =>
    unfold pb_mh
    rw [ih, h 15 (by omega) (by omega), h 16 (by omega) (by omega), h 17 (by omega) (by omega), h 18 (by omega) (by omega)]
theorem pq_mfd {S : pb_Sg} {M b L k : Nat} (n : Nat) : pb_mfd S M b L n (M + 23) k = if k < n then pb_b (decide (pb_mh S M (k / 400) (nI (k % 400)) L = nI b)) else S (M + 23) k := by
  induction n with
  | zero => rfl
  | succ n ih =>
    show pb_up (pb_mfd S M b L n) (M + 23) n _ (M + 23) k = _
    rw [pb_up_at, pq_mh_of (S := S) (fun j h1 h2 => pb_mfd_ne (by omega) n), ih]
    by_cases e : k = n
    · rw [if_pos ⟨rfl, e⟩, if_pos (by omega), e]
    · rw [if_neg (fun q => e q.2)]
      by_cases e2 : k < n
      · rw [if_pos e2, if_pos (by omega)]
      · rw [if_neg e2, if_neg (by omega)]
theorem pq_div {i d : Nat} (hd : d < 400) : (400 * i + d) / 400 = i ∧ (400 * i + d) % 400 = d := by omega
/-- what the rule comes to, class and reference -/
theorem pq_rule {S S' : pb_Sg} {X p M q g b L : Nat} (hpX : pb_apX X p) (h : pq_eq S S' p M q) (hw : pb_wf S p) (hn : pq_nb S p) (hh : pq_hd S S' (X + 20) M L) (hg : g < X + 34 ∨ X + 44 < g) (hb : S g 0 = nI b) :
    pq_sr (pb_pbr S X p g) (pb_mun S' M q b L).1 (X + 37) p M q ∧ (pb_mun S' M q b L).2 = (pb_pres (S (p + 1)) &&& (pb_pbr S X p g (X + 37) 2 ^^^ (-1))) ∧ (∀ t, t < 16 → ¬ (pb_mun S' M q b L).1 (M + 21) t = -1 → pb_in (pb_pres (S (p + 1))) t = true) ∧ (∀ a j, (a < X + 34 ∨ X + 44 < a) → pb_pbr S X p g a j = S a j) := by
  have hpX2 := hpX
  unfold pb_apX at hpX2
  have haw : pq_aw (X + 34) p := by unfold pq_aw; omega
  obtain ⟨m1, m2⟩ := pq_meas (S := S) (S' := S') haw h
  have hout : ∀ a j, (a < X + 34 ∨ X + 44 < a) → pb_pb2 S X p g a j = S a j := fun a j ha => by
    unfold pb_pb2
    rw [pb_stC_out (by omega) 5 j (by omega), pb_meas_ne (by omega)]
  have e0 : pb_meas S (X + 34) p g 0 = nI b := by rw [pb_meas_ne (by omega), hb]
  have hsr : pq_sr (pb_pb2 S X p g) (pb_mS0 S' M q b L) (X + 37) p M q := by
    unfold pb_pb2
    rw [e0]
    refine pq_start hpX.ap (by omega) (h.of (fun k hk j hj => pb_meas_ne (by omega) j) (fun k h1 h2 j hj => congrFun (pb_mS0_ne (by omega)) _)) (pb_wf_meas hpX hw) (fun t ht => pb_mS0_21 ht) (fun k hk => ?_) (fun i hi d hd => ?_)
    · unfold pb_mS0
      rw [pb_mfd_ne (by omega), pb_fill_at, if_pos (by omega)]
    · unfold pb_mS0
      rw [pq_mfd, if_pos (by omega), (pq_div hd).1, (pq_div hd).2, pq_held_of (S := S) (pb_meas_ne (by omega) d) (pb_meas_ne (by omega) i), hh i hi d hd]
      congr 3
      rw [pq_mh_of (S := S') (fun j h1 h2 => by rw [pb_fill_ne (by omega), pb_fill_ne (by omega), pb_gK_ne (by omega)])]
  have eU : pb_pres (pb_pb2 S X p g (p + 1)) = pb_pres (S (p + 1)) := by
    unfold pb_pres
    refine pb_set_congr fun i hi => ?_
    unfold pb_has
    rw [hout (p + 1) i (by omega)]
  have eU2 : pb_mU0 (pb_mS0 S' M q b L) M q = pb_pres (S (p + 1)) := by
    unfold pb_mU0 pb_pres
    refine pb_set_congr fun i hi => ?_
    unfold pb_has
    rw [pb_mS0_ne (by omega), (h i hi).1]
  have hin : ∀ t, t < 16 → pb_in (pb_pres (S (p + 1))) t = true → pb_has (S (p + 1)) t = true := fun t ht hi => by
    unfold pb_pres at hi
    rw [pb_set_in _ 16 (by omega) t (by omega), Bool.and_eq_true] at hi
    exact hi.2
  have e19 : ∀ t, pb_mS0 S' M q b L (M + 19) t = pb_gK S' M q 16 (M + 19) t := fun t => by
    unfold pb_mS0
    rw [pb_mfd_ne (by omega), pb_fill_ne (by omega), pb_fill_ne (by omega)]
  have r := pq_pbt (M := M) (q := q) (P := pb_pres (S (p + 1))) hpX.ap (a := X + 34 + 1) (by omega) 16 (pb_pb2 S X p g) (pb_mS0 S' M q b L) (pb_pres (S (p + 1))) (pb_pres (S (p + 1))) hsr (hn.of fun t ht => hout _ _ (by omega)) (fun t ht => by
      rw [e19]
      unfold pb_pb2
      rw [pb_stC_out (by omega) 5 t (by omega)]
      exact (m1 t ht).1) (fun t ht hi => by
      rw [e19]
      have h9 := hin t ht hi
      unfold pb_has at h9
      rw [decide_eq_true_iff, (h t ht).1] at h9
      exact Int32.lt_of_lt_of_le h9 (pq_gK_ge ht 16)) (fun t ht hi => by
      have h9 := hin t ht hi
      unfold pb_has at h9 ⊢
      rw [hout (p + 1) t (by omega)]
      exact h9) (pb_cnt_le _ _) (by
      unfold pb_pb2
      rw [pb_stC_0 5 (by omega)]
      apply pb_in_ext
      intro j hj
      rw [pb_in_and, pb_in_xor, pb_in_0, pb_in_m1 hj]
      simp) (fun t ht hi => absurd (pb_mS0_21 ht) hi) (fun t ht hi => hi)
  unfold pb_pbr pb_mun
  rw [eU, eU2]
  refine ⟨r.1, r.2.1, r.2.2.1, fun a j ha => ?_⟩
  rw [r.2.2.2 a j (by omega), hout a j ha]
/-- the last day by the rule -/
theorem pq_mlast {S S' : pb_Sg} {s p M q : Nat} (h : pq_sr S S' s p M q) (n : Nat) (hn : n ≤ 16) : pb_eo S s p n = pb_mlast S' M q n ∧ (-1 : Int32) ≤ pb_eo S s p n := by
  induction n with
  | zero => exact ⟨rfl, Int32.le_refl _⟩
  | succ n ih =>
    obtain ⟨i1, i2⟩ := ih (by omega)
    unfold pb_eo pb_mlast pb_mle
    rw [h.2.2.1 n (by omega)]
    by_cases e : S' (M + 21) n = -1
    · rw [if_pos e, decide_eq_true e, if_neg (by decide), ← i1]
      refine ⟨?_, i2⟩
      unfold pb_mx
      rw [if_neg (Int32.not_lt.mpr i2)]
    · rw [if_neg e, decide_eq_false e, if_pos (by decide), i1, h.2.1 n (by omega), (h.1 n (by omega)).1]
      rw [i1] at i2
      exact ⟨rfl, Int32.le_trans i2 (pq_mx_l _ _)⟩
theorem pq_mlast_none {S' : pb_Sg} {M q : Nat} (h : ∀ t, t < 16 → S' (M + 21) t = -1) (n : Nat) (hn : n ≤ 16) : pb_mlast S' M q n = -1 := by
  induction n with
  | zero => rfl
  | succ n ih =>
    unfold pb_mlast pb_mle
    rw [ih (by omega), if_pos (h n (by omega))]
    decide
theorem pq_neg {x : Int32} (h : pb_in x 31 = false) : ¬ x < 0 := by
  intro q
  have h1 := Int32.lt_iff_toInt_lt.mp q
  have h2 : x.toBitVec.msb = true := by
    rw [BitVec.msb_eq_toInt]
    exact decide_eq_true h1
  rw [BitVec.msb_eq_getLsbD_last] at h2
  unfold pb_in at h
  rw [h] at h2
  cases h2
