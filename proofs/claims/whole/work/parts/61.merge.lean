/-! Merging and bringing up to date, class and reference side by side. -/
theorem pq_copy_ne {S : pb_Sg} {p r a : Nat} (h : a < p + 1 ∨ p + 4 < a) (n : Nat) : pb_copyN S p r n a = S a := by
  induction n with
  | zero => rfl
  | succ n ih =>
    show pb_put (pb_copyN S p r n) p n _ _ _ _ a = _
    rw [pq_put_ne h, ih]
theorem pq_copy {S : pb_Sg} {p r : Nat} (h : p + 3 < r ∨ r + 3 < p) (n : Nat) : ∀ k, 1 ≤ k → k ≤ 4 → ∀ t, pb_copyN S p r n (p + k) t = if t < n then S (r + k) t else S (p + k) t := by
  induction n with
  | zero => intro k _ _ t; rw [if_neg (by omega)]; rfl
  | succ n ih =>
    intro k k1 k4 t
    have e1 : ∀ j, 1 ≤ j → j ≤ 4 → pb_copyN S p r n (r + j) = S (r + j) := fun j j1 j4 => pq_copy_ne (by omega) n
    show pb_put (pb_copyN S p r n) p n (pb_copyN S p r n (r + 1) n) (pb_copyN S p r n (r + 2) n) (pb_copyN S p r n (r + 3) n) (pb_copyN S p r n (r + 4) n) (p + k) t = _
    rw [e1 1 (by omega) (by omega), e1 2 (by omega) (by omega), e1 3 (by omega) (by omega), e1 4 (by omega) (by omega)]
    have h9 : k = 1 ∨ k = 2 ∨ k = 3 ∨ k = 4 := by omega
    by_cases e : t = n
    · rw [if_pos (show t < n + 1 by omega), e]
      rcases h9 with rfl | rfl | rfl | rfl
      · rw [pq_put_1, if_pos rfl]
      · rw [pq_put_2, if_pos rfl]
      · rw [pq_put_3, if_pos rfl]
      · rw [pq_put_4, if_pos rfl]
    · have e2 : (if t < n + 1 then S (r + k) t else S (p + k) t) = pb_copyN S p r n (p + k) t := by
        rw [ih k k1 k4 t]
        by_cases e3 : t < n
        · rw [if_pos e3, if_pos (by omega)]
        · rw [if_neg e3, if_neg (by omega)]
      rw [e2]
      rcases h9 with rfl | rfl | rfl | rfl
      · rw [pq_put_1, if_neg e]
      · rw [pq_put_2, if_neg e]
      · rw [pq_put_3, if_neg e]
      · rw [pq_put_4, if_neg e]
theorem pq_mcN {S : pb_Sg} {M f o : Nat} (h : f ≠ o) (n : Nat) (hn : n ≤ 16) : ∀ k, 1 ≤ k → k ≤ 4 → ∀ j, pb_mcN S M f o n (M + k) j = if 16 * o ≤ j ∧ j < 16 * o + n then S (M + k) (16 * f + (j - 16 * o)) else S (M + k) j := by
  induction n with
  | zero => intro k _ _ j; rw [if_neg (by omega)]; rfl
  | succ n ih =>
    intro k k1 k4 j
    have ih := ih (by omega)
    have e1 : ∀ i, 1 ≤ i → i ≤ 4 → pb_mcN S M f o n (M + i) (16 * f + n) = S (M + i) (16 * f + n) := fun i i1 i4 => by rw [ih i i1 i4, if_neg (by omega)]
    show pb_put (pb_mcN S M f o n) M (16 * o + n) (pb_mcN S M f o n (M + 1) (16 * f + n)) (pb_mcN S M f o n (M + 2) (16 * f + n)) (pb_mcN S M f o n (M + 3) (16 * f + n)) (pb_mcN S M f o n (M + 4) (16 * f + n)) (M + k) j = _
    rw [e1 1 (by omega) (by omega), e1 2 (by omega) (by omega), e1 3 (by omega) (by omega), e1 4 (by omega) (by omega)]
    have h9 : k = 1 ∨ k = 2 ∨ k = 3 ∨ k = 4 := by omega
    by_cases e : j = 16 * o + n
    · rw [if_pos (show 16 * o ≤ j ∧ j < 16 * o + (n + 1) by omega), show 16 * f + (j - 16 * o) = 16 * f + n by omega]
      rcases h9 with rfl | rfl | rfl | rfl
      · rw [pq_put_1, if_pos e]
      · rw [pq_put_2, if_pos e]
      · rw [pq_put_3, if_pos e]
      · rw [pq_put_4, if_pos e]
    · have e2 : (if 16 * o ≤ j ∧ j < 16 * o + (n + 1) then S (M + k) (16 * f + (j - 16 * o)) else S (M + k) j) = pb_mcN S M f o n (M + k) j := by
        rw [ih k k1 k4 j]
        by_cases e3 : 16 * o ≤ j ∧ j < 16 * o + n
        · rw [if_pos e3, if_pos (by omega)]
        · rw [if_neg e3, if_neg (by omega)]
      rw [e2]
      rcases h9 with rfl | rfl | rfl | rfl
      · rw [pq_put_1, if_neg e]
      · rw [pq_put_2, if_neg e]
      · rw [pq_put_3, if_neg e]
      · rw [pq_put_4, if_neg e]
theorem pq_mcN_o {S : pb_Sg} {M f o k j : Nat} (h : f ≠ o) (k1 : 1 ≤ k) (hj : k ≤ 4 → ¬ (16 * o ≤ j ∧ j < 16 * o + 16)) : pb_mcN S M f o 16 (M + k) j = S (M + k) j := by
  by_cases e : k ≤ 4
  · rw [pq_mcN h 16 (by omega) k k1 e j, if_neg (hj e)]
  · rw [pb_mcN_ne (by omega)]
theorem pq_eq_copy {S S' : pb_Sg} {p r M f o : Nat} (h : pq_eq S S' r M f) (hp : p + 3 < r ∨ r + 3 < p) (hf : f ≠ o) : pq_eq (pb_copyN S p r 16) (pb_mcN S' M f o 16) p M o := fun t ht => by
  have e1 : ∀ k, 1 ≤ k → k ≤ 4 → pb_copyN S p r 16 (p + k) t = S (r + k) t := fun k k1 k4 => by rw [pq_copy hp 16 k k1 k4 t, if_pos ht]
  have e2 : ∀ k, 1 ≤ k → k ≤ 4 → pb_mcN S' M f o 16 (M + k) (16 * o + t) = S' (M + k) (16 * f + t) := fun k k1 k4 => by
    rw [pq_mcN hf 16 (by omega) k k1 k4, if_pos (by omega), show 16 * o + t - 16 * o = t by omega]
  rw [e1 1 (by omega) (by omega), e1 2 (by omega) (by omega), e1 3 (by omega) (by omega), e1 4 (by omega) (by omega), e2 1 (by omega) (by omega), e2 2 (by omega) (by omega), e2 3 (by omega) (by omega), e2 4 (by omega) (by omega)]
  exact h t ht
theorem pq_gp_copy {S : pb_Sg} {p r : Nat} (h : pq_gpN S r 16) (hp : p + 3 < r ∨ r + 3 < p) : pq_gpN (pb_copyN S p r 16) p 16 := pq_gpN_of h (fun k k1 k4 t ht => by rw [pq_copy hp 16 k k1 k4 t, if_pos ht])
/-- the joined plan becomes that of a branch that keeps its base -/
theorem pq_bec {X n : Nat} {B par : Nat → Nat} {sz : Nat} {sk : pb_Sk} {rf : pb_Rf} {S S' : pb_Sg} (hsk : pq_sk X n B par sz sk rf) (h : pq_inv X n B par S S') {f : Nat} (hf : f < n) (hj : pq_eq S S' (X + 29) (X + 45) 16) (hg : pq_gpN S (X + 29) 16) : pq_inv X n B par (pb_up (pb_copyN S (B f + 1) (X + 29) 16) (B f + 11) 6 (nI 0)) (pb_up (pb_mcN S' (X + 45) 16 f 16) (X + 45 + 13) f (nI 0)) ∧ pq_eq (pb_up (pb_copyN S (B f + 1) (X + 29) 16) (B f + 11) 6 (nI 0)) (pb_up (pb_mcN S' (X + 45) 16 f 16) (X + 45 + 13) f (nI 0)) (X + 29) (X + 45) 16 ∧ pq_gpN (pb_up (pb_copyN S (B f + 1) (X + 29) 16) (B f + 11) 6 (nI 0)) (X + 29) 16 := by
  have hbl := pq_bl hsk hf
  have hn8 := (pq_n8 hsk).2
  have i1 := h.2.1 f hf
  obtain ⟨nx, s, hr⟩ := i1.2.2.2.2
  have cn : ∀ a, (a < B f + 2 ∨ B f + 5 < a) → a ≠ B f + 11 → pb_up (pb_copyN S (B f + 1) (X + 29) 16) (B f + 11) 6 (nI 0) a = S a := fun a h1 h2 => by rw [pb_up_neA h2, pq_copy_ne (by omega)]
  have mn : ∀ k j, 1 ≤ k → (k ≤ 4 → ¬ (16 * f ≤ j ∧ j < 16 * f + 16)) → (k = 13 → j ≠ f) → pb_up (pb_mcN S' (X + 45) 16 f 16) (X + 45 + 13) f (nI 0) (X + 45 + k) j = S' (X + 45 + k) j := fun k j k1 h1 h2 => by
    rw [pb_up_at, if_neg (fun q => h2 (by omega) q.2), pq_mcN_o (by omega) k1 h1]
  have mM : pb_up (pb_mcN S' (X + 45) 16 f 16) (X + 45 + 13) f (nI 0) (X + 45) = S' (X + 45) := by rw [pb_up_neA (by omega), pb_mcN_ne (by omega)]
  refine ⟨h.upd hsk hf (fun a ha => cn a (by omega) (by omega)) (fun k j k1 k18 hk hk2 => mn k j k1 (fun k4 q => hk (by unfold pq_oB; omega)) (fun e q => hk (by unfold pq_oB; omega))) (by rw [mM]) (by rw [mM]) ⟨?_, ?_, ?_, ?_, nx, 0, ?_⟩ (fun f0 => (h.2.2.1 f f0 hf).of (fun a e1 e2 e3 => cn a (by omega) (by omega)) (fun k j hk => mn k j (by unfold pq_oC at hk; omega) (fun k4 => by unfold pq_oC at hk; omega) (fun e => by unfold pq_oC at hk; omega))), ?_, ?_⟩
  · exact (pq_eq_copy hj (by omega) (by omega)).of (fun k hk t ht => by rw [pb_up_neA (by omega)]) (fun k k1 k4 t ht => by rw [pb_up_neA (by omega)])
  · exact pq_gpN_of (pq_gp_copy (p := B f + 1) hg (by omega)) (fun k k1 k4 t ht => by rw [pb_up_neA (by omega)])
  · rw [cn _ (by omega) (by omega), i1.2.2.1]
  · rw [cn _ (by omega) (by omega), mn 6 f (by omega) (by omega) (by omega), i1.2.2.2.1]
  · refine pq_hr_0 hr.1 ?_ pb_up_self pb_up_self
    rw [pb_up_ne3 (by omega), pq_copy_ne (by omega), hr.2.2.1]
  · exact hj.of (fun k hk t ht => by rw [cn _ (by omega) (by omega)]) (fun k k1 k4 t ht => mn k _ k1 (by omega) (by omega))
  · exact pq_gpN_of hg (fun k k1 k4 t ht => by rw [cn _ (by omega) (by omega)])
/-- the joined plan becomes that of a branch; its base is another plan now -/
theorem pq_sft {X n : Nat} {B par : Nat → Nat} {sz : Nat} {sk : pb_Sk} {rf : pb_Rf} {S S' : pb_Sg} (hsk : pq_sk X n B par sz sk rf) (h : pq_inv X n B par S S') {b r q : Nat} (hb : b < n) (b0 : 0 < b) (hj : pq_eq S S' (X + 29) (X + 45) 16) (hg : pq_gpN S (X + 29) 16) (hr : pq_eq S S' r (X + 45) q) (hrb : r + 4 < B b ∨ B b + 17 < r) (hq1 : q ≠ b) (hq2 : q ≠ 8 + b) : pq_inv X n B par (pb_sf (pb_copyN S (B b + 1) (X + 29) 16) (B b) r) (pb_fillN (pb_mcN (pb_up (pb_mcN S' (X + 45) 16 b 16) (X + 45 + 13) b (nI 0)) (X + 45) q (8 + b) 16) (X + 45 + 7) (16 * b) (-1) 16) := by
  have hbl := pq_bl hsk hb
  have hn8 := (pq_n8 hsk).2
  have i1 := h.2.1 b hb
  have i2 := h.2.2.1 b b0 hb
  obtain ⟨nx, s, hh⟩ := i1.2.2.2.2
  unfold pb_sf
  have cn : ∀ a, (a < B b + 2 ∨ B b + 10 < a ∨ a = B b + 6) → a ≠ B b + 11 → a ≠ B b + 17 → pb_fillN (pb_up (pb_copyN (pb_copyN S (B b + 1) (X + 29) 16) (B b + 6) r 16) (B b + 11) 6 (nI 0)) (B b + 17) 0 (-1) 16 a = S a := fun a h1 h2 h3 => by rw [pb_fill_ne h3, pb_up_neA h2, pq_copy_ne (by omega), pq_copy_ne (by omega)]
  have mn : ∀ k j, 1 ≤ k → (k ≤ 4 → ¬ (16 * b ≤ j ∧ j < 16 * b + 16) ∧ ¬ (16 * (8 + b) ≤ j ∧ j < 16 * (8 + b) + 16)) → (k = 13 → j ≠ b) → (k = 7 → ¬ (16 * b ≤ j ∧ j < 16 * b + 16)) → pb_fillN (pb_mcN (pb_up (pb_mcN S' (X + 45) 16 b 16) (X + 45 + 13) b (nI 0)) (X + 45) q (8 + b) 16) (X + 45 + 7) (16 * b) (-1) 16 (X + 45 + k) j = S' (X + 45 + k) j := fun k j k1 h1 h2 h3 => by
    rw [pb_fill_at, if_neg (fun q => h3 (by omega) q.2), pq_mcN_o hq2 k1 (fun k4 => (h1 k4).2), pb_up_at, if_neg (fun q => h2 (by omega) q.2), pq_mcN_o (by omega) k1 (fun k4 => (h1 k4).1)]
  have mM : pb_fillN (pb_mcN (pb_up (pb_mcN S' (X + 45) 16 b 16) (X + 45 + 13) b (nI 0)) (X + 45) q (8 + b) 16) (X + 45 + 7) (16 * b) (-1) 16 (X + 45) = S' (X + 45) := by rw [pb_fill_ne (by omega), pb_mcN_ne (by omega), pb_up_neA (by omega), pb_mcN_ne (by omega)]
  have E1 : pq_eq (pb_copyN S (B b + 1) (X + 29) 16) (pb_up (pb_mcN S' (X + 45) 16 b 16) (X + 45 + 13) b (nI 0)) (B b + 1) (X + 45) b := (pq_eq_copy hj (by omega) (by omega)).of (fun _ _ _ _ => rfl) (fun k k1 k4 t ht => by rw [pb_up_neA (by omega)])
  have E2 : pq_eq (pb_copyN S (B b + 1) (X + 29) 16) (pb_up (pb_mcN S' (X + 45) 16 b 16) (X + 45 + 13) b (nI 0)) r (X + 45) q := hr.of (fun k hk t ht => by rw [pq_copy_ne (by omega)]) (fun k k1 k4 t ht => by rw [pb_up_neA (by omega), pq_mcN_o (by omega) k1 (by omega)])
  have E3 := pq_eq_copy (p := B b + 6) (o := 8 + b) E2 (by omega) hq2
  refine h.upd hsk hb (fun a ha => cn a (by omega) (by omega) (by omega)) (fun k j k1 k18 hk hk2 => mn k j k1 (fun k4 => ⟨fun q => hk (by unfold pq_oB; omega), fun q => hk2 b0 (by unfold pq_oC; omega)⟩) (fun e q => hk (by unfold pq_oB; omega)) (fun e q => hk2 b0 (by unfold pq_oC; omega))) (by rw [mM]) (by rw [mM]) ⟨?_, ?_, ?_, ?_, nx, 0, ?_⟩ (fun _ => ⟨?_, ?_, fun t ht => ?_⟩)
  · exact E1.of (fun k hk t ht => by rw [pb_fill_ne (by omega), pb_up_neA (by omega), pq_copy_ne (by omega)]) (fun k k1 k4 t ht => by rw [pb_fill_ne (by omega), pq_mcN_o hq2 k1 (by omega)])
  · exact pq_gpN_of (pq_gp_copy (p := B b + 1) hg (by omega)) (fun k k1 k4 t ht => by rw [pb_fill_ne (by omega), pb_up_neA (by omega), pq_copy_ne (by omega)])
  · rw [cn _ (by omega) (by omega) (by omega), i1.2.2.1]
  · rw [cn _ (by omega) (by omega) (by omega), mn 6 b (by omega) (by omega) (by omega) (by omega), i1.2.2.2.1]
  · refine pq_hr_0 hh.1 ?_ ?_ ?_
    · rw [pb_fill_ne (by omega), pb_up_ne3 (by omega), pq_copy_ne (by omega), pq_copy_ne (by omega), hh.2.2.1]
    · rw [pb_fill_ne (by omega), pb_up_self]
    · rw [pb_fill_ne (by omega), pb_mcN_ne (by omega), pb_up_self]
  · exact E3.of (fun k hk t ht => by rw [pb_fill_ne (by omega), pb_up_neA (by omega)]) (fun k k1 k4 t ht => by rw [pb_fill_ne (by omega)])
  · rw [mn 5 b (by omega) (by omega) (by omega) (by omega), i2.2.1]
  · rw [pb_fill_at, if_pos (by omega), pb_fill_at, if_pos (by omega)]
