/-! Joining, class and reference side by side. -/
theorem pq_put_1 {S : pb_Sg} {p t j : Nat} {a b c e : Int32} : pb_put S p t a b c e (p + 1) j = if j = t then a else S (p + 1) j := by
  unfold pb_put
  rw [pb_up_ne2 (by omega), pb_up_ne2 (by omega), pb_up_ne2 (by omega), pb_up_at]
  by_cases h : j = t
  · rw [if_pos ⟨rfl, h⟩, if_pos h]
  · rw [if_neg (fun q => h q.2), if_neg h]
theorem pq_put_2 {S : pb_Sg} {p t j : Nat} {a b c e : Int32} : pb_put S p t a b c e (p + 2) j = if j = t then b else S (p + 2) j := by
  unfold pb_put
  rw [pb_up_ne2 (by omega), pb_up_ne2 (by omega), pb_up_at, pb_up_ne2 (show p + 2 ≠ p + 1 by omega)]
  by_cases h : j = t
  · rw [if_pos ⟨rfl, h⟩, if_pos h]
  · rw [if_neg (fun q => h q.2), if_neg h]
theorem pq_put_3 {S : pb_Sg} {p t j : Nat} {a b c e : Int32} : pb_put S p t a b c e (p + 3) j = if j = t then c else S (p + 3) j := by
  unfold pb_put
  rw [pb_up_ne2 (by omega), pb_up_at, pb_up_ne2 (show p + 3 ≠ p + 2 by omega), pb_up_ne2 (show p + 3 ≠ p + 1 by omega)]
  by_cases h : j = t
  · rw [if_pos ⟨rfl, h⟩, if_pos h]
  · rw [if_neg (fun q => h q.2), if_neg h]
theorem pq_put_4 {S : pb_Sg} {p t j : Nat} {a b c e : Int32} : pb_put S p t a b c e (p + 4) j = if j = t then e else S (p + 4) j := by
  unfold pb_put
  rw [pb_up_at, pb_up_ne2 (show p + 4 ≠ p + 3 by omega), pb_up_ne2 (show p + 4 ≠ p + 2 by omega), pb_up_ne2 (show p + 4 ≠ p + 1 by omega)]
  by_cases h : j = t
  · rw [if_pos ⟨rfl, h⟩, if_pos h]
  · rw [if_neg (fun q => h q.2), if_neg h]
theorem pq_put_ne {S : pb_Sg} {p t x : Nat} {a b c e : Int32} (h : x < p + 1 ∨ p + 4 < x) : pb_put S p t a b c e x = S x := by
  unfold pb_put
  rw [pb_up_neA (by omega), pb_up_neA (by omega), pb_up_neA (by omega), pb_up_neA (by omega)]
theorem pq_ml_put {S : pb_Sg} {M k : Nat} {a b c e : Int32} : pb_ml S M k a b c e = pb_put S M k a b c e := rfl
def pq_row (S S' : pb_Sg) (p M q t : Nat) : Prop := S (p + 1) t = S' (M + 1) (16 * q + t) ∧ S (p + 2) t = S' (M + 2) (16 * q + t) ∧ S (p + 3) t = S' (M + 3) (16 * q + t) ∧ S (p + 4) t = S' (M + 4) (16 * q + t)
def pq_eqN (S S' : pb_Sg) (p M q n : Nat) : Prop := ∀ t, t < n → pq_row S S' p M q t
theorem pq_eqN_put {T T' : pb_Sg} {p M q n : Nat} {a b c e : Int32} (h : pq_eqN T T' p M q n) : pq_eqN (pb_put T p n a b c e) (pb_ml T' M (16 * q + n) a b c e) p M q (n + 1) := by
  intro t ht
  unfold pq_row
  rw [pq_ml_put, pq_put_1, pq_put_2, pq_put_3, pq_put_4, pq_put_1, pq_put_2, pq_put_3, pq_put_4]
  by_cases e : t = n
  · rw [if_pos e, if_pos e, if_pos e, if_pos e, if_pos (by omega), if_pos (by omega), if_pos (by omega), if_pos (by omega)]
    exact ⟨rfl, rfl, rfl, rfl⟩
  · rw [if_neg e, if_neg e, if_neg e, if_neg e, if_neg (by omega), if_neg (by omega), if_neg (by omega), if_neg (by omega)]
    exact h t (by omega)
theorem pq_eqN_of {S S' T T' : pb_Sg} {p M q n : Nat} (h : pq_eqN S S' p M q n) (h1 : ∀ k, 1 ≤ k → k ≤ 4 → ∀ t, t < n → T (p + k) t = S (p + k) t) (h2 : ∀ k, 1 ≤ k → k ≤ 4 → ∀ t, t < n → T' (M + k) (16 * q + t) = S' (M + k) (16 * q + t)) : pq_eqN T T' p M q n := fun t ht => by
  unfold pq_row
  rw [h1 1 (by omega) (by omega) t ht, h1 2 (by omega) (by omega) t ht, h1 3 (by omega) (by omega) t ht, h1 4 (by omega) (by omega) t ht, h2 1 (by omega) (by omega) t ht, h2 2 (by omega) (by omega) t ht, h2 3 (by omega) (by omega) t ht, h2 4 (by omega) (by omega) t ht]
  exact h t ht
theorem pq_same {S S' : pb_Sg} {p r M q q' t : Nat} (h : pq_eq S S' p M q) (h2 : pq_eq S S' r M q') (ht : t < 16) : pb_same S p r t = pb_msame S' M q q' t := by
  unfold pb_same pb_msame
  rw [(h t ht).1, (h t ht).2.1, (h t ht).2.2.1, (h t ht).2.2.2, (h2 t ht).1, (h2 t ht).2.1, (h2 t ht).2.2.1, (h2 t ht).2.2.2]
theorem pq_hasE {S S' : pb_Sg} {p M q t : Nat} (h : pq_eq S S' p M q) (ht : t < 16) : pb_has (S (p + 1)) t = pb_has (S' (M + 1)) (16 * q + t) := by
  unfold pb_has
  rw [(h t ht).1]
/-- the joined rows, and what else came of joining the first n tasks -/
def pq_jr (S S' T T' : pb_Sg) (y : Int32) (J M n : Nat) : Prop := (∀ a, (a < J ∨ J + 5 < a) → T a = S a) ∧ (∀ x, (x < M ∨ M + 4 < x) → T' x = S' x) ∧ (∀ j, j ≠ 27 → T' M j = S' M j) ∧ (∀ k, 1 ≤ k → k ≤ 4 → ∀ j, j < 256 → T' (M + k) j = S' (M + k) j) ∧ pq_eqN T T' (J + 1) M 16 n ∧ T J 1 = y ∧ T J 2 = T' M 27
theorem pq_ml_lo {S : pb_Sg} {M i k j : Nat} {a b c e : Int32} (h1 : 1 ≤ k) (h4 : k ≤ 4) (hj : j ≠ i) : pb_ml S M i a b c e (M + k) j = S (M + k) j := by
  rw [pq_ml_put]
  have h : k = 1 ∨ k = 2 ∨ k = 3 ∨ k = 4 := by omega
  rcases h with rfl | rfl | rfl | rfl
  · rw [pq_put_1, if_neg hj]
  · rw [pq_put_2, if_neg hj]
  · rw [pq_put_3, if_neg hj]
  · rw [pq_put_4, if_neg hj]
theorem pq_jr_put {S S' T T' : pb_Sg} {y : Int32} {J M n : Nat} {a b c e : Int32} (h : pq_jr S S' T T' y J M n) (hn : n < 16) : pq_jr S S' (pb_put T (J + 1) n a b c e) (pb_ml T' M (16 * 16 + n) a b c e) y J M (n + 1) := by
  obtain ⟨h1, h2, h3, h4, h5, h6, h7⟩ := h
  refine ⟨fun x hx => ?_, fun x hx => ?_, fun j hj => ?_, fun k k1 k4 j hj => ?_, pq_eqN_put h5, ?_, ?_⟩
  · rw [pq_put_ne (by omega), h1 x hx]
  · rw [pb_ml_ne (by omega), h2 x hx]
  · rw [pb_ml_ne (by omega), h3 j hj]
  · rw [pq_ml_lo k1 k4 (by omega), h4 k k1 k4 j hj]
  · rw [pq_put_ne (by omega), h6]
  · rw [pq_put_ne (by omega), pb_ml_ne (by omega), h7]
/-- the branch of a joint is apart from it -/
def pq_aj (J b : Nat) : Prop := b + 17 < J ∨ J + 5 < b
theorem pq_jb {T : pb_Sg} {J t a : Nat} (h : a ≠ J) : pb_jb T J t a = T a := pb_up_neA h
theorem pq_jna_ne {T : pb_Sg} {J b t a : Nat} (h : a ≠ J) : pb_jna T J b t a = T a := by
  unfold pb_jna
  split
  · unfold pb_jc
    rw [pb_up_neA h, pq_jb h]
  · exact pq_jb h
theorem pq_jna_1 {T : pb_Sg} {J b t : Nat} : pb_jna T J b t J 1 = T J 1 ||| (nI 1 <<< (nI t &&& 31)) := by
  unfold pb_jna
  split
  · unfold pb_jc
    rw [pb_up_ne3 (by decide)]
    exact pb_up_self
  · exact pb_up_self
theorem pq_jna_2 {T : pb_Sg} {J b t : Nat} (hb : b + 17 ≠ J) : pb_jna T J b t J 2 = if T (b + 17) t = -1 then T J 2 ||| (nI 1 <<< (nI t &&& 31)) else T J 2 := by
  unfold pb_jna
  rw [pq_jb hb]
  by_cases e : T (b + 17) t = -1
  · rw [if_pos e, if_pos e]
    unfold pb_jc
    rw [pb_up_self]
    unfold pb_jb
    rw [pb_up_ne3 (by decide)]
  · rw [if_neg e, if_neg e]
    exact pb_up_ne3 (by decide)
theorem pq_mjT_M {S : pb_Sg} {M a b c t : Nat} : (pb_mjT S M a b c t).1 M = S M := pb_mjT_ne (by omega)
theorem pq_mjT_lo {S : pb_Sg} {M a b c t k j : Nat} (h1 : 1 ≤ k) (h4 : k ≤ 4) (hj : j ≠ 16 * 16 + t) : (pb_mjT S M a b c t).1 (M + k) j = S (M + k) j := by
  unfold pb_mjT
  split
  · exact pq_ml_lo h1 h4 hj
  · split
    · exact pq_ml_lo h1 h4 hj
    · split
      · exact pq_ml_lo h1 h4 hj
      · rfl
/-- a row of a plan: fits, and has no needs where the task isn't there -/
def pq_gr (l c e : Int32) : Prop := (∃ n, n ≤ 20 ∧ l = nI n) ∧ (c = -1 ∨ ∃ k, k < 5 ∧ c = nI k) ∧ pq_W e ∧ (l = nI 0 → e = nI 0)
def pq_gpN (S : pb_Sg) (p n : Nat) : Prop := ∀ t, t < n → pq_gr (S (p + 1) t) (S (p + 2) t) (S (p + 4) t)
theorem pq_gpN_put {T : pb_Sg} {p n : Nat} {a b c e : Int32} (h : pq_gpN T p n) (hg : pq_gr a b e) : pq_gpN (pb_put T p n a b c e) p (n + 1) := by
  intro t ht
  rw [pq_put_1, pq_put_2, pq_put_4]
  by_cases e : t = n
  · rw [if_pos e, if_pos e, if_pos e]
    exact hg
  · rw [if_neg e, if_neg e, if_neg e]
    exact h t (by omega)
theorem pq_gpN_of {S T : pb_Sg} {p r n : Nat} (h : pq_gpN S p n) (h1 : ∀ k, 1 ≤ k → k ≤ 4 → ∀ t, t < n → T (r + k) t = S (p + k) t) : pq_gpN T r n := fun t ht => by
  rw [h1 1 (by omega) (by omega) t ht, h1 2 (by omega) (by omega) t ht, h1 4 (by omega) (by omega) t ht]
  exact h t ht
theorem pq_gp_wf {S : pb_Sg} {p : Nat} (h : pq_gpN S p 16) : pb_wf S p := fun t ht => ⟨(h t ht).1, (h t ht).2.1⟩
theorem pq_gp_nb {S : pb_Sg} {p : Nat} (h : pq_gpN S p 16) : pq_nb S p := fun t ht => (h t ht).2.2.1
theorem pq_mixor (a o b : Int32) : pb_mix a o b = a ∨ pb_mix a o b = o := by
  unfold pb_mix
  by_cases e : a = b
  · rw [if_pos e]; exact Or.inr rfl
  · rw [if_neg e]; exact Or.inl rfl
theorem pq_gr_mix {l1 c1 e1 l2 c2 e2 l0 c0 x y : Int32} (h1 : pq_gr l1 c1 e1) (h2 : pq_gr l2 c2 e2) (p1 : ¬ l1 = nI 0) (p2 : ¬ l2 = nI 0) : pq_gr (pb_mix l1 l2 l0) (pb_mix c1 c2 c0) ((e1 &&& x) ||| (e2 &&& y)) := by
  refine ⟨?_, ?_, fun j hj => ?_, fun q => ?_⟩
  · rcases pq_mixor l1 l2 l0 with h | h <;> rw [h]
    · exact h1.1
    · exact h2.1
  · rcases pq_mixor c1 c2 c0 with h | h <;> rw [h]
    · exact h1.2.1
    · exact h2.2.1
  · rw [pb_in_or, pb_in_and, pb_in_and, h1.2.2.1 j hj, h2.2.2.1 j hj]
    rfl
  · rcases pq_mixor l1 l2 l0 with h | h <;> rw [h] at q
    · exact absurd q p1
    · exact absurd q p2
theorem pq_has_ne {f : Nat → Int32} {t : Nat} (h : pb_has f t = true) : ¬ f t = nI 0 := by
  unfold pb_has at h
  intro q
  rw [decide_eq_true_iff, q] at h
  exact absurd h (by decide)
theorem pq_bor2 {a b c : Bool} : (a || b || c) = true ↔ a = true ∨ (b || c) = true := by cases a <;> cases b <;> cases c <;> decide
set_option maxHeartbeats 4000000 in
theorem pq_join1 {S S' T T' : pb_Sg} {y : Int32} {J M b f bb ff n : Nat} (h : pq_jr S S' T T' y J M n) (hn : n < 16) (hb8 : bb < 8) (hf8 : ff < 8) (hab : pq_aj J b) (haf : pq_aj J f) (h1 : pq_eq S S' (b + 1) M bb) (h2 : pq_eq S S' (f + 1) M ff) (h3 : pq_eq S S' (b + 6) M (8 + bb)) (hs : S (b + 17) n = S' (M + 7) (16 * bb + n)) (g0 : pq_gpN T (J + 1) n) (g1 : pq_gpN S (b + 1) 16) (g2 : pq_gpN S (f + 1) 16) :
    (if (pb_mjT T' M bb ff (8 + bb) n).2 = true then pq_jr S S' (pb_jn1 T J b f n) (pb_mjC (pb_mjT T' M bb ff (8 + bb) n).1 M bb ff n) (y ||| (nI 1 <<< (nI n &&& 31))) J M (n + 1) else pq_jr S S' (pb_jn1 T J b f n) (pb_mjT T' M bb ff (8 + bb) n).1 y J M (n + 1)) ∧ pq_gpN (pb_jn1 T J b f n) (J + 1) (n + 1) := by
  obtain ⟨r1, r2, r3, r4, r5, r6, r7⟩ := id h
  unfold pq_aj at hab haf
  have E1 : pq_eq T T' (b + 1) M bb := h1.of (fun k hk j hj => by rw [r1 _ (by omega)]) (fun k k1 k4 j hj => r4 k k1 k4 _ (by omega))
  have E2 : pq_eq T T' (f + 1) M ff := h2.of (fun k hk j hj => by rw [r1 _ (by omega)]) (fun k k1 k4 j hj => r4 k k1 k4 _ (by omega))
  have E3 : pq_eq T T' (b + 6) M (8 + bb) := h3.of (fun k hk j hj => by rw [r1 _ (by omega)]) (fun k k1 k4 j hj => r4 k k1 k4 _ (by omega))
  have G1 : pq_gr (T (b + 1 + 1) n) (T (b + 1 + 2) n) (T (b + 1 + 4) n) := by
    rw [r1 _ (by omega), r1 _ (by omega), r1 _ (by omega)]
    exact g1 n hn
  have G2 : pq_gr (T (f + 1 + 1) n) (T (f + 1 + 2) n) (T (f + 1 + 4) n) := by
    rw [r1 _ (by omega), r1 _ (by omega), r1 _ (by omega)]
    exact g2 n hn
  have s1 := pq_same E1 E3 hn
  have s2 := pq_same E2 E3 hn
  have s3 := pq_same E1 E2 hn
  have v1 := E1 n hn
  have v2 := E2 n hn
  have v3 := E3 n hn
  have hside : T (b + 17) n = T' (M + 7) (16 * bb + n) := by rw [r1 _ (by omega), r2 _ (by omega), hs]
  unfold pb_jn1 pb_clash
  by_cases c1 : pb_msame T' M bb (8 + bb) n = true
  · have em : pb_mjT T' M bb ff (8 + bb) n = (pb_mct T' M ff 16 n, false) := by unfold pb_mjT; rw [if_pos c1]
    have ec : pb_jt T J (b + 1) (f + 1) (b + 6) n = pb_take T (J + 1) (f + 1) n := by unfold pb_jt; rw [if_pos (s1.trans c1)]
    rw [em, if_neg (show ¬ (pb_mct T' M ff 16 n, false).2 = true from fun q => Bool.noConfusion q), if_pos (show (pb_same T (b + 1) (b + 6) n || pb_same T (f + 1) (b + 6) n || pb_same T (b + 1) (f + 1) n) = true by rw [s1, c1]; rfl), if_neg (show ¬ false = true from fun q => Bool.noConfusion q), ec]
    have hp := pq_jr_put (a := T (f + 1 + 1) n) (b := T (f + 1 + 2) n) (c := T (f + 1 + 3) n) (e := T (f + 1 + 4) n) h hn
    refine ⟨?_, pq_gpN_put g0 G2⟩
    show pq_jr S S' (pb_take T (J + 1) (f + 1) n) (pb_mct T' M ff 16 n) y J M (n + 1)
    unfold pb_mct
    rw [← v2.1, ← v2.2.1, ← v2.2.2.1, ← v2.2.2.2]
    exact hp
  · have c1' : pb_msame T' M bb (8 + bb) n = false := pb_f_nt c1
    by_cases c2 : (pb_msame T' M ff (8 + bb) n || pb_msame T' M bb ff n) = true
    · have em : pb_mjT T' M bb ff (8 + bb) n = (pb_mct T' M bb 16 n, false) := by unfold pb_mjT; rw [if_neg c1, if_pos c2]
      have ec : pb_jt T J (b + 1) (f + 1) (b + 6) n = pb_take T (J + 1) (b + 1) n := by unfold pb_jt; rw [s1, if_neg c1, s2, s3, if_pos c2]
      rw [em, if_neg (show ¬ (pb_mct T' M bb 16 n, false).2 = true from fun q => Bool.noConfusion q), if_pos (show (pb_same T (b + 1) (b + 6) n || pb_same T (f + 1) (b + 6) n || pb_same T (b + 1) (f + 1) n) = true by rw [s2, s3]; exact pq_bor2.mpr (Or.inr c2)), if_neg (show ¬ false = true from fun q => Bool.noConfusion q), ec]
      have hp := pq_jr_put (a := T (b + 1 + 1) n) (b := T (b + 1 + 2) n) (c := T (b + 1 + 3) n) (e := T (b + 1 + 4) n) h hn
      refine ⟨?_, pq_gpN_put g0 G1⟩
      show pq_jr S S' (pb_take T (J + 1) (b + 1) n) (pb_mct T' M bb 16 n) y J M (n + 1)
      unfold pb_mct
      rw [← v1.1, ← v1.2.1, ← v1.2.2.1, ← v1.2.2.2]
      exact hp
    · rw [if_neg (show ¬ (pb_same T (b + 1) (b + 6) n || pb_same T (f + 1) (b + 6) n || pb_same T (b + 1) (f + 1) n) = true from fun q => by
        rw [s1, s2, s3] at q
        rcases pq_bor2.mp q with q | q
        · exact c1 q
        · exact c2 q)]
      have hcl : ∀ (T1 : pb_Sg), (∀ k, 1 ≤ k → k ≤ 4 → ∀ j, j ≠ 16 * 16 + n → T1 (M + k) j = T' (M + k) j) → (∀ x, (x < M + 1 ∨ M + 4 < x) → T1 x = T' x) → pq_jr S S' (if pb_jna T J b n (b + 17) n = nI 1 then pb_take (pb_jna T J b n) (J + 1) (f + 1) n else pb_take (pb_jna T J b n) (J + 1) (b + 1) n) (pb_mjC T1 M bb ff n) (y ||| (nI 1 <<< (nI n &&& 31))) J M (n + 1) ∧ pq_gpN (if pb_jna T J b n (b + 17) n = nI 1 then pb_take (pb_jna T J b n) (J + 1) (f + 1) n else pb_take (pb_jna T J b n) (J + 1) (b + 1) n) (J + 1) (n + 1) := by
        intro T1 q1 q2
        have w1 : T1 (M + 7) (16 * bb + n) = T (b + 17) n := by rw [q2 _ (by omega), hside]
        have w2 : T1 M = T' M := q2 M (by omega)
        have hj : pq_jr S S' (pb_jna T J b n) (pb_up T1 M 27 (T1 M 27 ||| (if T1 (M + 7) (16 * bb + n) = -1 then nI 1 <<< (nI n &&& 31) else nI 0))) (y ||| (nI 1 <<< (nI n &&& 31))) J M n := by
          refine ⟨fun a ha => by rw [pq_jna_ne (by omega), r1 a ha], fun x hx => by rw [pb_up_neA (by omega), q2 x (by omega), r2 x hx], fun j hj => by rw [pb_up_ne3 hj, w2, r3 j hj], fun k k1 k4 j hj => by rw [pb_up_neA (by omega), q1 k k1 k4 j (by omega), r4 k k1 k4 j hj], pq_eqN_of r5 (fun k k1 k4 t ht => by rw [pq_jna_ne (by omega)]) (fun k k1 k4 t ht => by rw [pb_up_neA (by omega), q1 k k1 k4 _ (by omega)]), by rw [pq_jna_1, r6], ?_⟩
          rw [pq_jna_2 (by omega), pb_up_self, w1, w2, r7]
          by_cases e : T (b + 17) n = -1
          · rw [if_pos e, if_pos e]
          · rw [if_neg e, if_neg e, pb_or0]
        have g0' : pq_gpN (pb_jna T J b n) (J + 1) n := pq_gpN_of g0 (fun k k1 k4 t ht => by rw [pq_jna_ne (by omega)])
        unfold pb_mjC
        rw [w1, pq_jna_ne (show b + 17 ≠ J by omega)]
        by_cases e : T (b + 17) n = nI 1
        · rw [if_pos e, if_pos e]
          unfold pb_take pb_mct
          rw [pq_jna_ne (show f + 1 + 1 ≠ J by omega), pq_jna_ne (show f + 1 + 2 ≠ J by omega), pq_jna_ne (show f + 1 + 3 ≠ J by omega), pq_jna_ne (show f + 1 + 4 ≠ J by omega)]
          rw [pb_up_neA (show M + 1 ≠ M by omega), pb_up_neA (show M + 2 ≠ M by omega), pb_up_neA (show M + 3 ≠ M by omega), pb_up_neA (show M + 4 ≠ M by omega), q1 1 (by omega) (by omega) (16 * ff + n) (by omega), q1 2 (by omega) (by omega) (16 * ff + n) (by omega), q1 3 (by omega) (by omega) (16 * ff + n) (by omega), q1 4 (by omega) (by omega) (16 * ff + n) (by omega), ← v2.1, ← v2.2.1, ← v2.2.2.1, ← v2.2.2.2]
          rw [w1] at hj
          exact ⟨pq_jr_put hj hn, pq_gpN_put g0' G2⟩
        · rw [if_neg e, if_neg e]
          unfold pb_take pb_mct
          rw [pq_jna_ne (show b + 1 + 1 ≠ J by omega), pq_jna_ne (show b + 1 + 2 ≠ J by omega), pq_jna_ne (show b + 1 + 3 ≠ J by omega), pq_jna_ne (show b + 1 + 4 ≠ J by omega)]
          rw [pb_up_neA (show M + 1 ≠ M by omega), pb_up_neA (show M + 2 ≠ M by omega), pb_up_neA (show M + 3 ≠ M by omega), pb_up_neA (show M + 4 ≠ M by omega), q1 1 (by omega) (by omega) (16 * bb + n) (by omega), q1 2 (by omega) (by omega) (16 * bb + n) (by omega), q1 3 (by omega) (by omega) (16 * bb + n) (by omega), q1 4 (by omega) (by omega) (16 * bb + n) (by omega), ← v1.1, ← v1.2.1, ← v1.2.2.1, ← v1.2.2.2]
          rw [w1] at hj
          exact ⟨pq_jr_put hj hn, pq_gpN_put g0' G1⟩
      have a1 := pq_hasE E1 hn
      have a2 := pq_hasE E2 hn
      have a3 := pq_hasE E3 hn
      by_cases c3 : (pb_has (T' (M + 1)) (16 * bb + n) && pb_has (T' (M + 1)) (16 * ff + n) && pb_has (T' (M + 1)) (16 * (8 + bb) + n)) = true
      · have em : pb_mjT T' M bb ff (8 + bb) n = (pb_mmx T' M bb ff (8 + bb) n, pb_mopn (pb_mmx T' M bb ff (8 + bb) n) M bb ff (8 + bb) n) := by unfold pb_mjT; rw [if_neg c1, if_neg c2, if_pos c3]
        have lo : ∀ k, 1 ≤ k → k ≤ 4 → ∀ j, j ≠ 16 * 16 + n → pb_mmx T' M bb ff (8 + bb) n (M + k) j = T' (M + k) j := fun k k1 k4 j hj => pq_ml_lo k1 k4 hj
        have out : ∀ x, (x < M + 1 ∨ M + 4 < x) → pb_mmx T' M bb ff (8 + bb) n x = T' x := fun x hx => pb_ml_ne hx
        have eo : pb_mopn (pb_mmx T' M bb ff (8 + bb) n) M bb ff (8 + bb) n = (pb_apt (T (b + 1 + 1) n) (T (f + 1 + 1) n) (T (b + 6 + 1) n) || pb_apt (T (b + 1 + 2) n) (T (f + 1 + 2) n) (T (b + 6 + 2) n) || pb_apt (T (b + 1 + 3) n) (T (f + 1 + 3) n) (T (b + 6 + 3) n)) := by
          unfold pb_mopn
          rw [lo 1 (by omega) (by omega) _ (by omega), lo 1 (by omega) (by omega) _ (by omega), lo 1 (by omega) (by omega) _ (by omega), lo 2 (by omega) (by omega) _ (by omega), lo 2 (by omega) (by omega) _ (by omega), lo 2 (by omega) (by omega) _ (by omega), lo 3 (by omega) (by omega) _ (by omega), lo 3 (by omega) (by omega) _ (by omega), lo 3 (by omega) (by omega) _ (by omega)]
          rw [v1.1, v1.2.1, v1.2.2.1, v2.1, v2.2.1, v2.2.2.1, v3.1, v3.2.1, v3.2.2.1]
        rw [if_neg (show ¬ (!pb_has (T (b + 1 + 1)) n || !pb_has (T (f + 1 + 1)) n || !pb_has (T (b + 6 + 1)) n) = true from fun q => by
          rw [a1, a2, a3] at q
          revert q c3
          cases pb_has (T' (M + 1)) (16 * bb + n) <;> cases pb_has (T' (M + 1)) (16 * ff + n) <;> cases pb_has (T' (M + 1)) (16 * (8 + bb) + n) <;> decide), em]
        show (if pb_mopn (pb_mmx T' M bb ff (8 + bb) n) M bb ff (8 + bb) n = true then pq_jr S S' _ (pb_mjC (pb_mmx T' M bb ff (8 + bb) n) M bb ff n) _ J M (n + 1) else pq_jr S S' _ (pb_mmx T' M bb ff (8 + bb) n) y J M (n + 1)) ∧ _
        rw [eo]
        by_cases c4 : (pb_apt (T (b + 1 + 1) n) (T (f + 1 + 1) n) (T (b + 6 + 1) n) || pb_apt (T (b + 1 + 2) n) (T (f + 1 + 2) n) (T (b + 6 + 2) n) || pb_apt (T (b + 1 + 3) n) (T (f + 1 + 3) n) (T (b + 6 + 3) n)) = true
        · rw [if_pos c4, if_pos c4]
          exact hcl _ lo out
        · have ec : pb_jt T J (b + 1) (f + 1) (b + 6) n = pb_jm T J (b + 1) (f + 1) (b + 6) n := by unfold pb_jt; rw [s1, if_neg c1, s2, s3, if_neg c2]
          rw [if_neg c4, if_neg c4, ec]
          have c3a : pb_has (T (b + 1 + 1)) n = true ∧ pb_has (T (f + 1 + 1)) n = true := by
            rw [a1, a2]
            revert c3
            cases pb_has (T' (M + 1)) (16 * bb + n) <;> cases pb_has (T' (M + 1)) (16 * ff + n) <;> simp
          refine ⟨?_, pq_gpN_put g0 (pq_gr_mix G1 G2 (pq_has_ne c3a.1) (pq_has_ne c3a.2))⟩
          unfold pb_mmx
          rw [← v1.1, ← v1.2.1, ← v1.2.2.1, ← v1.2.2.2, ← v2.1, ← v2.2.1, ← v2.2.2.1, ← v2.2.2.2, ← v3.1, ← v3.2.1, ← v3.2.2.1, ← v3.2.2.2]
          exact pq_jr_put h hn
      · have em : pb_mjT T' M bb ff (8 + bb) n = (T', true) := by unfold pb_mjT; rw [if_neg c1, if_neg c2, if_neg c3]
        rw [if_pos (show (!pb_has (T (b + 1 + 1)) n || !pb_has (T (f + 1 + 1)) n || !pb_has (T (b + 6 + 1)) n) = true by
          rw [a1, a2, a3]
          revert c3
          cases pb_has (T' (M + 1)) (16 * bb + n) <;> cases pb_has (T' (M + 1)) (16 * ff + n) <;> cases pb_has (T' (M + 1)) (16 * (8 + bb) + n) <;> decide), em, if_pos (show ((T', true) : pb_Sg × Bool).2 = true from rfl), if_pos rfl]
        exact hcl T' (fun _ _ _ _ _ => rfl) (fun _ _ => rfl)
theorem pq_join {S S' : pb_Sg} {J M b f bb ff : Nat} (hb8 : bb < 8) (hf8 : ff < 8) (hab : pq_aj J b) (haf : pq_aj J f) (h1 : pq_eq S S' (b + 1) M bb) (h2 : pq_eq S S' (f + 1) M ff) (h3 : pq_eq S S' (b + 6) M (8 + bb)) (hs : ∀ t, t < 16 → S (b + 17) t = S' (M + 7) (16 * bb + t)) (g1 : pq_gpN S (b + 1) 16) (g2 : pq_gpN S (f + 1) 16) (n : Nat) (hn : n ≤ 16) : pq_jr S S' (pb_jnN S J b f n) (pb_mjN S' M bb ff n).1 (pb_mjN S' M bb ff n).2 J M n ∧ pq_gpN (pb_jnN S J b f n) (J + 1) n := by
  induction n with
  | zero =>
    refine ⟨⟨fun a ha => ?_, fun x hx => pb_up_neA (by omega), fun j hj => pb_up_ne3 hj, fun k k1 k4 j hj => pb_up_ne2 (by omega), fun t ht => absurd ht (by omega), ?_, ?_⟩, fun t ht => absurd ht (by omega)⟩
    · show pb_up (pb_up S J 1 (nI 0)) J 2 (nI 0) a = _
      rw [pb_up_neA (by omega), pb_up_neA (by omega)]
    · show pb_up (pb_up S J 1 (nI 0)) J 2 (nI 0) J 1 = nI 0
      rw [pb_up_ne3 (by decide), pb_up_self]
    · show pb_up (pb_up S J 1 (nI 0)) J 2 (nI 0) J 2 = pb_up S' M 27 (nI 0) M 27
      rw [pb_up_self, pb_up_self]
  | succ n ih =>
    obtain ⟨i1, i2⟩ := ih (by omega)
    have r := pq_join1 i1 (by omega) hb8 hf8 hab haf h1 h2 h3 (hs n (by omega)) i2 g1 g2
    refine ⟨?_, r.2⟩
    have r1 := r.1
    unfold pb_mjN
    by_cases e : (pb_mjT (pb_mjN S' M bb ff n).1 M bb ff (8 + bb) n).2 = true
    · rw [if_pos e] at r1 ⊢
      exact r1
    · rw [if_neg e] at r1 ⊢
      exact r1
