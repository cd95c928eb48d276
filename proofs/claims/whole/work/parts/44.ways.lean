/-! Class and reference side by side: S the memory behind the class's calls, S' that behind the reference's; a plan of the class at p, that of the reference with the number q. -/
def pq_eq (S S' : pb_Sg) (p M q : Nat) : Prop := ∀ t, t < 16 → S (p + 1) t = S' (M + 1) (16 * q + t) ∧ S (p + 2) t = S' (M + 2) (16 * q + t) ∧ S (p + 3) t = S' (M + 3) (16 * q + t) ∧ S (p + 4) t = S' (M + 4) (16 * q + t)
theorem pq_eq.of {S S' T T' : pb_Sg} {p M q : Nat} (h : pq_eq S S' p M q) (h1 : ∀ k, k ≤ 4 → ∀ t, t < 16 → T (p + k) t = S (p + k) t) (h2 : ∀ k, 1 ≤ k → k ≤ 4 → ∀ t, t < 16 → T' (M + k) (16 * q + t) = S' (M + k) (16 * q + t)) : pq_eq T T' p M q := fun t ht => by
  rw [h1 1 (by omega) t ht, h1 2 (by omega) t ht, h1 3 (by omega) t ht, h1 4 (by omega) t ht, h2 1 (by omega) (by omega) t ht, h2 2 (by omega) (by omega) t ht, h2 3 (by omega) (by omega) t ht, h2 4 (by omega) (by omega) t ht]
  exact h t ht
def pq_wr (S S' : pb_Sg) (w p M q : Nat) : Prop := pq_eq S S' p M q ∧ ∀ t, t < 16 → S (w + 1) t = S' (M + 19) t ∧ S (w + 2) t = S' (M + 20) t
def pq_aw (w p : Nat) : Prop := p + 4 < w ∨ w + 2 < p
theorem pq_up_id {sg : pb_Sg} {a k : Nat} {x : Int32} (h : sg a k = x) : pb_up sg a k x = sg := by
  funext b j
  rw [pb_up_at]
  by_cases e : b = a ∧ j = k
  · rw [if_pos e, e.1, e.2, h]
  · rw [if_neg e]
theorem pq_str1_1 {S : pb_Sg} {w p t n j : Nat} : pb_str1 S w p t n (w + 1) j = if j = n then pb_mx (S (w + 1) n) (S (p + 1) n + S (w + 1) t) else S (w + 1) j := by
  show pb_up (pb_up S (w + 2) t (pb_mx (S (w + 2) t) (S (w + 2) n + S (p + 1) n))) (w + 1) n (pb_mx (pb_up S (w + 2) t (pb_mx (S (w + 2) t) (S (w + 2) n + S (p + 1) n)) (w + 1) n) (S (p + 1) n + S (w + 1) t)) (w + 1) j = _
  rw [pb_up_at, pb_up_ne2 (show w + 1 ≠ w + 2 by omega), pb_up_ne2 (show w + 1 ≠ w + 2 by omega)]
  by_cases e : j = n
  · rw [if_pos ⟨rfl, e⟩, if_pos e]
  · rw [if_neg (fun q => e q.2), if_neg e]
theorem pq_str1_2 {S : pb_Sg} {w p t n j : Nat} : pb_str1 S w p t n (w + 2) j = if j = t then pb_mx (S (w + 2) t) (S (w + 2) n + S (p + 1) n) else S (w + 2) j := by
  show pb_up (pb_up S (w + 2) t (pb_mx (S (w + 2) t) (S (w + 2) n + S (p + 1) n))) (w + 1) n (pb_mx (pb_up S (w + 2) t (pb_mx (S (w + 2) t) (S (w + 2) n + S (p + 1) n)) (w + 1) n) (S (p + 1) n + S (w + 1) t)) (w + 2) j = _
  rw [pb_up_ne2 (show w + 2 ≠ w + 1 by omega), pb_up_at]
  by_cases e : j = t
  · rw [if_pos ⟨rfl, e⟩, if_pos e]
  · rw [if_neg (fun q => e q.2), if_neg e]
theorem pq_g1_1 {S : pb_Sg} {M q t n j : Nat} : pb_g1 S M q t n (M + 19) j = if j = n then pb_mx (S (M + 19) n) (S (M + 19) t + S (M + 1) (16 * q + n)) else S (M + 19) j := by
  unfold pb_g1
  rw [pb_up_ne2 (show M + 19 ≠ M + 20 by omega)]
  unfold pb_ga
  rw [pb_up_at]
  by_cases e : j = n
  · rw [if_pos ⟨rfl, e⟩, if_pos e]
  · rw [if_neg (fun q => e q.2), if_neg e]
theorem pq_g1_2 {S : pb_Sg} {M q t n j : Nat} : pb_g1 S M q t n (M + 20) j = if j = t then pb_mx (S (M + 20) t) (S (M + 20) n + S (M + 1) (16 * q + n)) else S (M + 20) j := by
  have e1 : ∀ i, pb_ga S M q t n (M + 20) i = S (M + 20) i := fun i => pb_up_ne2 (show M + 20 ≠ M + 19 by omega)
  unfold pb_g1
  rw [pb_up_at, e1, e1, e1]
  by_cases e : j = t
  · rw [if_pos ⟨rfl, e⟩, if_pos e]
  · rw [if_neg (fun q => e q.2), if_neg e]
theorem pq_wr_1 {S S' : pb_Sg} {w p M q t n : Nat} (ha : pq_aw w p) (h : pq_wr S S' w p M q) (ht : t < 16) (hn : n < 16) : pq_wr (pb_str1 S w p t n) (pb_g1 S' M q t n) w p M q := by
  obtain ⟨h1, h2⟩ := h
  unfold pq_aw at ha
  refine ⟨h1.of (fun k hk j hj => pb_str1_ne (by omega) (by omega) j) (fun k hk1 hk4 j hj => congrFun (pb_g1_ne (by omega)) _), fun j hj => ⟨?_, ?_⟩⟩
  · rw [pq_str1_1, pq_g1_1, (h2 j hj).1, (h2 n hn).1, (h2 t ht).1, (h1 n hn).1, Int32.add_comm (S' (M + 1) (16 * q + n))]
  · rw [pq_str1_2, pq_g1_2, (h2 j hj).2, (h2 n hn).2, (h2 t ht).2, (h1 n hn).1]
theorem pq_str1_id {S : pb_Sg} {w p t n : Nat} (h : pb_grw S w p t n = false) : pb_str1 S w p t n = S := by
  unfold pb_grw at h
  rw [Bool.or_eq_false_iff] at h
  have h1 := of_decide_eq_false h.1
  have h2 := of_decide_eq_false h.2
  show pb_up (pb_up S (w + 2) t (pb_mx (S (w + 2) t) (S (w + 2) n + S (p + 1) n))) (w + 1) n (pb_mx (pb_up S (w + 2) t (pb_mx (S (w + 2) t) (S (w + 2) n + S (p + 1) n)) (w + 1) n) (S (p + 1) n + S (w + 1) t)) = S
  rw [show pb_mx (S (w + 2) t) (S (w + 2) n + S (p + 1) n) = S (w + 2) t from if_neg h1, pq_up_id (sg := S) (a := w + 2) (k := t) rfl, show pb_mx (S (w + 1) n) (S (p + 1) n + S (w + 1) t) = S (w + 1) n from if_neg h2, pq_up_id rfl]
theorem pq_strN_id {S : pb_Sg} {w p t : Nat} (k : Nat) (h : (pb_strN S w p t k).2 = false) : (pb_strN S w p t k).1 = S := by
  induction k with
  | zero => rfl
  | succ k ih =>
    unfold pb_strN at h ⊢
    by_cases e : pb_in ((pb_strN S w p t k).1 (p + 4) t) k = true
    · rw [if_pos e] at h ⊢
      obtain ⟨a, b⟩ := (Bool.or_eq_false_iff).mp h
      show pb_str1 _ w p t k = S
      rw [pq_str1_id b, ih a]
    · rw [if_neg e] at h ⊢
      exact ih h
theorem pq_rdN_id {S : pb_Sg} {w p : Nat} (k : Nat) (h : (pb_rdN S w p k).2 = false) : (pb_rdN S w p k).1 = S := by
  induction k with
  | zero => rfl
  | succ k ih =>
    unfold pb_rdN at h ⊢
    obtain ⟨a, b⟩ := (Bool.or_eq_false_iff).mp h
    show (pb_strN _ w p k 16).1 = S
    rw [pq_strN_id 16 b, ih a]
theorem pq_wr_N {S S' : pb_Sg} {w p M q t : Nat} (ha : pq_aw w p) (h : pq_wr S S' w p M q) (ht : t < 16) (k : Nat) (hk : k ≤ 16) : pq_wr (pb_strN S w p t k).1 (pb_gN S' M q t k) w p M q := by
  induction k with
  | zero => exact h
  | succ k ih =>
    have ih := ih (by omega)
    unfold pb_strN pb_gN
    have e1 := (ih.1 t ht).2.2.2
    by_cases e : pb_in ((pb_strN S w p t k).1 (p + 4) t) k = true
    · rw [if_pos e, if_pos (by rw [← e1]; exact e)]
      exact pq_wr_1 ha ih ht (by omega)
    · rw [if_neg e, if_neg (by rw [← e1]; exact e)]
      exact ih
theorem pq_wr_R {S S' : pb_Sg} {w p M q : Nat} (ha : pq_aw w p) (h : pq_wr S S' w p M q) (k : Nat) (hk : k ≤ 16) : pq_wr (pb_rdN S w p k).1 (pb_gR S' M q k) w p M q := by
  induction k with
  | zero => exact h
  | succ k ih => exact pq_wr_N ha (ih (by omega)) (by omega) 16 (by omega)
def pq_it (M q : Nat) : Nat → pb_Sg → pb_Sg
  | 0, S => S
  | n + 1, S => pq_it M q n (pb_gR S M q 16)
theorem pq_it_succ {M q : Nat} (n : Nat) : ∀ S : pb_Sg, pq_it M q (n + 1) S = pb_gR (pq_it M q n S) M q 16 := by
  induction n with
  | zero => intro S; rfl
  | succ n ih =>
    intro S
    show pq_it M q (n + 1) (pb_gR S M q 16) = _
    rw [ih]
    rfl
theorem pq_gK_it {S : pb_Sg} {M q : Nat} (n : Nat) : pb_gK S M q n = pq_it M q n (pb_gi S M q 16) := by
  induction n with
  | zero => rfl
  | succ n ih =>
    rw [pq_it_succ, ← ih]
    rfl
theorem pq_wr_still {S : pb_Sg} {w p M q : Nat} (ha : pq_aw w p) (hs : (pb_rdN S w p 16).1 = S) (n : Nat) : ∀ S' : pb_Sg, pq_wr S S' w p M q → pq_wr S (pq_it M q n S') w p M q := by
  induction n with
  | zero => exact fun S' h => h
  | succ n ih =>
    intro S' h
    have h2 := pq_wr_R ha h 16 (by omega)
    rw [hs] at h2
    exact ih _ h2
theorem pq_wr_s {w p M q : Nat} (ha : pq_aw w p) (n : Nat) : ∀ S S' : pb_Sg, pq_wr S S' w p M q → pq_wr (pb_rds w p n S) (pq_it M q n S') w p M q := by
  induction n with
  | zero => exact fun S S' h => h
  | succ n ih =>
    intro S S' h
    unfold pb_rds
    have h2 := pq_wr_R ha h 16 (by omega)
    cases e : (pb_rdN S w p 16).2
    · rw [if_neg (by decide)]
      have hs := pq_rdN_id 16 e
      show pq_wr _ (pq_it M q n (pb_gR S' M q 16)) w p M q
      rw [hs] at h2 ⊢
      exact pq_wr_still ha hs n _ h2
    · rw [if_pos rfl]
      exact ih _ _ h2
theorem pq_wi_1 {S : pb_Sg} {w p j : Nat} (ha : pq_aw w p) (n : Nat) : pb_wiN S w p n (w + 1) j = if j < n then S (p + 1) j else S (w + 1) j := by
  unfold pq_aw at ha
  induction n with
  | zero => rfl
  | succ n ih =>
    show pb_up (pb_up (pb_wiN S w p n) (w + 1) n (pb_wiN S w p n (p + 1) n)) (w + 2) n (nI 0) (w + 1) j = _
    rw [pb_up_ne2 (show w + 1 ≠ w + 2 by omega), pb_up_at, pb_wiN_ne (by omega) (by omega), ih]
    by_cases e : j = n
    · rw [if_pos ⟨rfl, e⟩, if_pos (by omega), e]
    · rw [if_neg (fun q => e q.2)]
      by_cases e2 : j < n
      · rw [if_pos e2, if_pos (by omega)]
      · rw [if_neg e2, if_neg (by omega)]
theorem pq_wi_2 {S : pb_Sg} {w p j : Nat} (n : Nat) : pb_wiN S w p n (w + 2) j = if j < n then nI 0 else S (w + 2) j := by
  induction n with
  | zero => rfl
  | succ n ih =>
    show pb_up (pb_up (pb_wiN S w p n) (w + 1) n (pb_wiN S w p n (p + 1) n)) (w + 2) n (nI 0) (w + 2) j = _
    rw [pb_up_at, pb_up_ne2 (show w + 2 ≠ w + 1 by omega), ih]
    by_cases e : j = n
    · rw [if_pos ⟨rfl, e⟩, if_pos (by omega)]
    · rw [if_neg (fun q => e q.2)]
      by_cases e2 : j < n
      · rw [if_pos e2, if_pos (by omega)]
      · rw [if_neg e2, if_neg (by omega)]
theorem pq_gi_1 {S : pb_Sg} {M q j : Nat} (n : Nat) : pb_gi S M q n (M + 19) j = if j < n then S (M + 1) (16 * q + j) else S (M + 19) j := by
  induction n with
  | zero => rfl
  | succ n ih =>
    show pb_up (pb_up (pb_gi S M q n) (M + 19) n (pb_gi S M q n (M + 1) (16 * q + n))) (M + 20) n (nI 0) (M + 19) j = _
    rw [pb_up_ne2 (show M + 19 ≠ M + 20 by omega), pb_up_at, pb_gi_ne (show M + 1 < M + 19 ∨ M + 20 < M + 1 by omega), ih]
    by_cases e : j = n
    · rw [if_pos ⟨rfl, e⟩, if_pos (by omega), e]
    · rw [if_neg (fun q => e q.2)]
      by_cases e2 : j < n
      · rw [if_pos e2, if_pos (by omega)]
      · rw [if_neg e2, if_neg (by omega)]
theorem pq_gi_2 {S : pb_Sg} {M q j : Nat} (n : Nat) : pb_gi S M q n (M + 20) j = if j < n then nI 0 else S (M + 20) j := by
  induction n with
  | zero => rfl
  | succ n ih =>
    show pb_up (pb_up (pb_gi S M q n) (M + 19) n (pb_gi S M q n (M + 1) (16 * q + n))) (M + 20) n (nI 0) (M + 20) j = _
    rw [pb_up_at, pb_up_ne2 (show M + 20 ≠ M + 19 by omega), ih]
    by_cases e : j = n
    · rw [if_pos ⟨rfl, e⟩, if_pos (by omega)]
    · rw [if_neg (fun q => e q.2)]
      by_cases e2 : j < n
      · rw [if_pos e2, if_pos (by omega)]
      · rw [if_neg e2, if_neg (by omega)]
theorem pq_wr_0 {S S' : pb_Sg} {w p M q : Nat} (ha : pq_aw w p) (h : pq_eq S S' p M q) : pq_wr (pb_wiN S w p 16) (pb_gi S' M q 16) w p M q := by
  have ha2 := ha
  unfold pq_aw at ha2
  refine ⟨h.of (fun k hk j hj => pb_wiN_ne (by omega) (by omega) 16 j) (fun k hk1 hk4 j hj => congrFun (pb_gi_ne (by omega) 16) _), fun j hj => ⟨?_, ?_⟩⟩
  · rw [pq_wi_1 ha, pq_gi_1, if_pos hj, if_pos hj]
    exact (h j hj).1
  · rw [pq_wi_2, pq_gi_2, if_pos hj, if_pos hj]
theorem pq_lg {S : pb_Sg} {w : Nat} (n : Nat) : pb_lgN S w n w 2 = pb_gmx (S (w + 1)) n := by
  induction n with
  | zero => exact pb_up_self
  | succ n ih =>
    show pb_up _ w 2 _ w 2 = _
    rw [pb_up_self, ih, pb_lgN_ne (show w + 1 ≠ w by omega)]
    rfl
theorem pq_gmx_congr {T T' : Nat → Int32} {n : Nat} (h : ∀ j, j < n → T j = T' j) : pb_gmx T n = pb_gmx T' n := by
  induction n with
  | zero => rfl
  | succ n ih =>
    unfold pb_gmx
    rw [ih (fun j hj => h j (by omega)), h n (by omega)]
theorem pq_meas {S S' : pb_Sg} {w p M q : Nat} (ha : pq_aw w p) (h : pq_eq S S' p M q) : (∀ t, t < 16 → pb_meas S w p (w + 1) t = pb_gK S' M q 16 (M + 19) t ∧ pb_meas S w p (w + 2) t = pb_gK S' M q 16 (M + 20) t) ∧ pb_meas S w p w 2 = pb_gmx (pb_gK S' M q 16 (M + 19)) 16 := by
  have h1 := pq_wr_s ha 16 _ _ (pq_wr_0 ha h)
  rw [← pq_gK_it] at h1
  refine ⟨fun t ht => ?_, ?_⟩
  · unfold pb_meas
    rw [pb_lgN_ne (by omega), pb_lgN_ne (by omega)]
    exact h1.2 t ht
  · unfold pb_meas
    rw [pq_lg]
    exact pq_gmx_congr fun j hj => (h1.2 j hj).1
theorem pq_mx_l (x y : Int32) : x ≤ pb_mx x y := by
  unfold pb_mx
  by_cases e : x < y
  · rw [if_pos e]; exact Int32.le_of_lt e
  · rw [if_neg e]; exact Int32.le_refl x
theorem pq_mx_r (x y : Int32) : y ≤ pb_mx x y := by
  unfold pb_mx
  by_cases e : x < y
  · rw [if_pos e]; exact Int32.le_refl y
  · rw [if_neg e]; exact Int32.not_lt.mp e
theorem pq_g1_ge {S : pb_Sg} {M q t n j : Nat} {x : Int32} (h : x ≤ S (M + 19) j) : x ≤ pb_g1 S M q t n (M + 19) j := by
  rw [pq_g1_1]
  by_cases e : j = n
  · rw [if_pos e]
    subst e
    exact Int32.le_trans h (pq_mx_l _ _)
  · rw [if_neg e]; exact h
theorem pq_gN_ge {S : pb_Sg} {M q t j : Nat} {x : Int32} (h : x ≤ S (M + 19) j) (n : Nat) : x ≤ pb_gN S M q t n (M + 19) j := by
  induction n with
  | zero => exact h
  | succ n ih =>
    unfold pb_gN
    split
    · exact pq_g1_ge ih
    · exact ih
theorem pq_gR_ge {S : pb_Sg} {M q j : Nat} {x : Int32} (h : x ≤ S (M + 19) j) (n : Nat) : x ≤ pb_gR S M q n (M + 19) j := by
  induction n with
  | zero => exact h
  | succ n ih => exact pq_gN_ge ih 16
theorem pq_gK_ge {S : pb_Sg} {M q j : Nat} (hj : j < 16) (n : Nat) : S (M + 1) (16 * q + j) ≤ pb_gK S M q n (M + 19) j := by
  induction n with
  | zero =>
    show _ ≤ pb_gi S M q 16 (M + 19) j
    rw [pq_gi_1, if_pos hj]
    exact Int32.le_refl _
  | succ n ih => exact pq_gR_ge ih 16
theorem pq_gmx_ge {T : Nat → Int32} {n j : Nat} (hj : j < n) : T j ≤ pb_gmx T n := by
  induction n with
  | zero => omega
  | succ n ih =>
    unfold pb_gmx
    by_cases e : j = n
    · subst e; exact pq_mx_r _ _
    · exact Int32.le_trans (ih (by omega)) (pq_mx_l _ _)
theorem pq_gmx_0 (T : Nat → Int32) (n : Nat) : nI 0 ≤ pb_gmx T n := by
  induction n with
  | zero => exact Int32.le_refl _
  | succ n ih => exact Int32.le_trans ih (pq_mx_l _ _)
/-- the reference's tail of a task is the tail, also where the way is 0 -/
theorem pq_tail0 {S : pb_Sg} {M q j : Nat} (hj : j < 16) (h : nI 0 ≤ S (M + 1) (16 * q + j)) : (if pb_gmx (pb_gK S M q 16 (M + 19)) 16 = 0 then nI 0 else pb_gK S M q 16 (M + 19) j) = pb_gK S M q 16 (M + 19) j := by
  by_cases e : pb_gmx (pb_gK S M q 16 (M + 19)) 16 = 0
  · rw [if_pos e]
    have h1 := pq_gmx_ge (T := pb_gK S M q 16 (M + 19)) hj
    rw [e] at h1
    exact Int32.le_antisymm (Int32.le_trans h (pq_gK_ge hj 16)) h1
  · rw [if_neg e]
theorem pq_crit {a h t : Int32} : (a - h - t = 0) ↔ a = h + t := by
  rw [Int32.sub_sub, Int32.sub_eq_iff_eq_add, Int32.zero_add]
