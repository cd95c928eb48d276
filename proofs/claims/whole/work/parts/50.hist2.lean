/-! What can be undone: the ring of the class, the row of the reference that moves down. -/
theorem pq_keepA_eq {S : pb_Sg} {o p t n : Nat} (h : p + 4 < o) : pb_keepA S o p t n = pb_up (pb_up (pb_up (pb_up (pb_up (pb_up S (o + 1) n (nI t)) (o + 2) n (S (p + 1) t)) (o + 3) n (S (p + 2) t)) (o + 4) n (S (p + 3) t)) (o + 5) n (S (p + 4) t)) o 5 (nI (pb_nx n)) := by
  unfold pb_keepA
  dsimp only
  rw [pb_up_ne2 (show p + 1 ≠ o + 1 by omega)]
  rw [pb_up_ne2 (show p + 2 ≠ o + 2 by omega), pb_up_ne2 (show p + 2 ≠ o + 1 by omega)]
  rw [pb_up_ne2 (show p + 3 ≠ o + 3 by omega), pb_up_ne2 (show p + 3 ≠ o + 2 by omega), pb_up_ne2 (show p + 3 ≠ o + 1 by omega)]
  rw [pb_up_ne2 (show p + 4 ≠ o + 4 by omega), pb_up_ne2 (show p + 4 ≠ o + 3 by omega), pb_up_ne2 (show p + 4 ≠ o + 2 by omega), pb_up_ne2 (show p + 4 ≠ o + 1 by omega)]
theorem pq_keepA_ne {S : pb_Sg} {o p t n a : Nat} (h : p + 4 < o) (ha : a < o ∨ o + 5 < a) : pb_keepA S o p t n a = S a := by
  rw [pq_keepA_eq h, pb_up_neA (by omega), pb_up_neA (by omega), pb_up_neA (by omega), pb_up_neA (by omega), pb_up_neA (by omega), pb_up_neA (by omega)]
theorem pq_keep_ne {S : pb_Sg} {o p t n s a : Nat} (h : p + 4 < o) (ha : a < o ∨ o + 5 < a) : pb_keep S o p t n s a = S a := by
  unfold pb_keep
  split
  · rw [pb_up_neA (by omega), pq_keepA_ne h ha]
  · exact pq_keepA_ne h ha
theorem pq_keep_1 {S : pb_Sg} {o p t n s j : Nat} (h : p + 4 < o) : pb_keep S o p t n s (o + 1) j = if j = n then nI t else S (o + 1) j := by
  have e : pb_keepA S o p t n (o + 1) j = if j = n then nI t else S (o + 1) j := by
    rw [pq_keepA_eq h, pb_up_ne2 (show o + 1 ≠ o by omega), pb_up_ne2 (show o + 1 ≠ o + 5 by omega), pb_up_ne2 (show o + 1 ≠ o + 4 by omega), pb_up_ne2 (show o + 1 ≠ o + 3 by omega), pb_up_ne2 (show o + 1 ≠ o + 2 by omega), pb_up_at]
    by_cases e : j = n
    · rw [if_pos ⟨rfl, e⟩, if_pos e]
    · rw [if_neg (fun q => e q.2), if_neg e]
  unfold pb_keep
  split
  · rw [pb_up_ne2 (by omega)]; exact e
  · exact e
theorem pq_keep_2 {S : pb_Sg} {o p t n s j : Nat} (h : p + 4 < o) : pb_keep S o p t n s (o + 2) j = if j = n then S (p + 1) t else S (o + 2) j := by
  have e : pb_keepA S o p t n (o + 2) j = if j = n then S (p + 1) t else S (o + 2) j := by
    rw [pq_keepA_eq h, pb_up_ne2 (show o + 2 ≠ o by omega), pb_up_ne2 (show o + 2 ≠ o + 5 by omega), pb_up_ne2 (show o + 2 ≠ o + 4 by omega), pb_up_ne2 (show o + 2 ≠ o + 3 by omega), pb_up_at]
    by_cases e : j = n
    · rw [if_pos ⟨rfl, e⟩, if_pos e]
    · rw [if_neg (fun q => e q.2), if_neg e, pb_up_ne2 (show o + 2 ≠ o + 1 by omega)]
  unfold pb_keep
  split
  · rw [pb_up_ne2 (by omega)]; exact e
  · exact e
theorem pq_keep_3 {S : pb_Sg} {o p t n s j : Nat} (h : p + 4 < o) : pb_keep S o p t n s (o + 3) j = if j = n then S (p + 2) t else S (o + 3) j := by
  have e : pb_keepA S o p t n (o + 3) j = if j = n then S (p + 2) t else S (o + 3) j := by
    rw [pq_keepA_eq h, pb_up_ne2 (show o + 3 ≠ o by omega), pb_up_ne2 (show o + 3 ≠ o + 5 by omega), pb_up_ne2 (show o + 3 ≠ o + 4 by omega), pb_up_at]
    by_cases e : j = n
    · rw [if_pos ⟨rfl, e⟩, if_pos e]
    · rw [if_neg (fun q => e q.2), if_neg e, pb_up_ne2 (show o + 3 ≠ o + 2 by omega), pb_up_ne2 (show o + 3 ≠ o + 1 by omega)]
  unfold pb_keep
  split
  · rw [pb_up_ne2 (by omega)]; exact e
  · exact e
theorem pq_keep_4 {S : pb_Sg} {o p t n s j : Nat} (h : p + 4 < o) : pb_keep S o p t n s (o + 4) j = if j = n then S (p + 3) t else S (o + 4) j := by
  have e : pb_keepA S o p t n (o + 4) j = if j = n then S (p + 3) t else S (o + 4) j := by
    rw [pq_keepA_eq h, pb_up_ne2 (show o + 4 ≠ o by omega), pb_up_ne2 (show o + 4 ≠ o + 5 by omega), pb_up_at]
    by_cases e : j = n
    · rw [if_pos ⟨rfl, e⟩, if_pos e]
    · rw [if_neg (fun q => e q.2), if_neg e, pb_up_ne2 (show o + 4 ≠ o + 3 by omega), pb_up_ne2 (show o + 4 ≠ o + 2 by omega), pb_up_ne2 (show o + 4 ≠ o + 1 by omega)]
  unfold pb_keep
  split
  · rw [pb_up_ne2 (by omega)]; exact e
  · exact e
theorem pq_keep_5 {S : pb_Sg} {o p t n s j : Nat} (h : p + 4 < o) : pb_keep S o p t n s (o + 5) j = if j = n then S (p + 4) t else S (o + 5) j := by
  have e : pb_keepA S o p t n (o + 5) j = if j = n then S (p + 4) t else S (o + 5) j := by
    rw [pq_keepA_eq h, pb_up_ne2 (show o + 5 ≠ o by omega), pb_up_at]
    by_cases e : j = n
    · rw [if_pos ⟨rfl, e⟩, if_pos e]
    · rw [if_neg (fun q => e q.2), if_neg e, pb_up_ne2 (show o + 5 ≠ o + 4 by omega), pb_up_ne2 (show o + 5 ≠ o + 3 by omega), pb_up_ne2 (show o + 5 ≠ o + 2 by omega), pb_up_ne2 (show o + 5 ≠ o + 1 by omega)]
  unfold pb_keep
  split
  · rw [pb_up_ne2 (by omega)]; exact e
  · exact e
theorem pq_keep_nx {S : pb_Sg} {o p t n s : Nat} (h : p + 4 < o) : pb_keep S o p t n s o 5 = nI (pb_nx n) := by
  unfold pb_keep
  split
  · rw [pb_up_ne3 (by decide), pq_keepA_eq h, pb_up_self]
  · rw [pq_keepA_eq h, pb_up_self]
theorem pq_keep_s {S : pb_Sg} {o p t n s : Nat} (h : p + 4 < o) : pb_keep S o p t n s o 6 = if s < 30 then nI (s + 1) else S o 6 := by
  unfold pb_keep
  by_cases e : s < 30
  · rw [if_pos e, if_pos e, pb_up_self]
  · rw [if_neg e, if_neg e, pq_keepA_eq h, pb_up_ne3 (by decide), pb_up_ne2 (by omega), pb_up_ne2 (by omega), pb_up_ne2 (by omega), pb_up_ne2 (by omega), pb_up_ne2 (by omega)]
theorem pq_msh1_eq {S : pb_Sg} {M k : Nat} : pb_msh1 S M k = pb_up (pb_up (pb_up (pb_up (pb_up S (M + 8) k (S (M + 8) (k + 1))) (M + 9) k (S (M + 9) (k + 1))) (M + 10) k (S (M + 10) (k + 1))) (M + 11) k (S (M + 11) (k + 1))) (M + 12) k (S (M + 12) (k + 1)) := by
  unfold pb_msh1
  dsimp only
  rw [pb_up_ne2 (show M + 9 ≠ M + 8 by omega)]
  rw [pb_up_ne2 (show M + 10 ≠ M + 9 by omega), pb_up_ne2 (show M + 10 ≠ M + 8 by omega)]
  rw [pb_up_ne2 (show M + 11 ≠ M + 10 by omega), pb_up_ne2 (show M + 11 ≠ M + 9 by omega), pb_up_ne2 (show M + 11 ≠ M + 8 by omega)]
  rw [pb_up_ne2 (show M + 12 ≠ M + 11 by omega), pb_up_ne2 (show M + 12 ≠ M + 10 by omega), pb_up_ne2 (show M + 12 ≠ M + 9 by omega), pb_up_ne2 (show M + 12 ≠ M + 8 by omega)]
theorem pq_msh1_8 {S : pb_Sg} {M k j : Nat} : pb_msh1 S M k (M + 8) j = if j = k then S (M + 8) (k + 1) else S (M + 8) j := by
  rw [pq_msh1_eq, pb_up_ne2 (show M + 8 ≠ M + 12 by omega), pb_up_ne2 (show M + 8 ≠ M + 11 by omega), pb_up_ne2 (show M + 8 ≠ M + 10 by omega), pb_up_ne2 (show M + 8 ≠ M + 9 by omega), pb_up_at]
  by_cases e : j = k
  · rw [if_pos ⟨rfl, e⟩, if_pos e]
  · rw [if_neg (fun q => e q.2), if_neg e]
theorem pq_mshN_8 {S : pb_Sg} {M lo j : Nat} (n : Nat) : pb_mshN S M lo n (M + 8) j = if lo ≤ j ∧ j < lo + n then S (M + 8) (j + 1) else S (M + 8) j := by
  induction n generalizing j with
  | zero => rw [if_neg (by omega)]; rfl
  | succ n ih =>
    show pb_msh1 (pb_mshN S M lo n) M (lo + n) (M + 8) j = _
    rw [pq_msh1_8, ih, ih]
    by_cases e : j = lo + n
    · rw [if_pos e, if_neg (by omega), if_pos (by omega), e]
    · rw [if_neg e]
      by_cases e2 : lo ≤ j ∧ j < lo + n
      · rw [if_pos e2, if_pos (by omega)]
      · rw [if_neg e2, if_neg (by omega)]
theorem pq_msh1_9 {S : pb_Sg} {M k j : Nat} : pb_msh1 S M k (M + 9) j = if j = k then S (M + 9) (k + 1) else S (M + 9) j := by
  rw [pq_msh1_eq, pb_up_ne2 (show M + 9 ≠ M + 12 by omega), pb_up_ne2 (show M + 9 ≠ M + 11 by omega), pb_up_ne2 (show M + 9 ≠ M + 10 by omega), pb_up_at]
  by_cases e : j = k
  · rw [if_pos ⟨rfl, e⟩, if_pos e]
  · rw [if_neg (fun q => e q.2), if_neg e, pb_up_ne2 (show M + 9 ≠ M + 8 by omega)]
theorem pq_mshN_9 {S : pb_Sg} {M lo j : Nat} (n : Nat) : pb_mshN S M lo n (M + 9) j = if lo ≤ j ∧ j < lo + n then S (M + 9) (j + 1) else S (M + 9) j := by
  induction n generalizing j with
  | zero => rw [if_neg (by omega)]; rfl
  | succ n ih =>
    show pb_msh1 (pb_mshN S M lo n) M (lo + n) (M + 9) j = _
    rw [pq_msh1_9, ih, ih]
    by_cases e : j = lo + n
    · rw [if_pos e, if_neg (by omega), if_pos (by omega), e]
    · rw [if_neg e]
      by_cases e2 : lo ≤ j ∧ j < lo + n
      · rw [if_pos e2, if_pos (by omega)]
      · rw [if_neg e2, if_neg (by omega)]
theorem pq_msh1_10 {S : pb_Sg} {M k j : Nat} : pb_msh1 S M k (M + 10) j = if j = k then S (M + 10) (k + 1) else S (M + 10) j := by
  rw [pq_msh1_eq, pb_up_ne2 (show M + 10 ≠ M + 12 by omega), pb_up_ne2 (show M + 10 ≠ M + 11 by omega), pb_up_at]
  by_cases e : j = k
  · rw [if_pos ⟨rfl, e⟩, if_pos e]
  · rw [if_neg (fun q => e q.2), if_neg e, pb_up_ne2 (show M + 10 ≠ M + 9 by omega), pb_up_ne2 (show M + 10 ≠ M + 8 by omega)]
theorem pq_mshN_10 {S : pb_Sg} {M lo j : Nat} (n : Nat) : pb_mshN S M lo n (M + 10) j = if lo ≤ j ∧ j < lo + n then S (M + 10) (j + 1) else S (M + 10) j := by
  induction n generalizing j with
  | zero => rw [if_neg (by omega)]; rfl
  | succ n ih =>
    show pb_msh1 (pb_mshN S M lo n) M (lo + n) (M + 10) j = _
    rw [pq_msh1_10, ih, ih]
    by_cases e : j = lo + n
    · rw [if_pos e, if_neg (by omega), if_pos (by omega), e]
    · rw [if_neg e]
      by_cases e2 : lo ≤ j ∧ j < lo + n
      · rw [if_pos e2, if_pos (by omega)]
      · rw [if_neg e2, if_neg (by omega)]
theorem pq_msh1_11 {S : pb_Sg} {M k j : Nat} : pb_msh1 S M k (M + 11) j = if j = k then S (M + 11) (k + 1) else S (M + 11) j := by
  rw [pq_msh1_eq, pb_up_ne2 (show M + 11 ≠ M + 12 by omega), pb_up_at]
  by_cases e : j = k
  · rw [if_pos ⟨rfl, e⟩, if_pos e]
  · rw [if_neg (fun q => e q.2), if_neg e, pb_up_ne2 (show M + 11 ≠ M + 10 by omega), pb_up_ne2 (show M + 11 ≠ M + 9 by omega), pb_up_ne2 (show M + 11 ≠ M + 8 by omega)]
theorem pq_mshN_11 {S : pb_Sg} {M lo j : Nat} (n : Nat) : pb_mshN S M lo n (M + 11) j = if lo ≤ j ∧ j < lo + n then S (M + 11) (j + 1) else S (M + 11) j := by
  induction n generalizing j with
  | zero => rw [if_neg (by omega)]; rfl
  | succ n ih =>
    show pb_msh1 (pb_mshN S M lo n) M (lo + n) (M + 11) j = _
    rw [pq_msh1_11, ih, ih]
    by_cases e : j = lo + n
    · rw [if_pos e, if_neg (by omega), if_pos (by omega), e]
    · rw [if_neg e]
      by_cases e2 : lo ≤ j ∧ j < lo + n
      · rw [if_pos e2, if_pos (by omega)]
      · rw [if_neg e2, if_neg (by omega)]
theorem pq_msh1_12 {S : pb_Sg} {M k j : Nat} : pb_msh1 S M k (M + 12) j = if j = k then S (M + 12) (k + 1) else S (M + 12) j := by
  rw [pq_msh1_eq, pb_up_at]
  by_cases e : j = k
  · rw [if_pos ⟨rfl, e⟩, if_pos e]
  · rw [if_neg (fun q => e q.2), if_neg e, pb_up_ne2 (show M + 12 ≠ M + 11 by omega), pb_up_ne2 (show M + 12 ≠ M + 10 by omega), pb_up_ne2 (show M + 12 ≠ M + 9 by omega), pb_up_ne2 (show M + 12 ≠ M + 8 by omega)]
theorem pq_mshN_12 {S : pb_Sg} {M lo j : Nat} (n : Nat) : pb_mshN S M lo n (M + 12) j = if lo ≤ j ∧ j < lo + n then S (M + 12) (j + 1) else S (M + 12) j := by
  induction n generalizing j with
  | zero => rw [if_neg (by omega)]; rfl
  | succ n ih =>
    show pb_msh1 (pb_mshN S M lo n) M (lo + n) (M + 12) j = _
    rw [pq_msh1_12, ih, ih]
    by_cases e : j = lo + n
    · rw [if_pos e, if_neg (by omega), if_pos (by omega), e]
    · rw [if_neg e]
      by_cases e2 : lo ≤ j ∧ j < lo + n
      · rw [if_pos e2, if_pos (by omega)]
      · rw [if_neg e2, if_neg (by omega)]
theorem pq_mkp_eq {S : pb_Sg} {M b t s : Nat} : pb_mkp S M b t s = pb_up (pb_up (pb_up (pb_up (pb_up (pb_up S (M + 8) (30 * b + s) (nI t)) (M + 9) (30 * b + s) (S (M + 1) (16 * b + t))) (M + 10) (30 * b + s) (S (M + 2) (16 * b + t))) (M + 11) (30 * b + s) (S (M + 3) (16 * b + t))) (M + 12) (30 * b + s) (S (M + 4) (16 * b + t))) (M + 13) b (S (M + 13) b + nI 1) := by
  unfold pb_mkp
  dsimp only
  rw [pb_up_ne2 (show M + 1 ≠ M + 8 by omega)]
  rw [pb_up_ne2 (show M + 2 ≠ M + 9 by omega), pb_up_ne2 (show M + 2 ≠ M + 8 by omega)]
  rw [pb_up_ne2 (show M + 3 ≠ M + 10 by omega), pb_up_ne2 (show M + 3 ≠ M + 9 by omega), pb_up_ne2 (show M + 3 ≠ M + 8 by omega)]
  rw [pb_up_ne2 (show M + 4 ≠ M + 11 by omega), pb_up_ne2 (show M + 4 ≠ M + 10 by omega), pb_up_ne2 (show M + 4 ≠ M + 9 by omega), pb_up_ne2 (show M + 4 ≠ M + 8 by omega)]
  rw [pb_up_ne2 (show M + 13 ≠ M + 12 by omega), pb_up_ne2 (show M + 13 ≠ M + 11 by omega), pb_up_ne2 (show M + 13 ≠ M + 10 by omega), pb_up_ne2 (show M + 13 ≠ M + 9 by omega), pb_up_ne2 (show M + 13 ≠ M + 8 by omega)]
theorem pq_mkp_ne {S : pb_Sg} {M b t s x : Nat} (h : x < M + 8 ∨ M + 13 < x) : pb_mkp S M b t s x = S x := by
  rw [pq_mkp_eq, pb_up_neA (by omega), pb_up_neA (by omega), pb_up_neA (by omega), pb_up_neA (by omega), pb_up_neA (by omega), pb_up_neA (by omega)]
theorem pq_mkk_ne {S : pb_Sg} {M b t s x : Nat} (h : x < M + 8 ∨ M + 13 < x) : pb_mkk S M b t s x = S x := by
  unfold pb_mkk
  split
  · rw [pq_mkp_ne h, pb_up_neA (by omega), pb_mshN_ne (by omega)]
  · exact pq_mkp_ne h
theorem pq_mkp_8 {S : pb_Sg} {M b t s j : Nat} : pb_mkp S M b t s (M + 8) j = if j = 30 * b + s then nI t else S (M + 8) j := by
  rw [pq_mkp_eq, pb_up_ne2 (show M + 8 ≠ M + 13 by omega), pb_up_ne2 (show M + 8 ≠ M + 12 by omega), pb_up_ne2 (show M + 8 ≠ M + 11 by omega), pb_up_ne2 (show M + 8 ≠ M + 10 by omega), pb_up_ne2 (show M + 8 ≠ M + 9 by omega), pb_up_at]
  by_cases e : j = 30 * b + s
  · rw [if_pos ⟨rfl, e⟩, if_pos e]
  · rw [if_neg (fun q => e q.2), if_neg e]
/-- what the reference keeps: moved down by one where it is full -/
theorem pq_mkk_8 {S : pb_Sg} {M b t s i : Nat} (hs : s ≤ 30) (hi : i < 30) : pb_mkk S M b t s (M + 8) (30 * b + i) = if s = 30 then (if i = 29 then nI t else S (M + 8) (30 * b + i + 1)) else if i = s then nI t else S (M + 8) (30 * b + i) := by
  unfold pb_mkk
  by_cases e : s = 30
  · rw [if_pos e, if_pos e, pq_mkp_8, pb_up_ne2 (show M + 8 ≠ M + 13 by omega), pq_mshN_8]
    by_cases e2 : i = 29
    · rw [if_pos (by omega), if_pos e2]
    · rw [if_neg (by omega), if_neg e2, if_pos (by omega)]
  · rw [if_neg e, if_neg e, pq_mkp_8]
    by_cases e2 : i = s
    · rw [if_pos (by omega), if_pos e2]
    · rw [if_neg (by omega), if_neg e2]
theorem pq_mkkO_8 {S : pb_Sg} {M b t s j : Nat} (hs : s ≤ 30) (hj : j < 30 * b ∨ 30 * b + 30 ≤ j) : pb_mkk S M b t s (M + 8) j = S (M + 8) j := by
  unfold pb_mkk
  by_cases e : s = 30
  · rw [if_pos e, pq_mkp_8, if_neg (by omega), pb_up_ne2 (by omega), pq_mshN_8, if_neg (by omega)]
  · rw [if_neg e, pq_mkp_8, if_neg (by omega)]
theorem pq_mkp_9 {S : pb_Sg} {M b t s j : Nat} : pb_mkp S M b t s (M + 9) j = if j = 30 * b + s then S (M + 1) (16 * b + t) else S (M + 9) j := by
  rw [pq_mkp_eq, pb_up_ne2 (show M + 9 ≠ M + 13 by omega), pb_up_ne2 (show M + 9 ≠ M + 12 by omega), pb_up_ne2 (show M + 9 ≠ M + 11 by omega), pb_up_ne2 (show M + 9 ≠ M + 10 by omega), pb_up_at]
  by_cases e : j = 30 * b + s
  · rw [if_pos ⟨rfl, e⟩, if_pos e]
  · rw [if_neg (fun q => e q.2), if_neg e, pb_up_ne2 (show M + 9 ≠ M + 8 by omega)]
/-- what the reference keeps: moved down by one where it is full -/
theorem pq_mkk_9 {S : pb_Sg} {M b t s i : Nat} (hs : s ≤ 30) (hi : i < 30) : pb_mkk S M b t s (M + 9) (30 * b + i) = if s = 30 then (if i = 29 then S (M + 1) (16 * b + t) else S (M + 9) (30 * b + i + 1)) else if i = s then S (M + 1) (16 * b + t) else S (M + 9) (30 * b + i) := by
  unfold pb_mkk
  by_cases e : s = 30
  · rw [if_pos e, if_pos e, pq_mkp_9, pb_up_neA (show M + 1 ≠ M + 13 by omega), pb_mshN_ne (by omega), pb_up_ne2 (show M + 9 ≠ M + 13 by omega), pq_mshN_9]
    by_cases e2 : i = 29
    · rw [if_pos (by omega), if_pos e2]
    · rw [if_neg (by omega), if_neg e2, if_pos (by omega)]
  · rw [if_neg e, if_neg e, pq_mkp_9]
    by_cases e2 : i = s
    · rw [if_pos (by omega), if_pos e2]
    · rw [if_neg (by omega), if_neg e2]
theorem pq_mkkO_9 {S : pb_Sg} {M b t s j : Nat} (hs : s ≤ 30) (hj : j < 30 * b ∨ 30 * b + 30 ≤ j) : pb_mkk S M b t s (M + 9) j = S (M + 9) j := by
  unfold pb_mkk
  by_cases e : s = 30
  · rw [if_pos e, pq_mkp_9, if_neg (by omega), pb_up_ne2 (by omega), pq_mshN_9, if_neg (by omega)]
  · rw [if_neg e, pq_mkp_9, if_neg (by omega)]
theorem pq_mkp_10 {S : pb_Sg} {M b t s j : Nat} : pb_mkp S M b t s (M + 10) j = if j = 30 * b + s then S (M + 2) (16 * b + t) else S (M + 10) j := by
  rw [pq_mkp_eq, pb_up_ne2 (show M + 10 ≠ M + 13 by omega), pb_up_ne2 (show M + 10 ≠ M + 12 by omega), pb_up_ne2 (show M + 10 ≠ M + 11 by omega), pb_up_at]
  by_cases e : j = 30 * b + s
  · rw [if_pos ⟨rfl, e⟩, if_pos e]
  · rw [if_neg (fun q => e q.2), if_neg e, pb_up_ne2 (show M + 10 ≠ M + 9 by omega), pb_up_ne2 (show M + 10 ≠ M + 8 by omega)]
/-- what the reference keeps: moved down by one where it is full -/
theorem pq_mkk_10 {S : pb_Sg} {M b t s i : Nat} (hs : s ≤ 30) (hi : i < 30) : pb_mkk S M b t s (M + 10) (30 * b + i) = if s = 30 then (if i = 29 then S (M + 2) (16 * b + t) else S (M + 10) (30 * b + i + 1)) else if i = s then S (M + 2) (16 * b + t) else S (M + 10) (30 * b + i) := by
  unfold pb_mkk
  by_cases e : s = 30
  · rw [if_pos e, if_pos e, pq_mkp_10, pb_up_neA (show M + 2 ≠ M + 13 by omega), pb_mshN_ne (by omega), pb_up_ne2 (show M + 10 ≠ M + 13 by omega), pq_mshN_10]
    by_cases e2 : i = 29
    · rw [if_pos (by omega), if_pos e2]
    · rw [if_neg (by omega), if_neg e2, if_pos (by omega)]
  · rw [if_neg e, if_neg e, pq_mkp_10]
    by_cases e2 : i = s
    · rw [if_pos (by omega), if_pos e2]
    · rw [if_neg (by omega), if_neg e2]
theorem pq_mkkO_10 {S : pb_Sg} {M b t s j : Nat} (hs : s ≤ 30) (hj : j < 30 * b ∨ 30 * b + 30 ≤ j) : pb_mkk S M b t s (M + 10) j = S (M + 10) j := by
  unfold pb_mkk
  by_cases e : s = 30
  · rw [if_pos e, pq_mkp_10, if_neg (by omega), pb_up_ne2 (by omega), pq_mshN_10, if_neg (by omega)]
  · rw [if_neg e, pq_mkp_10, if_neg (by omega)]
theorem pq_mkp_11 {S : pb_Sg} {M b t s j : Nat} : pb_mkp S M b t s (M + 11) j = if j = 30 * b + s then S (M + 3) (16 * b + t) else S (M + 11) j := by
  rw [pq_mkp_eq, pb_up_ne2 (show M + 11 ≠ M + 13 by omega), pb_up_ne2 (show M + 11 ≠ M + 12 by omega), pb_up_at]
  by_cases e : j = 30 * b + s
  · rw [if_pos ⟨rfl, e⟩, if_pos e]
  · rw [if_neg (fun q => e q.2), if_neg e, pb_up_ne2 (show M + 11 ≠ M + 10 by omega), pb_up_ne2 (show M + 11 ≠ M + 9 by omega), pb_up_ne2 (show M + 11 ≠ M + 8 by omega)]
/-- what the reference keeps: moved down by one where it is full -/
theorem pq_mkk_11 {S : pb_Sg} {M b t s i : Nat} (hs : s ≤ 30) (hi : i < 30) : pb_mkk S M b t s (M + 11) (30 * b + i) = if s = 30 then (if i = 29 then S (M + 3) (16 * b + t) else S (M + 11) (30 * b + i + 1)) else if i = s then S (M + 3) (16 * b + t) else S (M + 11) (30 * b + i) := by
  unfold pb_mkk
  by_cases e : s = 30
  · rw [if_pos e, if_pos e, pq_mkp_11, pb_up_neA (show M + 3 ≠ M + 13 by omega), pb_mshN_ne (by omega), pb_up_ne2 (show M + 11 ≠ M + 13 by omega), pq_mshN_11]
    by_cases e2 : i = 29
    · rw [if_pos (by omega), if_pos e2]
    · rw [if_neg (by omega), if_neg e2, if_pos (by omega)]
  · rw [if_neg e, if_neg e, pq_mkp_11]
    by_cases e2 : i = s
    · rw [if_pos (by omega), if_pos e2]
    · rw [if_neg (by omega), if_neg e2]
theorem pq_mkkO_11 {S : pb_Sg} {M b t s j : Nat} (hs : s ≤ 30) (hj : j < 30 * b ∨ 30 * b + 30 ≤ j) : pb_mkk S M b t s (M + 11) j = S (M + 11) j := by
  unfold pb_mkk
  by_cases e : s = 30
  · rw [if_pos e, pq_mkp_11, if_neg (by omega), pb_up_ne2 (by omega), pq_mshN_11, if_neg (by omega)]
  · rw [if_neg e, pq_mkp_11, if_neg (by omega)]
theorem pq_mkp_12 {S : pb_Sg} {M b t s j : Nat} : pb_mkp S M b t s (M + 12) j = if j = 30 * b + s then S (M + 4) (16 * b + t) else S (M + 12) j := by
  rw [pq_mkp_eq, pb_up_ne2 (show M + 12 ≠ M + 13 by omega), pb_up_at]
  by_cases e : j = 30 * b + s
  · rw [if_pos ⟨rfl, e⟩, if_pos e]
  · rw [if_neg (fun q => e q.2), if_neg e, pb_up_ne2 (show M + 12 ≠ M + 11 by omega), pb_up_ne2 (show M + 12 ≠ M + 10 by omega), pb_up_ne2 (show M + 12 ≠ M + 9 by omega), pb_up_ne2 (show M + 12 ≠ M + 8 by omega)]
/-- what the reference keeps: moved down by one where it is full -/
theorem pq_mkk_12 {S : pb_Sg} {M b t s i : Nat} (hs : s ≤ 30) (hi : i < 30) : pb_mkk S M b t s (M + 12) (30 * b + i) = if s = 30 then (if i = 29 then S (M + 4) (16 * b + t) else S (M + 12) (30 * b + i + 1)) else if i = s then S (M + 4) (16 * b + t) else S (M + 12) (30 * b + i) := by
  unfold pb_mkk
  by_cases e : s = 30
  · rw [if_pos e, if_pos e, pq_mkp_12, pb_up_neA (show M + 4 ≠ M + 13 by omega), pb_mshN_ne (by omega), pb_up_ne2 (show M + 12 ≠ M + 13 by omega), pq_mshN_12]
    by_cases e2 : i = 29
    · rw [if_pos (by omega), if_pos e2]
    · rw [if_neg (by omega), if_neg e2, if_pos (by omega)]
  · rw [if_neg e, if_neg e, pq_mkp_12]
    by_cases e2 : i = s
    · rw [if_pos (by omega), if_pos e2]
    · rw [if_neg (by omega), if_neg e2]
theorem pq_mkkO_12 {S : pb_Sg} {M b t s j : Nat} (hs : s ≤ 30) (hj : j < 30 * b ∨ 30 * b + 30 ≤ j) : pb_mkk S M b t s (M + 12) j = S (M + 12) j := by
  unfold pb_mkk
  by_cases e : s = 30
  · rw [if_pos e, pq_mkp_12, if_neg (by omega), pb_up_ne2 (by omega), pq_mshN_12, if_neg (by omega)]
  · rw [if_neg e, pq_mkp_12, if_neg (by omega)]
theorem pq_mkk_13 {S : pb_Sg} {M b t s : Nat} (h : S (M + 13) b = nI s) : pb_mkk S M b t s (M + 13) b = if s = 30 then nI 30 else nI (s + 1) := by
  unfold pb_mkk
  by_cases e : s = 30
  · rw [if_pos e, if_pos e, pq_mkp_eq, pb_up_self, pb_up_self]
    decide
  · rw [if_neg e, if_neg e, pq_mkp_eq, pb_up_self, h, nI_add]
theorem pq_mkkO_13 {S : pb_Sg} {M b t s j : Nat} (h : j ≠ b) : pb_mkk S M b t s (M + 13) j = S (M + 13) j := by
  have e1 : ∀ T : pb_Sg, ∀ s, pb_mkp T M b t s (M + 13) j = T (M + 13) j := fun T s => by
    rw [pq_mkp_eq, pb_up_ne3 h, pb_up_ne2 (by omega), pb_up_ne2 (by omega), pb_up_ne2 (by omega), pb_up_ne2 (by omega), pb_up_ne2 (by omega)]
  unfold pb_mkk
  split
  · rw [e1, pb_up_ne3 h, pb_mshN_ne (by omega)]
  · exact e1 S s
/-- the kept rows of class (at o) and reference (of the branch b): s of them, the class's next place is nx -/
def pq_he (S S' : pb_Sg) (o M b r i : Nat) : Prop := (∃ t, t < 16 ∧ S (o + 1) r = nI t ∧ S' (M + 8) (30 * b + i) = nI t) ∧ S (o + 2) r = S' (M + 9) (30 * b + i) ∧ S (o + 3) r = S' (M + 10) (30 * b + i) ∧ S (o + 4) r = S' (M + 11) (30 * b + i) ∧ S (o + 5) r = S' (M + 12) (30 * b + i) ∧ pq_gr (S (o + 2) r) (S (o + 3) r) (S (o + 5) r)
def pq_hr (S S' : pb_Sg) (o M b nx s : Nat) : Prop := nx < 30 ∧ s ≤ 30 ∧ S o 5 = nI nx ∧ S o 6 = nI s ∧ S' (M + 13) b = nI s ∧ ∀ i, i < s → pq_he S S' o M b ((nx + 30 - s + i) % 30) i
theorem pq_hr.of {S S' T T' : pb_Sg} {o M b nx s : Nat} (h : pq_hr S S' o M b nx s) (h1 : ∀ a, o ≤ a → a ≤ o + 5 → T a = S a) (h2 : ∀ k, 8 ≤ k → k ≤ 12 → ∀ i, i < 30 → T' (M + k) (30 * b + i) = S' (M + k) (30 * b + i)) (h3 : T' (M + 13) b = S' (M + 13) b) : pq_hr T T' o M b nx s := by
  obtain ⟨a1, a2, a3, a4, a5, a6⟩ := h
  refine ⟨a1, a2, by rw [h1 o (by omega) (by omega), a3], by rw [h1 o (by omega) (by omega), a4], by rw [h3, a5], fun i hi => ?_⟩
  have h9 := a6 i hi
  unfold pq_he at h9 ⊢
  rw [h1 (o + 1) (by omega) (by omega), h1 (o + 2) (by omega) (by omega), h1 (o + 3) (by omega) (by omega), h1 (o + 4) (by omega) (by omega), h1 (o + 5) (by omega) (by omega), h2 8 (by omega) (by omega) i (by omega), h2 9 (by omega) (by omega) i (by omega), h2 10 (by omega) (by omega) i (by omega), h2 11 (by omega) (by omega) i (by omega), h2 12 (by omega) (by omega) i (by omega)]
  exact h9
theorem pq_hr_0 {S S' : pb_Sg} {o M b nx : Nat} (h : nx < 30) (h1 : S o 5 = nI nx) (h2 : S o 6 = nI 0) (h3 : S' (M + 13) b = nI 0) : pq_hr S S' o M b nx 0 := ⟨h, by omega, h1, h2, h3, fun i hi => absurd hi (by omega)⟩
theorem pq_hr_keep {S S' : pb_Sg} {o p M b t nx s : Nat} (hp : p + 4 < o) (h : pq_hr S S' o M b nx s) (ht : t < 16) (hr : pq_row S S' p M b t) (hg : pq_gr (S (p + 1) t) (S (p + 2) t) (S (p + 4) t)) : pq_hr (pb_keep S o p t nx s) (pb_mkk S' M b t s) o M b (pb_nx nx) (if s < 30 then s + 1 else 30) := by
  obtain ⟨a1, a2, a3, a4, a5, a6⟩ := h
  have hnx : pb_nx nx < 30 := by unfold pb_nx; split <;> omega
  refine ⟨hnx, by split <;> omega, pq_keep_nx hp, ?_, ?_, fun i hi => ?_⟩
  · rw [pq_keep_s hp]
    by_cases e : s < 30
    · rw [if_pos e, if_pos e]
    · rw [if_neg e, if_neg e, a4, show s = 30 by omega]
  · rw [pq_mkk_13 a5]
    by_cases e : s < 30
    · rw [if_pos e, if_neg (by omega)]
    · rw [if_neg e, if_pos (by omega)]
  · have hi30 : i < 30 := by split at hi <;> omega
    unfold pq_he
    rw [pq_keep_1 hp, pq_keep_2 hp, pq_keep_3 hp, pq_keep_4 hp, pq_keep_5 hp, pq_mkk_8 a2 hi30, pq_mkk_9 a2 hi30, pq_mkk_10 a2 hi30, pq_mkk_11 a2 hi30, pq_mkk_12 a2 hi30]
    by_cases e : s < 30
    · rw [if_pos e] at hi ⊢
      have e30 : ¬ s = 30 := by omega
      rw [if_neg e30, if_neg e30, if_neg e30, if_neg e30, if_neg e30]
      have er : (pb_nx nx + 30 - (s + 1) + i) % 30 = (nx + 30 - s + i) % 30 := by unfold pb_nx; split <;> omega
      rw [er]
      by_cases e2 : i = s
      · have er2 : (nx + 30 - s + i) % 30 = nx := by omega
        rw [er2, if_pos rfl, if_pos rfl, if_pos rfl, if_pos rfl, if_pos rfl, if_pos e2, if_pos e2, if_pos e2, if_pos e2, if_pos e2]
        exact ⟨⟨t, ht, rfl, rfl⟩, hr.1, hr.2.1, hr.2.2.1, hr.2.2.2, hg⟩
      · have er2 : ¬ (nx + 30 - s + i) % 30 = nx := by omega
        rw [if_neg er2, if_neg er2, if_neg er2, if_neg er2, if_neg er2, if_neg e2, if_neg e2, if_neg e2, if_neg e2, if_neg e2]
        exact a6 i (by omega)
    · have e30 : s = 30 := by omega
      rw [if_neg e] at hi ⊢
      subst e30
      rw [if_pos rfl, if_pos rfl, if_pos rfl, if_pos rfl, if_pos rfl]
      by_cases e2 : i = 29
      · have er2 : (pb_nx nx + 30 - 30 + i) % 30 = nx := by unfold pb_nx; split <;> omega
        rw [er2, if_pos rfl, if_pos rfl, if_pos rfl, if_pos rfl, if_pos rfl, if_pos e2, if_pos e2, if_pos e2, if_pos e2, if_pos e2]
        exact ⟨⟨t, ht, rfl, rfl⟩, hr.1, hr.2.1, hr.2.2.1, hr.2.2.2, hg⟩
      · have er : (pb_nx nx + 30 - 30 + i) % 30 = (nx + 30 - 30 + (i + 1)) % 30 := by unfold pb_nx; split <;> omega
        have er2 : ¬ (nx + 30 - 30 + (i + 1)) % 30 = nx := by omega
        rw [er, if_neg er2, if_neg er2, if_neg er2, if_neg er2, if_neg er2, if_neg e2, if_neg e2, if_neg e2, if_neg e2, if_neg e2]
        exact a6 (i + 1) (by omega)
theorem pq_pv {nx s : Nat} (h : nx < 30) (hs : s ≤ 30) (h0 : 0 < s) : pb_pv nx < 30 ∧ (nx + 30 - s + (s - 1)) % 30 = pb_pv nx ∧ ∀ i, i < s - 1 → (pb_pv nx + 30 - (s - 1) + i) % 30 = (nx + 30 - s + i) % 30 := by
  unfold pb_pv
  split
  · exact ⟨by omega, by omega, fun i hi => by omega⟩
  · exact ⟨by omega, by omega, fun i hi => by omega⟩
/-- behind an undo: S and S' but for the places of the ring, and what else doesn't matter here -/
theorem pq_hr_undo {S S' T T' : pb_Sg} {o M b nx s : Nat} (h : pq_hr S S' o M b nx s) (h0 : 0 < s) (h1 : ∀ a, o + 1 ≤ a → a ≤ o + 5 → T a = S a) (h5 : T o 5 = nI (pb_pv nx)) (h6 : T o 6 = nI (s - 1)) (h2 : ∀ k, 8 ≤ k → k ≤ 12 → T' (M + k) = S' (M + k)) (h3 : T' (M + 13) b = nI (s - 1)) : pq_hr T T' o M b (pb_pv nx) (s - 1) := by
  obtain ⟨a1, a2, a3, a4, a5, a6⟩ := h
  obtain ⟨v1, v2, v3⟩ := pq_pv a1 a2 h0
  refine ⟨v1, by omega, h5, h6, h3, fun i hi => ?_⟩
  rw [v3 i hi]
  have h9 := a6 i (by omega)
  unfold pq_he at h9 ⊢
  rw [h1 (o + 1) (by omega) (by omega), h1 (o + 2) (by omega) (by omega), h1 (o + 3) (by omega) (by omega), h1 (o + 4) (by omega) (by omega), h1 (o + 5) (by omega) (by omega), h2 8 (by omega) (by omega), h2 9 (by omega) (by omega), h2 10 (by omega) (by omega), h2 11 (by omega) (by omega), h2 12 (by omega) (by omega)]
  exact h9
