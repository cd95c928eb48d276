/-! All needs of a task: both loops come to the least set that is closed. -/
def pq_W (s : Int32) : Prop := ∀ j, 16 ≤ j → pb_in s j = false
def pq_le (s c : Int32) : Prop := ∀ j, j < 16 → pb_in s j = true → pb_in c j = true
def pq_cl (f : Nat → Int32) (c : Int32) : Prop := ∀ j, j < 16 → pb_in c j = true → pq_le (f j) c
theorem pq_le_anti {s c : Int32} (hs : pq_W s) (hc : pq_W c) (h1 : pq_le s c) (h2 : pq_le c s) : s = c := by
  apply pb_in_ext
  intro j _
  by_cases e : j < 16
  · rw [Bool.eq_iff_iff]
    exact ⟨h1 j e, h2 j e⟩
  · rw [hs j (by omega), hc j (by omega)]
def pq_itr (g : Int32 → Int32) : Nat → Int32 → Int32
  | 0, s => s
  | n + 1, s => pq_itr g n (g s)
theorem pq_itr_1 {f : Nat → Int32} (n : Nat) : ∀ s, pb_it f n s = pq_itr (fun s => pb_orN f s s 16) n s := by
  induction n with
  | zero => exact fun _ => rfl
  | succ n ih => exact fun s => ih _
theorem pq_itr_2 {f : Nat → Int32} (n : Nat) : ∀ s, pb_mit f n s = pq_itr (fun s => pb_orP f s 16) n s := by
  induction n with
  | zero => exact fun _ => rfl
  | succ n ih => exact fun s => ih _
theorem pq_cnt_full {c : Nat → Bool} (n : Nat) (h : n ≤ pb_cnt c n) : ∀ j, j < n → c j = true := by
  induction n with
  | zero => exact fun j hj => by omega
  | succ n ih =>
    intro j hj
    have h2 := pb_cnt_le c n
    unfold pb_cnt at h
    by_cases e : c n = true
    · rw [if_pos e] at h
      by_cases e2 : j = n
      · rw [e2]; exact e
      · exact ih (by omega) j (by omega)
    · rw [if_neg e] at h
      omega
theorem pq_itr_fix {g : Int32 → Int32} (h1 : ∀ s, pq_le s (g s)) (h2 : ∀ s, pq_W s → pq_W (g s)) (n : Nat) : ∀ s, pq_W s → 16 ≤ pb_cnt (pb_in s) 16 + n → g (pq_itr g n s) = pq_itr g n s := by
  induction n with
  | zero =>
    intro s hs hc
    have h3 := pq_cnt_full 16 (show 16 ≤ pb_cnt (pb_in s) 16 by omega)
    exact pq_le_anti (h2 s hs) hs (fun j hj _ => h3 j hj) (h1 s)
  | succ n ih =>
    intro s hs hc
    by_cases e : g s = s
    · have h9 : ∀ m, pq_itr g m s = s := by
        intro m
        induction m with
        | zero => rfl
        | succ m ihm =>
          show pq_itr g m (g s) = s
          rw [e]; exact ihm
      rw [h9, e]
    · refine ih (g s) (h2 s hs) ?_
      have h4 : ∃ i, i < 16 ∧ pb_in s i = false ∧ pb_in (g s) i = true := by
        apply Classical.byContradiction
        intro hno
        refine e (pq_le_anti (h2 s hs) hs (fun j hj hi => ?_) (h1 s))
        cases e3 : pb_in s j
        · exact absurd ⟨j, hj, e3, hi⟩ hno
        · rfl
      obtain ⟨i, hi, a, b⟩ := h4
      have := pb_cnt_lt (c := pb_in (g s)) (c' := pb_in s) (n := 16) (i := i) (fun j hj h => h1 s j hj h) hi b a
      omega
theorem pq_itr_W {g : Int32 → Int32} (h2 : ∀ s, pq_W s → pq_W (g s)) (n : Nat) : ∀ s, pq_W s → pq_W (pq_itr g n s) := by
  induction n with
  | zero => exact fun s h => h
  | succ n ih => exact fun s h => ih _ (h2 s h)
theorem pq_itr_ge {g : Int32 → Int32} (h1 : ∀ s, pq_le s (g s)) (n : Nat) : ∀ s, pq_le s (pq_itr g n s) := by
  induction n with
  | zero => exact fun s j hj h => h
  | succ n ih => exact fun s j hj h => ih (g s) j hj (h1 s j hj h)
theorem pq_itr_le {g : Int32 → Int32} {c : Int32} (h : ∀ s, pq_le s c → pq_le (g s) c) (n : Nat) : ∀ s, pq_le s c → pq_le (pq_itr g n s) c := by
  induction n with
  | zero => exact fun s h => h
  | succ n ih => exact fun s hs => ih (g s) (h s hs)
theorem pq_itr_eq {f : Nat → Int32} {g g' : Int32 → Int32} (a1 : ∀ s, pq_le s (g s)) (a2 : ∀ s, pq_W s → pq_W (g s)) (a3 : ∀ s, g s = s → pq_cl f s) (a4 : ∀ c s, pq_cl f c → pq_le s c → pq_le (g s) c) (b1 : ∀ s, pq_le s (g' s)) (b2 : ∀ s, pq_W s → pq_W (g' s)) (b3 : ∀ s, g' s = s → pq_cl f s) (b4 : ∀ c s, pq_cl f c → pq_le s c → pq_le (g' s) c) {s : Int32} (hs : pq_W s) {n m : Nat} (hn : 16 ≤ n) (hm : 16 ≤ m) : pq_itr g n s = pq_itr g' m s := by
  have c1 := a3 _ (pq_itr_fix a1 a2 n s hs (by omega))
  have c2 := b3 _ (pq_itr_fix b1 b2 m s hs (by omega))
  exact pq_le_anti (pq_itr_W a2 n s hs) (pq_itr_W b2 m s hs) (pq_itr_le (fun s h => a4 _ s c2 h) n s (pq_itr_ge b1 m s)) (pq_itr_le (fun s h => b4 _ s c1 h) m s (pq_itr_ge a1 n s))
theorem pq_or_in {x y : Int32} {j : Nat} : pb_in (x ||| y) j = true ↔ pb_in x j = true ∨ pb_in y j = true := by
  rw [pb_in_or, Bool.or_eq_true]
theorem pq_orN_in {f : Nat → Int32} {s0 s : Int32} {j : Nat} (n : Nat) : pb_in (pb_orN f s0 s n) j = true ↔ pb_in s j = true ∨ ∃ i, i < n ∧ pb_in s0 i = true ∧ pb_in (f i) j = true := by
  induction n with
  | zero => exact ⟨fun h => Or.inl h, fun h => h.elim id fun ⟨i, hi, _⟩ => absurd hi (by omega)⟩
  | succ n ih =>
    cases e : pb_in s0 n
    · rw [pb_orN_f e, ih]
      constructor
      · rintro (h | ⟨i, hi, h1, h2⟩)
        · exact Or.inl h
        · exact Or.inr ⟨i, by omega, h1, h2⟩
      · rintro (h | ⟨i, hi, h1, h2⟩)
        · exact Or.inl h
        · by_cases e2 : i = n
          · rw [e2, e] at h1; cases h1
          · exact Or.inr ⟨i, by omega, h1, h2⟩
    · rw [pb_orN_t e, pq_or_in, ih]
      constructor
      · rintro ((h | ⟨i, hi, h1, h2⟩) | h)
        · exact Or.inl h
        · exact Or.inr ⟨i, by omega, h1, h2⟩
        · exact Or.inr ⟨n, by omega, e, h⟩
      · rintro (h | ⟨i, hi, h1, h2⟩)
        · exact Or.inl (Or.inl h)
        · by_cases e2 : i = n
          · rw [e2] at h2; exact Or.inr h2
          · exact Or.inl (Or.inr ⟨i, by omega, h1, h2⟩)
theorem pq_orP_le {f : Nat → Int32} {c : Int32} (hc : pq_cl f c) {s : Int32} (hs : pq_le s c) (n : Nat) (hn : n ≤ 16) : pq_le (pb_orP f s n) c := by
  induction n with
  | zero => exact hs
  | succ n ih =>
    have ih := ih (by omega)
    unfold pb_orP
    by_cases e : pb_in (pb_orP f s n) n = true
    · rw [if_pos e]
      intro j hj h
      rcases pq_or_in.mp h with h | h
      · exact ih j hj h
      · exact hc n (by omega) (ih n (by omega) e) j hj h
    · rw [if_neg e]; exact ih
theorem pq_orP_W {f : Nat → Int32} (hf : ∀ j, j < 16 → pq_W (f j)) {s : Int32} (hs : pq_W s) (n : Nat) (hn : n ≤ 16) : pq_W (pb_orP f s n) := by
  induction n with
  | zero => exact hs
  | succ n ih =>
    have ih := ih (by omega)
    unfold pb_orP
    by_cases e : pb_in (pb_orP f s n) n = true
    · rw [if_pos e]
      intro j hj
      rw [pb_in_or, ih j hj, hf n (by omega) j hj]
      rfl
    · rw [if_neg e]; exact ih
theorem pq_orP_sub {f : Nat → Int32} {s : Int32} (n k i : Nat) (hk : k ≤ n) (h : pb_in (pb_orP f s k) i = true) : pb_in (pb_orP f s n) i = true := by
  induction n with
  | zero =>
    rw [show k = 0 by omega] at h
    exact h
  | succ n ih =>
    by_cases e : k = n + 1
    · rw [e] at h; exact h
    · have h2 := ih (by omega)
      unfold pb_orP
      by_cases e2 : pb_in (pb_orP f s n) n = true
      · rw [if_pos e2]
        exact pq_or_in.mpr (Or.inl h2)
      · rw [if_neg e2]; exact h2
theorem pq_orP_cl {f : Nat → Int32} {s : Int32} (h : pb_orP f s 16 = s) : pq_cl f s := by
  intro j hj hi i hi16 hf
  have h1 : pb_in (pb_orP f s j) j = true := pb_orP_in hi
  have h2 : pb_in (pb_orP f s (j + 1)) i = true := by
    rw [pb_orP_t h1]
    exact pq_or_in.mpr (Or.inr hf)
  rw [← h]
  exact pq_orP_sub 16 (j + 1) i (by omega) h2
/-- all needs: the class's are the reference's -/
theorem pq_all {f f' : Nat → Int32} (he : ∀ j, j < 16 → f j = f' j) (hf : ∀ j, j < 16 → pq_W (f j)) {t : Nat} (ht : t < 16) : pb_all f t = pb_mall f' t := by
  have e1 : ∀ (n : Nat), n ≤ 16 → ∀ s, pb_orP f' s n = pb_orP f s n := by
    intro n
    induction n with
    | zero => exact fun _ s => rfl
    | succ n ih =>
      intro hn s
      unfold pb_orP
      rw [ih (by omega) s, he n (by omega)]
  have e2 : ∀ (n : Nat) (s : Int32), pb_mit f' n s = pb_mit f n s := by
    intro n
    induction n with
    | zero => exact fun s => rfl
    | succ n ih =>
      intro s
      show pb_mit f' n (pb_orP f' s 16) = pb_mit f n (pb_orP f s 16)
      rw [e1 16 (by omega), ih]
  unfold pb_all pb_mall
  rw [← he t ht, e2, pq_itr_1, pq_itr_2]
  refine pq_itr_eq (f := f) (fun s j hj h => (pq_orN_in 16).mpr (Or.inl h)) (fun s hs j hj => ?_) (fun s h j hj hi i hi16 h2 => ?_) (fun c s hc hs j hj h => ?_) (fun s j hj h => pb_orP_in h) (fun s hs => pq_orP_W hf hs 16 (by omega)) (fun s h => pq_orP_cl h) (fun c s hc hs => pq_orP_le hc hs 16 (by omega)) (hf t ht) (by omega) (by omega)
  · cases e : pb_in (pb_orN f s s 16) j
    · rfl
    · rcases (pq_orN_in 16).mp e with h | ⟨i, hi, h1, h2⟩
      · rw [hs j hj] at h; cases h
      · rw [hf i hi j hj] at h2; cases h2
  · rw [← h]
    exact (pq_orN_in 16).mpr (Or.inr ⟨j, hj, hi, h2⟩)
  · rcases (pq_orN_in 16).mp h with h | ⟨i, hi, h1, h2⟩
    · exact hs j hj h
    · exact hc i hi (hs i hi h1) j hj h2
