theorem pb_up_ne2 {sg : pb_Sg} {a k b j : Nat} {x : Int32} (h : b ≠ a) : pb_up sg a k x b j = sg b j := by rw [pb_up_ne h]
theorem pb_up_ne3 {sg : pb_Sg} {a k b j : Nat} {x : Int32} (h : j ≠ k) : pb_up sg a k x b j = sg b j := by
  rw [pb_up_at, if_neg (fun q => h q.2)]
theorem pb_up_self {sg : pb_Sg} {a k : Nat} {x : Int32} : pb_up sg a k x a k = x := by rw [pb_up_at, if_pos ⟨rfl, rfl⟩]
theorem pb_fill_at (sg : pb_Sg) (a lo : Nat) (x : Int32) (m b j : Nat) : pb_fillN sg a lo x m b j = if b = a ∧ lo ≤ j ∧ j < lo + m then x else sg b j := by
  induction m with
  | zero =>
    rw [if_neg (by omega)]
    rfl
  | succ m ih =>
    show pb_up (pb_fillN sg a lo x m) a (lo + m) x b j = _
    rw [pb_up_at, ih]
    by_cases e : b = a ∧ j = lo + m
    · rw [if_pos e, if_pos (by omega)]
    · rw [if_neg e]
      by_cases e2 : b = a ∧ lo ≤ j ∧ j < lo + m
      · rw [if_pos e2, if_pos (by omega)]
      · rw [if_neg e2, if_neg (by omega)]
def pb_nat (x : Int32) : Nat := x.toNatClampNeg
theorem pb_nat_nI {n : Nat} (h : n < 2147483648) : pb_nat (nI n) = n := nI_clamp h
theorem pb_nat_m1 : pb_nat (-1) = 0 := by decide
def pb_oi : Option Nat → Int32
  | none => -1
  | some d => nI d
theorem pb_m1_ne {n : Nat} (h : n < 2147483648) : ¬ nI n = -1 := fun q => by
  have h1 := nI_toInt h
  rw [q] at h1
  have h2 : ((-1 : Int32)).toInt = -1 := by decide
  omega
theorem pb_mx_nat {a : Nat} {y : Int32} (ha : a < 2147483648) (hy : y = -1 ∨ ∃ m, m < 2147483648 ∧ y = nI m) : pb_mx (nI a) y = nI (max a (pb_nat y)) := by
  unfold pb_mx
  rcases hy with rfl | ⟨m, hm, rfl⟩
  · rw [if_neg, pb_nat_m1, Nat.max_eq_left (Nat.zero_le a)]
    intro q
    have h1 := Int32.lt_iff_toInt_lt.mp q
    rw [nI_toInt ha] at h1
    have h2 : ((-1 : Int32)).toInt = -1 := by decide
    omega
  · rw [pb_nat_nI hm]
    by_cases e : a < m
    · rw [if_pos ((nI_ltI ha hm).mpr e), Nat.max_eq_right (by omega)]
    · rw [if_neg (fun q => e ((nI_ltI ha hm).mp q)), Nat.max_eq_left (by omega)]
/-- a row's length is 0 to 20, its crew none or 0 to 4 -/
def pb_wf (sg : pb_Sg) (p : Nat) : Prop := ∀ t, t < 16 → (∃ l, l ≤ 20 ∧ sg (p + 1) t = nI l) ∧ (sg (p + 2) t = -1 ∨ ∃ c, c < 5 ∧ sg (p + 2) t = nI c)
theorem pb_wf.of {sg sg' : pb_Sg} {p : Nat} (h : pb_wf sg p) (h1 : ∀ t, sg' (p + 1) t = sg (p + 1) t) (h2 : ∀ t, sg' (p + 2) t = sg (p + 2) t) : pb_wf sg' p := fun t ht => by
  rw [h1 t, h2 t]
  exact h t ht
def pb_sch (sk : pb_Sk) (rf : pb_Rf) (s : Nat) : Prop := sk s = (11, 0) ∧ rf s 0 = some (s + 1) ∧ rf s 1 = some (s + 2) ∧ sk (s + 1) = (1, 16) ∧ sk (s + 2) = (5, 5) ∧ (∀ i, i < 5 → rf (s + 2) i = some (s + 3 + i)) ∧ ∀ i, i < 5 → sk (s + 3 + i) = (1, 400)
/-- the days of the schedule at s, for the plan at p -/
def pb_si (sg : pb_Sg) (s p : Nat) : Prop := pb_wf sg p ∧ ∀ t, t < 16 → sg (s + 1) t = -1 ∨ ∃ d, sg (s + 1) t = nI d ∧ d + pb_nat (sg (p + 1) t) ≤ 400
def pb_dn (sg : pb_Sg) (s p t : Nat) : Nat → Nat
  | 0 => 0
  | n + 1 => if pb_in (sg (p + 4) t) n = true then max (pb_dn sg s p t n) (pb_nat (sg (s + 1) n + sg (p + 1) n)) else pb_dn sg s p t n
theorem pb_fdl {sg : pb_Sg} {s p t : Nat} (h : pb_si sg s p) (ht : t < 16) : sg (s + 1) t + sg (p + 1) t = -1 ∨ ∃ m, m ≤ 400 ∧ sg (s + 1) t + sg (p + 1) t = nI m := by
  obtain ⟨⟨l, hl, el⟩, -⟩ := h.1 t ht
  rcases h.2 t ht with e | ⟨d, e, hd⟩
  · rw [e, el]
    rcases Nat.eq_zero_or_pos l with q | q
    · subst q; exact Or.inl (by decide)
    · refine Or.inr ⟨l - 1, by omega, ?_⟩
      rw [Int32.add_comm]
      have := pk_m1 (l - 1)
      rw [show l - 1 + 1 = l by omega] at this
      exact this
  · rw [el, pb_nat_nI (by omega)] at hd
    exact Or.inr ⟨d + l, hd, by rw [e, el, nI_add]⟩
theorem pb_dn_le {sg : pb_Sg} {s p t : Nat} (h : pb_si sg s p) (n : Nat) (hn : n ≤ 16) : pb_dn sg s p t n ≤ 400 := by
  induction n with
  | zero => exact Nat.zero_le _
  | succ n ih =>
    have ih := ih (by omega)
    unfold pb_dn
    split
    · rcases pb_fdl h (t := n) (by omega) with e | ⟨m, hm, e⟩
      · rw [e, pb_nat_m1]; omega
      · rw [e, pb_nat_nI (by omega)]; omega
    · exact ih
def pb_scan (w : Nat → Int32) (l : Nat) : Nat → Nat → Nat → Option Nat
  | 0, _, _ => none
  | j + 1, d, r => if (if w d = -1 then r + 1 else 0) = l then some (d + 1 - l) else pb_scan w l j (d + 1) (if w d = -1 then r + 1 else 0)
theorem pb_scan_le {w : Nat → Int32} {l : Nat} : ∀ (j d r x : Nat), r ≤ d → pb_scan w l j d r = some x → x + l ≤ d + j := by
  intro j
  induction j with
  | zero => intro d r x _ h; cases h
  | succ j ih =>
    intro d r x hr h
    unfold pb_scan at h
    have hr2 : (if w d = -1 then r + 1 else 0) ≤ d + 1 := by split <;> omega
    by_cases e : (if w d = -1 then r + 1 else 0) = l
    · rw [if_pos e] at h
      cases h
      omega
    · rw [if_neg e] at h
      have := ih (d + 1) _ x hr2 h
      omega
theorem pb_scan_free {w : Nat → Int32} {l : Nat} : ∀ (j d r x : Nat), r ≤ d → (∀ y, d - r ≤ y → y < d → w y = -1) → pb_scan w l j d r = some x → ∀ y, x ≤ y → y < x + l → w y = -1 := by
  intro j
  induction j with
  | zero => intro d r x _ _ h; cases h
  | succ j ih =>
    intro d r x hr hw h y hy1 hy2
    unfold pb_scan at h
    by_cases e : w d = -1
    · rw [if_pos e] at h
      have hw2 : ∀ y, (d + 1) - (r + 1) ≤ y → y < d + 1 → w y = -1 := by
        intro y h1 h2
        by_cases e2 : y = d
        · subst e2; exact e
        · exact hw y (by omega) (by omega)
      by_cases e3 : r + 1 = l
      · rw [if_pos e3] at h
        cases h
        exact hw2 y (by omega) (by omega)
      · rw [if_neg e3] at h
        exact ih (d + 1) (r + 1) x (by omega) hw2 h y hy1 hy2
    · rw [if_neg e] at h
      by_cases e3 : 0 = l
      · omega
      · rw [if_neg e3] at h
        exact ih (d + 1) 0 x (by omega) (fun y h1 h2 => by omega) h y hy1 hy2
def pb_ear (sg : pb_Sg) (s p t : Nat) : Option Nat := if sg (p + 2) t = -1 then (if pb_dn sg s p t 16 + pb_nat (sg (p + 1) t) ≤ 400 then some (pb_dn sg s p t 16) else none) else pb_scan (sg (s + 3 + pb_nat (sg (p + 2) t))) (pb_nat (sg (p + 1) t)) (400 - pb_dn sg s p t 16) (pb_dn sg s p t 16) 0
theorem pb_ear_le {sg : pb_Sg} {s p t x : Nat} (hs : pb_si sg s p) (h : pb_ear sg s p t = some x) : x + pb_nat (sg (p + 1) t) ≤ 400 := by
  unfold pb_ear at h
  have hd := pb_dn_le (t := t) hs 16 (by omega)
  by_cases e : sg (p + 2) t = -1
  · rw [if_pos e] at h
    by_cases e2 : pb_dn sg s p t 16 + pb_nat (sg (p + 1) t) ≤ 400
    · rw [if_pos e2] at h
      cases h
      exact e2
    · rw [if_neg e2] at h; cases h
  · rw [if_neg e] at h
    have := pb_scan_le _ _ _ _ (Nat.zero_le _) h
    omega
theorem pb_ear_free {sg : pb_Sg} {s p t x : Nat} (h : pb_ear sg s p t = some x) (e : ¬ sg (p + 2) t = -1) : ∀ y, x ≤ y → y < x + pb_nat (sg (p + 1) t) → sg (s + 3 + pb_nat (sg (p + 2) t)) y = -1 := by
  unfold pb_ear at h
  rw [if_neg e] at h
  exact pb_scan_free _ _ _ _ (Nat.zero_le _) (fun y h1 h2 => by omega) h
def pb_mark (sg : pb_Sg) (s p t d : Nat) (m : Int32) : pb_Sg := if sg (p + 2) t = -1 then sg else pb_fillN sg (s + 3 + pb_nat (sg (p + 2) t)) d m (pb_nat (sg (p + 1) t))
def pb_plc (sg : pb_Sg) (s t : Nat) (x : Int32) (b : Int32) : pb_Sg := pb_up (pb_up sg (s + 1) t x) s 2 b
def pb_place (sg : pb_Sg) (s p t d : Nat) : pb_Sg := pb_mark (pb_plc sg s t (nI d) (sg s 2 ||| (nI 1 <<< (nI t &&& 31)))) s p t d (nI t)
def pb_tback (sg : pb_Sg) (s p t d : Nat) : pb_Sg := pb_mark (pb_plc sg s t (-1) (sg s 2 &&& ((nI 1 <<< (nI t &&& 31)) ^^^ (-1)))) s p t d (-1)
/-- plan and schedule are apart -/
def pb_ap (s p : Nat) : Prop := p + 4 < s ∨ s + 7 < p
theorem pb_plc_p {sg : pb_Sg} {s p t k j : Nat} {x b : Int32} (h : pb_ap s p) (hk : k ≤ 4) : pb_plc sg s t x b (p + k) j = sg (p + k) j := by
  unfold pb_plc pb_ap at *
  rw [pb_up_ne2 (by omega), pb_up_ne2 (by omega)]
theorem pb_mark_p {sg : pb_Sg} {s p t d k j : Nat} {m : Int32} (h : pb_ap s p) (hk : k ≤ 4) (hw : pb_wf sg p) (ht : t < 16) : pb_mark sg s p t d m (p + k) j = sg (p + k) j := by
  unfold pb_mark pb_ap at *
  split
  · rfl
  · rename_i e
    rcases (hw t ht).2 with q | ⟨c, hc, q⟩
    · exact absurd q e
    · rw [q, pb_nat_nI (by omega), pb_fill_at, if_neg (by omega)]
theorem pb_wf_plc {sg : pb_Sg} {s p t : Nat} {x b : Int32} (h : pb_ap s p) (hw : pb_wf sg p) : pb_wf (pb_plc sg s t x b) p := hw.of (fun _ => pb_plc_p h (by omega)) (fun _ => pb_plc_p h (by omega))
theorem pb_mark_1 {sg : pb_Sg} {s p t d j : Nat} {m : Int32} : pb_mark sg s p t d m (s + 1) j = sg (s + 1) j := by
  unfold pb_mark
  split
  · rfl
  · rw [pb_fill_at, if_neg (by omega)]
theorem pb_mark_0 {sg : pb_Sg} {s p t d j : Nat} {m : Int32} : pb_mark sg s p t d m s j = sg s j := by
  unfold pb_mark
  split
  · rfl
  · rw [pb_fill_at, if_neg (by omega)]
theorem pb_place_p {sg : pb_Sg} {s p t d k j : Nat} (h : pb_ap s p) (hk : k ≤ 4) (hw : pb_wf sg p) (ht : t < 16) : pb_place sg s p t d (p + k) j = sg (p + k) j := by
  unfold pb_place
  rw [pb_mark_p h hk (pb_wf_plc h hw) ht, pb_plc_p h hk]
theorem pb_place_1 {sg : pb_Sg} {s p t d j : Nat} : pb_place sg s p t d (s + 1) j = if j = t then nI d else sg (s + 1) j := by
  unfold pb_place
  rw [pb_mark_1]
  unfold pb_plc
  rw [pb_up_ne2 (by omega), pb_up_at]
  by_cases e : j = t
  · rw [if_pos ⟨rfl, e⟩, if_pos e]
  · rw [if_neg (fun q => e q.2), if_neg e]
theorem pb_place_0 {sg : pb_Sg} {s p t d : Nat} : pb_place sg s p t d s 2 = sg s 2 ||| (nI 1 <<< (nI t &&& 31)) := by
  unfold pb_place
  rw [pb_mark_0]
  unfold pb_plc
  rw [pb_up_self]
theorem pb_si_place {sg : pb_Sg} {s p t d : Nat} (h : pb_ap s p) (hs : pb_si sg s p) (ht : t < 16) (hd : d + pb_nat (sg (p + 1) t) ≤ 400) : pb_si (pb_place sg s p t d) s p := by
  refine ⟨hs.1.of (fun _ => pb_place_p h (by omega) hs.1 ht) (fun _ => pb_place_p h (by omega) hs.1 ht), fun j hj => ?_⟩
  rw [pb_place_1, pb_place_p h (by omega) hs.1 ht]
  by_cases e : j = t
  · rw [if_pos e]
    subst e
    exact Or.inr ⟨d, rfl, hd⟩
  · rw [if_neg e]
    exact hs.2 j hj
/-- taking back what was placed leaves all as it was -/
theorem pb_tback_place {sg : pb_Sg} {s p t d : Nat} (h : pb_ap s p) (hs : pb_si sg s p) (ht : t < 16) (h1 : sg (s + 1) t = -1) (h2 : pb_in (sg s 2) t = false) (h3 : ¬ sg (p + 2) t = -1 → ∀ y, d ≤ y → y < d + pb_nat (sg (p + 1) t) → sg (s + 3 + pb_nat (sg (p + 2) t)) y = -1) : pb_tback (pb_place sg s p t d) s p t d = sg := by
  have e2 : pb_place sg s p t d (p + 2) t = sg (p + 2) t := pb_place_p h (by omega) hs.1 ht
  have e1 : pb_place sg s p t d (p + 1) t = sg (p + 1) t := pb_place_p h (by omega) hs.1 ht
  have eb : (sg s 2 ||| (nI 1 <<< (nI t &&& 31))) &&& ((nI 1 <<< (nI t &&& 31)) ^^^ (-1)) = sg s 2 := by
    apply pb_in_ext
    intro j hj
    rw [pb_in_and, pb_in_or, pb_in_xor, pb_in_bit (by omega) hj, pb_in_m1 hj]
    by_cases e : j = t
    · subst e; simp [h2]
    · simp [e]
  have key : ∀ b j, pb_tback (pb_place sg s p t d) s p t d b j = sg b j := by
    intro b j
    unfold pb_tback pb_mark
    rw [pb_plc_p h (by omega), e2, pb_plc_p h (by omega), e1, pb_place_0, eb]
    unfold pb_place pb_mark
    rw [pb_plc_p h (by omega), pb_plc_p h (by omega)]
    by_cases q : sg (p + 2) t = -1
    · rw [if_pos q, if_pos q]
      unfold pb_plc
      rw [pb_up_at, pb_up_at, pb_up_at, pb_up_at]
      by_cases e3 : b = s ∧ j = 2
      · rw [if_pos e3, e3.1, e3.2]
      · rw [if_neg e3, if_neg e3]
        by_cases e4 : b = s + 1 ∧ j = t
        · rw [if_pos e4, e4.1, e4.2, h1]
        · rw [if_neg e4, if_neg e4]
    · rw [if_neg q, if_neg q, pb_fill_at]
      by_cases e5 : b = s + 3 + pb_nat (sg (p + 2) t) ∧ d ≤ j ∧ j < d + pb_nat (sg (p + 1) t)
      · rw [if_pos e5, e5.1, h3 q j e5.2.1 e5.2.2]
      · rw [if_neg e5]
        unfold pb_plc
        rw [pb_up_at, pb_up_at, pb_fill_at, if_neg e5, pb_up_at, pb_up_at]
        by_cases e3 : b = s ∧ j = 2
        · rw [if_pos e3, e3.1, e3.2]
        · rw [if_neg e3, if_neg e3]
          by_cases e4 : b = s + 1 ∧ j = t
          · rw [if_pos e4, e4.1, e4.2, h1]
          · rw [if_neg e4, if_neg e4]
  funext b j
  exact key b j
def pb_rdy (sg : pb_Sg) (s p : Nat) (U : Int32) (t : Nat) : Bool := pb_in U t && decide ((sg (p + 4) t &&& (sg s 2 ^^^ (-1))) = 0)
/-- the best task so far, and its tail -/
def pb_nbt (sg : pb_Sg) (s p : Nat) (U : Int32) (a : Nat) : Nat → Option Nat × Int32
  | 0 => (none, nI 0)
  | n + 1 => if pb_rdy sg s p U n = true ∧ (pb_nbt sg s p U a n).2 < sg a n then (some n, sg a n) else pb_nbt sg s p U a n
theorem pb_nbt_lt {sg : pb_Sg} {s p : Nat} {U : Int32} {a n t : Nat} (h : (pb_nbt sg s p U a n).1 = some t) : t < n := by
  induction n with
  | zero => cases h
  | succ n ih =>
    unfold pb_nbt at h
    split at h
    · cases h; omega
    · have := ih h; omega
def pb_pbt (s p a : Nat) : Nat → pb_Sg → Int32 → pb_Sg
  | 0, S, _ => S
  | n + 1, S, U => match (pb_nbt S s p U a 16).1 with
    | none => S
    | some t => match pb_ear S s p t with
      | none => pb_pbt s p a n S (U &&& ((nI 1 <<< (nI t &&& 31)) ^^^ (-1)))
      | some d => pb_pbt s p a n (pb_place S s p t d) (U &&& ((nI 1 <<< (nI t &&& 31)) ^^^ (-1)))
def pb_ebs (rec : pb_Sg → Int32 → Int32 → Int32 → Int32) (s p : Nat) (S : pb_Sg) (U E : Int32) (i : Nat) (f : Int32) : Int32 :=
  if pb_rdy S s p U i = true then (match pb_ear S s p i with
    | none => f
    | some d => if pb_mx E (nI d + S (p + 1) i - nI 1) < f then rec (pb_place S s p i d) (U &&& ((nI 1 <<< (nI i &&& 31)) ^^^ (-1))) (pb_mx E (nI d + S (p + 1) i - nI 1)) f else f) else f
def pb_ebl (rec : pb_Sg → Int32 → Int32 → Int32 → Int32) (s p : Nat) (S : pb_Sg) (U E B : Int32) : Nat → Int32
  | 0 => B
  | n + 1 => pb_ebs rec s p S U E n (pb_ebl rec s p S U E B n)
def pb_ebo (s p : Nat) : Nat → pb_Sg → Int32 → Int32 → Int32 → Int32
  | 0, _, _, E, _ => E
  | k + 1, S, U, E, B => if U = 0 then E else pb_ebl (pb_ebo s p k) s p S U E B 16
/-- what isn't placed has no day; no task that is left is placed -/
def pb_sj (sg : pb_Sg) (s : Nat) (U : Int32) : Prop := ∀ t, t < 16 → pb_in U t = true → sg (s + 1) t = -1 ∧ pb_in (sg s 2) t = false
theorem pb_sj_place {sg : pb_Sg} {s p t d : Nat} {U : Int32} (h : pb_sj sg s U) (ht : t < 16) : pb_sj (pb_place sg s p t d) s (U &&& ((nI 1 <<< (nI t &&& 31)) ^^^ (-1))) := by
  intro j hj hu
  rw [pb_in_and, pb_in_xor, pb_in_bit (by omega) (by omega), pb_in_m1 (by omega)] at hu
  have hne : j ≠ t := fun q => by subst q; simp at hu
  have hu2 : pb_in U j = true := by
    cases e : pb_in U j
    · rw [e] at hu; cases hu
    · rfl
  obtain ⟨a1, a2⟩ := h j hj hu2
  rw [pb_place_1, if_neg hne, pb_place_0, pb_in_or, pb_in_bit (by omega) (by omega), a2, decide_eq_false hne]
  exact ⟨a1, rfl⟩
def pb_eo (sg : pb_Sg) (s p : Nat) : Nat → Int32
  | 0 => -1
  | n + 1 => if pb_in (sg s 2) n = true then pb_mx (pb_eo sg s p n) (sg (s + 1) n + sg (p + 1) n - nI 1) else pb_eo sg s p n
def pb_stD (S : pb_Sg) (s c : Nat) (x : Int32) (k : Nat) : Nat → pb_Sg
  | 0 => S
  | n + 1 => pb_up (pb_stD S s c x k n) (s + 3 + k) n (if pb_held (pb_stD S s c x k n) c k n = x then -1 else -2)
def pb_stC (sg : pb_Sg) (s c : Nat) (x : Int32) : Nat → pb_Sg
  | 0 => pb_fillN (pb_up sg s 2 (nI 0)) (s + 1) 0 (-1) 16
  | k + 1 => pb_stD (pb_stC sg s c x k) s c x k 400
theorem pb_day {a b : Nat} (h : b ≤ a + 1) : nI a - nI b + nI 1 = nI (a + 1 - b) := by
  have h1 : nI b + nI (a + 1 - b) = nI a + nI 1 := by rw [nI_add, nI_add]; congr 1; omega
  rw [Int32.sub_eq_add_neg, Int32.add_assoc, Int32.add_comm (-nI b), ← Int32.add_assoc, ← h1, Int32.add_comm (nI b), Int32.add_assoc, ← Int32.sub_eq_add_neg, Int32.sub_self, Int32.add_zero]
