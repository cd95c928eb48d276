/-! Placing, class and reference side by side. -/
theorem pq_m1_le_nI {n : Nat} (h : n < 2147483648) : (-1 : Int32) < nI n := by
  rw [Int32.lt_iff_toInt_lt, nI_toInt h]
  have h2 : ((-1 : Int32)).toInt = -1 := by decide
  omega
theorem pq_mx_m1 {n : Nat} (h : n < 2147483648) : pb_mx (-1) (nI n) = nI n := if_pos (pq_m1_le_nI h)
/-- the days of class (schedule at s) and reference -/
def pq_sr (S S' : pb_Sg) (s p M q : Nat) : Prop := pq_eq S S' p M q ∧ (∀ t, t < 16 → S (s + 1) t = S' (M + 21) t) ∧ (∀ t, t < 16 → pb_in (S s 2) t = !decide (S' (M + 21) t = -1)) ∧ (∀ c, c < 5 → ∀ d, d < 400 → (S (s + 3 + c) d = -1 ↔ (¬ S' (M + 23) (400 * c + d) = 0 ∧ S' (M + 22) (400 * c + d) = -1)) ∧ pb_mx (-1) (S (s + 3 + c) d) = S' (M + 22) (400 * c + d)) ∧ pb_si S s p
theorem pq_mw {S S' : pb_Sg} {p M q : Nat} (h : pq_eq S S' p M q) (hw : pb_wf S p) : pb_mw S' M q := fun t ht => by
  have h1 := h t ht
  have h2 := hw t ht
  rw [h1.1, h1.2.1] at h2
  exact h2
theorem pq_mi {S S' : pb_Sg} {s p M q : Nat} (h : pq_sr S S' s p M q) : pb_mi S' M q := by
  refine ⟨pq_mw h.1 h.2.2.2.2.1, fun t ht => ?_⟩
  have h1 := h.2.2.2.2.2 t ht
  rw [h.2.1 t ht, (h.1 t ht).1] at h1
  exact h1
theorem pq_dn {S S' : pb_Sg} {s p M q t : Nat} (h : pq_sr S S' s p M q) (ht : t < 16) (n : Nat) (hn : n ≤ 16) : pb_dn S s p t n = pb_mdm S' M q t n := by
  induction n with
  | zero => rfl
  | succ n ih =>
    unfold pb_dn pb_mdm
    rw [ih (by omega), (h.1 t ht).2.2.2, h.2.1 n (by omega), (h.1 n (by omega)).1]
theorem pq_scan {w : Nat → Int32} {ok : Nat → Bool} {l : Nat} (hl : 1 ≤ l) : ∀ (j d r f : Nat), (∀ y, y < d + j → (w y = -1 ↔ ok y = true)) → r < l → f + r = d → pb_scan w l j d r = if (pb_msc ok l j d r f).2 < l then none else some (pb_msc ok l j d r f).1 := by
  intro j
  induction j with
  | zero =>
    intro d r f hw hr hf
    show none = if r < l then none else some f
    rw [if_pos hr]
  | succ j ih =>
    intro d r f hw hr hf
    have hd := hw d (by omega)
    have hw2 : ∀ y, y < (d + 1) + j → (w y = -1 ↔ ok y = true) := fun y hy => hw y (by omega)
    unfold pb_scan pb_msc
    rw [if_pos hr]
    by_cases e : ok d = true
    · rw [if_pos (hd.mpr e), if_pos e]
      by_cases e2 : r + 1 = l
      · rw [if_pos e2, pb_msc_stop (by omega), if_neg (by show ¬ r + 1 < l; omega)]
        show some (d + 1 - l) = some (d - r)
        congr 1
        omega
      · rw [if_neg e2]
        exact ih (d + 1) (r + 1) (d - r) hw2 (by omega) (by omega)
    · rw [if_neg (fun q => e (hd.mp q)), if_neg e, if_neg (by omega)]
      exact ih (d + 1) 0 (d + 1) hw2 (by omega) (by omega)
theorem pq_scanN {l : Nat} : ∀ (j d r f : Nat), f + r = d → r ≤ l → pb_msc pb_mokN l j d r f = if l - r ≤ j then (f, l) else (f, r + j) := by
  intro j
  induction j with
  | zero =>
    intro d r f hf hr
    show (f, r) = _
    by_cases e : l - r ≤ 0
    · rw [if_pos e, show r = l by omega]
    · rw [if_neg e]
      rfl
  | succ j ih =>
    intro d r f hf hr
    unfold pb_msc
    by_cases e : r < l
    · rw [if_pos e, if_pos (show pb_mokN d = true from rfl), ih (d + 1) (r + 1) (d - r) (by omega) (by omega), show d - r = f by omega]
      by_cases e2 : l - r ≤ j + 1
      · rw [if_pos (by omega), if_pos e2]
      · rw [if_neg (by omega), if_neg e2, show r + 1 + j = r + (j + 1) by omega]
    · rw [if_neg e, if_pos (by omega), show r = l by omega]
theorem pq_has {S : pb_Sg} {a t l : Nat} (hl : l ≤ 20) (e : S a t = nI l) : pb_has (S a) t = true ↔ 1 ≤ l := by
  unfold pb_has
  rw [e, decide_eq_true_iff]
  have h0 : (0 : Int32) = nI 0 := by decide
  rw [h0, nI_ltI (by omega) (by omega)]
  omega
theorem pq_mokC {S' : pb_Sg} {M c d : Nat} : pb_mokC S' M c d = true ↔ (¬ S' (M + 23) (400 * c + d) = 0 ∧ S' (M + 22) (400 * c + d) = -1) := by
  unfold pb_mokC
  rw [Bool.and_eq_true, decide_eq_true_iff, decide_eq_true_iff]
theorem pq_ear {S S' : pb_Sg} {s p M q t : Nat} (h : pq_sr S S' s p M q) (ht : t < 16) (hh : pb_has (S (p + 1)) t = true) : pb_ear S s p t = pb_mear S' M q t := by
  obtain ⟨⟨l, hl, el⟩, hc⟩ := h.2.2.2.2.1 t ht
  have hl1 : 1 ≤ l := (pq_has hl el).mp hh
  have el' : S' (M + 1) (16 * q + t) = nI l := by rw [← (h.1 t ht).1, el]
  have hdn := pb_dn_le (t := t) h.2.2.2.2 16 (by omega)
  have edn := pq_dn h ht 16 (by omega)
  unfold pb_ear pb_mear pb_msr pb_mok
  rw [el, el', ← edn, ← (h.1 t ht).2.1, pb_nat_nI (by omega)]
  generalize pb_dn S s p t 16 = D at hdn
  rcases hc with e | ⟨c, hc5, e⟩
  · rw [if_pos e, if_pos e, pq_scanN (400 - D) D 0 D (by omega) (by omega)]
    by_cases e2 : D + l ≤ 400
    · rw [if_pos e2, if_pos (show l - 0 ≤ 400 - D by omega), if_neg (show ¬ l < l by omega)]
    · rw [if_neg e2, if_neg (show ¬ l - 0 ≤ 400 - D by omega), if_pos (show 0 + (400 - D) < l by omega)]
  · have hne : ¬ S (p + 2) t = -1 := by rw [e]; exact pb_m1_ne (by omega)
    rw [if_neg hne, if_neg hne, e, pb_nat_nI (by omega)]
    refine pq_scan hl1 (400 - D) D 0 D (fun y hy => ?_) (by omega) (by omega)
    rw [pq_mokC]
    exact (h.2.2.2.1 c hc5 y (by omega)).1
theorem pq_place_out {S : pb_Sg} {s p t d a j : Nat} (hw : pb_wf S p) (ht : t < 16) (hp : pb_ap s p) (h : a < s ∨ s + 7 < a) : pb_place S s p t d a j = S a j := by
  unfold pb_place pb_mark
  rw [pb_plc_p hp (by omega), pb_plc_p hp (by omega)]
  have e0 : pb_plc S s t (nI d) (S s 2 ||| (nI 1 <<< (nI t &&& 31))) a j = S a j := by
    unfold pb_plc
    rw [pb_up_ne2 (by omega), pb_up_ne2 (by omega)]
  by_cases e : S (p + 2) t = -1
  · rw [if_pos e]; exact e0
  · rw [if_neg e]
    rcases (hw t ht).2 with q | ⟨c, hc, q⟩
    · exact absurd q e
    · rw [q, pb_nat_nI (by omega), pb_fill_at, if_neg (by omega)]
      exact e0
theorem pq_place_w {S : pb_Sg} {s p t d k j : Nat} (hp : pb_ap s p) : pb_place S s p t d (s + 3 + k) j = if ¬ S (p + 2) t = -1 ∧ s + 3 + k = s + 3 + pb_nat (S (p + 2) t) ∧ d ≤ j ∧ j < d + pb_nat (S (p + 1) t) then nI t else S (s + 3 + k) j := by
  have e0 : ∀ j, pb_plc S s t (nI d) (S s 2 ||| (nI 1 <<< (nI t &&& 31))) (s + 3 + k) j = S (s + 3 + k) j := fun j => by
    unfold pb_plc
    rw [pb_up_ne2 (by omega), pb_up_ne2 (by omega)]
  unfold pb_place pb_mark
  rw [pb_plc_p hp (by omega), pb_plc_p hp (by omega)]
  by_cases e : S (p + 2) t = -1
  · rw [if_pos e, if_neg (fun q => q.1 e)]
    exact e0 j
  · rw [if_neg e, pb_fill_at, e0]
    by_cases e2 : s + 3 + k = s + 3 + pb_nat (S (p + 2) t) ∧ d ≤ j ∧ j < d + pb_nat (S (p + 1) t)
    · rw [if_pos e2, if_pos ⟨e, e2⟩]
    · rw [if_neg e2, if_neg (fun q => e2 q.2)]
theorem pq_mpl_22 {S : pb_Sg} {M q t f j : Nat} : pb_mpl S M q t f (M + 22) j = if ¬ S (M + 2) (16 * q + t) = -1 ∧ 400 * pb_nat (S (M + 2) (16 * q + t)) + f ≤ j ∧ j < 400 * pb_nat (S (M + 2) (16 * q + t)) + f + pb_nat (S (M + 1) (16 * q + t)) then nI t else S (M + 22) j := by
  unfold pb_mpl
  rw [pb_up_ne2 (by omega)]
  by_cases e : S (M + 2) (16 * q + t) = -1
  · rw [if_pos e, if_neg (fun q => q.1 e)]
  · rw [if_neg e, pb_fill_at]
    by_cases e2 : 400 * pb_nat (S (M + 2) (16 * q + t)) + f ≤ j ∧ j < 400 * pb_nat (S (M + 2) (16 * q + t)) + f + pb_nat (S (M + 1) (16 * q + t))
    · rw [if_pos ⟨rfl, e2⟩, if_pos ⟨e, e2⟩]
    · rw [if_neg (fun q => e2 q.2), if_neg (fun q => e2 q.2)]
theorem pq_place {S S' : pb_Sg} {s p M q t d : Nat} (ha : pb_ap s p) (h : pq_sr S S' s p M q) (ht : t < 16) (he : pb_ear S s p t = some d) : pq_sr (pb_place S s p t d) (pb_mpl S' M q t d) s p M q := by
  have hd := pb_ear_le h.2.2.2.2 he
  have hwf := h.2.2.2.2.1
  obtain ⟨⟨l, hl, el⟩, hc⟩ := hwf t ht
  refine ⟨h.1.of (fun k hk j hj => pb_place_p ha hk hwf ht) (fun k hk1 hk4 j hj => congrFun (pb_mpl_ne (by omega) (by omega)) _), fun j hj => ?_, fun j hj => ?_, fun c hc5 y hy => ?_, pb_si_place ha h.2.2.2.2 ht hd⟩
  · rw [pb_place_1, pb_mpl_21, h.2.1 j hj]
  · rw [pb_place_0, pb_in_or, pb_in_bit (by omega) (by omega), pb_mpl_21, h.2.2.1 j hj]
    by_cases e : j = t
    · rw [if_pos e, decide_eq_true e, Bool.or_true, decide_eq_false (pb_m1_ne (by omega))]
      rfl
    · rw [if_neg e, decide_eq_false e, Bool.or_false]
  · have h4 := h.2.2.2.1 c hc5 y hy
    rw [pq_place_w ha, pq_mpl_22, congrFun (pb_mpl_ne (show M + 23 ≠ M + 21 by omega) (show M + 23 ≠ M + 22 by omega)) _, ← (h.1 t ht).1, ← (h.1 t ht).2.1]
    rcases hc with e | ⟨c0, hc0, e⟩
    · rw [if_neg (fun q => q.1 e), if_neg (fun q => q.1 e)]
      exact h4
    · have hne : ¬ S (p + 2) t = -1 := by rw [e]; exact pb_m1_ne (by omega)
      rw [el, pb_nat_nI (show l < 2147483648 by omega)] at hd
      rw [el, e, pb_nat_nI (show l < 2147483648 by omega), pb_nat_nI (show c0 < 2147483648 by omega)]
      rw [e] at hne
      by_cases e3 : c = c0 ∧ d ≤ y ∧ y < d + l
      · rw [if_pos ⟨hne, by omega, e3.2⟩, if_pos ⟨hne, by omega, by omega⟩]
        have e5 : ¬ nI t = -1 := pb_m1_ne (by omega)
        exact ⟨⟨fun q => absurd q e5, fun q => absurd q.2 e5⟩, pq_mx_m1 (by omega)⟩
      · rw [if_neg (fun q => e3 ⟨by omega, q.2.2⟩), if_neg (fun q => e3 (by omega))]
        exact h4
theorem pq_sub {x y : Int32} : (x &&& (y ^^^ (-1))) = 0 ↔ ∀ j, j < 32 → pb_in x j = true → pb_in y j = true := by
  constructor
  · intro h j hj hx
    have h1 : pb_in (x &&& (y ^^^ (-1))) j = false := by
      rw [h]
      exact pb_in_0 j
    rw [pb_in_and, pb_in_xor, pb_in_m1 hj, hx] at h1
    cases e : pb_in y j
    · rw [e] at h1; cases h1
    · rfl
  · intro h
    apply pb_in_ext
    intro j hj
    rw [pb_in_and, pb_in_xor, pb_in_m1 hj]
    have e0 : pb_in (0 : Int32) j = false := pb_in_0 j
    rw [e0]
    cases e : pb_in x j
    · rfl
    · rw [h j hj e]
      rfl
theorem pq_mrd {S : pb_Sg} {M q t : Nat} (n : Nat) : pb_mrd S M q t n = true ↔ ∀ j, j < n → pb_in (S (M + 4) (16 * q + t)) j = true → ¬ S (M + 21) j = -1 := by
  induction n with
  | zero => exact ⟨fun _ j hj => by omega, fun _ => rfl⟩
  | succ n ih =>
    unfold pb_mrd
    rw [Bool.and_eq_true, ih, Bool.or_eq_true]
    constructor
    · rintro ⟨h1, h2⟩ j hj hi
      by_cases e : j = n
      · subst e
        rcases h2 with h2 | h2
        · rw [hi] at h2; cases h2
        · intro q
          rw [decide_eq_true q] at h2
          cases h2
      · exact h1 j (by omega) hi
    · intro h
      refine ⟨fun j hj hi => h j (by omega) hi, ?_⟩
      cases e : pb_in (S (M + 4) (16 * q + t)) n
      · exact Or.inl rfl
      · right
        rw [decide_eq_false (h n (by omega) e)]
        rfl
/-- the needs of a plan are tasks -/
def pq_nb (S : pb_Sg) (p : Nat) : Prop := ∀ t, t < 16 → ∀ j, 16 ≤ j → pb_in (S (p + 4) t) j = false
theorem pq_rdy {S S' : pb_Sg} {s p M q t : Nat} {U : Int32} (h : pq_sr S S' s p M q) (hn : pq_nb S p) (ht : t < 16) : pb_rdy S s p U t = (pb_in U t && pb_mrd S' M q t 16) := by
  unfold pb_rdy
  congr 1
  rw [Bool.eq_iff_iff, decide_eq_true_iff, pq_sub, pq_mrd]
  constructor
  · intro h1 j hj hi
    have h2 := h1 j (by omega) (by rw [(h.1 t ht).2.2.2]; exact hi)
    rw [h.2.2.1 j hj] at h2
    intro q
    rw [decide_eq_true q] at h2
    cases h2
  · intro h1 j hj hi
    by_cases e : j < 16
    · rw [h.2.2.1 j e, decide_eq_false (h1 j e (by rw [← (h.1 t ht).2.2.2]; exact hi))]
      rfl
    · rw [hn t ht j (by omega)] at hi
      cases hi
theorem pq_nbt {S S' : pb_Sg} {s p M q a : Nat} {U : Int32} (h : pq_sr S S' s p M q) (hn : pq_nb S p) (ht : ∀ t, t < 16 → S a t = S' (M + 19) t) (hp : ∀ t, t < 16 → pb_in U t = true → nI 0 < S' (M + 19) t) (n : Nat) (hn16 : n ≤ 16) : (pb_nbt S s p U a n).1 = pb_mnx S' M q U n ∧ (pb_nbt S s p U a n).2 = (match pb_mnx S' M q U n with | none => nI 0 | some u => S' (M + 19) u) := by
  induction n with
  | zero => exact ⟨rfl, rfl⟩
  | succ n ih =>
    obtain ⟨i1, i2⟩ := ih (by omega)
    unfold pb_nbt pb_mnx
    rw [pq_rdy h hn (by omega), i2, ht n (by omega)]
    have key : (pb_in U n = true → ((match pb_mnx S' M q U n with | none => nI 0 | some u => S' (M + 19) u) < S' (M + 19) n ↔ pb_mbt S' M n (pb_mnx S' M q U n) = true)) := by
      intro hu
      cases e : pb_mnx S' M q U n with
      | none => exact ⟨fun _ => rfl, fun _ => hp n (by omega) hu⟩
      | some u =>
        unfold pb_mbt
        rw [decide_eq_true_iff]
    by_cases e : (pb_in U n && pb_mrd S' M q n 16 && pb_mbt S' M n (pb_mnx S' M q U n)) = true
    · have e2 := e
      rw [Bool.and_eq_true] at e2
      rw [if_pos e, if_pos ⟨e2.1, (key ((Bool.and_eq_true _ _).mp e2.1).1).mpr e2.2⟩]
      exact ⟨rfl, rfl⟩
    · rw [if_neg e, if_neg (fun q => e (by rw [Bool.and_eq_true]; exact ⟨q.1, (key ((Bool.and_eq_true _ _).mp q.1).1).mp q.2⟩))]
      exact ⟨i1, i2⟩
