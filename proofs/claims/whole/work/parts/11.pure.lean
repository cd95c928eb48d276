theorem pb_inc {a : Nat} : nI a + Int32.ofInt 1 = nI (a + 1) := nI_1 a
theorem pb_kle {a b : Nat} {P : Prop} (h : a ≤ b) (hb : b < 2147483648) (c : ¬ nI a ≤ nI b) : P := absurd (nI_le h hb) c
theorem pb_kge {a b : Nat} {P : Prop} (h : a < b) (hb : b < 2147483648) (c : nI b ≤ nI a) : P := absurd c (nI_ge h hb)
/-- bit t of a set -/
def pb_in (s : Int32) (t : Nat) : Bool := s.toBitVec.getLsbD t
theorem pb_smod : ∀ t, t < 32 → ((nI t &&& 31).toBitVec.smod 32).toNat = t := by decide +kernel
theorem pb_in_ext {x y : Int32} (h : ∀ j, j < 32 → pb_in x j = pb_in y j) : x = y := by
  apply Int32.toBitVec_inj.mp
  exact BitVec.eq_of_getLsbD_eq fun i hi => h i hi
theorem pb_in_or (x y : Int32) (j : Nat) : pb_in (x ||| y) j = (pb_in x j || pb_in y j) := by
  unfold pb_in; rw [Int32.toBitVec_or, BitVec.getLsbD_or]
theorem pb_in_and (x y : Int32) (j : Nat) : pb_in (x &&& y) j = (pb_in x j && pb_in y j) := by
  unfold pb_in; rw [Int32.toBitVec_and, BitVec.getLsbD_and]
theorem pb_in_xor (x y : Int32) (j : Nat) : pb_in (x ^^^ y) j = (pb_in x j ^^ pb_in y j) := by
  unfold pb_in; rw [Int32.toBitVec_xor, BitVec.getLsbD_xor]
theorem pb_in_m1 {j : Nat} (h : j < 32) : pb_in (-1) j = true := by
  have : ∀ j, j < 32 → pb_in (-1) j = true := by decide +kernel
  exact this j h
theorem pb_in_0 (j : Nat) : pb_in (nI 0) j = false := by
  unfold pb_in
  show (0#32).getLsbD j = false
  simp
theorem pb_in_bit {t j : Nat} (ht : t < 32) (hj : j < 32) : pb_in (nI 1 <<< (nI t &&& 31)) j = decide (j = t) := by
  have : ∀ t, t < 32 → ∀ j, j < 32 → pb_in (nI 1 <<< (nI t &&& 31)) j = decide (j = t) := by decide +kernel
  exact this t ht j hj
theorem pb_in_big {x : Int32} {j : Nat} (h : 32 ≤ j) : pb_in x j = false := by
  unfold pb_in
  exact BitVec.getLsbD_of_ge _ _ h
/-- what 'contains' works out -/
theorem pb_in_sh {x : Int32} {t : Nat} (ht : t < 32) : (((x >>> (nI t &&& 31)) &&& nI 1) = 0) ↔ pb_in x t = false := by
  have e1 : ((x >>> (nI t &&& 31)) &&& nI 1).toBitVec = (x.toBitVec.sshiftRight t) &&& 1#32 := by
    rw [Int32.toBitVec_and, Int32.toBitVec_shiftRight]
    unfold BitVec.sshiftRight'
    rw [pb_smod t ht]
    rfl
  have e2 : pb_in x t = ((x.toBitVec.sshiftRight t) &&& 1#32).getLsbD 0 := by
    unfold pb_in
    rw [BitVec.getLsbD_and, BitVec.getLsbD_sshiftRight]
    have : (1#32).getLsbD 0 = true := by decide
    simp [this]
    omega
  constructor
  · intro h
    rw [e2, ← e1, h]
    rfl
  · intro h
    apply Int32.toBitVec_inj.mp
    rw [e1]
    apply BitVec.eq_of_getLsbD_eq
    intro i hi
    rw [e2] at h
    by_cases e : i = 0
    · subst e
      rw [h]; rfl
    · rw [BitVec.getLsbD_and]
      have : (1#32).getLsbD i = false := by
        have : ∀ i, i < 32 → ¬ i = 0 → (1#32).getLsbD i = false := by decide +kernel
        exact this i hi e
      rw [this]
      simp
theorem pb_in_sh1 {x : Int32} {t : Nat} (ht : t < 32) : (((x >>> (nI t &&& 31)) &&& nI 1) = nI 1) ↔ pb_in x t = true := by
  constructor
  · intro h
    cases e : pb_in x t
    · rw [← pb_in_sh ht] at e
      rw [h] at e
      exact absurd e (by decide)
    · rfl
  · intro h
    have h1 : ¬ ((x >>> (nI t &&& 31)) &&& nI 1) = 0 := fun q => by rw [pb_in_sh ht, h] at q; cases q
    apply pb_in_ext
    intro j hj
    rw [pb_in_and]
    have h9 : ∀ j, j < 32 → ¬ j = 0 → pb_in (nI 1) j = false := by decide +kernel
    by_cases e : j = 0
    · subst e
      have : pb_in (nI 1) 0 = true := by decide
      rw [this, Bool.and_true]
      cases e2 : pb_in (x >>> (nI t &&& 31)) 0
      · exfalso
        apply h1
        apply pb_in_ext
        intro i hi
        rw [pb_in_and]
        by_cases e3 : i = 0
        · subst e3
          rw [e2]; decide
        · rw [h9 i hi e3]
          have : ∀ i, i < 32 → pb_in 0 i = false := by decide +kernel
          rw [this i hi, Bool.and_false]
      · rfl
    · rw [h9 j hj e, Bool.and_false]
/-- the set of all i below n with c -/
def pb_set (c : Nat → Bool) : Nat → Int32
  | 0 => nI 0
  | n + 1 => if c n = true then pb_set c n ||| (nI 1 <<< (nI n &&& 31)) else pb_set c n
theorem pb_set_t {c : Nat → Bool} {n : Nat} (h : c n = true) : pb_set c (n + 1) = pb_set c n ||| (nI 1 <<< (nI n &&& 31)) := if_pos h
theorem pb_set_f {c : Nat → Bool} {n : Nat} (h : c n = false) : pb_set c (n + 1) = pb_set c n := if_neg (by rw [h]; decide)
theorem pb_set_in (c : Nat → Bool) (n : Nat) (hn : n ≤ 32) (j : Nat) (hj : j < 32) : pb_in (pb_set c n) j = (decide (j < n) && c j) := by
  induction n with
  | zero => simp [pb_set, pb_in_0]
  | succ n ih =>
    have ih := ih (by omega)
    cases e : c n
    · rw [pb_set_f e, ih]
      by_cases e2 : j = n
      · subst e2
        simp [e]
      · have : (decide (j < n + 1)) = decide (j < n) := by
          apply decide_eq_decide.mpr; omega
        rw [this]
    · rw [pb_set_t e, pb_in_or, ih, pb_in_bit (by omega) hj]
      by_cases e2 : j = n
      · subst e2
        simp [e]
      · have : (decide (j < n + 1)) = decide (j < n) := by
          apply decide_eq_decide.mpr; omega
        rw [this]
        simp [e2]
theorem pb_set_congr {c c' : Nat → Bool} {n : Nat} (h : ∀ i, i < n → c i = c' i) : pb_set c n = pb_set c' n := by
  induction n with
  | zero => rfl
  | succ n ih =>
    have ih := ih (fun i hi => h i (by omega))
    unfold pb_set
    rw [ih, h n (by omega)]
def pb_sum (f : Nat → Int32) : Nat → Int32
  | 0 => nI 0
  | n + 1 => pb_sum f n + f n
theorem pb_sum_congr {f f' : Nat → Int32} {n : Nat} (h : ∀ i, i < n → f i = f' i) : pb_sum f n = pb_sum f' n := by
  induction n with
  | zero => rfl
  | succ n ih =>
    unfold pb_sum
    rw [ih (fun i hi => h i (by omega)), h n (by omega)]
def pb_cnt (c : Nat → Bool) : Nat → Nat
  | 0 => 0
  | n + 1 => if c n = true then pb_cnt c n + 1 else pb_cnt c n
theorem pb_cnt_congr {c c' : Nat → Bool} {n : Nat} (h : ∀ i, i < n → c i = c' i) : pb_cnt c n = pb_cnt c' n := by
  induction n with
  | zero => rfl
  | succ n ih =>
    unfold pb_cnt
    rw [ih (fun i hi => h i (by omega)), h n (by omega)]
theorem pb_cnt_le (c : Nat → Bool) (n : Nat) : pb_cnt c n ≤ n := by
  induction n with
  | zero => exact Nat.le_refl 0
  | succ n ih =>
    unfold pb_cnt
    split <;> omega
/-- s with f j for each j below n in s0 -/
def pb_orN (f : Nat → Int32) (s0 s : Int32) : Nat → Int32
  | 0 => s
  | n + 1 => if pb_in s0 n = true then pb_orN f s0 s n ||| f n else pb_orN f s0 s n
theorem pb_orN_t {f : Nat → Int32} {s0 s : Int32} {n : Nat} (h : pb_in s0 n = true) : pb_orN f s0 s (n + 1) = pb_orN f s0 s n ||| f n := if_pos h
theorem pb_orN_f {f : Nat → Int32} {s0 s : Int32} {n : Nat} (h : pb_in s0 n = false) : pb_orN f s0 s (n + 1) = pb_orN f s0 s n := if_neg (by rw [h]; decide)
/-- rounds of all needs of needs -/
def pb_it (f : Nat → Int32) : Nat → Int32 → Int32
  | 0, s => s
  | n + 1, s => pb_it f n (pb_orN f s s 16)
theorem pb_it_fix {f : Nat → Int32} {s : Int32} (h : pb_orN f s s 16 = s) (n : Nat) : pb_it f n s = s := by
  induction n with
  | zero => rfl
  | succ n ih =>
    unfold pb_it
    rw [h]; exact ih
def pb_has (len : Nat → Int32) (t : Nat) : Bool := decide (0 < len t)
def pb_pres (len : Nat → Int32) : Int32 := pb_set (pb_has len) 16
def pb_low (s : Int32) : Nat → Int32
  | 0 => -1
  | n + 1 => if pb_in s (15 - n) = true then nI (15 - n) else pb_low s n
/-- a plan of the class at p: its four rows of 16 stand behind it -/
def pb_plan (sk : pb_Sk) (rf : pb_Rf) (p : Nat) : Prop := sk p = (10, 0) ∧ rf p 0 = some (p + 1) ∧ rf p 1 = some (p + 2) ∧ rf p 2 = some (p + 3) ∧ rf p 3 = some (p + 4) ∧ sk (p + 1) = (1, 16) ∧ sk (p + 2) = (1, 16) ∧ sk (p + 3) = (1, 16) ∧ sk (p + 4) = (1, 16)
def pb_same (sg : pb_Sg) (p r t : Nat) : Bool := decide (sg (p + 1) t = sg (r + 1) t ∧ sg (p + 2) t = sg (r + 2) t ∧ sg (p + 3) t = sg (r + 3) t ∧ sg (p + 4) t = sg (r + 4) t)
