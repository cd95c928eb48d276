/-! How many tasks there are: the JDK's bit count of a set of tasks is the reference's count. -/
theorem pq_and (a b : Nat) : nI a &&& nI b = nI (a &&& b) := by
  apply Int32.toBitVec_inj.mp
  rw [Int32.toBitVec_and]
  apply BitVec.eq_of_getLsbD_eq
  intro i hi
  show (BitVec.ofNat 32 a &&& BitVec.ofNat 32 b).getLsbD i = (BitVec.ofNat 32 (a &&& b)).getLsbD i
  rw [BitVec.getLsbD_and, BitVec.getLsbD_ofNat, BitVec.getLsbD_ofNat, BitVec.getLsbD_ofNat, Nat.testBit_and]
  simp [hi]
theorem pq_usk : ∀ k, k < 32 → ((nI k).toUInt32 &&& Int32.toUInt32 31).toNat % 32 = k := by decide +kernel
theorem pq_us {a k : Nat} (ha : a < 2147483648) (hk : k < 32) : pb_us (nI a) (nI k) = nI (a >>> k) := by
  apply Int32.toBitVec_inj.mp
  apply BitVec.eq_of_toNat_eq
  show ((nI a).toUInt32 >>> ((nI k).toUInt32 &&& Int32.toUInt32 31)).toNat = (BitVec.ofNat 32 (a >>> k)).toNat
  rw [UInt32.toNat_shiftRight, pq_usk k hk, BitVec.toNat_ofNat]
  show (BitVec.ofNat 32 a).toNat >>> k = _
  rw [BitVec.toNat_ofNat, Nat.mod_eq_of_lt (by omega)]
  have h1 := Nat.shiftRight_le a k
  rw [Nat.mod_eq_of_lt (by omega)]
def pq_n1 (N : Nat) : Nat := N - ((N >>> 1) &&& 1431655765)
def pq_n2 (N : Nat) : Nat := (pq_n1 N &&& 858993459) + ((pq_n1 N >>> 2) &&& 858993459)
def pq_n3 (N : Nat) : Nat := (pq_n2 N + (pq_n2 N >>> 4)) &&& 252645135
def pq_n4 (N : Nat) : Nat := pq_n3 N + (pq_n3 N >>> 8)
def pq_n5 (N : Nat) : Nat := (pq_n4 N + (pq_n4 N >>> 16)) &&& 63
theorem pq_bc_n {N : Nat} (hN : N < 65536) : pb_bc (nI N) = nI (pq_n5 N) := by
  have a1 : pq_n1 N ≤ N := Nat.sub_le _ _
  have a2 : pq_n2 N ≤ 1717986918 := by
    have h1 : (pq_n1 N &&& 858993459) ≤ 858993459 := Nat.and_le_right
    have h2 : ((pq_n1 N >>> 2) &&& 858993459) ≤ 858993459 := Nat.and_le_right
    unfold pq_n2
    omega
  have a3 : pq_n3 N ≤ 252645135 := Nat.and_le_right
  have a4 : pq_n4 N ≤ 505290270 := by
    have h1 := Nat.shiftRight_le (pq_n3 N) 8
    unfold pq_n4
    omega
  have e1 : pb_bc1 (nI N) = nI (pq_n1 N) := by
    unfold pb_bc1 pq_n1
    rw [pq_us (by omega) (by omega), show (1431655765 : Int32) = nI 1431655765 from rfl, pq_and, pb_subn]
    have h1 : ((N >>> 1) &&& 1431655765) ≤ N >>> 1 := Nat.and_le_left
    have h2 := Nat.shiftRight_le N 1
    omega
  have e2 : pb_bc2 (nI (pq_n1 N)) = nI (pq_n2 N) := by
    unfold pb_bc2 pq_n2
    rw [pq_us (by omega) (by omega), show (858993459 : Int32) = nI 858993459 from rfl, pq_and, pq_and, nI_add]
  have e3 : pb_bc3 (nI (pq_n2 N)) = nI (pq_n3 N) := by
    unfold pb_bc3 pq_n3
    rw [pq_us (by omega) (by omega), nI_add, show (252645135 : Int32) = nI 252645135 from rfl, pq_and]
  have e4 : pb_bc4 (nI (pq_n3 N)) = nI (pq_n4 N) := by
    unfold pb_bc4 pq_n4
    rw [pq_us (by omega) (by omega), nI_add]
  have e5 : pb_bc5 (nI (pq_n4 N)) = nI (pq_n4 N + (pq_n4 N >>> 16)) := by
    unfold pb_bc5
    rw [pq_us (by omega) (by omega), nI_add]
  unfold pb_bc
  rw [e1, e2, e3, e4, e5, pq_and]
  rfl
def pq_fc {α : Type} (n : Nat) (f : Nat → α) : α := match n with
  | 0 => f 0
  | m + 1 => f (m + 1)
theorem pq_fc_eq {α : Type} (n : Nat) (f : Nat → α) : pq_fc n f = f n := by cases n <;> rfl
def pq_lf (N c : Nat) : Bool := pq_fc (N - ((N >>> 1) &&& 1431655765)) fun a => pq_fc ((a &&& 858993459) + ((a >>> 2) &&& 858993459)) fun b => pq_fc ((b + (b >>> 4)) &&& 252645135) fun d => pq_fc (d + (d >>> 8)) fun e => Nat.beq ((e + (e >>> 16)) &&& 63) c
theorem pq_lf_eq {N c : Nat} (h : pq_lf N c = true) : pq_n5 N = c := by
  unfold pq_lf at h
  rw [pq_fc_eq, pq_fc_eq, pq_fc_eq, pq_fc_eq] at h
  exact Nat.eq_of_beq_eq_true h
def pq_tr : Nat → Nat → Nat → Bool
  | 0, n, c => pq_lf n c
  | k + 1, n, c => pq_fc (2 * n) (fun a => pq_tr k a c) && pq_fc (2 * n + 1) (fun a => pq_fc (c + 1) (fun d => pq_tr k a d))
theorem pq_tr_ok (k : Nat) : ∀ n c, pq_tr k n c = true → ∀ N, n * 2 ^ k ≤ N → N < (n + 1) * 2 ^ k → pq_n5 N = c + pb_cnt (fun i => N.testBit i) k := by
  induction k with
  | zero =>
    intro n c h N h1 h2
    rw [Nat.pow_zero] at h1 h2
    rw [show N = n by omega]
    exact pq_lf_eq h
  | succ k ih =>
    intro n c h N h1 h2
    unfold pq_tr at h
    rw [Bool.and_eq_true, pq_fc_eq, pq_fc_eq, pq_fc_eq] at h
    rw [Nat.pow_succ] at h1 h2
    have e1 : n * (2 ^ k * 2) = 2 * n * 2 ^ k := by rw [Nat.mul_comm (2 ^ k) 2, ← Nat.mul_assoc, Nat.mul_comm n 2]
    have e2 : (n + 1) * (2 ^ k * 2) = (2 * n + 1 + 1) * 2 ^ k := by rw [Nat.mul_comm (2 ^ k) 2, ← Nat.mul_assoc]; congr 1; omega
    rw [e1] at h1
    rw [e2] at h2
    unfold pb_cnt
    by_cases e : N < (2 * n + 1) * 2 ^ k
    · have hd : N / 2 ^ k = 2 * n := Nat.div_eq_of_lt_le h1 e
      have hb : N.testBit k = false := by
        rw [Nat.testBit_eq_decide_div_mod_eq, hd]
        exact decide_eq_false (by omega)
      rw [hb, if_neg (by decide)]
      exact ih (2 * n) c h.1 N h1 e
    · have hd : N / 2 ^ k = 2 * n + 1 := Nat.div_eq_of_lt_le (by omega) h2
      have hb : N.testBit k = true := by
        rw [Nat.testBit_eq_decide_div_mod_eq, hd]
        exact decide_eq_true (by omega)
      rw [hb, if_pos rfl, ih (2 * n + 1) (c + 1) h.2 N (by omega) h2]
      omega
theorem pq_tr_0 : pq_tr 12 0 0 = true := by decide +kernel
theorem pq_tr_1 : pq_tr 12 1 1 = true := by decide +kernel
theorem pq_tr_2 : pq_tr 12 2 1 = true := by decide +kernel
theorem pq_tr_3 : pq_tr 12 3 2 = true := by decide +kernel
theorem pq_tr_4 : pq_tr 12 4 1 = true := by decide +kernel
theorem pq_tr_5 : pq_tr 12 5 2 = true := by decide +kernel
theorem pq_tr_6 : pq_tr 12 6 2 = true := by decide +kernel
theorem pq_tr_7 : pq_tr 12 7 3 = true := by decide +kernel
theorem pq_tr_8 : pq_tr 12 8 1 = true := by decide +kernel
theorem pq_tr_9 : pq_tr 12 9 2 = true := by decide +kernel
theorem pq_tr_10 : pq_tr 12 10 2 = true := by decide +kernel
theorem pq_tr_11 : pq_tr 12 11 3 = true := by decide +kernel
theorem pq_tr_12 : pq_tr 12 12 2 = true := by decide +kernel
theorem pq_tr_13 : pq_tr 12 13 3 = true := by decide +kernel
theorem pq_tr_14 : pq_tr 12 14 3 = true := by decide +kernel
theorem pq_tr_15 : pq_tr 12 15 4 = true := by decide +kernel
theorem pq_c16 (c : Nat → Bool) : pb_cnt c 16 = pb_cnt c 12 + ((if c 12 = true then 1 else 0) + (if c 13 = true then 1 else 0) + (if c 14 = true then 1 else 0) + (if c 15 = true then 1 else 0)) := by
  show (if c 15 = true then (if c 14 = true then (if c 13 = true then (if c 12 = true then pb_cnt c 12 + 1 else pb_cnt c 12) + 1 else (if c 12 = true then pb_cnt c 12 + 1 else pb_cnt c 12)) + 1 else (if c 13 = true then (if c 12 = true then pb_cnt c 12 + 1 else pb_cnt c 12) + 1 else (if c 12 = true then pb_cnt c 12 + 1 else pb_cnt c 12))) + 1 else (if c 14 = true then (if c 13 = true then (if c 12 = true then pb_cnt c 12 + 1 else pb_cnt c 12) + 1 else (if c 12 = true then pb_cnt c 12 + 1 else pb_cnt c 12)) + 1 else (if c 13 = true then (if c 12 = true then pb_cnt c 12 + 1 else pb_cnt c 12) + 1 else (if c 12 = true then pb_cnt c 12 + 1 else pb_cnt c 12)))) = _
  generalize pb_cnt c 12 = x
  cases c 12 <;> cases c 13 <;> cases c 14 <;> cases c 15 <;> simp <;> omega
theorem pq_hi {N j i : Nat} (h1 : j * 2 ^ 12 ≤ N) (h2 : N < (j + 1) * 2 ^ 12) : N.testBit (12 + i) = j.testBit i := by
  have hd : N / 2 ^ 12 = j := Nat.div_eq_of_lt_le h1 h2
  rw [← hd, Nat.testBit_div_two_pow, Nat.add_comm]
theorem pq_n5_of {j c N : Nat} (h : pq_tr 12 j c = true) (h1 : j * 2 ^ 12 ≤ N) (h2 : N < (j + 1) * 2 ^ 12) (hc : c = (if j.testBit 0 = true then 1 else 0) + (if j.testBit 1 = true then 1 else 0) + (if j.testBit 2 = true then 1 else 0) + (if j.testBit 3 = true then 1 else 0)) : pq_n5 N = pb_cnt (fun i => N.testBit i) 16 := by
  rw [pq_tr_ok 12 j c h N h1 h2, pq_c16, Nat.add_comm c, hc]
  have e0 := pq_hi (i := 0) h1 h2
  have e1 := pq_hi (i := 1) h1 h2
  have e2 := pq_hi (i := 2) h1 h2
  have e3 := pq_hi (i := 3) h1 h2
  rw [← e0, ← e1, ← e2, ← e3]
theorem pq_n5_ok {N : Nat} (hN : N < 65536) : pq_n5 N = pb_cnt (fun i => N.testBit i) 16 := by
  have h : ∃ j, j < 16 ∧ j * 2 ^ 12 ≤ N ∧ N < (j + 1) * 2 ^ 12 := ⟨N / 4096, by omega, by omega, by omega⟩
  obtain ⟨j, hj, h1, h2⟩ := h
  have hj2 : j = 0 ∨ j = 1 ∨ j = 2 ∨ j = 3 ∨ j = 4 ∨ j = 5 ∨ j = 6 ∨ j = 7 ∨ j = 8 ∨ j = 9 ∨ j = 10 ∨ j = 11 ∨ j = 12 ∨ j = 13 ∨ j = 14 ∨ j = 15 := by omega
  rcases hj2 with rfl | rfl | rfl | rfl | rfl | rfl | rfl | rfl | rfl | rfl | rfl | rfl | rfl | rfl | rfl | rfl
  · exact pq_n5_of pq_tr_0 h1 h2 (by decide)
  · exact pq_n5_of pq_tr_1 h1 h2 (by decide)
  · exact pq_n5_of pq_tr_2 h1 h2 (by decide)
  · exact pq_n5_of pq_tr_3 h1 h2 (by decide)
  · exact pq_n5_of pq_tr_4 h1 h2 (by decide)
  · exact pq_n5_of pq_tr_5 h1 h2 (by decide)
  · exact pq_n5_of pq_tr_6 h1 h2 (by decide)
  · exact pq_n5_of pq_tr_7 h1 h2 (by decide)
  · exact pq_n5_of pq_tr_8 h1 h2 (by decide)
  · exact pq_n5_of pq_tr_9 h1 h2 (by decide)
  · exact pq_n5_of pq_tr_10 h1 h2 (by decide)
  · exact pq_n5_of pq_tr_11 h1 h2 (by decide)
  · exact pq_n5_of pq_tr_12 h1 h2 (by decide)
  · exact pq_n5_of pq_tr_13 h1 h2 (by decide)
  · exact pq_n5_of pq_tr_14 h1 h2 (by decide)
  · exact pq_n5_of pq_tr_15 h1 h2 (by decide)
theorem pq_bc {U : Int32} (hW : pq_W U) : pb_bc U = nI (pb_cnt (pb_in U) 16) := by
  have hU : U = nI U.toBitVec.toNat := by
    apply Int32.toBitVec_inj.mp
    show U.toBitVec = BitVec.ofNat 32 U.toBitVec.toNat
    rw [BitVec.ofNat_toNat, BitVec.setWidth_eq]
  have hN : U.toBitVec.toNat < 2 ^ 16 := Nat.lt_pow_two_of_testBit _ fun i hi => hW i hi
  have h3 : pb_bc U = pb_bc (nI U.toBitVec.toNat) := by rw [← hU]
  rw [h3, pq_bc_n (by omega), pq_n5_ok (by omega)]
  rfl
