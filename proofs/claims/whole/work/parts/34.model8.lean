/-- rows of the plan q, and first days -/
def pb_mw (sg : pb_Sg) (M q : Nat) : Prop := ∀ t, t < 16 → (∃ l, l ≤ 20 ∧ sg (M + 1) (16 * q + t) = nI l) ∧ (sg (M + 2) (16 * q + t) = -1 ∨ ∃ c, c < 5 ∧ sg (M + 2) (16 * q + t) = nI c)
def pb_mi (sg : pb_Sg) (M q : Nat) : Prop := pb_mw sg M q ∧ ∀ t, t < 16 → sg (M + 21) t = -1 ∨ ∃ d, sg (M + 21) t = nI d ∧ d + pb_nat (sg (M + 1) (16 * q + t)) ≤ 400
def pb_mdm (sg : pb_Sg) (M q t : Nat) : Nat → Nat
  | 0 => 0
  | n + 1 => if pb_in (sg (M + 4) (16 * q + t)) n = true then max (pb_mdm sg M q t n) (pb_nat (sg (M + 21) n + sg (M + 1) (16 * q + n))) else pb_mdm sg M q t n
theorem pb_mfl {sg : pb_Sg} {M q t : Nat} (h : pb_mi sg M q) (ht : t < 16) : sg (M + 21) t + sg (M + 1) (16 * q + t) = -1 ∨ ∃ m, m ≤ 400 ∧ sg (M + 21) t + sg (M + 1) (16 * q + t) = nI m := by
  obtain ⟨⟨l, hl, el⟩, -⟩ := h.1 t ht
  rcases h.2 t ht with e | ⟨d, e, hd⟩
  · rw [e, el]
    rcases Nat.eq_zero_or_pos l with q | q
    · subst q; exact Or.inl (by decide)
    · refine Or.inr ⟨l - 1, by omega, ?_⟩
      rw [Int32.add_comm]
      have := pk_m1 (l - 1)
      rw [show l - 1 + 1 = l by omega] at this
      exact this
  · rw [el, pb_nat_nI (by omega)] at hd
    exact Or.inr ⟨d + l, hd, by rw [e, el, nI_add]⟩
theorem pb_mdm_ok {sg : pb_Sg} {M q t : Nat} (h : pb_mi sg M q) (n : Nat) (hn : n ≤ 16) : pb_mdm sg M q t n ≤ 400 ∧ pb_mdn sg M q t n = nI (pb_mdm sg M q t n) := by
  induction n with
  | zero => exact ⟨Nat.zero_le _, rfl⟩
  | succ n ih =>
    obtain ⟨i1, i2⟩ := ih (by omega)
    have hf := pb_mfl h (t := n) (by omega)
    unfold pb_mdn pb_mdm pb_mbh
    rw [i2]
    by_cases e : pb_in (sg (M + 4) (16 * q + t)) n = true
    · rw [if_pos e, if_pos e]
      refine ⟨?_, ?_⟩
      · rcases hf with e | ⟨m, hm, e⟩
        · rw [e, pb_nat_m1]; omega
        · rw [e, pb_nat_nI (by omega)]; omega
      · refine pb_mx_nat (by omega) ?_
        rcases hf with e | ⟨m, hm, e⟩
        · exact Or.inl e
        · exact Or.inr ⟨m, by omega, e⟩
    · rw [if_neg e, if_neg e]
      exact ⟨i1, pb_mx_le (nI_le (Nat.zero_le _) (by omega))⟩
def pb_mok (sg : pb_Sg) (M q t : Nat) : Nat → Bool := if sg (M + 2) (16 * q + t) = -1 then pb_mokN else pb_mokC sg M (pb_nat (sg (M + 2) (16 * q + t)))
def pb_msr (sg : pb_Sg) (M q t : Nat) : Nat × Nat := pb_msc (pb_mok sg M q t) (pb_nat (sg (M + 1) (16 * q + t))) (400 - pb_mdm sg M q t 16) (pb_mdm sg M q t 16) 0 (pb_mdm sg M q t 16)
def pb_mear (sg : pb_Sg) (M q t : Nat) : Option Nat := if (pb_msr sg M q t).2 < pb_nat (sg (M + 1) (16 * q + t)) then none else some (pb_msr sg M q t).1
def pb_mpl (sg : pb_Sg) (M q t f : Nat) : pb_Sg := pb_up (if sg (M + 2) (16 * q + t) = -1 then sg else pb_fillN sg (M + 22) (400 * pb_nat (sg (M + 2) (16 * q + t)) + f) (nI t) (pb_nat (sg (M + 1) (16 * q + t)))) (M + 21) t (nI f)
theorem pb_mear_le {sg : pb_Sg} {M q t f : Nat} (h : pb_mi sg M q) (he : pb_mear sg M q t = some f) : f + pb_nat (sg (M + 1) (16 * q + t)) ≤ 400 := by
  unfold pb_mear at he
  have hd := (pb_mdm_ok (t := t) h 16 (by omega)).1
  split at he
  · cases he
  · rename_i e
    cases he
    have h9 := pb_msc_le _ _ _ _ _ _ (Nat.add_zero _) (Nat.zero_le _) (show pb_msr sg M q t = ((pb_msr sg M q t).1, (pb_msr sg M q t).2) from rfl)
    omega
theorem x2_X8_places {l : Launch} (hfl : l.stackTraces = false) {sz : Nat} {sk : pb_Sk} {rf : pb_Rf} {sg : pb_Sg} {M : Nat} (hm : pb_md sk rf M) {q t : Nat} (hq : q < 17) (ht : t < 16) (hi : pb_mi sg M q) (he : pb_mear sg M q t = none) : pb_Met l mX8_places 3 0 0 [.ref M, .int (nI q), .int (nI t)] sz sk rf sg (pb_is (some (.int (-1))) sz sk rf sg) := by
  obtain ⟨⟨n, hn, en⟩, hcr⟩ := hi.1 t ht
  obtain ⟨hd1, hd2⟩ := pb_mdm_ok (t := t) hi 16 (by omega)
  have hnn : pb_nat (sg (M + 1) (16 * q + t)) = n := by rw [en, pb_nat_nI (by omega)]
  unfold pb_mear at he
  rw [hnn] at he
  split at he
  · rename_i e
    rcases hcr with ec | ⟨c, hc, ec⟩
    · exact xN_X8_places hfl hm hq ht en hn ec hd2 hd1 (show pb_msc pb_mokN n _ _ _ _ = (_, _) from by rw [← hnn, show (pb_mokN : Nat → Bool) = pb_mok sg M q t from (if_pos ec).symm]; rfl) e
    · exact x_X8_places hfl hm hq ht en hn hc ec hd2 hd1 (show pb_msc (pb_mokC sg M c) n _ _ _ _ = (_, _) from by rw [← hnn, show pb_mokC sg M c = pb_mok sg M q t from by unfold pb_mok; rw [if_neg (by rw [ec]; exact pb_m1_ne (by omega)), ec, pb_nat_nI (by omega)]]; rfl) e
  · rename_i e
    cases he
theorem c2_X8_places {l : Launch} (hfl : l.stackTraces = false) {sz : Nat} {sk : pb_Sk} {rf : pb_Rf} {sg : pb_Sg} {M : Nat} (hm : pb_md sk rf M) {q t : Nat} (hq : q < 17) (ht : t < 16) (hi : pb_mi sg M q) {f : Nat} (he : pb_mear sg M q t = some f) : pb_Met l mX8_places 3 0 0 [.ref M, .int (nI q), .int (nI t)] sz sk rf sg (pb_is (some (.int (nI f))) sz sk rf (pb_mpl sg M q t f)) := by
  obtain ⟨⟨n, hn, en⟩, hcr⟩ := hi.1 t ht
  obtain ⟨hd1, hd2⟩ := pb_mdm_ok (t := t) hi 16 (by omega)
  have hnn : pb_nat (sg (M + 1) (16 * q + t)) = n := by rw [en, pb_nat_nI (by omega)]
  unfold pb_mear at he
  rw [hnn] at he
  split at he
  · rename_i e
    cases he
  · rename_i e
    cases he
    rcases hcr with ec | ⟨c, hc, ec⟩
    · rw [show pb_mpl sg M q t (pb_msr sg M q t).1 = pb_up sg (M + 21) t (nI (pb_msr sg M q t).1) from by unfold pb_mpl; rw [if_pos ec]]
      exact cN_X8_places hfl hm hq ht en hn ec hd2 hd1 (show pb_msc pb_mokN n _ _ _ _ = (_, _) from by rw [← hnn, show (pb_mokN : Nat → Bool) = pb_mok sg M q t from (if_pos ec).symm]; rfl) e
    · rw [show pb_mpl sg M q t (pb_msr sg M q t).1 = pb_up (pb_fillN sg (M + 22) (400 * c + (pb_msr sg M q t).1) (nI t) n) (M + 21) t (nI (pb_msr sg M q t).1) from by unfold pb_mpl; rw [if_neg (by rw [ec]; exact pb_m1_ne (by omega)), ec, pb_nat_nI (by omega), hnn]]
      exact c_X8_places hfl hm hq ht en hn hc ec hd2 hd1 (show pb_msc (pb_mokC sg M c) n _ _ _ _ = (_, _) from by rw [← hnn, show pb_mokC sg M c = pb_mok sg M q t from by unfold pb_mok; rw [if_neg (by rw [ec]; exact pb_m1_ne (by omega)), ec, pb_nat_nI (by omega)]]; rfl) e
theorem pb_mpl_ne {sg : pb_Sg} {M q t f x : Nat} (h1 : x ≠ M + 21) (h2 : x ≠ M + 22) : pb_mpl sg M q t f x = sg x := by
  unfold pb_mpl
  rw [pb_up_neA h1]
  split
  · rfl
  · funext j; rw [pb_fill_at, if_neg (fun q => h2 q.1)]
theorem pb_mpl_21 {sg : pb_Sg} {M q t f j : Nat} : pb_mpl sg M q t f (M + 21) j = if j = t then nI f else sg (M + 21) j := by
  unfold pb_mpl
  rw [pb_up_at]
  by_cases e : j = t
  · rw [if_pos ⟨rfl, e⟩, if_pos e]
  · rw [if_neg (fun q => e q.2), if_neg e]
    split
    · rfl
    · rw [pb_fill_at, if_neg (by omega)]
theorem pb_mi_pl {sg : pb_Sg} {M q t f : Nat} (h : pb_mi sg M q) (he : pb_mear sg M q t = some f) : pb_mi (pb_mpl sg M q t f) M q := by
  have hle := pb_mear_le h he
  refine ⟨?_, ?_⟩
  · intro j hj
    rw [pb_mpl_ne (by omega) (by omega), pb_mpl_ne (by omega) (by omega)]
    exact h.1 j hj
  · intro j hj
    rw [pb_mpl_21, pb_mpl_ne (x := M + 1) (by omega) (by omega)]
    by_cases e : j = t
    · subst e
      rw [if_pos rfl]
      exact Or.inr ⟨f, rfl, hle⟩
    · rw [if_neg e]; exact h.2 j hj
def pb_mbt (S : pb_Sg) (M n : Nat) : Option Nat → Bool
  | none => true
  | some u => decide (S (M + 19) u < S (M + 19) n)
def pb_mnx (S : pb_Sg) (M q : Nat) (U : Int32) : Nat → Option Nat
  | 0 => none
  | n + 1 => if (pb_in U n && pb_mrd S M q n 16 && pb_mbt S M n (pb_mnx S M q U n)) = true then some n else pb_mnx S M q U n
theorem pb_mnx_lt {S : pb_Sg} {M q : Nat} {U : Int32} {n t : Nat} (h : pb_mnx S M q U n = some t) : t < n ∧ pb_in U t = true := by
  induction n with
  | zero => cases h
  | succ n ih =>
    unfold pb_mnx at h
    split at h
    · rename_i e
      cases h
      refine ⟨by omega, ?_⟩
      cases e9 : pb_in U t
      · rw [e9] at e; simp at e
      · rfl
    · have := ih h
      exact ⟨by omega, this.2⟩
def pb_off (U : Int32) (t : Nat) : Int32 := U &&& ((nI 1 <<< (nI t &&& 31)) ^^^ (-1))
theorem pb_off_in {U : Int32} {t j : Nat} (ht : t < 32) (hj : j < 32) : pb_in (pb_off U t) j = (pb_in U j && !decide (j = t)) := by
  unfold pb_off
  rw [pb_in_and, pb_in_xor, pb_in_bit ht hj, pb_in_m1 hj]
  cases decide (j = t) <;> rfl
theorem pb_off_cnt {U : Int32} {t : Nat} (ht : t < 16) (h : pb_in U t = true) : pb_cnt (pb_in (pb_off U t)) 16 < pb_cnt (pb_in U) 16 := by
  refine pb_cnt_lt (i := t) (fun j hj h9 => ?_) ht h ?_
  · rw [pb_off_in (by omega) (by omega)] at h9
    cases e : pb_in U j
    · rw [e] at h9; cases h9
    · rfl
  · rw [pb_off_in (by omega) (by omega)]; simp
def pb_mul (M q : Nat) : Nat → pb_Sg → Int32 → Int32 → pb_Sg × Int32
  | 0, S, _, O => (S, O)
  | n + 1, S, U, O => match pb_mnx S M q U 16 with
    | none => (S, O)
    | some t => match pb_mear S M q t with
      | none => pb_mul M q n S (pb_off U t) O
      | some f => pb_mul M q n (pb_mpl S M q t f) (pb_off U t) (pb_off O t)
theorem pb_mul_0 {M q n : Nat} {S : pb_Sg} {U O : Int32} (h : pb_mnx S M q U 16 = none) : pb_mul M q (n + 1) S U O = (S, O) := by
  unfold pb_mul
  rw [h]
theorem pb_mul_1 {M q n t : Nat} {S : pb_Sg} {U O : Int32} (h : pb_mnx S M q U 16 = some t) (he : pb_mear S M q t = none) : pb_mul M q (n + 1) S U O = pb_mul M q n S (pb_off U t) O := by
  conv => lhs; unfold pb_mul
  rw [h]
  simp only [he]
theorem pb_mul_2 {M q n t f : Nat} {S : pb_Sg} {U O : Int32} (h : pb_mnx S M q U 16 = some t) (he : pb_mear S M q t = some f) : pb_mul M q (n + 1) S U O = pb_mul M q n (pb_mpl S M q t f) (pb_off U t) (pb_off O t) := by
  conv => lhs; unfold pb_mul
  rw [h]
  simp only [he]
def pb_muH (M q j : Nat) (S : pb_Sg) (U O nx : Int32) (R : pb_Sg × Int32) : Prop := (nx = -1 → (S, O) = R) ∧ (¬ nx = -1 → pb_mul M q j S U O = R ∧ pb_cnt (pb_in U) 16 < j) ∧ pb_mi S M q
theorem pb_oi_m1 {o : Option Nat} (h : ∀ u, o = some u → u < 2147483648) (h1 : pb_oi o = -1) : o = none := by
  cases o with
  | none => rfl
  | some u => exact absurd h1 (pb_m1_ne (h u rfl))
theorem pb_oi_ne {o : Option Nat} (h1 : ¬ pb_oi o = -1) : ∃ u, o = some u := by
  cases o with
  | none => exact absurd rfl h1
  | some u => exact ⟨u, rfl⟩
theorem pb_som {o : Option Nat} (h : ¬ o = none) : o = some (o.getD 0) := by
  cases o with
  | none => exact absurd rfl h
  | some u => rfl
theorem pb_and_self (x : Int32) : x &&& x = x := by
  apply pb_in_ext; intro j hj; rw [pb_in_and, Bool.and_self]
/-- as it stands before tasks are placed -/
def pb_mS0 (sg : pb_Sg) (M q b L : Nat) : pb_Sg := pb_mfd (pb_fillN (pb_fillN (pb_gK sg M q 16) (M + 21) 0 (-1) 16) (M + 22) 0 (-1) 2000) M b L 2000
def pb_mU0 (S : pb_Sg) (M q : Nat) : Int32 := pb_set (fun t => pb_has (S (M + 1)) (16 * q + t)) 16
def pb_mun (sg : pb_Sg) (M q b L : Nat) : pb_Sg × Int32 := pb_mul M q 17 (pb_mS0 sg M q b L) (pb_mU0 (pb_mS0 sg M q b L) M q) (pb_mU0 (pb_mS0 sg M q b L) M q)
theorem pb_gi_ne {sg : pb_Sg} {M q x : Nat} (h : x < M + 19 ∨ M + 20 < x) (n : Nat) : pb_gi sg M q n x = sg x := by
  induction n with
  | zero => rfl
  | succ n ih =>
    show pb_up (pb_up _ _ _ _) _ _ _ x = _
    rw [pb_up_neA (by omega), pb_up_neA (by omega), ih]
theorem pb_g1_ne {sg : pb_Sg} {M q t n x : Nat} (h : x < M + 19 ∨ M + 20 < x) : pb_g1 sg M q t n x = sg x := by
  unfold pb_g1 pb_ga
  rw [pb_up_neA (by omega), pb_up_neA (by omega)]
theorem pb_gN_ne {sg : pb_Sg} {M q t x : Nat} (h : x < M + 19 ∨ M + 20 < x) (n : Nat) : pb_gN sg M q t n x = sg x := by
  induction n with
  | zero => rfl
  | succ n ih =>
    unfold pb_gN
    split
    · exact (pb_g1_ne h).trans ih
    · exact ih
theorem pb_gR_ne {sg : pb_Sg} {M q x : Nat} (h : x < M + 19 ∨ M + 20 < x) (n : Nat) : pb_gR sg M q n x = sg x := by
  induction n with
  | zero => rfl
  | succ n ih => exact (pb_gN_ne h 16).trans ih
theorem pb_gK_ne {sg : pb_Sg} {M q x : Nat} (h : x < M + 19 ∨ M + 20 < x) (n : Nat) : pb_gK sg M q n x = sg x := by
  induction n with
  | zero => exact pb_gi_ne h 16
  | succ n ih => exact (pb_gR_ne h 16).trans ih
theorem pb_fill_ne {sg : pb_Sg} {a lo m b : Nat} {x : Int32} (h : b ≠ a) : pb_fillN sg a lo x m b = sg b := by
  funext j; rw [pb_fill_at, if_neg (fun q => h q.1)]
theorem pb_mS0_ne {sg : pb_Sg} {M q b L x : Nat} (h : x < M + 19 ∨ M + 23 < x) : pb_mS0 sg M q b L x = sg x := by
  unfold pb_mS0
  rw [pb_mfd_ne (by omega), pb_fill_ne (by omega), pb_fill_ne (by omega), pb_gK_ne (by omega)]
theorem pb_mS0_21 {sg : pb_Sg} {M q b L j : Nat} (h : j < 16) : pb_mS0 sg M q b L (M + 21) j = -1 := by
  unfold pb_mS0
  rw [pb_mfd_ne (by omega), pb_fill_ne (by omega), pb_fill_at, if_pos (by omega)]
theorem pb_mi_S0 {sg : pb_Sg} {M q b L : Nat} (h : pb_mw sg M q) : pb_mi (pb_mS0 sg M q b L) M q := by
  refine ⟨fun t ht => ?_, fun t ht => Or.inl (pb_mS0_21 ht)⟩
  rw [pb_mS0_ne (by omega), pb_mS0_ne (by omega)]
  exact h t ht
set_option maxHeartbeats 4000000 in
set_option maxRecDepth 100000 in
theorem c_X8_unplaced {l : Launch} (hfl : l.stackTraces = false) {sz : Nat} {sk : pb_Sk} {rf : pb_Rf} {sg : pb_Sg} {M : Nat} (hm : pb_md sk rf M) {q b L : Nat} (hq : q < 17) (hb : b < 8) (hL : sg M 20 = nI L) (hL40 : L ≤ 40) (hw : pb_mw sg M q) : pb_Met l mX8_unplaced 4 0 0 [.ref M, .int (nI q), .int (nI b)] sz sk rf sg (pb_is (some (.int (pb_mun sg M q b L).2)) sz sk rf ((pb_mun sg M q b L).1)) := by
  refine pb_start hfl (by decide +kernel) rfl (pb_c1 rfl) (Nat.le_of_ble_eq_true rfl) (fun F hF h hQ => ?_)
  subst hF
  show pv F 0 0 sz sk rf sg 0 [some (.ref M), some (.int (nI q)), some (.int (nI b)), none, none, none, none, none] []
  obtain ⟨hM0, hr1, hk1, hr2, hk2, hr3, hk3, hr4, hk4, hr5, hk5, hr6, hk6, hr7, hk7, hr8, hk8, hr9, hk9, hr10, hk10, hr11, hk11, hr12, hk12, hr13, hk13, hr14, hk14, hr15, hk15, hr16, hk16, hr17, hk17, hr18, hk18, hr19, hk19, hr20, hk20, hr21, hk21, hr22, hk22, hr23, hk23, hr24, hk24⟩ := id hm
  refine v_aload_n h (i := 0) dX8_unplaced_0 (q := 1) rfl rfl rfl ?_
  refine v_iload_n h (i := 1) dX8_unplaced_1 (q := 2) rfl rfl rfl ?_
  refine v_callV1 h (c_X8_goes hfl hm hq) kX8_goes tw1086 tw36 (by assumption) (by decide) rfl rfl rfl (by simp [Value.category]) (by decide) (Nat.zero_le _) (Nat.zero_le _) rfl dX8_unplaced_2 (q := 5) rfl ?_
  refine v_pop h dX8_unplaced_5 (q := 6) rfl rfl ?_
  refine v_aload_n h (i := 0) dX8_unplaced_6 (q := 7) rfl rfl rfl ?_
  refine v_callV0 h (c_X8_clears hfl hm) kX8_clears tw1090 tw37 (by assumption) (by decide) rfl rfl rfl (by simp [Value.category]) (by decide) (Nat.zero_le _) (Nat.zero_le _) rfl dX8_unplaced_7 (q := 10) rfl ?_
  refine v_aload_n h (i := 0) dX8_unplaced_10 (q := 11) rfl rfl rfl ?_
  refine v_iload_n h (i := 2) dX8_unplaced_11 (q := 12) rfl rfl rfl ?_
  refine v_callV0 h (c_X8_finds hfl hm hb (show _ = nI L by rw [pb_fill_ne (by omega), pb_fill_ne (by omega), pb_gK_ne (by omega)]; exact hL) hL40) kX8_finds tw1094 tw38 (by assumption) (by decide) rfl rfl rfl (by simp [Value.category]) (by decide) (Nat.zero_le _) (Nat.zero_le _) rfl dX8_unplaced_12 (q := 15) rfl ?_
  refine v_sg (sg' := pb_mS0 sg M q b L) rfl ?_
  refine v_aload_n h (i := 0) dX8_unplaced_15 (q := 16) rfl rfl rfl ?_
  refine v_iload_n h (i := 1) dX8_unplaced_16 (q := 17) rfl rfl rfl ?_
  refine v_callV1 h (c_X8_tasks0 hfl hm hq) kX8_tasks0 tw976 tw21 (by assumption) (by decide) rfl rfl rfl (by simp [Value.category]) (by decide) (Nat.zero_le _) (Nat.zero_le _) rfl dX8_unplaced_17 (q := 20) rfl ?_
  refine v_istore_n h (i := 3) dX8_unplaced_20 (q := 21) rfl rfl (Nat.le_of_ble_eq_true rfl) rfl ?_
  refine v_iload_n h (i := 3) dX8_unplaced_21 (q := 22) rfl rfl rfl ?_
  refine v_istore h dX8_unplaced_22 (q := 24) rfl (Nat.le_of_ble_eq_true rfl) rfl ?_
  refine v_iconst h (v := nI 0) dX8_unplaced_24 (q := 25) rfl (by decide +kernel) ?_
  refine v_istore h dX8_unplaced_25 (q := 27) rfl (Nat.le_of_ble_eq_true rfl) rfl ?_
  have lp : ∀ (j i : Nat) (S : pb_Sg) (U O nx : Int32), i + j = 17 → pb_muH M q j S U O nx (pb_mun sg M q b L) → pv F 0 0 sz sk rf S 27 [some (.ref M), some (.int (nI q)), some (.int (nI b)), some (.int U), some (.int O), some (.int (nx)), none, none] [] := by
    intro j
    induction j with
    | zero =>
      intro i S U O nx hi hy0
      obtain rfl : i = 17 := by omega
      refine v_iload h dX8_unplaced_27 (q := 29) rfl rfl ?_
      refine v_iconst h (v := (-1)) dX8_unplaced_29 (q := 30) rfl (by decide +kernel) ?_
      refine v_icmp_eq h dX8_unplaced_30 (q := 33) rfl (tgt := 161) (by decide) (fun cX => ?_) (fun cX => absurd (hy0.2.1 cX).2 (Nat.not_lt_zero _))
      refine v_iload h dX8_unplaced_161 (q := 163) rfl rfl ?_
      refine v_iret h hQ rfl rfl dX8_unplaced_163 (Nat.zero_le _) (Nat.zero_le _) ⟨by rw [← hy0.1 cX], rfl, rfl, rfl, by rw [← hy0.1 cX]⟩
    | succ j ih =>
      intro i S U O nx hi hy0
      have hi2 : i < 17 := by omega
      refine v_iload h dX8_unplaced_27 (q := 29) rfl rfl ?_
      refine v_iconst h (v := (-1)) dX8_unplaced_29 (q := 30) rfl (by decide +kernel) ?_
      refine v_icmp_eq h dX8_unplaced_30 (q := 33) rfl (tgt := 161) (by decide) (fun cX => ?_) (fun cX => ?_)
      · skip
        have hR := hy0.1 cX
        refine v_iload h dX8_unplaced_161 (q := 163) rfl rfl ?_
        refine v_iret h hQ rfl rfl dX8_unplaced_163 (Nat.zero_le _) (Nat.zero_le _) ⟨by rw [← hR], rfl, rfl, rfl, by rw [← hR]⟩
      · skip
        obtain ⟨hA, hB⟩ := hy0.2.1 cX
        have hC := hy0.2.2
        refine v_iconst h (v := (-1)) dX8_unplaced_33 (q := 34) rfl (by decide +kernel) ?_
        refine v_istore h dX8_unplaced_34 (q := 36) rfl (Nat.le_of_ble_eq_true rfl) rfl ?_
        refine v_iconst h (v := nI 0) dX8_unplaced_36 (q := 37) rfl (by decide +kernel) ?_
        refine v_istore h dX8_unplaced_37 (q := 39) rfl (Nat.le_of_ble_eq_true rfl) rfl ?_
        have lp9 : ∀ (j9 i9 : Nat), i9 + j9 = 16 → pv F 0 0 sz sk rf S 39 [some (.ref M), some (.int (nI q)), some (.int (nI b)), some (.int U), some (.int O), some (.int (pb_oi (pb_mnx S M q U i9))), some (.int (nI i9)), none] [] := by
          intro j9
          induction j9 with
          | zero =>
            intro i9  hi9
            obtain rfl : i9 = 16 := by omega
            refine v_iload h dX8_unplaced_39 (q := 41) rfl rfl ?_
            refine v_bipush h (v := nI 16) dX8_unplaced_41 (q := 43) rfl (by decide +kernel) ?_
            refine v_icmp_ge h dX8_unplaced_43 (q := 46) rfl (tgt := 116) (by decide) (fun c3 => ?_) (fun c3 => pb_kle (Nat.le_refl _) (by decide) c3)
            refine v_iload h dX8_unplaced_116 (q := 118) rfl rfl ?_
            refine v_iconst h (v := (-1)) dX8_unplaced_118 (q := 119) rfl (by decide +kernel) ?_
            refine v_icmp_eq h dX8_unplaced_119 (q := 122) rfl (tgt := 27) (by decide) (fun c4 => ?_) (fun c4 => ?_)
            · skip
              have hn8 : pb_mnx S M q U 16 = none := pb_oi_m1 (fun u hu => by have := (pb_mnx_lt hu).1; omega) c4
              exact v_wk (by simp [pb_wk, hn8, pb_oi]) (ih (i + 1) S U O (-1) (by omega) ⟨fun _ => (pb_mul_0 hn8).symm.trans hA, fun q9 => absurd rfl q9, hC⟩)
            · skip
              obtain ⟨t8, ht8⟩ := pb_oi_ne c4
              obtain ⟨ht16, hU8⟩ := pb_mnx_lt ht8
              have hcn := pb_off_cnt ht16 hU8
              refine v_wk (L' := [some (.ref M), some (.int (nI q)), some (.int (nI b)), some (.int U), some (.int O), some (.int (nI t8)), none, none]) (by simp [pb_wk, ht8, pb_oi]) ?_
              refine v_iload_n h (i := 3) dX8_unplaced_122 (q := 123) rfl rfl rfl ?_
              refine v_iconst h (v := nI 1) dX8_unplaced_123 (q := 124) rfl (by decide +kernel) ?_
              refine v_iload h dX8_unplaced_124 (q := 126) rfl rfl ?_
              refine v_ishl h dX8_unplaced_126 (q := 127) rfl ?_
              refine v_iconst h (v := (-1)) dX8_unplaced_127 (q := 128) rfl (by decide +kernel) ?_
              refine v_ixor h dX8_unplaced_128 (q := 129) rfl ?_
              refine v_iand h dX8_unplaced_129 (q := 130) rfl ?_
              refine v_eq (st' := [.int (pb_off U t8)]) rfl ?_
              refine v_istore_n h (i := 3) dX8_unplaced_130 (q := 131) rfl rfl (Nat.le_of_ble_eq_true rfl) rfl ?_
              refine v_iload h dX8_unplaced_131 (q := 133) rfl rfl ?_
              refine v_aload_n h (i := 0) dX8_unplaced_133 (q := 134) rfl rfl rfl ?_
              refine v_iload_n h (i := 1) dX8_unplaced_134 (q := 135) rfl rfl rfl ?_
              refine v_iload h dX8_unplaced_135 (q := 137) rfl rfl ?_
              by_cases hk : pb_mear S M q t8 = none
              · skip
                refine v_callV1 h (x2_X8_places hfl hm hq ht16 hC hk) kX8_places tw1106 tw41 (by assumption) (by decide) rfl rfl rfl (by simp [Value.category]) (by decide) (Nat.zero_le _) (Nat.zero_le _) rfl dX8_unplaced_137 (q := 140) rfl ?_
                refine v_iconst h (v := (-1)) dX8_unplaced_140 (q := 141) rfl (by decide +kernel) ?_
                refine v_icmp_ne h dX8_unplaced_141 (q := 144) rfl (tgt := 149) (by decide) (fun c5 => absurd rfl c5) (fun c5 => ?_)
                refine v_iload h dX8_unplaced_144 (q := 146) rfl rfl ?_
                refine v_goto h dX8_unplaced_146 (tgt := 155) (by decide) ?_
                refine v_iand h dX8_unplaced_155 (q := 156) rfl ?_
                refine v_eq (st' := [.int O]) (by rw [pb_and_self]) ?_
                refine v_istore h dX8_unplaced_156 (q := 158) rfl (Nat.le_of_ble_eq_true rfl) rfl ?_
                refine v_goto h dX8_unplaced_158 (tgt := 27) (by decide) ?_
                exact v_wk (by simp [pb_wk]) (ih (i + 1) S (pb_off U t8) O (nI t8) (by omega) ⟨fun q9 => absurd q9 (pb_m1_ne (by omega)), fun _ => ⟨(pb_mul_1 ht8 hk).symm.trans hA, by omega⟩, hC⟩)
              · skip
                refine v_callV1 h (c2_X8_places hfl hm hq ht16 hC (pb_som hk)) kX8_places tw1106 tw41 (by assumption) (by decide) rfl rfl rfl (by simp [Value.category]) (by decide) (Nat.zero_le _) (Nat.zero_le _) rfl dX8_unplaced_137 (q := 140) rfl ?_
                refine v_iconst h (v := (-1)) dX8_unplaced_140 (q := 141) rfl (by decide +kernel) ?_
                refine v_icmp_ne h dX8_unplaced_141 (q := 144) rfl (tgt := 149) (by decide) (fun c6 => ?_) (fun c6 => absurd c6 (pb_m1_ne (by have := pb_mear_le hC (pb_som hk); omega)))
                refine v_iconst h (v := nI 1) dX8_unplaced_149 (q := 150) rfl (by decide +kernel) ?_
                refine v_iload h dX8_unplaced_150 (q := 152) rfl rfl ?_
                refine v_ishl h dX8_unplaced_152 (q := 153) rfl ?_
                refine v_iconst h (v := (-1)) dX8_unplaced_153 (q := 154) rfl (by decide +kernel) ?_
                refine v_ixor h dX8_unplaced_154 (q := 155) rfl ?_
                refine v_iand h dX8_unplaced_155 (q := 156) rfl ?_
                refine v_eq (st' := [.int (pb_off O t8)]) rfl ?_
                refine v_istore h dX8_unplaced_156 (q := 158) rfl (Nat.le_of_ble_eq_true rfl) rfl ?_
                refine v_goto h dX8_unplaced_158 (tgt := 27) (by decide) ?_
                exact v_wk (by simp [pb_wk]) (ih (i + 1) (pb_mpl S M q t8 ((pb_mear S M q t8).getD 0)) (pb_off U t8) (pb_off O t8) (nI t8) (by omega) ⟨fun q9 => absurd q9 (pb_m1_ne (by omega)), fun _ => ⟨(pb_mul_2 ht8 (pb_som hk)).symm.trans hA, by omega⟩, pb_mi_pl hC (pb_som hk)⟩)
          | succ j9 ih9 =>
            intro i9  hi9
            have hi29 : i9 < 16 := by omega
            refine v_iload h dX8_unplaced_39 (q := 41) rfl rfl ?_
            refine v_bipush h (v := nI 16) dX8_unplaced_41 (q := 43) rfl (by decide +kernel) ?_
            refine v_icmp_ge h dX8_unplaced_43 (q := 46) rfl (tgt := 116) (by decide) (fun c7 => pb_kge hi29 (by decide) c7) (fun c7 => ?_)
            refine v_iload_n h (i := 3) dX8_unplaced_46 (q := 47) rfl rfl rfl ?_
            refine v_iload h dX8_unplaced_47 (q := 49) rfl rfl ?_
            refine v_ishr h dX8_unplaced_49 (q := 50) rfl ?_
            refine v_iconst h (v := nI 1) dX8_unplaced_50 (q := 51) rfl (by decide +kernel) ?_
            refine v_iand h dX8_unplaced_51 (q := 52) rfl ?_
            refine v_iconst h (v := nI 1) dX8_unplaced_52 (q := 53) rfl (by decide +kernel) ?_
            refine v_icmp_ne h dX8_unplaced_53 (q := 56) rfl (tgt := 70) (by decide) (fun c8 => ?_) (fun c8 => ?_)
            · skip
              have e1 := pb_f_nt (fun q9 => c8 ((pb_in_sh1 (show i9 < 32 by omega)).mpr q9))
              have e9 : pb_mnx S M q U (i9 + 1) = pb_mnx S M q U i9 := if_neg (by rw [e1]; simp)
              refine v_iconst h (v := nI 0) dX8_unplaced_70 (q := 71) rfl (by decide +kernel) ?_
              refine v_istore h dX8_unplaced_71 (q := 73) rfl (Nat.le_of_ble_eq_true rfl) rfl ?_
              refine v_iload h dX8_unplaced_73 (q := 75) rfl rfl ?_
              refine v_if_eq h dX8_unplaced_75 (q := 78) rfl (tgt := 106) (by decide) (fun c9 => ?_) (fun c9 => absurd c9 (by decide))
              refine v_iload h dX8_unplaced_106 (q := 108) rfl rfl ?_
              refine v_eq (st' := [.int (pb_oi (pb_mnx S M q U (i9 + 1)))]) (by rw [e9]; try rfl) ?_
              refine v_istore h dX8_unplaced_108 (q := 110) rfl (Nat.le_of_ble_eq_true rfl) rfl ?_
              refine v_iinc h dX8_unplaced_110 (q := 113) rfl rfl pb_inc rfl ?_
              refine v_goto h dX8_unplaced_113 (tgt := 39) (by decide) ?_
              exact v_wk (by simp [pb_wk]) (ih9 (i9 + 1) (by omega))
            · skip
              have e1 := (pb_in_sh1 (show i9 < 32 by omega)).mp c8
              refine v_aload_n h (i := 0) dX8_unplaced_56 (q := 57) rfl rfl rfl ?_
              refine v_iload_n h (i := 1) dX8_unplaced_57 (q := 58) rfl rfl rfl ?_
              refine v_iload h dX8_unplaced_58 (q := 60) rfl rfl ?_
              refine v_callV1 h (c_X8_isReady hfl hm hq hi29) kX8_isReady tw1102 tw40 (by assumption) (by decide) rfl rfl rfl (by simp [Value.category]) (by decide) (Nat.zero_le _) (Nat.zero_le _) rfl dX8_unplaced_60 (q := 63) rfl ?_
              refine v_if_eq h dX8_unplaced_63 (q := 66) rfl (tgt := 70) (by decide) (fun c10 => ?_) (fun c10 => ?_)
              · skip
                have e2 := pb_b_0.mp c10
                have e9 : pb_mnx S M q U (i9 + 1) = pb_mnx S M q U i9 := if_neg (by rw [e1, e2]; simp)
                refine v_iconst h (v := nI 0) dX8_unplaced_70 (q := 71) rfl (by decide +kernel) ?_
                refine v_istore h dX8_unplaced_71 (q := 73) rfl (Nat.le_of_ble_eq_true rfl) rfl ?_
                refine v_iload h dX8_unplaced_73 (q := 75) rfl rfl ?_
                refine v_if_eq h dX8_unplaced_75 (q := 78) rfl (tgt := 106) (by decide) (fun c11 => ?_) (fun c11 => absurd c11 (by decide))
                refine v_iload h dX8_unplaced_106 (q := 108) rfl rfl ?_
                refine v_eq (st' := [.int (pb_oi (pb_mnx S M q U (i9 + 1)))]) (by rw [e9]; try rfl) ?_
                refine v_istore h dX8_unplaced_108 (q := 110) rfl (Nat.le_of_ble_eq_true rfl) rfl ?_
                refine v_iinc h dX8_unplaced_110 (q := 113) rfl rfl pb_inc rfl ?_
                refine v_goto h dX8_unplaced_113 (tgt := 39) (by decide) ?_
                exact v_wk (by simp [pb_wk]) (ih9 (i9 + 1) (by omega))
              · skip
                have e2 := pb_ne_f (fun q => c10 (pb_b_0.mpr q))
                refine v_iconst h (v := nI 1) dX8_unplaced_66 (q := 67) rfl (by decide +kernel) ?_
                refine v_goto h dX8_unplaced_67 (tgt := 71) (by decide) ?_
                refine v_istore h dX8_unplaced_71 (q := 73) rfl (Nat.le_of_ble_eq_true rfl) rfl ?_
                refine v_iload h dX8_unplaced_73 (q := 75) rfl rfl ?_
                refine v_if_eq h dX8_unplaced_75 (q := 78) rfl (tgt := 106) (by decide) (fun c12 => absurd c12 (by decide)) (fun c12 => ?_)
                refine v_iload h dX8_unplaced_78 (q := 80) rfl rfl ?_
                refine v_iconst h (v := (-1)) dX8_unplaced_80 (q := 81) rfl (by decide +kernel) ?_
                refine v_icmp_eq h dX8_unplaced_81 (q := 84) rfl (tgt := 101) (by decide) (fun c13 => ?_) (fun c13 => ?_)
                · skip
                  have hn9 := pb_oi_m1 (fun u hu => by have := (pb_mnx_lt hu).1; omega) c13
                  have e9 : pb_mnx S M q U (i9 + 1) = some i9 := if_pos (by rw [e1, e2, hn9]; rfl)
                  refine v_iload h dX8_unplaced_101 (q := 103) rfl rfl ?_
                  refine v_goto h dX8_unplaced_103 (tgt := 108) (by decide) ?_
                  refine v_eq (st' := [.int (pb_oi (pb_mnx S M q U (i9 + 1)))]) (by rw [e9]; try rfl) ?_
                  refine v_istore h dX8_unplaced_108 (q := 110) rfl (Nat.le_of_ble_eq_true rfl) rfl ?_
                  refine v_iinc h dX8_unplaced_110 (q := 113) rfl rfl pb_inc rfl ?_
                  refine v_goto h dX8_unplaced_113 (tgt := 39) (by decide) ?_
                  exact v_wk (by simp [pb_wk]) (ih9 (i9 + 1) (by omega))
                · skip
                  obtain ⟨u, hu⟩ := pb_oi_ne c13
                  have hu16 := (pb_mnx_lt hu).1
                  refine v_aload_n h (i := 0) dX8_unplaced_84 (q := 85) rfl rfl rfl ?_
                  refine v_getr h fl_X8_68 (by assumption) rfl (by assumption) dX8_unplaced_85 (q := 88) rfl ?_
                  refine v_iload h dX8_unplaced_88 (q := 90) rfl rfl ?_
                  refine v_iald h (by assumption) rfl (by first | assumption | omega) (by decide) dX8_unplaced_90 (q := 91) rfl ?_
                  refine v_aload_n h (i := 0) dX8_unplaced_91 (q := 92) rfl rfl rfl ?_
                  refine v_getr h fl_X8_68 (by assumption) rfl (by assumption) dX8_unplaced_92 (q := 95) rfl ?_
                  refine v_iload h dX8_unplaced_95 (q := 97) rfl rfl ?_
                  refine v_iald h (by assumption) (show pb_oi (pb_mnx S M q U i9) = nI u by rw [hu]; rfl) (by omega) (by decide) dX8_unplaced_97 (q := 98) rfl ?_
                  refine v_icmp_le h dX8_unplaced_98 (q := 101) rfl (tgt := 106) (by decide) (fun c14 => ?_) (fun c14 => ?_)
                  · skip
                    have e9 : pb_mnx S M q U (i9 + 1) = pb_mnx S M q U i9 := if_neg (by rw [e1, e2, hu]; simp only [pb_mbt, decide_eq_false (Int32.not_lt.mpr c14)]; simp)
                    refine v_iload h dX8_unplaced_106 (q := 108) rfl rfl ?_
                    refine v_eq (st' := [.int (pb_oi (pb_mnx S M q U (i9 + 1)))]) (by rw [e9]; try rfl) ?_
                    refine v_istore h dX8_unplaced_108 (q := 110) rfl (Nat.le_of_ble_eq_true rfl) rfl ?_
                    refine v_iinc h dX8_unplaced_110 (q := 113) rfl rfl pb_inc rfl ?_
                    refine v_goto h dX8_unplaced_113 (tgt := 39) (by decide) ?_
                    exact v_wk (by simp [pb_wk]) (ih9 (i9 + 1) (by omega))
                  · skip
                    have e9 : pb_mnx S M q U (i9 + 1) = some i9 := if_pos (by rw [e1, e2, hu]; simp only [pb_mbt, decide_eq_true (Int32.not_le.mp c14)]; rfl)
                    refine v_iload h dX8_unplaced_101 (q := 103) rfl rfl ?_
                    refine v_goto h dX8_unplaced_103 (tgt := 108) (by decide) ?_
                    refine v_eq (st' := [.int (pb_oi (pb_mnx S M q U (i9 + 1)))]) (by rw [e9]; try rfl) ?_
                    refine v_istore h dX8_unplaced_108 (q := 110) rfl (Nat.le_of_ble_eq_true rfl) rfl ?_
                    refine v_iinc h dX8_unplaced_110 (q := 113) rfl rfl pb_inc rfl ?_
                    refine v_goto h dX8_unplaced_113 (tgt := 39) (by decide) ?_
                    exact v_wk (by simp [pb_wk]) (ih9 (i9 + 1) (by omega))
        exact v_wk (by simp [pb_wk, pb_mnx, pb_oi]) (lp9 16 0 (by omega))
  exact v_wk (by simp [pb_wk]; try rfl) (lp 17 0 _ _ _ (nI 0) (by omega) ⟨fun q9 => absurd q9 (by decide), fun _ => ⟨rfl, Nat.lt_of_le_of_lt (pb_cnt_le _ 16) (by decide)⟩, pb_mi_S0 hw⟩)
