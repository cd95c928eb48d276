def pb_mclr (sg : pb_Sg) (M : Nat) : pb_Sg := pb_fillN (pb_fillN sg (M + 21) 0 (-1) 16) (M + 22) 0 (-1) 2000
theorem pb_mclr_ne {sg : pb_Sg} {M x : Nat} (h1 : x ≠ M + 21) (h2 : x ≠ M + 22) : pb_mclr sg M x = sg x := (pb_fill_ne h2).trans (pb_fill_ne h1)
theorem pb_mi_clr {sg : pb_Sg} {M q : Nat} (h : pb_mw sg M q) : pb_mi (pb_mclr sg M) M q := by
  refine ⟨fun t ht => ?_, fun t ht => Or.inl ?_⟩
  · rw [pb_mclr_ne (by omega) (by omega), pb_mclr_ne (by omega) (by omega)]
    exact h t ht
  · unfold pb_mclr
    rw [pb_fill_ne (by omega), pb_fill_at, if_pos (by omega)]
def pb_mbo (M q : Nat) : Nat → Nat → pb_Sg → pb_Sg × Int32
  | 0, _, S => (S, pb_mlast S M q 16)
  | j + 1, k, S => if pb_mrd S M q (pb_nat (S (M + 24) k)) 16 = true then (match pb_mear S M q (pb_nat (S (M + 24) k)) with
    | none => (S, -1)
    | some f => pb_mbo M q j (k + 1) (pb_mpl S M q (pb_nat (S (M + 24) k)) f)) else (S, -1)
def pb_mboH (sg : pb_Sg) (M q j k : Nat) (S : pb_Sg) (R : pb_Sg × Int32) : Prop := S (M + 24) = sg (M + 24) ∧ pb_mi S M q ∧ pb_mbo M q j k S = R
theorem pb_mbo_f {M q j k t : Nat} {S : pb_Sg} (ht : pb_nat (S (M + 24) k) = t) (h : pb_mrd S M q t 16 = false) : pb_mbo M q (j + 1) k S = (S, -1) := by
  unfold pb_mbo
  rw [ht, h]
  rfl
theorem pb_mbo_x {M q j k t : Nat} {S : pb_Sg} (ht : pb_nat (S (M + 24) k) = t) (h : pb_mrd S M q t 16 = true) (he : pb_mear S M q t = none) : pb_mbo M q (j + 1) k S = (S, -1) := by
  unfold pb_mbo
  rw [ht, h, if_pos rfl, he]
theorem pb_mbo_s {M q j k t f : Nat} {S : pb_Sg} (ht : pb_nat (S (M + 24) k) = t) (h : pb_mrd S M q t 16 = true) (he : pb_mear S M q t = some f) : pb_mbo M q (j + 1) k S = pb_mbo M q j (k + 1) (pb_mpl S M q t f) := by
  conv => lhs; unfold pb_mbo
  rw [ht, h, if_pos rfl, he]
def pb_tk (o : Nat → Int32) : Nat → Option Nat
  | 0 => none
  | n + 1 => if o n ≤ o (n + 1) then some n else pb_tk o n
theorem pb_tk_lt {o : Nat → Int32} {n k : Nat} (h : pb_tk o n = some k) : k < n := by
  induction n with
  | zero => cases h
  | succ n ih =>
    unfold pb_tk at h
    split at h
    · cases h; omega
    · have := ih h; omega
def pb_te (o : Nat → Int32) (v : Int32) : Nat → Nat
  | 0 => 0
  | n + 1 => if o (n + 1) < v then pb_te o v n else n + 1
theorem pb_te_le {o : Nat → Int32} {v : Int32} (n : Nat) : pb_te o v n ≤ n := by
  induction n with
  | zero => exact Nat.le_refl 0
  | succ n ih => unfold pb_te; split <;> omega
def pb_sw (S : pb_Sg) (M a b : Nat) : pb_Sg := pb_up (pb_up S (M + 24) a (S (M + 24) b)) (M + 24) b (S (M + 24) a)
def pb_rvN (S : pb_Sg) (M a b : Nat) : Nat → pb_Sg
  | 0 => S
  | n + 1 => pb_sw (pb_rvN S M a b n) M (a + n) (b - n)
def pb_tn (S : pb_Sg) (M m k : Nat) : pb_Sg := pb_rvN (pb_sw S M k (pb_te (S (M + 24)) (S (M + 24) k) (m - 1))) M (k + 1) (m - 1) ((m - 1 - k) / 2)
def pb_ki : Nat → Int32
  | 0 => -1
  | n + 1 => nI n
theorem pb_kdec {n : Nat} : nI n + Int32.ofInt (-1) = pb_ki n := by
  cases n with
  | zero => decide
  | succ n => rw [nI_succ, Int32.add_assoc]; show _ = nI n; rw [show (1 : Int32) + Int32.ofInt (-1) = 0 from by decide, Int32.add_zero]
theorem pb_dec1 {n : Nat} : nI (n + 1) + Int32.ofInt (-1) = nI n := pb_kdec
theorem pb_decP {n : Nat} (h : 0 < n) : nI n + Int32.ofInt (-1) = nI (n - 1) := by
  obtain ⟨m, rfl⟩ : ∃ m, n = m + 1 := ⟨n - 1, by omega⟩
  exact pb_dec1
set_option maxHeartbeats 4000000 in
set_option maxRecDepth 100000 in
theorem c_X8_byOrder {l : Launch} (hfl : l.stackTraces = false) {sz : Nat} {sk : pb_Sk} {rf : pb_Rf} {sg : pb_Sg} {M : Nat} (hm : pb_md sk rf M) {q m : Nat} (hq : q < 17) (hm6 : m ≤ 6) (hw : pb_mw sg M q) (ho : ∀ k, k < m → ∃ t, t < 16 ∧ sg (M + 24) k = nI t) : pb_Met l mX8_byOrder 4 0 0 [.ref M, .int (nI q), .int (nI m)] sz sk rf sg (pb_is (some (.int (pb_mbo M q m 0 (pb_mclr sg M)).2)) sz sk rf ((pb_mbo M q m 0 (pb_mclr sg M)).1)) := by
  refine pb_start hfl (by decide +kernel) rfl (pb_c1 rfl) (Nat.le_of_ble_eq_true rfl) (fun F hF h hQ => ?_)
  subst hF
  show pv F 0 0 sz sk rf sg 0 [some (.ref M), some (.int (nI q)), some (.int (nI m)), none] []
  obtain ⟨hM0, hr1, hk1, hr2, hk2, hr3, hk3, hr4, hk4, hr5, hk5, hr6, hk6, hr7, hk7, hr8, hk8, hr9, hk9, hr10, hk10, hr11, hk11, hr12, hk12, hr13, hk13, hr14, hk14, hr15, hk15, hr16, hk16, hr17, hk17, hr18, hk18, hr19, hk19, hr20, hk20, hr21, hk21, hr22, hk22, hr23, hk23, hr24, hk24⟩ := id hm
  refine v_aload_n h (i := 0) dX8_byOrder_0 (q := 1) rfl rfl rfl ?_
  refine v_callV0 h (c_X8_clears hfl hm) kX8_clears tw1090 tw37 (by assumption) (by decide) rfl rfl rfl (by simp [Value.category]) (by decide) (Nat.zero_le _) (Nat.zero_le _) rfl dX8_byOrder_1 (q := 4) rfl ?_
  refine v_iconst h (v := nI 0) dX8_byOrder_4 (q := 5) rfl (by decide +kernel) ?_
  refine v_istore_n h (i := 3) dX8_byOrder_5 (q := 6) rfl rfl (Nat.le_of_ble_eq_true rfl) rfl ?_
  have lp : ∀ (j i : Nat) (S : pb_Sg), i + j = m → pb_mboH sg M q j i S (pb_mbo M q m 0 (pb_mclr sg M)) → pv F 0 0 sz sk rf S 6 [some (.ref M), some (.int (nI q)), some (.int (nI m)), some (.int (nI i))] [] := by
    intro j
    induction j with
    | zero =>
      intro i S hi hy0
      obtain rfl : i = m := by omega
      refine v_iload_n h (i := 3) dX8_byOrder_6 (q := 7) rfl rfl rfl ?_
      refine v_iload_n h (i := 2) dX8_byOrder_7 (q := 8) rfl rfl rfl ?_
      refine v_icmp_ge h dX8_byOrder_8 (q := 11) rfl (tgt := 48) (by decide) (fun c1 => ?_) (fun c1 => pb_kle (Nat.le_refl _) (by omega) c1)
      refine v_aload_n h (i := 0) dX8_byOrder_48 (q := 49) rfl rfl rfl ?_
      refine v_iload_n h (i := 1) dX8_byOrder_49 (q := 50) rfl rfl rfl ?_
      refine v_callV1 h (c_X8_last hfl hm hq) kX8_last tw1175 tw43 (by assumption) (by decide) rfl rfl rfl (by simp [Value.category]) (by decide) (Nat.zero_le _) (Nat.zero_le _) rfl dX8_byOrder_50 (q := 53) rfl ?_
      refine v_iret h hQ rfl rfl dX8_byOrder_53 (Nat.zero_le _) (Nat.zero_le _) ⟨by rw [← hy0.2.2]; rfl, rfl, rfl, rfl, by rw [← hy0.2.2]; rfl⟩
    | succ j ih =>
      intro i S hi hy0
      have hi2 : i < m := by omega
      obtain ⟨t9, ht9, hO9⟩ := ho i hi2
      have hE9 : S (M + 24) i = nI t9 := by rw [hy0.1]; exact hO9
      have hN9 : pb_nat (S (M + 24) i) = t9 := by rw [hE9, pb_nat_nI (by omega)]
      refine v_iload_n h (i := 3) dX8_byOrder_6 (q := 7) rfl rfl rfl ?_
      refine v_iload_n h (i := 2) dX8_byOrder_7 (q := 8) rfl rfl rfl ?_
      refine v_icmp_ge h dX8_byOrder_8 (q := 11) rfl (tgt := 48) (by decide) (fun c2 => pb_kge hi2 (by omega) c2) (fun c2 => ?_)
      refine v_aload_n h (i := 0) dX8_byOrder_11 (q := 12) rfl rfl rfl ?_
      refine v_iload_n h (i := 1) dX8_byOrder_12 (q := 13) rfl rfl rfl ?_
      refine v_aload_n h (i := 0) dX8_byOrder_13 (q := 14) rfl rfl rfl ?_
      refine v_getr h fl_X8_84 (by assumption) rfl (by assumption) dX8_byOrder_14 (q := 17) rfl ?_
      refine v_iload_n h (i := 3) dX8_byOrder_17 (q := 18) rfl rfl rfl ?_
      refine v_iald h (by assumption) rfl (by first | assumption | omega) (by decide) dX8_byOrder_18 (q := 19) rfl ?_
      refine v_eq (st' := [.int (nI t9), .int (nI q), .ref M]) (by rw [hE9]) ?_
      refine v_callV1 h (c_X8_isReady hfl hm hq ht9) kX8_isReady tw1102 tw40 (by assumption) (by decide) rfl rfl rfl (by simp [Value.category]) (by decide) (Nat.zero_le _) (Nat.zero_le _) rfl dX8_byOrder_19 (q := 22) rfl ?_
      refine v_if_eq h dX8_byOrder_22 (q := 25) rfl (tgt := 40) (by decide) (fun c3 => ?_) (fun c3 => ?_)
      · skip
        have e1 := pb_b_0.mp c3
        have e9 := (pb_mbo_f (j := j) hN9 e1).symm.trans hy0.2.2
        refine v_iconst h (v := (-1)) dX8_byOrder_40 (q := 41) rfl (by decide +kernel) ?_
        refine v_iret h hQ rfl rfl dX8_byOrder_41 (Nat.zero_le _) (Nat.zero_le _) ⟨by rw [← e9], rfl, rfl, rfl, by rw [← e9]⟩
      · skip
        have e1 := pb_ne_f (fun q => c3 (pb_b_0.mpr q))
        refine v_aload_n h (i := 0) dX8_byOrder_25 (q := 26) rfl rfl rfl ?_
        refine v_iload_n h (i := 1) dX8_byOrder_26 (q := 27) rfl rfl rfl ?_
        refine v_aload_n h (i := 0) dX8_byOrder_27 (q := 28) rfl rfl rfl ?_
        refine v_getr h fl_X8_84 (by assumption) rfl (by assumption) dX8_byOrder_28 (q := 31) rfl ?_
        refine v_iload_n h (i := 3) dX8_byOrder_31 (q := 32) rfl rfl rfl ?_
        refine v_iald h (by assumption) rfl (by first | assumption | omega) (by decide) dX8_byOrder_32 (q := 33) rfl ?_
        refine v_eq (st' := [.int (nI t9), .int (nI q), .ref M]) (by rw [hE9]) ?_
        by_cases hk : pb_mear S M q t9 = none
        · skip
          refine v_callV1 h (x2_X8_places hfl hm hq ht9 hy0.2.1 hk) kX8_places tw1106 tw41 (by assumption) (by decide) rfl rfl rfl (by simp [Value.category]) (by decide) (Nat.zero_le _) (Nat.zero_le _) rfl dX8_byOrder_33 (q := 36) rfl ?_
          refine v_iconst h (v := (-1)) dX8_byOrder_36 (q := 37) rfl (by decide +kernel) ?_
          refine v_icmp_ne h dX8_byOrder_37 (q := 40) rfl (tgt := 42) (by decide) (fun c4 => absurd rfl c4) (fun c4 => ?_)
          have e9 := (pb_mbo_x (j := j) hN9 e1 hk).symm.trans hy0.2.2
          refine v_iconst h (v := (-1)) dX8_byOrder_40 (q := 41) rfl (by decide +kernel) ?_
          refine v_iret h hQ rfl rfl dX8_byOrder_41 (Nat.zero_le _) (Nat.zero_le _) ⟨by rw [← e9], rfl, rfl, rfl, by rw [← e9]⟩
        · skip
          refine v_callV1 h (c2_X8_places hfl hm hq ht9 hy0.2.1 (pb_som hk)) kX8_places tw1106 tw41 (by assumption) (by decide) rfl rfl rfl (by simp [Value.category]) (by decide) (Nat.zero_le _) (Nat.zero_le _) rfl dX8_byOrder_33 (q := 36) rfl ?_
          refine v_iconst h (v := (-1)) dX8_byOrder_36 (q := 37) rfl (by decide +kernel) ?_
          refine v_icmp_ne h dX8_byOrder_37 (q := 40) rfl (tgt := 42) (by decide) (fun c5 => ?_) (fun c5 => absurd c5 (pb_m1_ne (by have := pb_mear_le hy0.2.1 (pb_som hk); omega)))
          refine v_iinc h dX8_byOrder_42 (q := 45) rfl rfl pb_inc rfl ?_
          refine v_goto h dX8_byOrder_45 (tgt := 6) (by decide) ?_
          exact ih (i + 1) _ (by omega) ⟨(pb_mpl_ne (by omega) (by omega)).trans hy0.1, pb_mi_pl hy0.2.1 (pb_som hk), (pb_mbo_s hN9 e1 (pb_som hk)).symm.trans hy0.2.2⟩
  exact lp m 0 _ (by omega) ⟨pb_mclr_ne (by omega) (by omega), pb_mi_clr hw, rfl⟩
theorem pb_ki2 {m : Nat} (h : 1 ≤ m) : nI m - nI 2 = pb_ki (m - 1) := by
  rcases Nat.lt_or_ge m 2 with e | e
  · obtain rfl : m = 1 := by omega
    decide
  · rw [pb_subn e]
    obtain ⟨n, rfl⟩ : ∃ n, m = n + 2 := ⟨m - 2, by omega⟩
    rfl
set_option maxHeartbeats 4000000 in
set_option maxRecDepth 100000 in
theorem x_X8_turns {l : Launch} (hfl : l.stackTraces = false) {sz : Nat} {sk : pb_Sk} {rf : pb_Rf} {sg : pb_Sg} {M : Nat} (hm : pb_md sk rf M) {m : Nat} (hm1 : 1 ≤ m) (hm6 : m ≤ 6) (hk : pb_tk (sg (M + 24)) (m - 1) = none) : pb_Met l mX8_turns 1 0 0 [.ref M, .int (nI m)] sz sk rf sg (pb_is (some (.int (nI 0))) sz sk rf sg) := by
  refine pb_start hfl (by decide +kernel) rfl (pb_c1 rfl) (Nat.le_of_ble_eq_true rfl) (fun F hF h hQ => ?_)
  subst hF
  show pv F 0 0 sz sk rf sg 0 [some (.ref M), some (.int (nI m)), none, none, none, none, none] []
  obtain ⟨hM0, hr1, hk1, hr2, hk2, hr3, hk3, hr4, hk4, hr5, hk5, hr6, hk6, hr7, hk7, hr8, hk8, hr9, hk9, hr10, hk10, hr11, hk11, hr12, hk12, hr13, hk13, hr14, hk14, hr15, hk15, hr16, hk16, hr17, hk17, hr18, hk18, hr19, hk19, hr20, hk20, hr21, hk21, hr22, hk22, hr23, hk23, hr24, hk24⟩ := id hm
  refine v_iload_n h (i := 1) dX8_turns_0 (q := 1) rfl rfl rfl ?_
  refine v_iconst h (v := nI 2) dX8_turns_1 (q := 2) rfl (by decide +kernel) ?_
  refine v_isub h dX8_turns_2 (q := 3) rfl ?_
  refine v_eq (st' := [.int (pb_ki (m - 1))]) (by rw [pb_ki2 hm1]) ?_
  refine v_istore_n h (i := 2) dX8_turns_3 (q := 4) rfl rfl (Nat.le_of_ble_eq_true rfl) rfl ?_
  have lp : ∀ (j i : Nat), i + j = (m - 1) → pb_tk (sg (M + 24)) j = none → pv F 0 0 sz sk rf sg 4 [some (.ref M), some (.int (nI m)), some (.int (pb_ki j)), none, none, none, none] [] := by
    intro j
    induction j with
    | zero =>
      intro i  hi hy0
      obtain rfl : i = (m - 1) := by omega
      refine v_iload_n h (i := 2) dX8_turns_4 (q := 5) rfl rfl rfl ?_
      refine v_if_lt h dX8_turns_5 (q := 8) rfl (tgt := 31) (by decide) (fun c1 => ?_) (fun c1 => absurd (show (-1 : Int32) < 0 by decide) c1)
      refine v_iload_n h (i := 2) dX8_turns_31 (q := 32) rfl rfl rfl ?_
      refine v_if_ge h dX8_turns_32 (q := 35) rfl (tgt := 37) (by decide) (fun c2 => absurd (show (0 : Int32) ≤ -1 from c2) (by decide)) (fun c2 => ?_)
      refine v_iconst h (v := nI 0) dX8_turns_35 (q := 36) rfl (by decide +kernel) ?_
      refine v_iret h hQ rfl (by first | exact rfl | exact pb_b_nar _) dX8_turns_36 (Nat.zero_le _) (Nat.zero_le _) ⟨rfl, rfl, rfl, rfl, rfl⟩
    | succ j ih =>
      intro i  hi hy0
      have hi2 : i < (m - 1) := by omega
      refine v_iload_n h (i := 2) dX8_turns_4 (q := 5) rfl rfl rfl ?_
      refine v_if_lt h dX8_turns_5 (q := 8) rfl (tgt := 31) (by decide) (fun c3 => absurd c3 (nI_pos (by omega))) (fun c3 => ?_)
      refine v_aload_n h (i := 0) dX8_turns_8 (q := 9) rfl rfl rfl ?_
      refine v_getr h fl_X8_84 (by assumption) rfl (by assumption) dX8_turns_9 (q := 12) rfl ?_
      refine v_iload_n h (i := 2) dX8_turns_12 (q := 13) rfl rfl rfl ?_
      refine v_iald h (by assumption) rfl (by first | assumption | omega) (by decide) dX8_turns_13 (q := 14) rfl ?_
      refine v_aload_n h (i := 0) dX8_turns_14 (q := 15) rfl rfl rfl ?_
      refine v_getr h fl_X8_84 (by assumption) rfl (by assumption) dX8_turns_15 (q := 18) rfl ?_
      refine v_iload_n h (i := 2) dX8_turns_18 (q := 19) rfl rfl rfl ?_
      refine v_iconst h (v := nI 1) dX8_turns_19 (q := 20) rfl (by decide +kernel) ?_
      refine v_iadd h dX8_turns_20 (q := 21) rfl ?_
      refine v_eq (st' := [.int (nI (j + 1)), .ref (M + 24), .int (sg (M + 24) j)]) (by rw [show pb_ki (j + 1) + nI 1 = nI (j + 1) from nI_add j 1]) ?_
      refine v_iald h (by assumption) rfl (by first | assumption | omega) (by decide) dX8_turns_21 (q := 22) rfl ?_
      refine v_icmp_le h dX8_turns_22 (q := 25) rfl (tgt := 31) (by decide) (fun c4 => ?_) (fun c4 => ?_)
      · skip
        have q8 := hy0
        unfold pb_tk at q8
        rw [if_pos c4] at q8
        cases q8
      · skip
        have hnle := c4
        refine v_iinc h dX8_turns_25 (q := 28) rfl rfl pb_kdec rfl ?_
        refine v_goto h dX8_turns_28 (tgt := 4) (by decide) ?_
        have q8 := hy0
        unfold pb_tk at q8
        rw [if_neg hnle] at q8
        exact ih (i + 1) (by omega) q8
  exact v_wk (by simp [pb_wk]) (lp (m - 1) 0 (by omega) hk)
set_option maxHeartbeats 4000000 in
set_option maxRecDepth 100000 in
theorem c_X8_turns {l : Launch} (hfl : l.stackTraces = false) {sz : Nat} {sk : pb_Sk} {rf : pb_Rf} {sg : pb_Sg} {M : Nat} (hm : pb_md sk rf M) {m : Nat} (hm1 : 1 ≤ m) (hm6 : m ≤ 6) {k : Nat} (hk : pb_tk (sg (M + 24)) (m - 1) = some k) : pb_Met l mX8_turns 1 0 0 [.ref M, .int (nI m)] sz sk rf sg (pb_is (some (.int (nI 1))) sz sk rf (pb_tn sg M m k)) := by
  refine pb_start hfl (by decide +kernel) rfl (pb_c1 rfl) (Nat.le_of_ble_eq_true rfl) (fun F hF h hQ => ?_)
  subst hF
  show pv F 0 0 sz sk rf sg 0 [some (.ref M), some (.int (nI m)), none, none, none, none, none] []
  obtain ⟨hM0, hr1, hk1, hr2, hk2, hr3, hk3, hr4, hk4, hr5, hk5, hr6, hk6, hr7, hk7, hr8, hk8, hr9, hk9, hr10, hk10, hr11, hk11, hr12, hk12, hr13, hk13, hr14, hk14, hr15, hk15, hr16, hk16, hr17, hk17, hr18, hk18, hr19, hk19, hr20, hk20, hr21, hk21, hr22, hk22, hr23, hk23, hr24, hk24⟩ := id hm
  have hkm := pb_tk_lt hk
  have tail : pv F 0 0 sz sk rf sg 31 [some (.ref M), some (.int (nI m)), some (.int (nI k)), none, none, none, none] [] := by
    refine v_iload_n h (i := 2) dX8_turns_31 (q := 32) rfl rfl rfl ?_
    refine v_if_ge h dX8_turns_32 (q := 35) rfl (tgt := 37) (by decide) (fun c1 => ?_) (fun c1 => absurd (nI_pos' (by omega)) c1)
    refine v_iload_n h (i := 1) dX8_turns_37 (q := 38) rfl rfl rfl ?_
    refine v_iconst h (v := nI 1) dX8_turns_38 (q := 39) rfl (by decide +kernel) ?_
    refine v_isub h dX8_turns_39 (q := 40) rfl ?_
    refine v_eq (st' := [.int (nI (m - 1))]) (by rw [pb_n1 hm1]) ?_
    refine v_istore_n h (i := 3) dX8_turns_40 (q := 41) rfl rfl (Nat.le_of_ble_eq_true rfl) rfl ?_
    have lp : ∀ (j i : Nat), i + j = (m - 1) → (k ≤ j ∧ pb_te (sg (M + 24)) (sg (M + 24) k) j = pb_te (sg (M + 24)) (sg (M + 24) k) (m - 1)) → pv F 0 0 sz sk rf sg 41 [some (.ref M), some (.int (nI m)), some (.int (nI k)), some (.int (nI j)), none, none, none] [] := by
      intro j
      induction j with
      | zero =>
        intro i  hi hy0
        obtain rfl : i = (m - 1) := by omega
        have hyE : pb_te (sg (M + 24)) (sg (M + 24) k) (m - 1) = 0 := hy0.2.symm
        refine v_aload_n h (i := 0) dX8_turns_41 (q := 42) rfl rfl rfl ?_
        refine v_getr h fl_X8_84 (by assumption) rfl (by assumption) dX8_turns_42 (q := 45) rfl ?_
        refine v_iload_n h (i := 3) dX8_turns_45 (q := 46) rfl rfl rfl ?_
        refine v_iald h (by assumption) rfl (by first | assumption | omega) (by decide) dX8_turns_46 (q := 47) rfl ?_
        refine v_aload_n h (i := 0) dX8_turns_47 (q := 48) rfl rfl rfl ?_
        refine v_getr h fl_X8_84 (by assumption) rfl (by assumption) dX8_turns_48 (q := 51) rfl ?_
        refine v_iload_n h (i := 2) dX8_turns_51 (q := 52) rfl rfl rfl ?_
        refine v_iald h (by assumption) rfl (by first | assumption | omega) (by decide) dX8_turns_52 (q := 53) rfl ?_
        refine v_icmp_ge h dX8_turns_53 (q := 56) rfl (tgt := 62) (by decide) (fun c2 => ?_) (fun c2 => absurd c2 (by obtain ⟨q1, q2⟩ := hy0; obtain rfl : k = 0 := (by omega); exact fun q9 => q9 (Int32.le_refl _)))
        refine v_wk (L' := [some (.ref M), some (.int (nI m)), some (.int (nI k)), some (.int (nI (pb_te (sg (M + 24)) (sg (M + 24) k) (m - 1)))), none, none, none]) (by simp [pb_wk, hyE]; try rfl) ?_
        refine v_aload_n h (i := 0) dX8_turns_62 (q := 63) rfl rfl rfl ?_
        refine v_getr h fl_X8_84 (by assumption) rfl (by assumption) dX8_turns_63 (q := 66) rfl ?_
        refine v_iload_n h (i := 2) dX8_turns_66 (q := 67) rfl rfl rfl ?_
        refine v_iald h (by assumption) rfl (by first | assumption | omega) (by decide) dX8_turns_67 (q := 68) rfl ?_
        refine v_istore h dX8_turns_68 (q := 70) rfl (Nat.le_of_ble_eq_true rfl) rfl ?_
        refine v_aload_n h (i := 0) dX8_turns_70 (q := 71) rfl rfl rfl ?_
        refine v_getr h fl_X8_84 (by assumption) rfl (by assumption) dX8_turns_71 (q := 74) rfl ?_
        refine v_iload_n h (i := 2) dX8_turns_74 (q := 75) rfl rfl rfl ?_
        refine v_aload_n h (i := 0) dX8_turns_75 (q := 76) rfl rfl rfl ?_
        refine v_getr h fl_X8_84 (by assumption) rfl (by assumption) dX8_turns_76 (q := 79) rfl ?_
        refine v_iload_n h (i := 3) dX8_turns_79 (q := 80) rfl rfl rfl ?_
        refine v_iald h (by assumption) rfl (by first | assumption | omega) (by decide) dX8_turns_80 (q := 81) rfl ?_
        refine v_iast h (by assumption) rfl (by first | assumption | omega) (by decide) dX8_turns_81 (q := 82) rfl ?_
        refine v_aload_n h (i := 0) dX8_turns_82 (q := 83) rfl rfl rfl ?_
        refine v_getr h fl_X8_84 (by assumption) rfl (by assumption) dX8_turns_83 (q := 86) rfl ?_
        refine v_iload_n h (i := 3) dX8_turns_86 (q := 87) rfl rfl rfl ?_
        refine v_iload h dX8_turns_87 (q := 89) rfl rfl ?_
        refine v_iast h (by assumption) rfl (by first | assumption | omega) (by decide) dX8_turns_89 (q := 90) rfl ?_
        refine v_sg (sg' := (pb_sw sg M k (pb_te (sg (M + 24)) (sg (M + 24) k) (m - 1)))) rfl ?_
        refine v_iload_n h (i := 2) dX8_turns_90 (q := 91) rfl rfl rfl ?_
        refine v_iconst h (v := nI 1) dX8_turns_91 (q := 92) rfl (by decide +kernel) ?_
        refine v_iadd h dX8_turns_92 (q := 93) rfl ?_
        refine v_eq (st' := [.int (nI (k + 1))]) (by rw [nI_add]) ?_
        refine v_istore h dX8_turns_93 (q := 95) rfl (Nat.le_of_ble_eq_true rfl) rfl ?_
        refine v_iload_n h (i := 1) dX8_turns_95 (q := 96) rfl rfl rfl ?_
        refine v_iconst h (v := nI 1) dX8_turns_96 (q := 97) rfl (by decide +kernel) ?_
        refine v_isub h dX8_turns_97 (q := 98) rfl ?_
        refine v_eq (st' := [.int (nI (m - 1))]) (by rw [pb_n1 hm1]) ?_
        refine v_istore h dX8_turns_98 (q := 100) rfl (Nat.le_of_ble_eq_true rfl) rfl ?_
        have lp : ∀ (j i : Nat), i + j = ((m - 1 - k) / 2) → pv F 0 0 sz sk rf (pb_rvN (pb_sw sg M k (pb_te (sg (M + 24)) (sg (M + 24) k) (m - 1))) M (k + 1) (m - 1) i) 100 [some (.ref M), some (.int (nI m)), some (.int (nI k)), some (.int (nI (pb_te (sg (M + 24)) (sg (M + 24) k) (m - 1)))), none, some (.int (nI (k + 1 + i))), some (.int (nI (m - 1 - i)))] [] := by
          intro j
          induction j with
          | zero =>
            intro i  hi
            obtain rfl : i = ((m - 1 - k) / 2) := by omega
            refine v_iload h dX8_turns_100 (q := 102) rfl rfl ?_
            refine v_iload h dX8_turns_102 (q := 104) rfl rfl ?_
            refine v_icmp_ge h dX8_turns_104 (q := 107) rfl (tgt := 148) (by decide) (fun c3 => ?_) (fun c3 => pb_kle (by omega) (by omega) c3)
            refine v_iconst h (v := nI 1) dX8_turns_148 (q := 149) rfl (by decide +kernel) ?_
            refine v_iret h hQ rfl (by first | exact rfl | exact pb_b_nar _) dX8_turns_149 (Nat.zero_le _) (Nat.zero_le _) ⟨rfl, rfl, rfl, rfl, rfl⟩
          | succ j ih =>
            intro i  hi
            have hi2 : i < ((m - 1 - k) / 2) := by omega
            refine v_iload h dX8_turns_100 (q := 102) rfl rfl ?_
            refine v_iload h dX8_turns_102 (q := 104) rfl rfl ?_
            refine v_icmp_ge h dX8_turns_104 (q := 107) rfl (tgt := 148) (by decide) (fun c4 => pb_kge (show k + 1 + i < m - 1 - i by omega) (by omega) c4) (fun c4 => ?_)
            refine v_aload_n h (i := 0) dX8_turns_107 (q := 108) rfl rfl rfl ?_
            refine v_getr h fl_X8_84 (by assumption) rfl (by assumption) dX8_turns_108 (q := 111) rfl ?_
            refine v_iload h dX8_turns_111 (q := 113) rfl rfl ?_
            refine v_iald h (by assumption) rfl (by first | assumption | omega) (by decide) dX8_turns_113 (q := 114) rfl ?_
            refine v_istore h dX8_turns_114 (q := 116) rfl (Nat.le_of_ble_eq_true rfl) rfl ?_
            refine v_aload_n h (i := 0) dX8_turns_116 (q := 117) rfl rfl rfl ?_
            refine v_getr h fl_X8_84 (by assumption) rfl (by assumption) dX8_turns_117 (q := 120) rfl ?_
            refine v_iload h dX8_turns_120 (q := 122) rfl rfl ?_
            refine v_aload_n h (i := 0) dX8_turns_122 (q := 123) rfl rfl rfl ?_
            refine v_getr h fl_X8_84 (by assumption) rfl (by assumption) dX8_turns_123 (q := 126) rfl ?_
            refine v_iload h dX8_turns_126 (q := 128) rfl rfl ?_
            refine v_iald h (by assumption) rfl (by first | assumption | omega) (by decide) dX8_turns_128 (q := 129) rfl ?_
            refine v_iast h (by assumption) rfl (by first | assumption | omega) (by decide) dX8_turns_129 (q := 130) rfl ?_
            refine v_aload_n h (i := 0) dX8_turns_130 (q := 131) rfl rfl rfl ?_
            refine v_getr h fl_X8_84 (by assumption) rfl (by assumption) dX8_turns_131 (q := 134) rfl ?_
            refine v_iload h dX8_turns_134 (q := 136) rfl rfl ?_
            refine v_iload h dX8_turns_136 (q := 138) rfl rfl ?_
            refine v_iast h (by assumption) rfl (by first | assumption | omega) (by decide) dX8_turns_138 (q := 139) rfl ?_
            refine v_iinc h dX8_turns_139 (q := 142) rfl rfl pb_inc rfl ?_
            refine v_iinc h dX8_turns_142 (q := 145) rfl rfl (show nI (m - 1 - i) + Int32.ofInt (-1) = nI (m - 1 - (i + 1)) from by rw [pb_decP (by omega), Nat.sub_sub (m - 1)]) rfl ?_
            refine v_goto h dX8_turns_145 (tgt := 100) (by decide) ?_
            exact v_wk (by simp [pb_wk]; rfl) (ih (i + 1) (by omega))
        exact v_wk (by simp [pb_wk]) (lp ((m - 1 - k) / 2) 0 (by omega))
      | succ j ih =>
        intro i  hi hy0
        have hi2 : i < (m - 1) := by omega
        refine v_aload_n h (i := 0) dX8_turns_41 (q := 42) rfl rfl rfl ?_
        refine v_getr h fl_X8_84 (by assumption) rfl (by assumption) dX8_turns_42 (q := 45) rfl ?_
        refine v_iload_n h (i := 3) dX8_turns_45 (q := 46) rfl rfl rfl ?_
        refine v_iald h (by assumption) rfl (by first | assumption | omega) (by decide) dX8_turns_46 (q := 47) rfl ?_
        refine v_aload_n h (i := 0) dX8_turns_47 (q := 48) rfl rfl rfl ?_
        refine v_getr h fl_X8_84 (by assumption) rfl (by assumption) dX8_turns_48 (q := 51) rfl ?_
        refine v_iload_n h (i := 2) dX8_turns_51 (q := 52) rfl rfl rfl ?_
        refine v_iald h (by assumption) rfl (by first | assumption | omega) (by decide) dX8_turns_52 (q := 53) rfl ?_
        refine v_icmp_ge h dX8_turns_53 (q := 56) rfl (tgt := 62) (by decide) (fun c5 => ?_) (fun c5 => ?_)
        · skip
          have hyE : pb_te (sg (M + 24)) (sg (M + 24) k) (m - 1) = j + 1 := by rw [← hy0.2]; exact if_neg (Int32.not_lt.mpr c5)
          refine v_wk (L' := [some (.ref M), some (.int (nI m)), some (.int (nI k)), some (.int (nI (pb_te (sg (M + 24)) (sg (M + 24) k) (m - 1)))), none, none, none]) (by simp [pb_wk, hyE]; try rfl) ?_
          refine v_aload_n h (i := 0) dX8_turns_62 (q := 63) rfl rfl rfl ?_
          refine v_getr h fl_X8_84 (by assumption) rfl (by assumption) dX8_turns_63 (q := 66) rfl ?_
          refine v_iload_n h (i := 2) dX8_turns_66 (q := 67) rfl rfl rfl ?_
          refine v_iald h (by assumption) rfl (by first | assumption | omega) (by decide) dX8_turns_67 (q := 68) rfl ?_
          refine v_istore h dX8_turns_68 (q := 70) rfl (Nat.le_of_ble_eq_true rfl) rfl ?_
          refine v_aload_n h (i := 0) dX8_turns_70 (q := 71) rfl rfl rfl ?_
          refine v_getr h fl_X8_84 (by assumption) rfl (by assumption) dX8_turns_71 (q := 74) rfl ?_
          refine v_iload_n h (i := 2) dX8_turns_74 (q := 75) rfl rfl rfl ?_
          refine v_aload_n h (i := 0) dX8_turns_75 (q := 76) rfl rfl rfl ?_
          refine v_getr h fl_X8_84 (by assumption) rfl (by assumption) dX8_turns_76 (q := 79) rfl ?_
          refine v_iload_n h (i := 3) dX8_turns_79 (q := 80) rfl rfl rfl ?_
          refine v_iald h (by assumption) rfl (by first | assumption | omega) (by decide) dX8_turns_80 (q := 81) rfl ?_
          refine v_iast h (by assumption) rfl (by first | assumption | omega) (by decide) dX8_turns_81 (q := 82) rfl ?_
          refine v_aload_n h (i := 0) dX8_turns_82 (q := 83) rfl rfl rfl ?_
          refine v_getr h fl_X8_84 (by assumption) rfl (by assumption) dX8_turns_83 (q := 86) rfl ?_
          refine v_iload_n h (i := 3) dX8_turns_86 (q := 87) rfl rfl rfl ?_
          refine v_iload h dX8_turns_87 (q := 89) rfl rfl ?_
          refine v_iast h (by assumption) rfl (by first | assumption | omega) (by decide) dX8_turns_89 (q := 90) rfl ?_
          refine v_sg (sg' := (pb_sw sg M k (pb_te (sg (M + 24)) (sg (M + 24) k) (m - 1)))) rfl ?_
          refine v_iload_n h (i := 2) dX8_turns_90 (q := 91) rfl rfl rfl ?_
          refine v_iconst h (v := nI 1) dX8_turns_91 (q := 92) rfl (by decide +kernel) ?_
          refine v_iadd h dX8_turns_92 (q := 93) rfl ?_
          refine v_eq (st' := [.int (nI (k + 1))]) (by rw [nI_add]) ?_
          refine v_istore h dX8_turns_93 (q := 95) rfl (Nat.le_of_ble_eq_true rfl) rfl ?_
          refine v_iload_n h (i := 1) dX8_turns_95 (q := 96) rfl rfl rfl ?_
          refine v_iconst h (v := nI 1) dX8_turns_96 (q := 97) rfl (by decide +kernel) ?_
          refine v_isub h dX8_turns_97 (q := 98) rfl ?_
          refine v_eq (st' := [.int (nI (m - 1))]) (by rw [pb_n1 hm1]) ?_
          refine v_istore h dX8_turns_98 (q := 100) rfl (Nat.le_of_ble_eq_true rfl) rfl ?_
          have lp : ∀ (j i : Nat), i + j = ((m - 1 - k) / 2) → pv F 0 0 sz sk rf (pb_rvN (pb_sw sg M k (pb_te (sg (M + 24)) (sg (M + 24) k) (m - 1))) M (k + 1) (m - 1) i) 100 [some (.ref M), some (.int (nI m)), some (.int (nI k)), some (.int (nI (pb_te (sg (M + 24)) (sg (M + 24) k) (m - 1)))), none, some (.int (nI (k + 1 + i))), some (.int (nI (m - 1 - i)))] [] := by
            intro j
            induction j with
            | zero =>
              intro i  hi
              obtain rfl : i = ((m - 1 - k) / 2) := by omega
              refine v_iload h dX8_turns_100 (q := 102) rfl rfl ?_
              refine v_iload h dX8_turns_102 (q := 104) rfl rfl ?_
              refine v_icmp_ge h dX8_turns_104 (q := 107) rfl (tgt := 148) (by decide) (fun c6 => ?_) (fun c6 => pb_kle (by omega) (by omega) c6)
              refine v_iconst h (v := nI 1) dX8_turns_148 (q := 149) rfl (by decide +kernel) ?_
              refine v_iret h hQ rfl (by first | exact rfl | exact pb_b_nar _) dX8_turns_149 (Nat.zero_le _) (Nat.zero_le _) ⟨rfl, rfl, rfl, rfl, rfl⟩
            | succ j ih =>
              intro i  hi
              have hi2 : i < ((m - 1 - k) / 2) := by omega
              refine v_iload h dX8_turns_100 (q := 102) rfl rfl ?_
              refine v_iload h dX8_turns_102 (q := 104) rfl rfl ?_
              refine v_icmp_ge h dX8_turns_104 (q := 107) rfl (tgt := 148) (by decide) (fun c7 => pb_kge (show k + 1 + i < m - 1 - i by omega) (by omega) c7) (fun c7 => ?_)
              refine v_aload_n h (i := 0) dX8_turns_107 (q := 108) rfl rfl rfl ?_
              refine v_getr h fl_X8_84 (by assumption) rfl (by assumption) dX8_turns_108 (q := 111) rfl ?_
              refine v_iload h dX8_turns_111 (q := 113) rfl rfl ?_
              refine v_iald h (by assumption) rfl (by first | assumption | omega) (by decide) dX8_turns_113 (q := 114) rfl ?_
              refine v_istore h dX8_turns_114 (q := 116) rfl (Nat.le_of_ble_eq_true rfl) rfl ?_
              refine v_aload_n h (i := 0) dX8_turns_116 (q := 117) rfl rfl rfl ?_
              refine v_getr h fl_X8_84 (by assumption) rfl (by assumption) dX8_turns_117 (q := 120) rfl ?_
              refine v_iload h dX8_turns_120 (q := 122) rfl rfl ?_
              refine v_aload_n h (i := 0) dX8_turns_122 (q := 123) rfl rfl rfl ?_
              refine v_getr h fl_X8_84 (by assumption) rfl (by assumption) dX8_turns_123 (q := 126) rfl ?_
              refine v_iload h dX8_turns_126 (q := 128) rfl rfl ?_
              refine v_iald h (by assumption) rfl (by first | assumption | omega) (by decide) dX8_turns_128 (q := 129) rfl ?_
              refine v_iast h (by assumption) rfl (by first | assumption | omega) (by decide) dX8_turns_129 (q := 130) rfl ?_
              refine v_aload_n h (i := 0) dX8_turns_130 (q := 131) rfl rfl rfl ?_
              refine v_getr h fl_X8_84 (by assumption) rfl (by assumption) dX8_turns_131 (q := 134) rfl ?_
              refine v_iload h dX8_turns_134 (q := 136) rfl rfl ?_
              refine v_iload h dX8_turns_136 (q := 138) rfl rfl ?_
              refine v_iast h (by assumption) rfl (by first | assumption | omega) (by decide) dX8_turns_138 (q := 139) rfl ?_
              refine v_iinc h dX8_turns_139 (q := 142) rfl rfl pb_inc rfl ?_
              refine v_iinc h dX8_turns_142 (q := 145) rfl rfl (show nI (m - 1 - i) + Int32.ofInt (-1) = nI (m - 1 - (i + 1)) from by rw [pb_decP (by omega), Nat.sub_sub (m - 1)]) rfl ?_
              refine v_goto h dX8_turns_145 (tgt := 100) (by decide) ?_
              exact v_wk (by simp [pb_wk]; rfl) (ih (i + 1) (by omega))
          exact v_wk (by simp [pb_wk]) (lp ((m - 1 - k) / 2) 0 (by omega))
        · skip
          have hlt := Int32.not_le.mp c5
          have hne : k ≠ j + 1 := fun q9 => absurd hlt (by rw [← q9]; exact Int32.lt_irrefl)
          refine v_iinc h dX8_turns_56 (q := 59) rfl rfl pb_dec1 rfl ?_
          refine v_goto h dX8_turns_59 (tgt := 41) (by decide) ?_
          exact ih (i + 1) (by omega) ⟨by omega, (show pb_te _ _ (j + 1) = pb_te _ _ j from if_pos hlt).symm.trans hy0.2⟩
    exact lp (m - 1) 0 (by omega) ⟨by omega, rfl⟩
  refine v_iload_n h (i := 1) dX8_turns_0 (q := 1) rfl rfl rfl ?_
  refine v_iconst h (v := nI 2) dX8_turns_1 (q := 2) rfl (by decide +kernel) ?_
  refine v_isub h dX8_turns_2 (q := 3) rfl ?_
  refine v_eq (st' := [.int (pb_ki (m - 1))]) (by rw [pb_ki2 hm1]) ?_
  refine v_istore_n h (i := 2) dX8_turns_3 (q := 4) rfl rfl (Nat.le_of_ble_eq_true rfl) rfl ?_
  have lp : ∀ (j i : Nat), i + j = (m - 1) → pb_tk (sg (M + 24)) j = some k → pv F 0 0 sz sk rf sg 4 [some (.ref M), some (.int (nI m)), some (.int (pb_ki j)), none, none, none, none] [] := by
    intro j
    induction j with
    | zero =>
      intro i  hi hy0
      obtain rfl : i = (m - 1) := by omega
      refine v_iload_n h (i := 2) dX8_turns_4 (q := 5) rfl rfl rfl ?_
      refine v_if_lt h dX8_turns_5 (q := 8) rfl (tgt := 31) (by decide) (fun c8 => ?_) (fun c8 => absurd (show (-1 : Int32) < 0 by decide) c8)
      cases hy0
    | succ j ih =>
      intro i  hi hy0
      have hi2 : i < (m - 1) := by omega
      refine v_iload_n h (i := 2) dX8_turns_4 (q := 5) rfl rfl rfl ?_
      refine v_if_lt h dX8_turns_5 (q := 8) rfl (tgt := 31) (by decide) (fun c9 => absurd c9 (nI_pos (by omega))) (fun c9 => ?_)
      refine v_aload_n h (i := 0) dX8_turns_8 (q := 9) rfl rfl rfl ?_
      refine v_getr h fl_X8_84 (by assumption) rfl (by assumption) dX8_turns_9 (q := 12) rfl ?_
      refine v_iload_n h (i := 2) dX8_turns_12 (q := 13) rfl rfl rfl ?_
      refine v_iald h (by assumption) rfl (by first | assumption | omega) (by decide) dX8_turns_13 (q := 14) rfl ?_
      refine v_aload_n h (i := 0) dX8_turns_14 (q := 15) rfl rfl rfl ?_
      refine v_getr h fl_X8_84 (by assumption) rfl (by assumption) dX8_turns_15 (q := 18) rfl ?_
      refine v_iload_n h (i := 2) dX8_turns_18 (q := 19) rfl rfl rfl ?_
      refine v_iconst h (v := nI 1) dX8_turns_19 (q := 20) rfl (by decide +kernel) ?_
      refine v_iadd h dX8_turns_20 (q := 21) rfl ?_
      refine v_eq (st' := [.int (nI (j + 1)), .ref (M + 24), .int (sg (M + 24) j)]) (by rw [show pb_ki (j + 1) + nI 1 = nI (j + 1) from nI_add j 1]) ?_
      refine v_iald h (by assumption) rfl (by first | assumption | omega) (by decide) dX8_turns_21 (q := 22) rfl ?_
      refine v_icmp_le h dX8_turns_22 (q := 25) rfl (tgt := 31) (by decide) (fun c10 => ?_) (fun c10 => ?_)
      · skip
        have q8 := hy0
        unfold pb_tk at q8
        rw [if_pos c10] at q8
        cases q8
        exact tail
      · skip
        have hnle := c10
        refine v_iinc h dX8_turns_25 (q := 28) rfl rfl pb_kdec rfl ?_
        refine v_goto h dX8_turns_28 (tgt := 4) (by decide) ?_
        have q8 := hy0
        unfold pb_tk at q8
        rw [if_neg hnle] at q8
        exact ih (i + 1) (by omega) q8
  exact v_wk (by simp [pb_wk]) (lp (m - 1) 0 (by omega) hk)
