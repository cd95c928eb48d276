theorem pb_f_nt {b : Bool} (h : ¬ b = true) : b = false := by
  cases b
  · rfl
  · exact absurd rfl h
set_option maxHeartbeats 4000000 in
set_option maxRecDepth 100000 in
theorem c_X8_isBranch {l : Launch} (hfl : l.stackTraces = false) {sz : Nat} {sk : pb_Sk} {rf : pb_Rf} {sg : pb_Sg} {M : Nat} (hm : pb_md sk rf M) {b n : Nat} (hb : b < n) (hn : sg M 8 = nI n) (hn8 : n ≤ 8) : pb_Met l mX8_isBranch 2 0 0 [.ref M, .int (nI b)] sz sk rf sg (pb_is (some (.int (nI 1))) sz sk rf sg) := by
  refine pb_start hfl (by decide +kernel) rfl (pb_c1 rfl) (Nat.le_of_ble_eq_true rfl) (fun F hF h hQ => ?_)
  subst hF
  show pv F 0 0 sz sk rf sg 0 [some (.ref M), some (.int (nI b))] []
  obtain ⟨hM0, hr1, hk1, hr2, hk2, hr3, hk3, hr4, hk4, hr5, hk5, hr6, hk6, hr7, hk7, hr8, hk8, hr9, hk9, hr10, hk10, hr11, hk11, hr12, hk12, hr13, hk13, hr14, hk14, hr15, hk15, hr16, hk16, hr17, hk17, hr18, hk18, hr19, hk19, hr20, hk20, hr21, hk21, hr22, hk22, hr23, hk23, hr24, hk24⟩ := id hm
  refine v_iload_n h (i := 1) dX8_isBranch_0 (q := 1) rfl rfl rfl ?_
  refine v_iconst h (v := nI 0) dX8_isBranch_1 (q := 2) rfl (by decide +kernel) ?_
  refine v_aload_n h (i := 0) dX8_isBranch_2 (q := 3) rfl rfl rfl ?_
  refine v_geti h fl_X8_31 (by assumption) rfl dX8_isBranch_3 (q := 6) rfl ?_
  refine v_iconst h (v := nI 1) dX8_isBranch_6 (q := 7) rfl (by decide +kernel) ?_
  refine v_isub h dX8_isBranch_7 (q := 8) rfl ?_
  refine v_eq (st' := [.int (nI (n - 1)), .int (nI 0), .int (nI b)]) (by rw [hn, pb_n1 (by omega)]) ?_
  refine v_callS1 h (c_X8_isIn hfl (pb_rngY (show b ≤ n - 1 by omega) (by omega))) kX8_isIn rfl tw922 rfl rfl (by simp [Value.category]) (by decide) (Nat.zero_le _) (Nat.zero_le _) rfl dX8_isBranch_8 (q := 11) rfl ?_
  refine v_iret h hQ rfl (by first | exact rfl | exact pb_b_nar _) dX8_isBranch_11 (Nat.zero_le _) (Nat.zero_le _) ⟨rfl, rfl, rfl, rfl, rfl⟩
set_option maxHeartbeats 4000000 in
set_option maxRecDepth 100000 in
theorem x_X8_isBranch {l : Launch} (hfl : l.stackTraces = false) {sz : Nat} {sk : pb_Sk} {rf : pb_Rf} {sg : pb_Sg} {M : Nat} (hm : pb_md sk rf M) {n : Nat} {x : Int32} (hx : ∀ b, b < n → ¬ x = nI b) (hn : sg M 8 = nI n) (hn8 : 1 ≤ n ∧ n ≤ 8) : pb_Met l mX8_isBranch 2 0 0 [.ref M, .int x] sz sk rf sg (pb_is (some (.int (nI 0))) sz sk rf sg) := by
  refine pb_start hfl (by decide +kernel) rfl (pb_c1 rfl) (Nat.le_of_ble_eq_true rfl) (fun F hF h hQ => ?_)
  subst hF
  show pv F 0 0 sz sk rf sg 0 [some (.ref M), some (.int x)] []
  obtain ⟨hM0, hr1, hk1, hr2, hk2, hr3, hk3, hr4, hk4, hr5, hk5, hr6, hk6, hr7, hk7, hr8, hk8, hr9, hk9, hr10, hk10, hr11, hk11, hr12, hk12, hr13, hk13, hr14, hk14, hr15, hk15, hr16, hk16, hr17, hk17, hr18, hk18, hr19, hk19, hr20, hk20, hr21, hk21, hr22, hk22, hr23, hk23, hr24, hk24⟩ := id hm
  refine v_iload_n h (i := 1) dX8_isBranch_0 (q := 1) rfl rfl rfl ?_
  refine v_iconst h (v := nI 0) dX8_isBranch_1 (q := 2) rfl (by decide +kernel) ?_
  refine v_aload_n h (i := 0) dX8_isBranch_2 (q := 3) rfl rfl rfl ?_
  refine v_geti h fl_X8_31 (by assumption) rfl dX8_isBranch_3 (q := 6) rfl ?_
  refine v_iconst h (v := nI 1) dX8_isBranch_6 (q := 7) rfl (by decide +kernel) ?_
  refine v_isub h dX8_isBranch_7 (q := 8) rfl ?_
  refine v_eq (st' := [.int (nI (n - 1)), .int (nI 0), .int x]) (by rw [hn, pb_n1 (by omega)]) ?_
  refine v_callS1 h (x_X8_isIn hfl (pb_rngN (show n - 1 < 2147483648 by omega) (fun q => by obtain ⟨j, hj, e⟩ := q; exact hx j (by omega) e))) kX8_isIn rfl tw922 rfl rfl (by simp [Value.category]) (by decide) (Nat.zero_le _) (Nat.zero_le _) rfl dX8_isBranch_8 (q := 11) rfl ?_
  refine v_iret h hQ rfl (by first | exact rfl | exact pb_b_nar _) dX8_isBranch_11 (Nat.zero_le _) (Nat.zero_le _) ⟨rfl, rfl, rfl, rfl, rfl⟩
set_option maxHeartbeats 4000000 in
set_option maxRecDepth 100000 in
theorem c_X8_isTask {l : Launch} (hfl : l.stackTraces = false) {sz : Nat} {sk : pb_Sk} {rf : pb_Rf} {sg : pb_Sg} {t : Nat} (ht : t < 16) : pb_Met l mX8_isTask 2 0 0 [.int (nI t)] sz sk rf sg (pb_is (some (.int (nI 1))) sz sk rf sg) := by
  refine pb_start hfl (by decide +kernel) rfl (pb_c1 rfl) (Nat.le_of_ble_eq_true rfl) (fun F hF h hQ => ?_)
  subst hF
  show pv F 0 0 sz sk rf sg 0 [some (.int (nI t))] []
  refine v_iload_n h (i := 0) dX8_isTask_0 (q := 1) rfl rfl rfl ?_
  refine v_iconst h (v := nI 0) dX8_isTask_1 (q := 2) rfl (by decide +kernel) ?_
  refine v_bipush h (v := nI 15) dX8_isTask_2 (q := 4) rfl (by decide +kernel) ?_
  refine v_callS1 h (c_X8_isIn hfl (pb_rngY (show t ≤ 15 by omega) (by decide))) kX8_isIn rfl tw922 rfl rfl (by simp [Value.category]) (by decide) (Nat.zero_le _) (Nat.zero_le _) rfl dX8_isTask_4 (q := 7) rfl ?_
  refine v_iret h hQ rfl (by first | exact rfl | exact pb_b_nar _) dX8_isTask_7 (Nat.zero_le _) (Nat.zero_le _) ⟨rfl, rfl, rfl, rfl, rfl⟩
set_option maxHeartbeats 4000000 in
set_option maxRecDepth 100000 in
theorem x_X8_isTask {l : Launch} (hfl : l.stackTraces = false) {sz : Nat} {sk : pb_Sk} {rf : pb_Rf} {sg : pb_Sg} {x : Int32} (hx : ¬ (nI 0 ≤ x ∧ x ≤ nI 15)) : pb_Met l mX8_isTask 2 0 0 [.int x] sz sk rf sg (pb_is (some (.int (nI 0))) sz sk rf sg) := by
  refine pb_start hfl (by decide +kernel) rfl (pb_c1 rfl) (Nat.le_of_ble_eq_true rfl) (fun F hF h hQ => ?_)
  subst hF
  show pv F 0 0 sz sk rf sg 0 [some (.int x)] []
  refine v_iload_n h (i := 0) dX8_isTask_0 (q := 1) rfl rfl rfl ?_
  refine v_iconst h (v := nI 0) dX8_isTask_1 (q := 2) rfl (by decide +kernel) ?_
  refine v_bipush h (v := nI 15) dX8_isTask_2 (q := 4) rfl (by decide +kernel) ?_
  refine v_callS1 h (x_X8_isIn hfl hx) kX8_isIn rfl tw922 rfl rfl (by simp [Value.category]) (by decide) (Nat.zero_le _) (Nat.zero_le _) rfl dX8_isTask_4 (q := 7) rfl ?_
  refine v_iret h hQ rfl (by first | exact rfl | exact pb_b_nar _) dX8_isTask_7 (Nat.zero_le _) (Nat.zero_le _) ⟨rfl, rfl, rfl, rfl, rfl⟩
set_option maxHeartbeats 4000000 in
set_option maxRecDepth 100000 in
theorem c_X8_isCrew {l : Launch} (hfl : l.stackTraces = false) {sz : Nat} {sk : pb_Sk} {rf : pb_Rf} {sg : pb_Sg} {t : Nat} (ht : t < 5) : pb_Met l mX8_isCrew 2 0 0 [.int (nI t)] sz sk rf sg (pb_is (some (.int (nI 1))) sz sk rf sg) := by
  refine pb_start hfl (by decide +kernel) rfl (pb_c1 rfl) (Nat.le_of_ble_eq_true rfl) (fun F hF h hQ => ?_)
  subst hF
  show pv F 0 0 sz sk rf sg 0 [some (.int (nI t))] []
  refine v_iload_n h (i := 0) dX8_isCrew_0 (q := 1) rfl rfl rfl ?_
  refine v_iconst h (v := nI 0) dX8_isCrew_1 (q := 2) rfl (by decide +kernel) ?_
  refine v_iconst h (v := nI 4) dX8_isCrew_2 (q := 3) rfl (by decide +kernel) ?_
  refine v_callS1 h (c_X8_isIn hfl (pb_rngY (show t ≤ 4 by omega) (by decide))) kX8_isIn rfl tw922 rfl rfl (by simp [Value.category]) (by decide) (Nat.zero_le _) (Nat.zero_le _) rfl dX8_isCrew_3 (q := 6) rfl ?_
  refine v_iret h hQ rfl (by first | exact rfl | exact pb_b_nar _) dX8_isCrew_6 (Nat.zero_le _) (Nat.zero_le _) ⟨rfl, rfl, rfl, rfl, rfl⟩
set_option maxHeartbeats 4000000 in
set_option maxRecDepth 100000 in
theorem x_X8_isCrew {l : Launch} (hfl : l.stackTraces = false) {sz : Nat} {sk : pb_Sk} {rf : pb_Rf} {sg : pb_Sg} {x : Int32} (hx : ¬ (nI 0 ≤ x ∧ x ≤ nI 4)) : pb_Met l mX8_isCrew 2 0 0 [.int x] sz sk rf sg (pb_is (some (.int (nI 0))) sz sk rf sg) := by
  refine pb_start hfl (by decide +kernel) rfl (pb_c1 rfl) (Nat.le_of_ble_eq_true rfl) (fun F hF h hQ => ?_)
  subst hF
  show pv F 0 0 sz sk rf sg 0 [some (.int x)] []
  refine v_iload_n h (i := 0) dX8_isCrew_0 (q := 1) rfl rfl rfl ?_
  refine v_iconst h (v := nI 0) dX8_isCrew_1 (q := 2) rfl (by decide +kernel) ?_
  refine v_iconst h (v := nI 4) dX8_isCrew_2 (q := 3) rfl (by decide +kernel) ?_
  refine v_callS1 h (x_X8_isIn hfl hx) kX8_isIn rfl tw922 rfl rfl (by simp [Value.category]) (by decide) (Nat.zero_le _) (Nat.zero_le _) rfl dX8_isCrew_3 (q := 6) rfl ?_
  refine v_iret h hQ rfl (by first | exact rfl | exact pb_b_nar _) dX8_isCrew_6 (Nat.zero_le _) (Nat.zero_le _) ⟨rfl, rfl, rfl, rfl, rfl⟩
set_option maxHeartbeats 4000000 in
set_option maxRecDepth 100000 in
theorem c_X8_isDay {l : Launch} (hfl : l.stackTraces = false) {sz : Nat} {sk : pb_Sk} {rf : pb_Rf} {sg : pb_Sg} {t : Nat} (ht : t < 400) : pb_Met l mX8_isDay 2 0 0 [.int (nI t)] sz sk rf sg (pb_is (some (.int (nI 1))) sz sk rf sg) := by
  refine pb_start hfl (by decide +kernel) rfl (pb_c1 rfl) (Nat.le_of_ble_eq_true rfl) (fun F hF h hQ => ?_)
  subst hF
  show pv F 0 0 sz sk rf sg 0 [some (.int (nI t))] []
  refine v_iload_n h (i := 0) dX8_isDay_0 (q := 1) rfl rfl rfl ?_
  refine v_iconst h (v := nI 0) dX8_isDay_1 (q := 2) rfl (by decide +kernel) ?_
  refine v_sipush h (v := nI 399) dX8_isDay_2 (q := 5) rfl (by decide +kernel) ?_
  refine v_callS1 h (c_X8_isIn hfl (pb_rngY (show t ≤ 399 by omega) (by decide))) kX8_isIn rfl tw922 rfl rfl (by simp [Value.category]) (by decide) (Nat.zero_le _) (Nat.zero_le _) rfl dX8_isDay_5 (q := 8) rfl ?_
  refine v_iret h hQ rfl (by first | exact rfl | exact pb_b_nar _) dX8_isDay_8 (Nat.zero_le _) (Nat.zero_le _) ⟨rfl, rfl, rfl, rfl, rfl⟩
set_option maxHeartbeats 4000000 in
set_option maxRecDepth 100000 in
theorem x_X8_isDay {l : Launch} (hfl : l.stackTraces = false) {sz : Nat} {sk : pb_Sk} {rf : pb_Rf} {sg : pb_Sg} {x : Int32} (hx : ¬ (nI 0 ≤ x ∧ x ≤ nI 399)) : pb_Met l mX8_isDay 2 0 0 [.int x] sz sk rf sg (pb_is (some (.int (nI 0))) sz sk rf sg) := by
  refine pb_start hfl (by decide +kernel) rfl (pb_c1 rfl) (Nat.le_of_ble_eq_true rfl) (fun F hF h hQ => ?_)
  subst hF
  show pv F 0 0 sz sk rf sg 0 [some (.int x)] []
  refine v_iload_n h (i := 0) dX8_isDay_0 (q := 1) rfl rfl rfl ?_
  refine v_iconst h (v := nI 0) dX8_isDay_1 (q := 2) rfl (by decide +kernel) ?_
  refine v_sipush h (v := nI 399) dX8_isDay_2 (q := 5) rfl (by decide +kernel) ?_
  refine v_callS1 h (x_X8_isIn hfl hx) kX8_isIn rfl tw922 rfl rfl (by simp [Value.category]) (by decide) (Nat.zero_le _) (Nat.zero_le _) rfl dX8_isDay_5 (q := 8) rfl ?_
  refine v_iret h hQ rfl (by first | exact rfl | exact pb_b_nar _) dX8_isDay_8 (Nat.zero_le _) (Nat.zero_le _) ⟨rfl, rfl, rfl, rfl, rfl⟩
set_option maxHeartbeats 4000000 in
set_option maxRecDepth 100000 in
theorem c_X8_at {l : Launch} (hfl : l.stackTraces = false) {sz : Nat} {sk : pb_Sk} {rf : pb_Rf} {sg : pb_Sg} {q t : Nat} : pb_Met l mX8_at 1 0 0 [.int (nI q), .int (nI t)] sz sk rf sg (pb_is (some (.int (nI (16 * q + t)))) sz sk rf sg) := by
  refine pb_start hfl (by decide +kernel) rfl (pb_c1 rfl) (Nat.le_of_ble_eq_true rfl) (fun F hF h hQ => ?_)
  subst hF
  show pv F 0 0 sz sk rf sg 0 [some (.int (nI q)), some (.int (nI t))] []
  refine v_bipush h (v := nI 16) dX8_at_0 (q := 2) rfl (by decide +kernel) ?_
  refine v_iload_n h (i := 0) dX8_at_2 (q := 3) rfl rfl rfl ?_
  refine v_imul h dX8_at_3 (q := 4) rfl ?_
  refine v_iload_n h (i := 1) dX8_at_4 (q := 5) rfl rfl rfl ?_
  refine v_iadd h dX8_at_5 (q := 6) rfl ?_
  refine v_iret h hQ rfl rfl dX8_at_6 (Nat.zero_le _) (Nat.zero_le _) ⟨by rw [nI_mul, nI_add], rfl, rfl, rfl, rfl⟩
set_option maxHeartbeats 4000000 in
set_option maxRecDepth 100000 in
theorem c_X8_isThere {l : Launch} (hfl : l.stackTraces = false) {sz : Nat} {sk : pb_Sk} {rf : pb_Rf} {sg : pb_Sg} {M : Nat} (hm : pb_md sk rf M) {q t : Nat} (hq : q < 17) (ht : t < 16) : pb_Met l mX8_isThere 2 0 0 [.ref M, .int (nI q), .int (nI t)] sz sk rf sg (pb_is (some (.int (pb_b (pb_has (sg (M + 1)) (16 * q + t))))) sz sk rf sg) := by
  refine pb_start hfl (by decide +kernel) rfl (pb_c1 rfl) (Nat.le_of_ble_eq_true rfl) (fun F hF h hQ => ?_)
  subst hF
  show pv F 0 0 sz sk rf sg 0 [some (.ref M), some (.int (nI q)), some (.int (nI t))] []
  obtain ⟨hM0, hr1, hk1, hr2, hk2, hr3, hk3, hr4, hk4, hr5, hk5, hr6, hk6, hr7, hk7, hr8, hk8, hr9, hk9, hr10, hk10, hr11, hk11, hr12, hk12, hr13, hk13, hr14, hk14, hr15, hk15, hr16, hk16, hr17, hk17, hr18, hk18, hr19, hk19, hr20, hk20, hr21, hk21, hr22, hk22, hr23, hk23, hr24, hk24⟩ := id hm
  refine v_aload_n h (i := 0) dX8_isThere_0 (q := 1) rfl rfl rfl ?_
  refine v_getr h fl_X8_7 (by assumption) rfl (by assumption) dX8_isThere_1 (q := 4) rfl ?_
  refine v_iload_n h (i := 1) dX8_isThere_4 (q := 5) rfl rfl rfl ?_
  refine v_iload_n h (i := 2) dX8_isThere_5 (q := 6) rfl rfl rfl ?_
  refine v_callS1 h (c_X8_at hfl ) kX8_at rfl tw937 rfl rfl (by simp [Value.category]) (by decide) (Nat.zero_le _) (Nat.zero_le _) rfl dX8_isThere_6 (q := 9) rfl ?_
  refine v_iald h (by assumption) rfl (by first | assumption | omega) (by decide) dX8_isThere_9 (q := 10) rfl ?_
  refine v_if_le h dX8_isThere_10 (q := 13) rfl (tgt := 17) (by decide) (fun c1 => ?_) (fun c1 => ?_)
  · skip
    have e14 : pb_b (pb_has (sg (M + 1)) (16 * q + t)) = nI 0 := by unfold pb_has; rw [decide_eq_false (Int32.not_lt.mpr c1)]; rfl
    refine v_iconst h (v := nI 0) dX8_isThere_17 (q := 18) rfl (by decide +kernel) ?_
    refine v_iret h hQ rfl (by first | exact rfl | exact pb_b_nar _) dX8_isThere_18 (Nat.zero_le _) (Nat.zero_le _) ⟨by rw [e14], rfl, rfl, rfl, rfl⟩
  · skip
    have e14 : pb_b (pb_has (sg (M + 1)) (16 * q + t)) = nI 1 := by unfold pb_has; rw [decide_eq_true (Int32.not_le.mp c1)]; rfl
    refine v_iconst h (v := nI 1) dX8_isThere_13 (q := 14) rfl (by decide +kernel) ?_
    refine v_goto h dX8_isThere_14 (tgt := 18) (by decide) ?_
    refine v_iret h hQ rfl (by first | exact rfl | exact pb_b_nar _) dX8_isThere_18 (Nat.zero_le _) (Nat.zero_le _) ⟨by rw [e14], rfl, rfl, rfl, rfl⟩
set_option maxHeartbeats 4000000 in
set_option maxRecDepth 100000 in
theorem c_X8_doesNeed {l : Launch} (hfl : l.stackTraces = false) {sz : Nat} {sk : pb_Sk} {rf : pb_Rf} {sg : pb_Sg} {M : Nat} (hm : pb_md sk rf M) {q t : Nat} (hq : q < 17) (ht : t < 16) {o : Nat} (ho : o < 16) : pb_Met l mX8_doesNeed 2 0 0 [.ref M, .int (nI q), .int (nI t), .int (nI o)] sz sk rf sg (pb_is (some (.int (pb_b (pb_in (sg (M + 4) (16 * q + t)) o)))) sz sk rf sg) := by
  refine pb_start hfl (by decide +kernel) rfl (pb_c1 rfl) (Nat.le_of_ble_eq_true rfl) (fun F hF h hQ => ?_)
  subst hF
  show pv F 0 0 sz sk rf sg 0 [some (.ref M), some (.int (nI q)), some (.int (nI t)), some (.int (nI o))] []
  obtain ⟨hM0, hr1, hk1, hr2, hk2, hr3, hk3, hr4, hk4, hr5, hk5, hr6, hk6, hr7, hk7, hr8, hk8, hr9, hk9, hr10, hk10, hr11, hk11, hr12, hk12, hr13, hk13, hr14, hk14, hr15, hk15, hr16, hk16, hr17, hk17, hr18, hk18, hr19, hk19, hr20, hk20, hr21, hk21, hr22, hk22, hr23, hk23, hr24, hk24⟩ := id hm
  refine v_aload_n h (i := 0) dX8_doesNeed_0 (q := 1) rfl rfl rfl ?_
  refine v_getr h fl_X8_19 (by assumption) rfl (by assumption) dX8_doesNeed_1 (q := 4) rfl ?_
  refine v_iload_n h (i := 1) dX8_doesNeed_4 (q := 5) rfl rfl rfl ?_
  refine v_iload_n h (i := 2) dX8_doesNeed_5 (q := 6) rfl rfl rfl ?_
  refine v_callS1 h (c_X8_at hfl ) kX8_at rfl tw937 rfl rfl (by simp [Value.category]) (by decide) (Nat.zero_le _) (Nat.zero_le _) rfl dX8_doesNeed_6 (q := 9) rfl ?_
  refine v_iald h (by assumption) rfl (by first | assumption | omega) (by decide) dX8_doesNeed_9 (q := 10) rfl ?_
  refine v_iload_n h (i := 3) dX8_doesNeed_10 (q := 11) rfl rfl rfl ?_
  refine v_ishr h dX8_doesNeed_11 (q := 12) rfl ?_
  refine v_iconst h (v := nI 1) dX8_doesNeed_12 (q := 13) rfl (by decide +kernel) ?_
  refine v_iand h dX8_doesNeed_13 (q := 14) rfl ?_
  refine v_iconst h (v := nI 1) dX8_doesNeed_14 (q := 15) rfl (by decide +kernel) ?_
  refine v_icmp_ne h dX8_doesNeed_15 (q := 18) rfl (tgt := 22) (by decide) (fun c1 => ?_) (fun c1 => ?_)
  · skip
    have e14 : pb_b (pb_in (sg (M + 4) (16 * q + t)) o) = nI 0 := by rw [pb_f_nt (fun q => c1 ((pb_in_sh1 (by omega)).mpr q))]; rfl
    refine v_iconst h (v := nI 0) dX8_doesNeed_22 (q := 23) rfl (by decide +kernel) ?_
    refine v_iret h hQ rfl (by first | exact rfl | exact pb_b_nar _) dX8_doesNeed_23 (Nat.zero_le _) (Nat.zero_le _) ⟨by rw [e14], rfl, rfl, rfl, rfl⟩
  · skip
    have e14 : pb_b (pb_in (sg (M + 4) (16 * q + t)) o) = nI 1 := by rw [(pb_in_sh1 (by omega)).mp c1]; rfl
    refine v_iconst h (v := nI 1) dX8_doesNeed_18 (q := 19) rfl (by decide +kernel) ?_
    refine v_goto h dX8_doesNeed_19 (tgt := 23) (by decide) ?_
    refine v_iret h hQ rfl (by first | exact rfl | exact pb_b_nar _) dX8_doesNeed_23 (Nat.zero_le _) (Nat.zero_le _) ⟨by rw [e14], rfl, rfl, rfl, rfl⟩
def pb_ml (sg : pb_Sg) (M k : Nat) (a b c e : Int32) : pb_Sg := pb_up (pb_up (pb_up (pb_up sg (M + 1) k a) (M + 2) k b) (M + 3) k c) (M + 4) k e
def pb_mct (sg : pb_Sg) (M f o t : Nat) : pb_Sg := pb_ml sg M (16 * o + t) (sg (M + 1) (16 * f + t)) (sg (M + 2) (16 * f + t)) (sg (M + 3) (16 * f + t)) (sg (M + 4) (16 * f + t))
def pb_mcN (sg : pb_Sg) (M f o : Nat) : Nat → pb_Sg
  | 0 => sg
  | n + 1 => pb_mct (pb_mcN sg M f o n) M f o n
def pb_msame (sg : pb_Sg) (M q r t : Nat) : Bool := decide (sg (M + 1) (16 * q + t) = sg (M + 1) (16 * r + t) ∧ sg (M + 2) (16 * q + t) = sg (M + 2) (16 * r + t) ∧ sg (M + 3) (16 * q + t) = sg (M + 3) (16 * r + t) ∧ sg (M + 4) (16 * q + t) = sg (M + 4) (16 * r + t))
set_option maxHeartbeats 4000000 in
set_option maxRecDepth 100000 in
theorem c_X8_lays {l : Launch} (hfl : l.stackTraces = false) {sz : Nat} {sk : pb_Sk} {rf : pb_Rf} {sg : pb_Sg} {M : Nat} (hm : pb_md sk rf M) {q t : Nat} (hq : q < 17) (ht : t < 16) {a b c e : Int32} : pb_Met l mX8_lays 2 0 0 [.ref M, .int (nI q), .int (nI t), .int a, .int b, .int c, .int e] sz sk rf sg (pb_is none sz sk rf (pb_ml sg M (16 * q + t) a b c e)) := by
  refine pb_start hfl (by decide +kernel) rfl (pb_c1 rfl) (Nat.le_of_ble_eq_true rfl) (fun F hF h hQ => ?_)
  subst hF
  show pv F 0 0 sz sk rf sg 0 [some (.ref M), some (.int (nI q)), some (.int (nI t)), some (.int a), some (.int b), some (.int c), some (.int e)] []
  obtain ⟨hM0, hr1, hk1, hr2, hk2, hr3, hk3, hr4, hk4, hr5, hk5, hr6, hk6, hr7, hk7, hr8, hk8, hr9, hk9, hr10, hk10, hr11, hk11, hr12, hk12, hr13, hk13, hr14, hk14, hr15, hk15, hr16, hk16, hr17, hk17, hr18, hk18, hr19, hk19, hr20, hk20, hr21, hk21, hr22, hk22, hr23, hk23, hr24, hk24⟩ := id hm
  refine v_aload_n h (i := 0) dX8_lays_0 (q := 1) rfl rfl rfl ?_
  refine v_getr h fl_X8_7 (by assumption) rfl (by assumption) dX8_lays_1 (q := 4) rfl ?_
  refine v_iload_n h (i := 1) dX8_lays_4 (q := 5) rfl rfl rfl ?_
  refine v_iload_n h (i := 2) dX8_lays_5 (q := 6) rfl rfl rfl ?_
  refine v_callS1 h (c_X8_at hfl ) kX8_at rfl tw937 rfl rfl (by simp [Value.category]) (by decide) (Nat.zero_le _) (Nat.zero_le _) rfl dX8_lays_6 (q := 9) rfl ?_
  refine v_iload_n h (i := 3) dX8_lays_9 (q := 10) rfl rfl rfl ?_
  refine v_iast h (by assumption) rfl (by first | assumption | omega) (by decide) dX8_lays_10 (q := 11) rfl ?_
  refine v_aload_n h (i := 0) dX8_lays_11 (q := 12) rfl rfl rfl ?_
  refine v_getr h fl_X8_13 (by assumption) rfl (by assumption) dX8_lays_12 (q := 15) rfl ?_
  refine v_iload_n h (i := 1) dX8_lays_15 (q := 16) rfl rfl rfl ?_
  refine v_iload_n h (i := 2) dX8_lays_16 (q := 17) rfl rfl rfl ?_
  refine v_callS1 h (c_X8_at hfl ) kX8_at rfl tw937 rfl rfl (by simp [Value.category]) (by decide) (Nat.zero_le _) (Nat.zero_le _) rfl dX8_lays_17 (q := 20) rfl ?_
  refine v_iload h dX8_lays_20 (q := 22) rfl rfl ?_
  refine v_iast h (by assumption) rfl (by first | assumption | omega) (by decide) dX8_lays_22 (q := 23) rfl ?_
  refine v_aload_n h (i := 0) dX8_lays_23 (q := 24) rfl rfl rfl ?_
  refine v_getr h fl_X8_16 (by assumption) rfl (by assumption) dX8_lays_24 (q := 27) rfl ?_
  refine v_iload_n h (i := 1) dX8_lays_27 (q := 28) rfl rfl rfl ?_
  refine v_iload_n h (i := 2) dX8_lays_28 (q := 29) rfl rfl rfl ?_
  refine v_callS1 h (c_X8_at hfl ) kX8_at rfl tw937 rfl rfl (by simp [Value.category]) (by decide) (Nat.zero_le _) (Nat.zero_le _) rfl dX8_lays_29 (q := 32) rfl ?_
  refine v_iload h dX8_lays_32 (q := 34) rfl rfl ?_
  refine v_iast h (by assumption) rfl (by first | assumption | omega) (by decide) dX8_lays_34 (q := 35) rfl ?_
  refine v_aload_n h (i := 0) dX8_lays_35 (q := 36) rfl rfl rfl ?_
  refine v_getr h fl_X8_19 (by assumption) rfl (by assumption) dX8_lays_36 (q := 39) rfl ?_
  refine v_iload_n h (i := 1) dX8_lays_39 (q := 40) rfl rfl rfl ?_
  refine v_iload_n h (i := 2) dX8_lays_40 (q := 41) rfl rfl rfl ?_
  refine v_callS1 h (c_X8_at hfl ) kX8_at rfl tw937 rfl rfl (by simp [Value.category]) (by decide) (Nat.zero_le _) (Nat.zero_le _) rfl dX8_lays_41 (q := 44) rfl ?_
  refine v_iload h dX8_lays_44 (q := 46) rfl rfl ?_
  refine v_iast h (by assumption) rfl (by first | assumption | omega) (by decide) dX8_lays_46 (q := 47) rfl ?_
  refine v_vret h hQ rfl dX8_lays_47 (Nat.zero_le _) (Nat.zero_le _) ⟨rfl, rfl, rfl, rfl, rfl⟩
set_option maxHeartbeats 4000000 in
set_option maxRecDepth 100000 in
theorem c_X8_copiesTask {l : Launch} (hfl : l.stackTraces = false) {sz : Nat} {sk : pb_Sk} {rf : pb_Rf} {sg : pb_Sg} {M : Nat} (hm : pb_md sk rf M) {f o t : Nat} (hf : f < 17) (ho : o < 17) (ht : t < 16) : pb_Met l mX8_copiesTask 3 0 0 [.ref M, .int (nI f), .int (nI o), .int (nI t)] sz sk rf sg (pb_is none sz sk rf (pb_mct sg M f o t)) := by
  refine pb_start hfl (by decide +kernel) rfl (pb_c1 rfl) (Nat.le_of_ble_eq_true rfl) (fun F hF h hQ => ?_)
  subst hF
  show pv F 0 0 sz sk rf sg 0 [some (.ref M), some (.int (nI f)), some (.int (nI o)), some (.int (nI t))] []
  obtain ⟨hM0, hr1, hk1, hr2, hk2, hr3, hk3, hr4, hk4, hr5, hk5, hr6, hk6, hr7, hk7, hr8, hk8, hr9, hk9, hr10, hk10, hr11, hk11, hr12, hk12, hr13, hk13, hr14, hk14, hr15, hk15, hr16, hk16, hr17, hk17, hr18, hk18, hr19, hk19, hr20, hk20, hr21, hk21, hr22, hk22, hr23, hk23, hr24, hk24⟩ := id hm
  refine v_aload_n h (i := 0) dX8_copiesTask_0 (q := 1) rfl rfl rfl ?_
  refine v_iload_n h (i := 2) dX8_copiesTask_1 (q := 2) rfl rfl rfl ?_
  refine v_iload_n h (i := 3) dX8_copiesTask_2 (q := 3) rfl rfl rfl ?_
  refine v_aload_n h (i := 0) dX8_copiesTask_3 (q := 4) rfl rfl rfl ?_
  refine v_getr h fl_X8_7 (by assumption) rfl (by assumption) dX8_copiesTask_4 (q := 7) rfl ?_
  refine v_iload_n h (i := 1) dX8_copiesTask_7 (q := 8) rfl rfl rfl ?_
  refine v_iload_n h (i := 3) dX8_copiesTask_8 (q := 9) rfl rfl rfl ?_
  refine v_callS1 h (c_X8_at hfl ) kX8_at rfl tw937 rfl rfl (by simp [Value.category]) (by decide) (Nat.zero_le _) (Nat.zero_le _) rfl dX8_copiesTask_9 (q := 12) rfl ?_
  refine v_iald h (by assumption) rfl (by first | assumption | omega) (by decide) dX8_copiesTask_12 (q := 13) rfl ?_
  refine v_aload_n h (i := 0) dX8_copiesTask_13 (q := 14) rfl rfl rfl ?_
  refine v_getr h fl_X8_13 (by assumption) rfl (by assumption) dX8_copiesTask_14 (q := 17) rfl ?_
  refine v_iload_n h (i := 1) dX8_copiesTask_17 (q := 18) rfl rfl rfl ?_
  refine v_iload_n h (i := 3) dX8_copiesTask_18 (q := 19) rfl rfl rfl ?_
  refine v_callS1 h (c_X8_at hfl ) kX8_at rfl tw937 rfl rfl (by simp [Value.category]) (by decide) (Nat.zero_le _) (Nat.zero_le _) rfl dX8_copiesTask_19 (q := 22) rfl ?_
  refine v_iald h (by assumption) rfl (by first | assumption | omega) (by decide) dX8_copiesTask_22 (q := 23) rfl ?_
  refine v_aload_n h (i := 0) dX8_copiesTask_23 (q := 24) rfl rfl rfl ?_
  refine v_getr h fl_X8_16 (by assumption) rfl (by assumption) dX8_copiesTask_24 (q := 27) rfl ?_
  refine v_iload_n h (i := 1) dX8_copiesTask_27 (q := 28) rfl rfl rfl ?_
  refine v_iload_n h (i := 3) dX8_copiesTask_28 (q := 29) rfl rfl rfl ?_
  refine v_callS1 h (c_X8_at hfl ) kX8_at rfl tw937 rfl rfl (by simp [Value.category]) (by decide) (Nat.zero_le _) (Nat.zero_le _) rfl dX8_copiesTask_29 (q := 32) rfl ?_
  refine v_iald h (by assumption) rfl (by first | assumption | omega) (by decide) dX8_copiesTask_32 (q := 33) rfl ?_
  refine v_aload_n h (i := 0) dX8_copiesTask_33 (q := 34) rfl rfl rfl ?_
  refine v_getr h fl_X8_19 (by assumption) rfl (by assumption) dX8_copiesTask_34 (q := 37) rfl ?_
  refine v_iload_n h (i := 1) dX8_copiesTask_37 (q := 38) rfl rfl rfl ?_
  refine v_iload_n h (i := 3) dX8_copiesTask_38 (q := 39) rfl rfl rfl ?_
  refine v_callS1 h (c_X8_at hfl ) kX8_at rfl tw937 rfl rfl (by simp [Value.category]) (by decide) (Nat.zero_le _) (Nat.zero_le _) rfl dX8_copiesTask_39 (q := 42) rfl ?_
  refine v_iald h (by assumption) rfl (by first | assumption | omega) (by decide) dX8_copiesTask_42 (q := 43) rfl ?_
  refine v_callV0 h (c_X8_lays hfl hm ho ht) kX8_lays tw944 tw17 (by assumption) (by decide) rfl rfl rfl (by simp [Value.category]) (by decide) (Nat.zero_le _) (Nat.zero_le _) rfl dX8_copiesTask_43 (q := 46) rfl ?_
  refine v_vret h hQ rfl dX8_copiesTask_46 (Nat.zero_le _) (Nat.zero_le _) ⟨rfl, rfl, rfl, rfl, rfl⟩
set_option maxHeartbeats 4000000 in
set_option maxRecDepth 100000 in
theorem c_X8_copies {l : Launch} (hfl : l.stackTraces = false) {sz : Nat} {sk : pb_Sk} {rf : pb_Rf} {sg : pb_Sg} {M : Nat} (hm : pb_md sk rf M) {f o : Nat} (hf : f < 17) (ho : o < 17) : pb_Met l mX8_copies 4 0 0 [.ref M, .int (nI f), .int (nI o)] sz sk rf sg (pb_is none sz sk rf (pb_mcN sg M f o 16)) := by
  refine pb_start hfl (by decide +kernel) rfl (pb_c1 rfl) (Nat.le_of_ble_eq_true rfl) (fun F hF h hQ => ?_)
  subst hF
  show pv F 0 0 sz sk rf sg 0 [some (.ref M), some (.int (nI f)), some (.int (nI o)), none] []
  obtain ⟨hM0, hr1, hk1, hr2, hk2, hr3, hk3, hr4, hk4, hr5, hk5, hr6, hk6, hr7, hk7, hr8, hk8, hr9, hk9, hr10, hk10, hr11, hk11, hr12, hk12, hr13, hk13, hr14, hk14, hr15, hk15, hr16, hk16, hr17, hk17, hr18, hk18, hr19, hk19, hr20, hk20, hr21, hk21, hr22, hk22, hr23, hk23, hr24, hk24⟩ := id hm
  refine v_iconst h (v := nI 0) dX8_copies_0 (q := 1) rfl (by decide +kernel) ?_
  refine v_istore_n h (i := 3) dX8_copies_1 (q := 2) rfl rfl (Nat.le_of_ble_eq_true rfl) rfl ?_
  have lp : ∀ (j i : Nat), i + j = 16 → pv F 0 0 sz sk rf (pb_mcN sg M f o i) 2 [some (.ref M), some (.int (nI f)), some (.int (nI o)), some (.int (nI i))] [] := by
    intro j
    induction j with
    | zero =>
      intro i  hi
      obtain rfl : i = 16 := by omega
      refine v_iload_n h (i := 3) dX8_copies_2 (q := 3) rfl rfl rfl ?_
      refine v_bipush h (v := nI 16) dX8_copies_3 (q := 5) rfl (by decide +kernel) ?_
      refine v_icmp_ge h dX8_copies_5 (q := 8) rfl (tgt := 21) (by decide) (fun c1 => ?_) (fun c1 => pb_kle (Nat.le_refl _) (by decide) c1)
      refine v_vret h hQ rfl dX8_copies_21 (Nat.zero_le _) (Nat.zero_le _) ⟨rfl, rfl, rfl, rfl, rfl⟩
    | succ j ih =>
      intro i  hi
      have hi2 : i < 16 := by omega
      refine v_iload_n h (i := 3) dX8_copies_2 (q := 3) rfl rfl rfl ?_
      refine v_bipush h (v := nI 16) dX8_copies_3 (q := 5) rfl (by decide +kernel) ?_
      refine v_icmp_ge h dX8_copies_5 (q := 8) rfl (tgt := 21) (by decide) (fun c2 => pb_kge hi2 (by decide) c2) (fun c2 => ?_)
      refine v_aload_n h (i := 0) dX8_copies_8 (q := 9) rfl rfl rfl ?_
      refine v_iload_n h (i := 1) dX8_copies_9 (q := 10) rfl rfl rfl ?_
      refine v_iload_n h (i := 2) dX8_copies_10 (q := 11) rfl rfl rfl ?_
      refine v_iload_n h (i := 3) dX8_copies_11 (q := 12) rfl rfl rfl ?_
      refine v_callV0 h (c_X8_copiesTask hfl hm hf ho hi2) kX8_copiesTask tw1012 tw25 (by assumption) (by decide) rfl rfl rfl (by simp [Value.category]) (by decide) (Nat.zero_le _) (Nat.zero_le _) rfl dX8_copies_12 (q := 15) rfl ?_
      refine v_iinc h dX8_copies_15 (q := 18) rfl rfl pb_inc rfl ?_
      refine v_goto h dX8_copies_18 (tgt := 2) (by decide) ?_
      exact ih (i + 1) (by omega)
  exact lp 16 0 (by omega)
set_option maxHeartbeats 4000000 in
set_option maxRecDepth 100000 in
theorem c_X8_isSame {l : Launch} (hfl : l.stackTraces = false) {sz : Nat} {sk : pb_Sk} {rf : pb_Rf} {sg : pb_Sg} {M : Nat} (hm : pb_md sk rf M) {q r t : Nat} (hq : q < 17) (hr : r < 17) (ht : t < 16) : pb_Met l mX8_isSame 2 0 0 [.ref M, .int (nI q), .int (nI r), .int (nI t)] sz sk rf sg (pb_is (some (.int (pb_b (pb_msame sg M q r t)))) sz sk rf sg) := by
  refine pb_start hfl (by decide +kernel) rfl (pb_c1 rfl) (Nat.le_of_ble_eq_true rfl) (fun F hF h hQ => ?_)
  subst hF
  show pv F 0 0 sz sk rf sg 0 [some (.ref M), some (.int (nI q)), some (.int (nI r)), some (.int (nI t)), none, none] []
  obtain ⟨hM0, hr1, hk1, hr2, hk2, hr3, hk3, hr4, hk4, hr5, hk5, hr6, hk6, hr7, hk7, hr8, hk8, hr9, hk9, hr10, hk10, hr11, hk11, hr12, hk12, hr13, hk13, hr14, hk14, hr15, hk15, hr16, hk16, hr17, hk17, hr18, hk18, hr19, hk19, hr20, hk20, hr21, hk21, hr22, hk22, hr23, hk23, hr24, hk24⟩ := id hm
  refine v_iload_n h (i := 1) dX8_isSame_0 (q := 1) rfl rfl rfl ?_
  refine v_iload_n h (i := 3) dX8_isSame_1 (q := 2) rfl rfl rfl ?_
  refine v_callS1 h (c_X8_at hfl ) kX8_at rfl tw937 rfl rfl (by simp [Value.category]) (by decide) (Nat.zero_le _) (Nat.zero_le _) rfl dX8_isSame_2 (q := 5) rfl ?_
  refine v_istore h dX8_isSame_5 (q := 7) rfl (Nat.le_of_ble_eq_true rfl) rfl ?_
  refine v_iload_n h (i := 2) dX8_isSame_7 (q := 8) rfl rfl rfl ?_
  refine v_iload_n h (i := 3) dX8_isSame_8 (q := 9) rfl rfl rfl ?_
  refine v_callS1 h (c_X8_at hfl ) kX8_at rfl tw937 rfl rfl (by simp [Value.category]) (by decide) (Nat.zero_le _) (Nat.zero_le _) rfl dX8_isSame_9 (q := 12) rfl ?_
  refine v_istore h dX8_isSame_12 (q := 14) rfl (Nat.le_of_ble_eq_true rfl) rfl ?_
  refine v_aload_n h (i := 0) dX8_isSame_14 (q := 15) rfl rfl rfl ?_
  refine v_getr h fl_X8_7 (by assumption) rfl (by assumption) dX8_isSame_15 (q := 18) rfl ?_
  refine v_iload h dX8_isSame_18 (q := 20) rfl rfl ?_
  refine v_iald h (by assumption) rfl (by first | assumption | omega) (by decide) dX8_isSame_20 (q := 21) rfl ?_
  refine v_aload_n h (i := 0) dX8_isSame_21 (q := 22) rfl rfl rfl ?_
  refine v_getr h fl_X8_7 (by assumption) rfl (by assumption) dX8_isSame_22 (q := 25) rfl ?_
  refine v_iload h dX8_isSame_25 (q := 27) rfl rfl ?_
  refine v_iald h (by assumption) rfl (by first | assumption | omega) (by decide) dX8_isSame_27 (q := 28) rfl ?_
  refine v_icmp_ne h dX8_isSame_28 (q := 31) rfl (tgt := 86) (by decide) (fun c1 => ?_) (fun c1 => ?_)
  · skip
    have e65 : pb_b (pb_msame sg M q r t) = nI 0 := by unfold pb_msame; rw [decide_eq_false (fun q => c1 q.1)]; rfl
    refine v_iconst h (v := nI 0) dX8_isSame_86 (q := 87) rfl (by decide +kernel) ?_
    refine v_iret h hQ rfl (by first | exact rfl | exact pb_b_nar _) dX8_isSame_87 (Nat.zero_le _) (Nat.zero_le _) ⟨by rw [e65], rfl, rfl, rfl, rfl⟩
  · skip
    refine v_aload_n h (i := 0) dX8_isSame_31 (q := 32) rfl rfl rfl ?_
    refine v_getr h fl_X8_13 (by assumption) rfl (by assumption) dX8_isSame_32 (q := 35) rfl ?_
    refine v_iload h dX8_isSame_35 (q := 37) rfl rfl ?_
    refine v_iald h (by assumption) rfl (by first | assumption | omega) (by decide) dX8_isSame_37 (q := 38) rfl ?_
    refine v_aload_n h (i := 0) dX8_isSame_38 (q := 39) rfl rfl rfl ?_
    refine v_getr h fl_X8_13 (by assumption) rfl (by assumption) dX8_isSame_39 (q := 42) rfl ?_
    refine v_iload h dX8_isSame_42 (q := 44) rfl rfl ?_
    refine v_iald h (by assumption) rfl (by first | assumption | omega) (by decide) dX8_isSame_44 (q := 45) rfl ?_
    refine v_icmp_ne h dX8_isSame_45 (q := 48) rfl (tgt := 86) (by decide) (fun c2 => ?_) (fun c2 => ?_)
    · skip
      have e65 : pb_b (pb_msame sg M q r t) = nI 0 := by unfold pb_msame; rw [decide_eq_false (fun q => c2 q.2.1)]; rfl
      refine v_iconst h (v := nI 0) dX8_isSame_86 (q := 87) rfl (by decide +kernel) ?_
      refine v_iret h hQ rfl (by first | exact rfl | exact pb_b_nar _) dX8_isSame_87 (Nat.zero_le _) (Nat.zero_le _) ⟨by rw [e65], rfl, rfl, rfl, rfl⟩
    · skip
      refine v_aload_n h (i := 0) dX8_isSame_48 (q := 49) rfl rfl rfl ?_
      refine v_getr h fl_X8_16 (by assumption) rfl (by assumption) dX8_isSame_49 (q := 52) rfl ?_
      refine v_iload h dX8_isSame_52 (q := 54) rfl rfl ?_
      refine v_iald h (by assumption) rfl (by first | assumption | omega) (by decide) dX8_isSame_54 (q := 55) rfl ?_
      refine v_aload_n h (i := 0) dX8_isSame_55 (q := 56) rfl rfl rfl ?_
      refine v_getr h fl_X8_16 (by assumption) rfl (by assumption) dX8_isSame_56 (q := 59) rfl ?_
      refine v_iload h dX8_isSame_59 (q := 61) rfl rfl ?_
      refine v_iald h (by assumption) rfl (by first | assumption | omega) (by decide) dX8_isSame_61 (q := 62) rfl ?_
      refine v_icmp_ne h dX8_isSame_62 (q := 65) rfl (tgt := 86) (by decide) (fun c3 => ?_) (fun c3 => ?_)
      · skip
        have e65 : pb_b (pb_msame sg M q r t) = nI 0 := by unfold pb_msame; rw [decide_eq_false (fun q => c3 q.2.2.1)]; rfl
        refine v_iconst h (v := nI 0) dX8_isSame_86 (q := 87) rfl (by decide +kernel) ?_
        refine v_iret h hQ rfl (by first | exact rfl | exact pb_b_nar _) dX8_isSame_87 (Nat.zero_le _) (Nat.zero_le _) ⟨by rw [e65], rfl, rfl, rfl, rfl⟩
      · skip
        refine v_aload_n h (i := 0) dX8_isSame_65 (q := 66) rfl rfl rfl ?_
        refine v_getr h fl_X8_19 (by assumption) rfl (by assumption) dX8_isSame_66 (q := 69) rfl ?_
        refine v_iload h dX8_isSame_69 (q := 71) rfl rfl ?_
        refine v_iald h (by assumption) rfl (by first | assumption | omega) (by decide) dX8_isSame_71 (q := 72) rfl ?_
        refine v_aload_n h (i := 0) dX8_isSame_72 (q := 73) rfl rfl rfl ?_
        refine v_getr h fl_X8_19 (by assumption) rfl (by assumption) dX8_isSame_73 (q := 76) rfl ?_
        refine v_iload h dX8_isSame_76 (q := 78) rfl rfl ?_
        refine v_iald h (by assumption) rfl (by first | assumption | omega) (by decide) dX8_isSame_78 (q := 79) rfl ?_
        refine v_icmp_ne h dX8_isSame_79 (q := 82) rfl (tgt := 86) (by decide) (fun c4 => ?_) (fun c4 => ?_)
        · skip
          have e65 : pb_b (pb_msame sg M q r t) = nI 0 := by unfold pb_msame; rw [decide_eq_false (fun q => c4 q.2.2.2)]; rfl
          refine v_iconst h (v := nI 0) dX8_isSame_86 (q := 87) rfl (by decide +kernel) ?_
          refine v_iret h hQ rfl (by first | exact rfl | exact pb_b_nar _) dX8_isSame_87 (Nat.zero_le _) (Nat.zero_le _) ⟨by rw [e65], rfl, rfl, rfl, rfl⟩
        · skip
          have e65 : pb_b (pb_msame sg M q r t) = nI 1 := by unfold pb_msame; rw [decide_eq_true ⟨c1, c2, c3, c4⟩]; rfl
          refine v_iconst h (v := nI 1) dX8_isSame_82 (q := 83) rfl (by decide +kernel) ?_
          refine v_goto h dX8_isSame_83 (tgt := 87) (by decide) ?_
          refine v_iret h hQ rfl (by first | exact rfl | exact pb_b_nar _) dX8_isSame_87 (Nat.zero_le _) (Nat.zero_le _) ⟨by rw [e65], rfl, rfl, rfl, rfl⟩
set_option maxHeartbeats 4000000 in
set_option maxRecDepth 100000 in
theorem c_X8_isOpen {l : Launch} (hfl : l.stackTraces = false) {sz : Nat} {sk : pb_Sk} {rf : pb_Rf} {sg : pb_Sg} {x y z : Int32} : pb_Met l mX8_isOpen 1 0 0 [.int x, .int y, .int z] sz sk rf sg (pb_is (some (.int (pb_b (pb_apt x y z)))) sz sk rf sg) := by
  refine pb_start hfl (by decide +kernel) rfl (pb_c1 rfl) (Nat.le_of_ble_eq_true rfl) (fun F hF h hQ => ?_)
  subst hF
  show pv F 0 0 sz sk rf sg 0 [some (.int x), some (.int y), some (.int z)] []
  refine v_iload_n h (i := 0) dX8_isOpen_0 (q := 1) rfl rfl rfl ?_
  refine v_iload_n h (i := 2) dX8_isOpen_1 (q := 2) rfl rfl rfl ?_
  refine v_icmp_eq h dX8_isOpen_2 (q := 5) rfl (tgt := 19) (by decide) (fun c1 => ?_) (fun c1 => ?_)
  · skip
    have e9 : pb_b (pb_apt x y z) = nI 0 := by unfold pb_apt; rw [decide_eq_false (fun q => q.1 c1)]; rfl
    refine v_iconst h (v := nI 0) dX8_isOpen_19 (q := 20) rfl (by decide +kernel) ?_
    refine v_iret h hQ rfl (by first | exact rfl | exact pb_b_nar _) dX8_isOpen_20 (Nat.zero_le _) (Nat.zero_le _) ⟨by rw [e9], rfl, rfl, rfl, rfl⟩
  · skip
    refine v_iload_n h (i := 1) dX8_isOpen_5 (q := 6) rfl rfl rfl ?_
    refine v_iload_n h (i := 2) dX8_isOpen_6 (q := 7) rfl rfl rfl ?_
    refine v_icmp_eq h dX8_isOpen_7 (q := 10) rfl (tgt := 19) (by decide) (fun c2 => ?_) (fun c2 => ?_)
    · skip
      have e9 : pb_b (pb_apt x y z) = nI 0 := by unfold pb_apt; rw [decide_eq_false (fun q => q.2.1 c2)]; rfl
      refine v_iconst h (v := nI 0) dX8_isOpen_19 (q := 20) rfl (by decide +kernel) ?_
      refine v_iret h hQ rfl (by first | exact rfl | exact pb_b_nar _) dX8_isOpen_20 (Nat.zero_le _) (Nat.zero_le _) ⟨by rw [e9], rfl, rfl, rfl, rfl⟩
    · skip
      refine v_iload_n h (i := 0) dX8_isOpen_10 (q := 11) rfl rfl rfl ?_
      refine v_iload_n h (i := 1) dX8_isOpen_11 (q := 12) rfl rfl rfl ?_
      refine v_icmp_eq h dX8_isOpen_12 (q := 15) rfl (tgt := 19) (by decide) (fun c3 => ?_) (fun c3 => ?_)
      · skip
        have e9 : pb_b (pb_apt x y z) = nI 0 := by unfold pb_apt; rw [decide_eq_false (fun q => q.2.2 c3)]; rfl
        refine v_iconst h (v := nI 0) dX8_isOpen_19 (q := 20) rfl (by decide +kernel) ?_
        refine v_iret h hQ rfl (by first | exact rfl | exact pb_b_nar _) dX8_isOpen_20 (Nat.zero_le _) (Nat.zero_le _) ⟨by rw [e9], rfl, rfl, rfl, rfl⟩
      · skip
        have e9 : pb_b (pb_apt x y z) = nI 1 := by unfold pb_apt; rw [decide_eq_true ⟨c1, c2, c3⟩]; rfl
        refine v_iconst h (v := nI 1) dX8_isOpen_15 (q := 16) rfl (by decide +kernel) ?_
        refine v_goto h dX8_isOpen_16 (tgt := 20) (by decide) ?_
        refine v_iret h hQ rfl (by first | exact rfl | exact pb_b_nar _) dX8_isOpen_20 (Nat.zero_le _) (Nat.zero_le _) ⟨by rw [e9], rfl, rfl, rfl, rfl⟩
set_option maxHeartbeats 4000000 in
set_option maxRecDepth 100000 in
theorem c_X8_mixed {l : Launch} (hfl : l.stackTraces = false) {sz : Nat} {sk : pb_Sk} {rf : pb_Rf} {sg : pb_Sg} {x y z : Int32} : pb_Met l mX8_mixed 1 0 0 [.int x, .int y, .int z] sz sk rf sg (pb_is (some (.int (pb_mix x y z))) sz sk rf sg) := by
  refine pb_start hfl (by decide +kernel) rfl (pb_c1 rfl) (Nat.le_of_ble_eq_true rfl) (fun F hF h hQ => ?_)
  subst hF
  show pv F 0 0 sz sk rf sg 0 [some (.int x), some (.int y), some (.int z)] []
  refine v_iload_n h (i := 0) dX8_mixed_0 (q := 1) rfl rfl rfl ?_
  refine v_iload_n h (i := 2) dX8_mixed_1 (q := 2) rfl rfl rfl ?_
  refine v_icmp_ne h dX8_mixed_2 (q := 5) rfl (tgt := 9) (by decide) (fun c1 => ?_) (fun c1 => ?_)
  · skip
    have e9 : pb_mix x y z = x := if_neg c1
    refine v_iload_n h (i := 0) dX8_mixed_9 (q := 10) rfl rfl rfl ?_
    refine v_iret h hQ rfl rfl dX8_mixed_10 (Nat.zero_le _) (Nat.zero_le _) ⟨by rw [e9], rfl, rfl, rfl, rfl⟩
  · skip
    have e9 : pb_mix x y z = y := if_pos c1
    refine v_iload_n h (i := 1) dX8_mixed_5 (q := 6) rfl rfl rfl ?_
    refine v_goto h dX8_mixed_6 (tgt := 10) (by decide) ?_
    refine v_iret h hQ rfl rfl dX8_mixed_10 (Nat.zero_le _) (Nat.zero_le _) ⟨by rw [e9], rfl, rfl, rfl, rfl⟩
theorem pb_or0 (x : Int32) : x ||| nI 0 = x := by
  apply pb_in_ext; intro j hj; rw [pb_in_or, pb_in_0, Bool.or_false]
theorem pb_0or (x : Int32) : nI 0 ||| x = x := by
  apply pb_in_ext; intro j hj; rw [pb_in_or, pb_in_0, Bool.false_or]
set_option maxHeartbeats 4000000 in
set_option maxRecDepth 100000 in
theorem c_X8_tasks0 {l : Launch} (hfl : l.stackTraces = false) {sz : Nat} {sk : pb_Sk} {rf : pb_Rf} {sg : pb_Sg} {M : Nat} (hm : pb_md sk rf M) {q : Nat} (hq : q < 17) : pb_Met l mX8_tasks0 3 0 0 [.ref M, .int (nI q)] sz sk rf sg (pb_is (some (.int (pb_set (fun t => pb_has (sg (M + 1)) (16 * q + t)) 16))) sz sk rf sg) := by
  refine pb_start hfl (by decide +kernel) rfl (pb_c1 rfl) (Nat.le_of_ble_eq_true rfl) (fun F hF h hQ => ?_)
  subst hF
  show pv F 0 0 sz sk rf sg 0 [some (.ref M), some (.int (nI q)), none, none] []
  obtain ⟨hM0, hr1, hk1, hr2, hk2, hr3, hk3, hr4, hk4, hr5, hk5, hr6, hk6, hr7, hk7, hr8, hk8, hr9, hk9, hr10, hk10, hr11, hk11, hr12, hk12, hr13, hk13, hr14, hk14, hr15, hk15, hr16, hk16, hr17, hk17, hr18, hk18, hr19, hk19, hr20, hk20, hr21, hk21, hr22, hk22, hr23, hk23, hr24, hk24⟩ := id hm
  refine v_iconst h (v := nI 0) dX8_tasks0_0 (q := 1) rfl (by decide +kernel) ?_
  refine v_istore_n h (i := 2) dX8_tasks0_1 (q := 2) rfl rfl (Nat.le_of_ble_eq_true rfl) rfl ?_
  refine v_iconst h (v := nI 0) dX8_tasks0_2 (q := 3) rfl (by decide +kernel) ?_
  refine v_istore_n h (i := 3) dX8_tasks0_3 (q := 4) rfl rfl (Nat.le_of_ble_eq_true rfl) rfl ?_
  have lp : ∀ (j i : Nat), i + j = 16 → pv F 0 0 sz sk rf sg 4 [some (.ref M), some (.int (nI q)), some (.int (pb_set (fun t => pb_has (sg (M + 1)) (16 * q + t)) i)), some (.int (nI i))] [] := by
    intro j
    induction j with
    | zero =>
      intro i  hi
      obtain rfl : i = 16 := by omega
      refine v_iload_n h (i := 3) dX8_tasks0_4 (q := 5) rfl rfl rfl ?_
      refine v_bipush h (v := nI 16) dX8_tasks0_5 (q := 7) rfl (by decide +kernel) ?_
      refine v_icmp_ge h dX8_tasks0_7 (q := 10) rfl (tgt := 35) (by decide) (fun c1 => ?_) (fun c1 => pb_kle (Nat.le_refl _) (by decide) c1)
      refine v_iload_n h (i := 2) dX8_tasks0_35 (q := 36) rfl rfl rfl ?_
      refine v_iret h hQ rfl rfl dX8_tasks0_36 (Nat.zero_le _) (Nat.zero_le _) ⟨rfl, rfl, rfl, rfl, rfl⟩
    | succ j ih =>
      intro i  hi
      have hi2 : i < 16 := by omega
      refine v_iload_n h (i := 3) dX8_tasks0_4 (q := 5) rfl rfl rfl ?_
      refine v_bipush h (v := nI 16) dX8_tasks0_5 (q := 7) rfl (by decide +kernel) ?_
      refine v_icmp_ge h dX8_tasks0_7 (q := 10) rfl (tgt := 35) (by decide) (fun c2 => pb_kge hi2 (by decide) c2) (fun c2 => ?_)
      refine v_iload_n h (i := 2) dX8_tasks0_10 (q := 11) rfl rfl rfl ?_
      refine v_aload_n h (i := 0) dX8_tasks0_11 (q := 12) rfl rfl rfl ?_
      refine v_iload_n h (i := 1) dX8_tasks0_12 (q := 13) rfl rfl rfl ?_
      refine v_iload_n h (i := 3) dX8_tasks0_13 (q := 14) rfl rfl rfl ?_
      refine v_callV1 h (c_X8_isThere hfl hm hq hi2) kX8_isThere tw940 tw16 (by assumption) (by decide) rfl rfl rfl (by simp [Value.category]) (by decide) (Nat.zero_le _) (Nat.zero_le _) rfl dX8_tasks0_14 (q := 17) rfl ?_
      refine v_if_eq h dX8_tasks0_17 (q := 20) rfl (tgt := 26) (by decide) (fun c3 => ?_) (fun c3 => ?_)
      · skip
        have e8 := pb_b_0.mp c3
        have e9 := pb_set_f (c := (fun t => pb_has (sg (M + 1)) (16 * q + t))) (n := i) e8
        rw [← pb_or0 (pb_set (fun t => pb_has (sg (M + 1)) (16 * q + t)) i)] at e9
        refine v_iconst h (v := nI 0) dX8_tasks0_26 (q := 27) rfl (by decide +kernel) ?_
        refine v_ior h dX8_tasks0_27 (q := 28) rfl ?_
        refine v_istore_n h (i := 2) dX8_tasks0_28 (q := 29) rfl rfl (Nat.le_of_ble_eq_true rfl) rfl ?_
        refine v_iinc h dX8_tasks0_29 (q := 32) rfl rfl pb_inc rfl ?_
        refine v_goto h dX8_tasks0_32 (tgt := 4) (by decide) ?_
        have h9 := ih (i + 1) (by omega)
        rw [e9] at h9
        exact h9
      · skip
        have e8 := pb_ne_f (fun q => c3 (pb_b_0.mpr q))
        have e9 := pb_set_t (c := (fun t => pb_has (sg (M + 1)) (16 * q + t))) (n := i) e8
        refine v_iconst h (v := nI 1) dX8_tasks0_20 (q := 21) rfl (by decide +kernel) ?_
        refine v_iload_n h (i := 3) dX8_tasks0_21 (q := 22) rfl rfl rfl ?_
        refine v_ishl h dX8_tasks0_22 (q := 23) rfl ?_
        refine v_goto h dX8_tasks0_23 (tgt := 27) (by decide) ?_
        refine v_ior h dX8_tasks0_27 (q := 28) rfl ?_
        refine v_istore_n h (i := 2) dX8_tasks0_28 (q := 29) rfl rfl (Nat.le_of_ble_eq_true rfl) rfl ?_
        refine v_iinc h dX8_tasks0_29 (q := 32) rfl rfl pb_inc rfl ?_
        refine v_goto h dX8_tasks0_32 (tgt := 4) (by decide) ?_
        have h9 := ih (i + 1) (by omega)
        rw [e9] at h9
        exact h9
  exact lp 16 0 (by omega)
set_option maxHeartbeats 4000000 in
set_option maxRecDepth 100000 in
theorem c_X8_cost0 {l : Launch} (hfl : l.stackTraces = false) {sz : Nat} {sk : pb_Sk} {rf : pb_Rf} {sg : pb_Sg} {M : Nat} (hm : pb_md sk rf M) {q : Nat} (hq : q < 17) : pb_Met l mX8_cost0 3 0 0 [.ref M, .int (nI q)] sz sk rf sg (pb_is (some (.int (pb_sum (fun t => sg (M + 1) (16 * q + t) * sg (M + 3) (16 * q + t)) 16))) sz sk rf sg) := by
  refine pb_start hfl (by decide +kernel) rfl (pb_c1 rfl) (Nat.le_of_ble_eq_true rfl) (fun F hF h hQ => ?_)
  subst hF
  show pv F 0 0 sz sk rf sg 0 [some (.ref M), some (.int (nI q)), none, none] []
  obtain ⟨hM0, hr1, hk1, hr2, hk2, hr3, hk3, hr4, hk4, hr5, hk5, hr6, hk6, hr7, hk7, hr8, hk8, hr9, hk9, hr10, hk10, hr11, hk11, hr12, hk12, hr13, hk13, hr14, hk14, hr15, hk15, hr16, hk16, hr17, hk17, hr18, hk18, hr19, hk19, hr20, hk20, hr21, hk21, hr22, hk22, hr23, hk23, hr24, hk24⟩ := id hm
  refine v_iconst h (v := nI 0) dX8_cost0_0 (q := 1) rfl (by decide +kernel) ?_
  refine v_istore_n h (i := 2) dX8_cost0_1 (q := 2) rfl rfl (Nat.le_of_ble_eq_true rfl) rfl ?_
  refine v_iconst h (v := nI 0) dX8_cost0_2 (q := 3) rfl (by decide +kernel) ?_
  refine v_istore_n h (i := 3) dX8_cost0_3 (q := 4) rfl rfl (Nat.le_of_ble_eq_true rfl) rfl ?_
  have lp : ∀ (j i : Nat), i + j = 16 → pv F 0 0 sz sk rf sg 4 [some (.ref M), some (.int (nI q)), some (.int (pb_sum (fun t => sg (M + 1) (16 * q + t) * sg (M + 3) (16 * q + t)) i)), some (.int (nI i))] [] := by
    intro j
    induction j with
    | zero =>
      intro i  hi
      obtain rfl : i = 16 := by omega
      refine v_iload_n h (i := 3) dX8_cost0_4 (q := 5) rfl rfl rfl ?_
      refine v_bipush h (v := nI 16) dX8_cost0_5 (q := 7) rfl (by decide +kernel) ?_
      refine v_icmp_ge h dX8_cost0_7 (q := 10) rfl (tgt := 40) (by decide) (fun c1 => ?_) (fun c1 => pb_kle (Nat.le_refl _) (by decide) c1)
      refine v_iload_n h (i := 2) dX8_cost0_40 (q := 41) rfl rfl rfl ?_
      refine v_iret h hQ rfl rfl dX8_cost0_41 (Nat.zero_le _) (Nat.zero_le _) ⟨rfl, rfl, rfl, rfl, rfl⟩
    | succ j ih =>
      intro i  hi
      have hi2 : i < 16 := by omega
      refine v_iload_n h (i := 3) dX8_cost0_4 (q := 5) rfl rfl rfl ?_
      refine v_bipush h (v := nI 16) dX8_cost0_5 (q := 7) rfl (by decide +kernel) ?_
      refine v_icmp_ge h dX8_cost0_7 (q := 10) rfl (tgt := 40) (by decide) (fun c2 => pb_kge hi2 (by decide) c2) (fun c2 => ?_)
      refine v_iload_n h (i := 2) dX8_cost0_10 (q := 11) rfl rfl rfl ?_
      refine v_aload_n h (i := 0) dX8_cost0_11 (q := 12) rfl rfl rfl ?_
      refine v_getr h fl_X8_7 (by assumption) rfl (by assumption) dX8_cost0_12 (q := 15) rfl ?_
      refine v_iload_n h (i := 1) dX8_cost0_15 (q := 16) rfl rfl rfl ?_
      refine v_iload_n h (i := 3) dX8_cost0_16 (q := 17) rfl rfl rfl ?_
      refine v_callS1 h (c_X8_at hfl ) kX8_at rfl tw937 rfl rfl (by simp [Value.category]) (by decide) (Nat.zero_le _) (Nat.zero_le _) rfl dX8_cost0_17 (q := 20) rfl ?_
      refine v_iald h (by assumption) rfl (by first | assumption | omega) (by decide) dX8_cost0_20 (q := 21) rfl ?_
      refine v_aload_n h (i := 0) dX8_cost0_21 (q := 22) rfl rfl rfl ?_
      refine v_getr h fl_X8_16 (by assumption) rfl (by assumption) dX8_cost0_22 (q := 25) rfl ?_
      refine v_iload_n h (i := 1) dX8_cost0_25 (q := 26) rfl rfl rfl ?_
      refine v_iload_n h (i := 3) dX8_cost0_26 (q := 27) rfl rfl rfl ?_
      refine v_callS1 h (c_X8_at hfl ) kX8_at rfl tw937 rfl rfl (by simp [Value.category]) (by decide) (Nat.zero_le _) (Nat.zero_le _) rfl dX8_cost0_27 (q := 30) rfl ?_
      refine v_iald h (by assumption) rfl (by first | assumption | omega) (by decide) dX8_cost0_30 (q := 31) rfl ?_
      refine v_imul h dX8_cost0_31 (q := 32) rfl ?_
      refine v_iadd h dX8_cost0_32 (q := 33) rfl ?_
      refine v_istore_n h (i := 2) dX8_cost0_33 (q := 34) rfl rfl (Nat.le_of_ble_eq_true rfl) rfl ?_
      refine v_iinc h dX8_cost0_34 (q := 37) rfl rfl pb_inc rfl ?_
      refine v_goto h dX8_cost0_37 (tgt := 4) (by decide) ?_
      exact ih (i + 1) (by omega)
  exact lp 16 0 (by omega)
set_option maxHeartbeats 4000000 in
set_option maxRecDepth 100000 in
theorem c_X8_forgets {l : Launch} (hfl : l.stackTraces = false) {sz : Nat} {sk : pb_Sk} {rf : pb_Rf} {sg : pb_Sg} {M : Nat} (hm : pb_md sk rf M) {b : Nat} (hb : b < 8) : pb_Met l mX8_forgets 3 0 0 [.ref M, .int (nI b)] sz sk rf sg (pb_is none sz sk rf (pb_fillN sg (M + 7) (16 * b) (-1) 16)) := by
  refine pb_start hfl (by decide +kernel) rfl (pb_c1 rfl) (Nat.le_of_ble_eq_true rfl) (fun F hF h hQ => ?_)
  subst hF
  show pv F 0 0 sz sk rf sg 0 [some (.ref M), some (.int (nI b)), none] []
  obtain ⟨hM0, hr1, hk1, hr2, hk2, hr3, hk3, hr4, hk4, hr5, hk5, hr6, hk6, hr7, hk7, hr8, hk8, hr9, hk9, hr10, hk10, hr11, hk11, hr12, hk12, hr13, hk13, hr14, hk14, hr15, hk15, hr16, hk16, hr17, hk17, hr18, hk18, hr19, hk19, hr20, hk20, hr21, hk21, hr22, hk22, hr23, hk23, hr24, hk24⟩ := id hm
  refine v_iconst h (v := nI 0) dX8_forgets_0 (q := 1) rfl (by decide +kernel) ?_
  refine v_istore_n h (i := 2) dX8_forgets_1 (q := 2) rfl rfl (Nat.le_of_ble_eq_true rfl) rfl ?_
  have lp : ∀ (j i : Nat), i + j = 16 → pv F 0 0 sz sk rf (pb_fillN sg (M + 7) (16 * b) (-1) i) 2 [some (.ref M), some (.int (nI b)), some (.int (nI i))] [] := by
    intro j
    induction j with
    | zero =>
      intro i  hi
      obtain rfl : i = 16 := by omega
      refine v_iload_n h (i := 2) dX8_forgets_2 (q := 3) rfl rfl rfl ?_
      refine v_bipush h (v := nI 16) dX8_forgets_3 (q := 5) rfl (by decide +kernel) ?_
      refine v_icmp_ge h dX8_forgets_5 (q := 8) rfl (tgt := 25) (by decide) (fun c1 => ?_) (fun c1 => pb_kle (Nat.le_refl _) (by decide) c1)
      refine v_vret h hQ rfl dX8_forgets_25 (Nat.zero_le _) (Nat.zero_le _) ⟨rfl, rfl, rfl, rfl, rfl⟩
    | succ j ih =>
      intro i  hi
      have hi2 : i < 16 := by omega
      refine v_iload_n h (i := 2) dX8_forgets_2 (q := 3) rfl rfl rfl ?_
      refine v_bipush h (v := nI 16) dX8_forgets_3 (q := 5) rfl (by decide +kernel) ?_
      refine v_icmp_ge h dX8_forgets_5 (q := 8) rfl (tgt := 25) (by decide) (fun c2 => pb_kge hi2 (by decide) c2) (fun c2 => ?_)
      refine v_aload_n h (i := 0) dX8_forgets_8 (q := 9) rfl rfl rfl ?_
      refine v_getr h fl_X8_28 (by assumption) rfl (by assumption) dX8_forgets_9 (q := 12) rfl ?_
      refine v_iload_n h (i := 1) dX8_forgets_12 (q := 13) rfl rfl rfl ?_
      refine v_iload_n h (i := 2) dX8_forgets_13 (q := 14) rfl rfl rfl ?_
      refine v_callS1 h (c_X8_at hfl ) kX8_at rfl tw937 rfl rfl (by simp [Value.category]) (by decide) (Nat.zero_le _) (Nat.zero_le _) rfl dX8_forgets_14 (q := 17) rfl ?_
      refine v_iconst h (v := (-1)) dX8_forgets_17 (q := 18) rfl (by decide +kernel) ?_
      refine v_iast h (by assumption) rfl (by first | assumption | omega) (by decide) dX8_forgets_18 (q := 19) rfl ?_
      refine v_iinc h dX8_forgets_19 (q := 22) rfl rfl pb_inc rfl ?_
      refine v_goto h dX8_forgets_22 (tgt := 2) (by decide) ?_
      exact ih (i + 1) (by omega)
  exact lp 16 0 (by omega)
def pb_any (c : Nat → Bool) : Nat → Bool
  | 0 => false
  | n + 1 => pb_any c n || c n
set_option maxHeartbeats 4000000 in
set_option maxRecDepth 100000 in
theorem c_X8_isNeeded {l : Launch} (hfl : l.stackTraces = false) {sz : Nat} {sk : pb_Sk} {rf : pb_Rf} {sg : pb_Sg} {M : Nat} (hm : pb_md sk rf M) {q t : Nat} (hq : q < 17) (ht : t < 16) : pb_Met l mX8_isNeeded 3 0 0 [.ref M, .int (nI q), .int (nI t)] sz sk rf sg (pb_is (some (.int (pb_b (pb_any (fun k => pb_in (sg (M + 4) (16 * q + k)) t) 16)))) sz sk rf sg) := by
  refine pb_start hfl (by decide +kernel) rfl (pb_c1 rfl) (Nat.le_of_ble_eq_true rfl) (fun F hF h hQ => ?_)
  subst hF
  show pv F 0 0 sz sk rf sg 0 [some (.ref M), some (.int (nI q)), some (.int (nI t)), none, none] []
  obtain ⟨hM0, hr1, hk1, hr2, hk2, hr3, hk3, hr4, hk4, hr5, hk5, hr6, hk6, hr7, hk7, hr8, hk8, hr9, hk9, hr10, hk10, hr11, hk11, hr12, hk12, hr13, hk13, hr14, hk14, hr15, hk15, hr16, hk16, hr17, hk17, hr18, hk18, hr19, hk19, hr20, hk20, hr21, hk21, hr22, hk22, hr23, hk23, hr24, hk24⟩ := id hm
  refine v_iconst h (v := nI 0) dX8_isNeeded_0 (q := 1) rfl (by decide +kernel) ?_
  refine v_istore_n h (i := 3) dX8_isNeeded_1 (q := 2) rfl rfl (Nat.le_of_ble_eq_true rfl) rfl ?_
  refine v_iconst h (v := nI 0) dX8_isNeeded_2 (q := 3) rfl (by decide +kernel) ?_
  refine v_istore h dX8_isNeeded_3 (q := 5) rfl (Nat.le_of_ble_eq_true rfl) rfl ?_
  have lp : ∀ (j i : Nat), i + j = 16 → pv F 0 0 sz sk rf sg 5 [some (.ref M), some (.int (nI q)), some (.int (nI t)), some (.int (pb_b (pb_any (fun k => pb_in (sg (M + 4) (16 * q + k)) t) i))), some (.int (nI i))] [] := by
    intro j
    induction j with
    | zero =>
      intro i  hi
      obtain rfl : i = 16 := by omega
      refine v_iload h dX8_isNeeded_5 (q := 7) rfl rfl ?_
      refine v_bipush h (v := nI 16) dX8_isNeeded_7 (q := 9) rfl (by decide +kernel) ?_
      refine v_icmp_ge h dX8_isNeeded_9 (q := 12) rfl (tgt := 39) (by decide) (fun c1 => ?_) (fun c1 => pb_kle (Nat.le_refl _) (by decide) c1)
      refine v_iload_n h (i := 3) dX8_isNeeded_39 (q := 40) rfl rfl rfl ?_
      refine v_iret h hQ rfl (by first | exact rfl | exact pb_b_nar _) dX8_isNeeded_40 (Nat.zero_le _) (Nat.zero_le _) ⟨rfl, rfl, rfl, rfl, rfl⟩
    | succ j ih =>
      intro i  hi
      have hi2 : i < 16 := by omega
      refine v_iload h dX8_isNeeded_5 (q := 7) rfl rfl ?_
      refine v_bipush h (v := nI 16) dX8_isNeeded_7 (q := 9) rfl (by decide +kernel) ?_
      refine v_icmp_ge h dX8_isNeeded_9 (q := 12) rfl (tgt := 39) (by decide) (fun c2 => pb_kge hi2 (by decide) c2) (fun c2 => ?_)
      refine v_iload_n h (i := 3) dX8_isNeeded_12 (q := 13) rfl rfl rfl ?_
      refine v_if_ne h dX8_isNeeded_13 (q := 16) rfl (tgt := 27) (by decide) (fun c3 => ?_) (fun c3 => ?_)
      · skip
        have e7 := pb_ne_f (fun q => c3 (pb_b_0.mpr q))
        have e9 : pb_b (pb_any (fun k => pb_in (sg (M + 4) (16 * q + k)) t) (i + 1)) = nI 1 := by show pb_b (pb_any _ i || _) = _; rw [e7]; rfl
        refine v_iconst h (v := nI 1) dX8_isNeeded_27 (q := 28) rfl (by decide +kernel) ?_
        refine v_goto h dX8_isNeeded_28 (tgt := 32) (by decide) ?_
        refine v_istore_n h (i := 3) dX8_isNeeded_32 (q := 33) rfl rfl (Nat.le_of_ble_eq_true rfl) rfl ?_
        refine v_iinc h dX8_isNeeded_33 (q := 36) rfl rfl pb_inc rfl ?_
        refine v_goto h dX8_isNeeded_36 (tgt := 5) (by decide) ?_
        have h9 := ih (i + 1) (by omega)
        rw [e9] at h9
        exact h9
      · skip
        have e7 := pb_b_0.mp c3
        refine v_aload_n h (i := 0) dX8_isNeeded_16 (q := 17) rfl rfl rfl ?_
        refine v_iload_n h (i := 1) dX8_isNeeded_17 (q := 18) rfl rfl rfl ?_
        refine v_iload h dX8_isNeeded_18 (q := 20) rfl rfl ?_
        refine v_iload_n h (i := 2) dX8_isNeeded_20 (q := 21) rfl rfl rfl ?_
        refine v_callV1 h (c_X8_doesNeed hfl hm hq hi2 ht) kX8_doesNeed tw956 tw19 (by assumption) (by decide) rfl rfl rfl (by simp [Value.category]) (by decide) (Nat.zero_le _) (Nat.zero_le _) rfl dX8_isNeeded_21 (q := 24) rfl ?_
        refine v_if_eq h dX8_isNeeded_24 (q := 27) rfl (tgt := 31) (by decide) (fun c4 => ?_) (fun c4 => ?_)
        · skip
          have e8 := pb_b_0.mp c4
          have e9 : pb_b (pb_any (fun k => pb_in (sg (M + 4) (16 * q + k)) t) (i + 1)) = nI 0 := by show pb_b (pb_any _ i || pb_in _ t) = _; rw [e7, e8]; rfl
          refine v_iconst h (v := nI 0) dX8_isNeeded_31 (q := 32) rfl (by decide +kernel) ?_
          refine v_istore_n h (i := 3) dX8_isNeeded_32 (q := 33) rfl rfl (Nat.le_of_ble_eq_true rfl) rfl ?_
          refine v_iinc h dX8_isNeeded_33 (q := 36) rfl rfl pb_inc rfl ?_
          refine v_goto h dX8_isNeeded_36 (tgt := 5) (by decide) ?_
          have h9 := ih (i + 1) (by omega)
          rw [e9] at h9
          exact h9
        · skip
          have e8 := pb_ne_f (fun q => c4 (pb_b_0.mpr q))
          have e9 : pb_b (pb_any (fun k => pb_in (sg (M + 4) (16 * q + k)) t) (i + 1)) = nI 1 := by show pb_b (pb_any _ i || pb_in _ t) = _; rw [e7, e8]; rfl
          refine v_iconst h (v := nI 1) dX8_isNeeded_27 (q := 28) rfl (by decide +kernel) ?_
          refine v_goto h dX8_isNeeded_28 (tgt := 32) (by decide) ?_
          refine v_istore_n h (i := 3) dX8_isNeeded_32 (q := 33) rfl rfl (Nat.le_of_ble_eq_true rfl) rfl ?_
          refine v_iinc h dX8_isNeeded_33 (q := 36) rfl rfl pb_inc rfl ?_
          refine v_goto h dX8_isNeeded_36 (tgt := 5) (by decide) ?_
          have h9 := ih (i + 1) (by omega)
          rw [e9] at h9
          exact h9
  exact lp 16 0 (by omega)
set_option maxHeartbeats 4000000 in
set_option maxRecDepth 100000 in
theorem c_X8_count {l : Launch} (hfl : l.stackTraces = false) {sz : Nat} {sk : pb_Sk} {rf : pb_Rf} {sg : pb_Sg} {x : Int32} : pb_Met l mX8_count 1 0 0 [.int x] sz sk rf sg (pb_is (some (.int (pb_sum (fun t => (x >>> (nI t &&& 31)) &&& nI 1) 16))) sz sk rf sg) := by
  refine pb_start hfl (by decide +kernel) rfl (pb_c1 rfl) (Nat.le_of_ble_eq_true rfl) (fun F hF h hQ => ?_)
  subst hF
  show pv F 0 0 sz sk rf sg 0 [some (.int x), none, none] []
  refine v_iconst h (v := nI 0) dX8_count_0 (q := 1) rfl (by decide +kernel) ?_
  refine v_istore_n h (i := 1) dX8_count_1 (q := 2) rfl rfl (Nat.le_of_ble_eq_true rfl) rfl ?_
  refine v_iconst h (v := nI 0) dX8_count_2 (q := 3) rfl (by decide +kernel) ?_
  refine v_istore_n h (i := 2) dX8_count_3 (q := 4) rfl rfl (Nat.le_of_ble_eq_true rfl) rfl ?_
  have lp : ∀ (j i : Nat), i + j = 16 → pv F 0 0 sz sk rf sg 4 [some (.int x), some (.int (pb_sum (fun t => (x >>> (nI t &&& 31)) &&& nI 1) i)), some (.int (nI i))] [] := by
    intro j
    induction j with
    | zero =>
      intro i  hi
      obtain rfl : i = 16 := by omega
      refine v_iload_n h (i := 2) dX8_count_4 (q := 5) rfl rfl rfl ?_
      refine v_bipush h (v := nI 16) dX8_count_5 (q := 7) rfl (by decide +kernel) ?_
      refine v_icmp_ge h dX8_count_7 (q := 10) rfl (tgt := 24) (by decide) (fun c1 => ?_) (fun c1 => pb_kle (Nat.le_refl _) (by decide) c1)
      refine v_iload_n h (i := 1) dX8_count_24 (q := 25) rfl rfl rfl ?_
      refine v_iret h hQ rfl rfl dX8_count_25 (Nat.zero_le _) (Nat.zero_le _) ⟨rfl, rfl, rfl, rfl, rfl⟩
    | succ j ih =>
      intro i  hi
      have hi2 : i < 16 := by omega
      refine v_iload_n h (i := 2) dX8_count_4 (q := 5) rfl rfl rfl ?_
      refine v_bipush h (v := nI 16) dX8_count_5 (q := 7) rfl (by decide +kernel) ?_
      refine v_icmp_ge h dX8_count_7 (q := 10) rfl (tgt := 24) (by decide) (fun c2 => pb_kge hi2 (by decide) c2) (fun c2 => ?_)
      refine v_iload_n h (i := 1) dX8_count_10 (q := 11) rfl rfl rfl ?_
      refine v_iload_n h (i := 0) dX8_count_11 (q := 12) rfl rfl rfl ?_
      refine v_iload_n h (i := 2) dX8_count_12 (q := 13) rfl rfl rfl ?_
      refine v_ishr h dX8_count_13 (q := 14) rfl ?_
      refine v_iconst h (v := nI 1) dX8_count_14 (q := 15) rfl (by decide +kernel) ?_
      refine v_iand h dX8_count_15 (q := 16) rfl ?_
      refine v_iadd h dX8_count_16 (q := 17) rfl ?_
      refine v_istore_n h (i := 1) dX8_count_17 (q := 18) rfl rfl (Nat.le_of_ble_eq_true rfl) rfl ?_
      refine v_iinc h dX8_count_18 (q := 21) rfl rfl pb_inc rfl ?_
      refine v_goto h dX8_count_21 (tgt := 4) (by decide) ?_
      exact ih (i + 1) (by omega)
  exact lp 16 0 (by omega)
set_option maxHeartbeats 4000000 in
set_option maxRecDepth 100000 in
theorem c_X8_lowest {l : Launch} (hfl : l.stackTraces = false) {sz : Nat} {sk : pb_Sk} {rf : pb_Rf} {sg : pb_Sg} {x : Int32} : pb_Met l mX8_lowest 1 0 0 [.int x] sz sk rf sg (pb_is (some (.int (pb_low x 16))) sz sk rf sg) := by
  refine pb_start hfl (by decide +kernel) rfl (pb_c1 rfl) (Nat.le_of_ble_eq_true rfl) (fun F hF h hQ => ?_)
  subst hF
  show pv F 0 0 sz sk rf sg 0 [some (.int x), none] []
  refine v_iconst h (v := nI 0) dX8_lowest_0 (q := 1) rfl (by decide +kernel) ?_
  refine v_istore_n h (i := 1) dX8_lowest_1 (q := 2) rfl rfl (Nat.le_of_ble_eq_true rfl) rfl ?_
  have lp : ∀ (j i : Nat), i + j = 16 → pb_low x j = pb_low x 16 → pv F 0 0 sz sk rf sg 2 [some (.int x), some (.int (nI i))] [] := by
    intro j
    induction j with
    | zero =>
      intro i  hi hy0
      obtain rfl : i = 16 := by omega
      refine v_iload_n h (i := 1) dX8_lowest_2 (q := 3) rfl rfl rfl ?_
      refine v_bipush h (v := nI 16) dX8_lowest_3 (q := 5) rfl (by decide +kernel) ?_
      refine v_icmp_ge h dX8_lowest_5 (q := 8) rfl (tgt := 22) (by decide) (fun c1 => ?_) (fun c1 => pb_kle (Nat.le_refl _) (by decide) c1)
      refine v_iload_n h (i := 1) dX8_lowest_22 (q := 23) rfl rfl rfl ?_
      refine v_bipush h (v := nI 16) dX8_lowest_23 (q := 25) rfl (by decide +kernel) ?_
      refine v_icmp_ne h dX8_lowest_25 (q := 28) rfl (tgt := 32) (by decide) (fun c2 => absurd rfl c2) (fun c2 => ?_)
      refine v_iconst h (v := (-1)) dX8_lowest_28 (q := 29) rfl (by decide +kernel) ?_
      refine v_goto h dX8_lowest_29 (tgt := 33) (by decide) ?_
      refine v_iret h hQ rfl rfl dX8_lowest_33 (Nat.zero_le _) (Nat.zero_le _) ⟨by rw [← hy0]; rfl, rfl, rfl, rfl, rfl⟩
    | succ j ih =>
      intro i  hi hy0
      have hi2 : i < 16 := by omega
      refine v_iload_n h (i := 1) dX8_lowest_2 (q := 3) rfl rfl rfl ?_
      refine v_bipush h (v := nI 16) dX8_lowest_3 (q := 5) rfl (by decide +kernel) ?_
      refine v_icmp_ge h dX8_lowest_5 (q := 8) rfl (tgt := 22) (by decide) (fun c3 => pb_kge hi2 (by decide) c3) (fun c3 => ?_)
      refine v_iload_n h (i := 0) dX8_lowest_8 (q := 9) rfl rfl rfl ?_
      refine v_iload_n h (i := 1) dX8_lowest_9 (q := 10) rfl rfl rfl ?_
      refine v_ishr h dX8_lowest_10 (q := 11) rfl ?_
      refine v_iconst h (v := nI 1) dX8_lowest_11 (q := 12) rfl (by decide +kernel) ?_
      refine v_iand h dX8_lowest_12 (q := 13) rfl ?_
      refine v_if_ne h dX8_lowest_13 (q := 16) rfl (tgt := 22) (by decide) (fun c4 => ?_) (fun c4 => ?_)
      · skip
        have e8 := pb_ne_f (fun q => c4 ((pb_in_sh (show i < 32 by omega)).mpr q))
        have e9 : pb_low x 16 = nI i := by rw [← hy0]; show (if pb_in x (15 - j) = true then _ else _) = _; rw [show 15 - j = i by omega, if_pos e8]
        refine v_iload_n h (i := 1) dX8_lowest_22 (q := 23) rfl rfl rfl ?_
        refine v_bipush h (v := nI 16) dX8_lowest_23 (q := 25) rfl (by decide +kernel) ?_
        refine v_icmp_ne h dX8_lowest_25 (q := 28) rfl (tgt := 32) (by decide) (fun c5 => ?_) (fun c5 => absurd ((nI_eq (by omega) (by decide)).mp c5) (by omega))
        refine v_iload_n h (i := 1) dX8_lowest_32 (q := 33) rfl rfl rfl ?_
        refine v_iret h hQ rfl rfl dX8_lowest_33 (Nat.zero_le _) (Nat.zero_le _) ⟨by rw [e9], rfl, rfl, rfl, rfl⟩
      · skip
        have e8 := (pb_in_sh (show i < 32 by omega)).mp c4
        refine v_iinc h dX8_lowest_16 (q := 19) rfl rfl pb_inc rfl ?_
        refine v_goto h dX8_lowest_19 (tgt := 2) (by decide) ?_
        refine ih (i + 1) (by omega) ?_
        rw [← hy0]
        show _ = if pb_in x (15 - j) = true then _ else _
        rw [show 15 - j = i by omega, if_neg (by rw [e8]; decide)]
  exact lp 16 0 (by omega) rfl
