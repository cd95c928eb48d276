set_option maxHeartbeats 4000000 in
set_option maxRecDepth 100000 in
theorem c2_X8_isTask {l : Launch} (hfl : l.stackTraces = false) {sz : Nat} {sk : pb_Sk} {rf : pb_Rf} {sg : pb_Sg} {x : Int32} (hx : nI 0 ≤ x ∧ x ≤ nI 15) : pb_Met l mX8_isTask 2 0 0 [.int x] sz sk rf sg (pb_is (some (.int (nI 1))) sz sk rf sg) := by
  refine pb_start hfl (by decide +kernel) rfl (pb_c1 rfl) (Nat.le_of_ble_eq_true rfl) (fun F hF h hQ => ?_)
  subst hF
  show pv F 0 0 sz sk rf sg 0 [some (.int x)] []
  refine v_iload_n h (i := 0) dX8_isTask_0 (q := 1) rfl rfl rfl ?_
  refine v_iconst h (v := nI 0) dX8_isTask_1 (q := 2) rfl (by decide +kernel) ?_
  refine v_bipush h (v := nI 15) dX8_isTask_2 (q := 4) rfl (by decide +kernel) ?_
  refine v_callS1 h (c_X8_isIn hfl hx) kX8_isIn rfl tw922 rfl rfl (by simp [Value.category]) (by decide) (Nat.zero_le _) (Nat.zero_le _) rfl dX8_isTask_4 (q := 7) rfl ?_
  refine v_iret h hQ rfl (by first | exact rfl | exact pb_b_nar _) dX8_isTask_7 (Nat.zero_le _) (Nat.zero_le _) ⟨rfl, rfl, rfl, rfl, rfl⟩
set_option maxHeartbeats 4000000 in
set_option maxRecDepth 100000 in
theorem c2_X8_isCrew {l : Launch} (hfl : l.stackTraces = false) {sz : Nat} {sk : pb_Sk} {rf : pb_Rf} {sg : pb_Sg} {x : Int32} (hx : nI 0 ≤ x ∧ x ≤ nI 4) : pb_Met l mX8_isCrew 2 0 0 [.int x] sz sk rf sg (pb_is (some (.int (nI 1))) sz sk rf sg) := by
  refine pb_start hfl (by decide +kernel) rfl (pb_c1 rfl) (Nat.le_of_ble_eq_true rfl) (fun F hF h hQ => ?_)
  subst hF
  show pv F 0 0 sz sk rf sg 0 [some (.int x)] []
  refine v_iload_n h (i := 0) dX8_isCrew_0 (q := 1) rfl rfl rfl ?_
  refine v_iconst h (v := nI 0) dX8_isCrew_1 (q := 2) rfl (by decide +kernel) ?_
  refine v_iconst h (v := nI 4) dX8_isCrew_2 (q := 3) rfl (by decide +kernel) ?_
  refine v_callS1 h (c_X8_isIn hfl hx) kX8_isIn rfl tw922 rfl rfl (by simp [Value.category]) (by decide) (Nat.zero_le _) (Nat.zero_le _) rfl dX8_isCrew_3 (q := 6) rfl ?_
  refine v_iret h hQ rfl (by first | exact rfl | exact pb_b_nar _) dX8_isCrew_6 (Nat.zero_le _) (Nat.zero_le _) ⟨rfl, rfl, rfl, rfl, rfl⟩
set_option maxHeartbeats 4000000 in
set_option maxRecDepth 100000 in
theorem c2_X8_isDay {l : Launch} (hfl : l.stackTraces = false) {sz : Nat} {sk : pb_Sk} {rf : pb_Rf} {sg : pb_Sg} {x : Int32} (hx : nI 0 ≤ x ∧ x ≤ nI 399) : pb_Met l mX8_isDay 2 0 0 [.int x] sz sk rf sg (pb_is (some (.int (nI 1))) sz sk rf sg) := by
  refine pb_start hfl (by decide +kernel) rfl (pb_c1 rfl) (Nat.le_of_ble_eq_true rfl) (fun F hF h hQ => ?_)
  subst hF
  show pv F 0 0 sz sk rf sg 0 [some (.int x)] []
  refine v_iload_n h (i := 0) dX8_isDay_0 (q := 1) rfl rfl rfl ?_
  refine v_iconst h (v := nI 0) dX8_isDay_1 (q := 2) rfl (by decide +kernel) ?_
  refine v_sipush h (v := nI 399) dX8_isDay_2 (q := 5) rfl (by decide +kernel) ?_
  refine v_callS1 h (c_X8_isIn hfl hx) kX8_isIn rfl tw922 rfl rfl (by simp [Value.category]) (by decide) (Nat.zero_le _) (Nat.zero_le _) rfl dX8_isDay_5 (q := 8) rfl ?_
  refine v_iret h hQ rfl (by first | exact rfl | exact pb_b_nar _) dX8_isDay_8 (Nat.zero_le _) (Nat.zero_le _) ⟨rfl, rfl, rfl, rfl, rfl⟩
set_option maxHeartbeats 4000000 in
set_option maxRecDepth 100000 in
theorem c_X8_asks {l : Launch} (hfl : l.stackTraces = false) {sz : Nat} {sk : pb_Sk} {rf : pb_Rf} {sg : pb_Sg} {M : Nat} (hm : pb_md sk rf M) {n : Nat} (hn : sg M 8 = nI n) (hn8 : 1 ≤ n ∧ n ≤ 8) {b : Nat} (hb : b < n) {t : Nat} (ht : t < 16) : pb_Met l mX8_asks 4 0 0 [.ref M, .int (nI b), .int (nI t)] sz sk rf sg (pb_is (some (.int (nI 1))) sz sk rf (pb_up sg M 0 (nI 0))) := by
  refine pb_start hfl (by decide +kernel) rfl (pb_c1 rfl) (Nat.le_of_ble_eq_true rfl) (fun F hF h hQ => ?_)
  subst hF
  show pv F 0 0 sz sk rf sg 0 [some (.ref M), some (.int (nI b)), some (.int (nI t))] []
  obtain ⟨hM0, hr1, hk1, hr2, hk2, hr3, hk3, hr4, hk4, hr5, hk5, hr6, hk6, hr7, hk7, hr8, hk8, hr9, hk9, hr10, hk10, hr11, hk11, hr12, hk12, hr13, hk13, hr14, hk14, hr15, hk15, hr16, hk16, hr17, hk17, hr18, hk18, hr19, hk19, hr20, hk20, hr21, hk21, hr22, hk22, hr23, hk23, hr24, hk24⟩ := id hm
  refine v_aload_n h (i := 0) dX8_asks_0 (q := 1) rfl rfl rfl ?_
  refine v_aload_n h (i := 0) dX8_asks_1 (q := 2) rfl rfl rfl ?_
  refine v_iload_n h (i := 1) dX8_asks_2 (q := 3) rfl rfl rfl ?_
  refine v_callV1 h (c_X8_isBranch hfl hm hb hn hn8.2) kX8_isBranch tw925 tw13 (by assumption) (by decide) rfl rfl rfl (by simp [Value.category]) (by decide) (Nat.zero_le _) (Nat.zero_le _) rfl dX8_asks_3 (q := 6) rfl ?_
  refine v_if_ne h dX8_asks_6 (q := 9) rfl (tgt := 13) (by decide) (fun c1 => ?_) (fun c1 => absurd c1 (by decide))
  refine v_iload_n h (i := 2) dX8_asks_13 (q := 14) rfl rfl rfl ?_
  refine v_callS1 h (c_X8_isTask hfl ht) kX8_isTask rfl tw919 rfl rfl (by simp [Value.category]) (by decide) (Nat.zero_le _) (Nat.zero_le _) rfl dX8_asks_14 (q := 17) rfl ?_
  refine v_if_ne h dX8_asks_17 (q := 20) rfl (tgt := 24) (by decide) (fun c2 => ?_) (fun c2 => absurd c2 (by decide))
  refine v_iconst h (v := nI 0) dX8_asks_24 (q := 25) rfl (by decide +kernel) ?_
  refine v_callV1 h (c_X8_isFine hfl hm) kX8_isFine tw929 tw14 (by assumption) (by decide) rfl rfl rfl (by simp [Value.category]) (by decide) (Nat.zero_le _) (Nat.zero_le _) rfl dX8_asks_25 (q := 28) rfl ?_
  refine v_iret h hQ rfl (by first | exact rfl | exact pb_b_nar _) dX8_asks_28 (Nat.zero_le _) (Nat.zero_le _) ⟨rfl, rfl, rfl, rfl, rfl⟩
set_option maxHeartbeats 4000000 in
set_option maxRecDepth 100000 in
theorem x1_X8_asks {l : Launch} (hfl : l.stackTraces = false) {sz : Nat} {sk : pb_Sk} {rf : pb_Rf} {sg : pb_Sg} {M : Nat} (hm : pb_md sk rf M) {n : Nat} (hn : sg M 8 = nI n) (hn8 : 1 ≤ n ∧ n ≤ 8) {x : Int32} (hx : ∀ b, b < n → ¬ x = nI b) {t : Int32} : pb_Met l mX8_asks 4 0 0 [.ref M, .int x, .int t] sz sk rf sg (pb_is (some (.int (nI 0))) sz sk rf (pb_up sg M 0 (nI 1))) := by
  refine pb_start hfl (by decide +kernel) rfl (pb_c1 rfl) (Nat.le_of_ble_eq_true rfl) (fun F hF h hQ => ?_)
  subst hF
  show pv F 0 0 sz sk rf sg 0 [some (.ref M), some (.int x), some (.int t)] []
  obtain ⟨hM0, hr1, hk1, hr2, hk2, hr3, hk3, hr4, hk4, hr5, hk5, hr6, hk6, hr7, hk7, hr8, hk8, hr9, hk9, hr10, hk10, hr11, hk11, hr12, hk12, hr13, hk13, hr14, hk14, hr15, hk15, hr16, hk16, hr17, hk17, hr18, hk18, hr19, hk19, hr20, hk20, hr21, hk21, hr22, hk22, hr23, hk23, hr24, hk24⟩ := id hm
  refine v_aload_n h (i := 0) dX8_asks_0 (q := 1) rfl rfl rfl ?_
  refine v_aload_n h (i := 0) dX8_asks_1 (q := 2) rfl rfl rfl ?_
  refine v_iload_n h (i := 1) dX8_asks_2 (q := 3) rfl rfl rfl ?_
  refine v_callV1 h (x_X8_isBranch hfl hm hx hn hn8) kX8_isBranch tw925 tw13 (by assumption) (by decide) rfl rfl rfl (by simp [Value.category]) (by decide) (Nat.zero_le _) (Nat.zero_le _) rfl dX8_asks_3 (q := 6) rfl ?_
  refine v_if_ne h dX8_asks_6 (q := 9) rfl (tgt := 13) (by decide) (fun c1 => absurd c1 (by decide)) (fun c1 => ?_)
  refine v_iconst h (v := nI 1) dX8_asks_9 (q := 10) rfl (by decide +kernel) ?_
  refine v_goto h dX8_asks_10 (tgt := 25) (by decide) ?_
  refine v_callV1 h (x_X8_isFine hfl hm (by decide)) kX8_isFine tw929 tw14 (by assumption) (by decide) rfl rfl rfl (by simp [Value.category]) (by decide) (Nat.zero_le _) (Nat.zero_le _) rfl dX8_asks_25 (q := 28) rfl ?_
  refine v_iret h hQ rfl (by first | exact rfl | exact pb_b_nar _) dX8_asks_28 (Nat.zero_le _) (Nat.zero_le _) ⟨rfl, rfl, rfl, rfl, rfl⟩
set_option maxHeartbeats 4000000 in
set_option maxRecDepth 100000 in
theorem x2_X8_asks {l : Launch} (hfl : l.stackTraces = false) {sz : Nat} {sk : pb_Sk} {rf : pb_Rf} {sg : pb_Sg} {M : Nat} (hm : pb_md sk rf M) {n : Nat} (hn : sg M 8 = nI n) (hn8 : 1 ≤ n ∧ n ≤ 8) {b : Nat} (hb : b < n) {t : Int32} (hbad : ¬ (nI 0 ≤ t ∧ t ≤ nI 15)) : pb_Met l mX8_asks 4 0 0 [.ref M, .int (nI b), .int t] sz sk rf sg (pb_is (some (.int (nI 0))) sz sk rf (pb_up sg M 0 (nI 2))) := by
  refine pb_start hfl (by decide +kernel) rfl (pb_c1 rfl) (Nat.le_of_ble_eq_true rfl) (fun F hF h hQ => ?_)
  subst hF
  show pv F 0 0 sz sk rf sg 0 [some (.ref M), some (.int (nI b)), some (.int t)] []
  obtain ⟨hM0, hr1, hk1, hr2, hk2, hr3, hk3, hr4, hk4, hr5, hk5, hr6, hk6, hr7, hk7, hr8, hk8, hr9, hk9, hr10, hk10, hr11, hk11, hr12, hk12, hr13, hk13, hr14, hk14, hr15, hk15, hr16, hk16, hr17, hk17, hr18, hk18, hr19, hk19, hr20, hk20, hr21, hk21, hr22, hk22, hr23, hk23, hr24, hk24⟩ := id hm
  refine v_aload_n h (i := 0) dX8_asks_0 (q := 1) rfl rfl rfl ?_
  refine v_aload_n h (i := 0) dX8_asks_1 (q := 2) rfl rfl rfl ?_
  refine v_iload_n h (i := 1) dX8_asks_2 (q := 3) rfl rfl rfl ?_
  refine v_callV1 h (c_X8_isBranch hfl hm hb hn hn8.2) kX8_isBranch tw925 tw13 (by assumption) (by decide) rfl rfl rfl (by simp [Value.category]) (by decide) (Nat.zero_le _) (Nat.zero_le _) rfl dX8_asks_3 (q := 6) rfl ?_
  refine v_if_ne h dX8_asks_6 (q := 9) rfl (tgt := 13) (by decide) (fun c1 => ?_) (fun c1 => absurd c1 (by decide))
  refine v_iload_n h (i := 2) dX8_asks_13 (q := 14) rfl rfl rfl ?_
  refine v_callS1 h (x_X8_isTask hfl hbad) kX8_isTask rfl tw919 rfl rfl (by simp [Value.category]) (by decide) (Nat.zero_le _) (Nat.zero_le _) rfl dX8_asks_14 (q := 17) rfl ?_
  refine v_if_ne h dX8_asks_17 (q := 20) rfl (tgt := 24) (by decide) (fun c2 => absurd c2 (by decide)) (fun c2 => ?_)
  refine v_iconst h (v := nI 2) dX8_asks_20 (q := 21) rfl (by decide +kernel) ?_
  refine v_goto h dX8_asks_21 (tgt := 25) (by decide) ?_
  refine v_callV1 h (x_X8_isFine hfl hm (by decide)) kX8_isFine tw929 tw14 (by assumption) (by decide) rfl rfl rfl (by simp [Value.category]) (by decide) (Nat.zero_le _) (Nat.zero_le _) rfl dX8_asks_25 (q := 28) rfl ?_
  refine v_iret h hQ rfl (by first | exact rfl | exact pb_b_nar _) dX8_asks_28 (Nat.zero_le _) (Nat.zero_le _) ⟨rfl, rfl, rfl, rfl, rfl⟩
set_option maxHeartbeats 4000000 in
set_option maxRecDepth 100000 in
theorem c_X8_isOwn {l : Launch} (hfl : l.stackTraces = false) {sz : Nat} {sk : pb_Sk} {rf : pb_Rf} {sg : pb_Sg} {M : Nat} (hm : pb_md sk rf M) {n : Nat} (hn : sg M 8 = nI n) (hn8 : 1 ≤ n ∧ n ≤ 8) {b : Nat} (hb : b < n) (hpos : 0 < b) : pb_Met l mX8_isOwn 4 0 0 [.ref M, .int (nI b)] sz sk rf sg (pb_is (some (.int (nI 1))) sz sk rf (pb_up sg M 0 (nI 0))) := by
  refine pb_start hfl (by decide +kernel) rfl (pb_c1 rfl) (Nat.le_of_ble_eq_true rfl) (fun F hF h hQ => ?_)
  subst hF
  show pv F 0 0 sz sk rf sg 0 [some (.ref M), some (.int (nI b))] []
  obtain ⟨hM0, hr1, hk1, hr2, hk2, hr3, hk3, hr4, hk4, hr5, hk5, hr6, hk6, hr7, hk7, hr8, hk8, hr9, hk9, hr10, hk10, hr11, hk11, hr12, hk12, hr13, hk13, hr14, hk14, hr15, hk15, hr16, hk16, hr17, hk17, hr18, hk18, hr19, hk19, hr20, hk20, hr21, hk21, hr22, hk22, hr23, hk23, hr24, hk24⟩ := id hm
  refine v_aload_n h (i := 0) dX8_isOwn_0 (q := 1) rfl rfl rfl ?_
  refine v_aload_n h (i := 0) dX8_isOwn_1 (q := 2) rfl rfl rfl ?_
  refine v_iload_n h (i := 1) dX8_isOwn_2 (q := 3) rfl rfl rfl ?_
  refine v_callV1 h (c_X8_isBranch hfl hm hb hn hn8.2) kX8_isBranch tw925 tw13 (by assumption) (by decide) rfl rfl rfl (by simp [Value.category]) (by decide) (Nat.zero_le _) (Nat.zero_le _) rfl dX8_isOwn_3 (q := 6) rfl ?_
  refine v_if_ne h dX8_isOwn_6 (q := 9) rfl (tgt := 13) (by decide) (fun c1 => ?_) (fun c1 => absurd c1 (by decide))
  refine v_iload_n h (i := 1) dX8_isOwn_13 (q := 14) rfl rfl rfl ?_
  refine v_if_ne h dX8_isOwn_14 (q := 17) rfl (tgt := 21) (by decide) (fun c2 => ?_) (fun c2 => absurd c2 (nI_ne0 hpos (by omega)))
  refine v_iconst h (v := nI 0) dX8_isOwn_21 (q := 22) rfl (by decide +kernel) ?_
  refine v_callV1 h (c_X8_isFine hfl hm) kX8_isFine tw929 tw14 (by assumption) (by decide) rfl rfl rfl (by simp [Value.category]) (by decide) (Nat.zero_le _) (Nat.zero_le _) rfl dX8_isOwn_22 (q := 25) rfl ?_
  refine v_iret h hQ rfl (by first | exact rfl | exact pb_b_nar _) dX8_isOwn_25 (Nat.zero_le _) (Nat.zero_le _) ⟨rfl, rfl, rfl, rfl, rfl⟩
set_option maxHeartbeats 4000000 in
set_option maxRecDepth 100000 in
theorem x1_X8_isOwn {l : Launch} (hfl : l.stackTraces = false) {sz : Nat} {sk : pb_Sk} {rf : pb_Rf} {sg : pb_Sg} {M : Nat} (hm : pb_md sk rf M) {n : Nat} (hn : sg M 8 = nI n) (hn8 : 1 ≤ n ∧ n ≤ 8) {x : Int32} (hx : ∀ b, b < n → ¬ x = nI b) : pb_Met l mX8_isOwn 4 0 0 [.ref M, .int x] sz sk rf sg (pb_is (some (.int (nI 0))) sz sk rf (pb_up sg M 0 (nI 1))) := by
  refine pb_start hfl (by decide +kernel) rfl (pb_c1 rfl) (Nat.le_of_ble_eq_true rfl) (fun F hF h hQ => ?_)
  subst hF
  show pv F 0 0 sz sk rf sg 0 [some (.ref M), some (.int x)] []
  obtain ⟨hM0, hr1, hk1, hr2, hk2, hr3, hk3, hr4, hk4, hr5, hk5, hr6, hk6, hr7, hk7, hr8, hk8, hr9, hk9, hr10, hk10, hr11, hk11, hr12, hk12, hr13, hk13, hr14, hk14, hr15, hk15, hr16, hk16, hr17, hk17, hr18, hk18, hr19, hk19, hr20, hk20, hr21, hk21, hr22, hk22, hr23, hk23, hr24, hk24⟩ := id hm
  refine v_aload_n h (i := 0) dX8_isOwn_0 (q := 1) rfl rfl rfl ?_
  refine v_aload_n h (i := 0) dX8_isOwn_1 (q := 2) rfl rfl rfl ?_
  refine v_iload_n h (i := 1) dX8_isOwn_2 (q := 3) rfl rfl rfl ?_
  refine v_callV1 h (x_X8_isBranch hfl hm hx hn hn8) kX8_isBranch tw925 tw13 (by assumption) (by decide) rfl rfl rfl (by simp [Value.category]) (by decide) (Nat.zero_le _) (Nat.zero_le _) rfl dX8_isOwn_3 (q := 6) rfl ?_
  refine v_if_ne h dX8_isOwn_6 (q := 9) rfl (tgt := 13) (by decide) (fun c1 => absurd c1 (by decide)) (fun c1 => ?_)
  refine v_iconst h (v := nI 1) dX8_isOwn_9 (q := 10) rfl (by decide +kernel) ?_
  refine v_goto h dX8_isOwn_10 (tgt := 22) (by decide) ?_
  refine v_callV1 h (x_X8_isFine hfl hm (by decide)) kX8_isFine tw929 tw14 (by assumption) (by decide) rfl rfl rfl (by simp [Value.category]) (by decide) (Nat.zero_le _) (Nat.zero_le _) rfl dX8_isOwn_22 (q := 25) rfl ?_
  refine v_iret h hQ rfl (by first | exact rfl | exact pb_b_nar _) dX8_isOwn_25 (Nat.zero_le _) (Nat.zero_le _) ⟨rfl, rfl, rfl, rfl, rfl⟩
set_option maxHeartbeats 4000000 in
set_option maxRecDepth 100000 in
theorem x2_X8_isOwn {l : Launch} (hfl : l.stackTraces = false) {sz : Nat} {sk : pb_Sk} {rf : pb_Rf} {sg : pb_Sg} {M : Nat} (hm : pb_md sk rf M) {n : Nat} (hn : sg M 8 = nI n) (hn8 : 1 ≤ n ∧ n ≤ 8) {b : Nat} (hb : b < n) (hz : b = 0) : pb_Met l mX8_isOwn 4 0 0 [.ref M, .int (nI b)] sz sk rf sg (pb_is (some (.int (nI 0))) sz sk rf (pb_up sg M 0 (nI 2))) := by
  refine pb_start hfl (by decide +kernel) rfl (pb_c1 rfl) (Nat.le_of_ble_eq_true rfl) (fun F hF h hQ => ?_)
  subst hF
  show pv F 0 0 sz sk rf sg 0 [some (.ref M), some (.int (nI b))] []
  obtain ⟨hM0, hr1, hk1, hr2, hk2, hr3, hk3, hr4, hk4, hr5, hk5, hr6, hk6, hr7, hk7, hr8, hk8, hr9, hk9, hr10, hk10, hr11, hk11, hr12, hk12, hr13, hk13, hr14, hk14, hr15, hk15, hr16, hk16, hr17, hk17, hr18, hk18, hr19, hk19, hr20, hk20, hr21, hk21, hr22, hk22, hr23, hk23, hr24, hk24⟩ := id hm
  refine v_aload_n h (i := 0) dX8_isOwn_0 (q := 1) rfl rfl rfl ?_
  refine v_aload_n h (i := 0) dX8_isOwn_1 (q := 2) rfl rfl rfl ?_
  refine v_iload_n h (i := 1) dX8_isOwn_2 (q := 3) rfl rfl rfl ?_
  refine v_callV1 h (c_X8_isBranch hfl hm hb hn hn8.2) kX8_isBranch tw925 tw13 (by assumption) (by decide) rfl rfl rfl (by simp [Value.category]) (by decide) (Nat.zero_le _) (Nat.zero_le _) rfl dX8_isOwn_3 (q := 6) rfl ?_
  refine v_if_ne h dX8_isOwn_6 (q := 9) rfl (tgt := 13) (by decide) (fun c1 => ?_) (fun c1 => absurd c1 (by decide))
  refine v_iload_n h (i := 1) dX8_isOwn_13 (q := 14) rfl rfl rfl ?_
  refine v_if_ne h dX8_isOwn_14 (q := 17) rfl (tgt := 21) (by decide) (fun c2 => absurd (by rw [hz]; rfl) c2) (fun c2 => ?_)
  refine v_iconst h (v := nI 2) dX8_isOwn_17 (q := 18) rfl (by decide +kernel) ?_
  refine v_goto h dX8_isOwn_18 (tgt := 22) (by decide) ?_
  refine v_callV1 h (x_X8_isFine hfl hm (by decide)) kX8_isFine tw929 tw14 (by assumption) (by decide) rfl rfl rfl (by simp [Value.category]) (by decide) (Nat.zero_le _) (Nat.zero_le _) rfl dX8_isOwn_22 (q := 25) rfl ?_
  refine v_iret h hQ rfl (by first | exact rfl | exact pb_b_nar _) dX8_isOwn_25 (Nat.zero_le _) (Nat.zero_le _) ⟨rfl, rfl, rfl, rfl, rfl⟩
set_option maxHeartbeats 4000000 in
set_option maxRecDepth 100000 in
theorem c_X8_length {l : Launch} (hfl : l.stackTraces = false) {sz : Nat} {sk : pb_Sk} {rf : pb_Rf} {sg : pb_Sg} {M : Nat} (hm : pb_md sk rf M) {n : Nat} (hn : sg M 8 = nI n) (hn8 : 1 ≤ n ∧ n ≤ 8) {b : Nat} (hb : b < n) {t : Nat} (ht : t < 16) : pb_Met l mX8_length 6 0 0 [.ref M, .int (nI b), .int (nI t)] sz sk rf sg (pb_is (some (.int ((pb_up sg M 0 (nI 0)) (M + 1) (16 * b + t)))) sz sk rf (pb_up sg M 0 (nI 0))) := by
  refine pb_start hfl (by decide +kernel) rfl (pb_c1 rfl) (Nat.le_of_ble_eq_true rfl) (fun F hF h hQ => ?_)
  subst hF
  show pv F 0 0 sz sk rf sg 0 [some (.ref M), some (.int (nI b)), some (.int (nI t))] []
  obtain ⟨hM0, hr1, hk1, hr2, hk2, hr3, hk3, hr4, hk4, hr5, hk5, hr6, hk6, hr7, hk7, hr8, hk8, hr9, hk9, hr10, hk10, hr11, hk11, hr12, hk12, hr13, hk13, hr14, hk14, hr15, hk15, hr16, hk16, hr17, hk17, hr18, hk18, hr19, hk19, hr20, hk20, hr21, hk21, hr22, hk22, hr23, hk23, hr24, hk24⟩ := id hm
  refine v_aload_n h (i := 0) dX8_length_0 (q := 1) rfl rfl rfl ?_
  refine v_iload_n h (i := 1) dX8_length_1 (q := 2) rfl rfl rfl ?_
  refine v_iload_n h (i := 2) dX8_length_2 (q := 3) rfl rfl rfl ?_
  refine v_callV1 h (c_X8_asks hfl hm hn hn8 hb ht) kX8_asks tw984 tw22 (by assumption) (by decide) rfl rfl rfl (by simp [Value.category]) (by decide) (Nat.zero_le _) (Nat.zero_le _) rfl dX8_length_3 (q := 6) rfl ?_
  refine v_if_eq h dX8_length_6 (q := 9) rfl (tgt := 22) (by decide) (fun c1 => absurd c1 (by decide)) (fun c1 => ?_)
  refine v_aload_n h (i := 0) dX8_length_9 (q := 10) rfl rfl rfl ?_
  refine v_getr h fl_X8_7 (by assumption) rfl (by assumption) dX8_length_10 (q := 13) rfl ?_
  refine v_iload_n h (i := 1) dX8_length_13 (q := 14) rfl rfl rfl ?_
  refine v_iload_n h (i := 2) dX8_length_14 (q := 15) rfl rfl rfl ?_
  refine v_callS1 h (c_X8_at hfl ) kX8_at rfl tw937 rfl rfl (by simp [Value.category]) (by decide) (Nat.zero_le _) (Nat.zero_le _) rfl dX8_length_15 (q := 18) rfl ?_
  refine v_iald h (by assumption) rfl (by first | assumption | omega) (by decide) dX8_length_18 (q := 19) rfl ?_
  refine v_goto h dX8_length_19 (tgt := 23) (by decide) ?_
  refine v_iret h hQ rfl rfl dX8_length_23 (Nat.zero_le _) (Nat.zero_le _) ⟨rfl, rfl, rfl, rfl, rfl⟩
set_option maxHeartbeats 4000000 in
set_option maxRecDepth 100000 in
theorem x1_X8_length {l : Launch} (hfl : l.stackTraces = false) {sz : Nat} {sk : pb_Sk} {rf : pb_Rf} {sg : pb_Sg} {M : Nat} (hm : pb_md sk rf M) {n : Nat} (hn : sg M 8 = nI n) (hn8 : 1 ≤ n ∧ n ≤ 8) {x : Int32} (hx : ∀ b, b < n → ¬ x = nI b) {t : Int32} : pb_Met l mX8_length 6 0 0 [.ref M, .int x, .int t] sz sk rf sg (pb_is (some (.int (nI 0))) sz sk rf (pb_up sg M 0 (nI 1))) := by
  refine pb_start hfl (by decide +kernel) rfl (pb_c1 rfl) (Nat.le_of_ble_eq_true rfl) (fun F hF h hQ => ?_)
  subst hF
  show pv F 0 0 sz sk rf sg 0 [some (.ref M), some (.int x), some (.int t)] []
  obtain ⟨hM0, hr1, hk1, hr2, hk2, hr3, hk3, hr4, hk4, hr5, hk5, hr6, hk6, hr7, hk7, hr8, hk8, hr9, hk9, hr10, hk10, hr11, hk11, hr12, hk12, hr13, hk13, hr14, hk14, hr15, hk15, hr16, hk16, hr17, hk17, hr18, hk18, hr19, hk19, hr20, hk20, hr21, hk21, hr22, hk22, hr23, hk23, hr24, hk24⟩ := id hm
  refine v_aload_n h (i := 0) dX8_length_0 (q := 1) rfl rfl rfl ?_
  refine v_iload_n h (i := 1) dX8_length_1 (q := 2) rfl rfl rfl ?_
  refine v_iload_n h (i := 2) dX8_length_2 (q := 3) rfl rfl rfl ?_
  refine v_callV1 h (x1_X8_asks hfl hm hn hn8 hx) kX8_asks tw984 tw22 (by assumption) (by decide) rfl rfl rfl (by simp [Value.category]) (by decide) (Nat.zero_le _) (Nat.zero_le _) rfl dX8_length_3 (q := 6) rfl ?_
  refine v_if_eq h dX8_length_6 (q := 9) rfl (tgt := 22) (by decide) (fun c1 => ?_) (fun c1 => absurd c1 (by decide))
  refine v_iconst h (v := nI 0) dX8_length_22 (q := 23) rfl (by decide +kernel) ?_
  refine v_iret h hQ rfl rfl dX8_length_23 (Nat.zero_le _) (Nat.zero_le _) ⟨rfl, rfl, rfl, rfl, rfl⟩
set_option maxHeartbeats 4000000 in
set_option maxRecDepth 100000 in
theorem x2_X8_length {l : Launch} (hfl : l.stackTraces = false) {sz : Nat} {sk : pb_Sk} {rf : pb_Rf} {sg : pb_Sg} {M : Nat} (hm : pb_md sk rf M) {n : Nat} (hn : sg M 8 = nI n) (hn8 : 1 ≤ n ∧ n ≤ 8) {b : Nat} (hb : b < n) {t : Int32} (hbad : ¬ (nI 0 ≤ t ∧ t ≤ nI 15)) : pb_Met l mX8_length 6 0 0 [.ref M, .int (nI b), .int t] sz sk rf sg (pb_is (some (.int (nI 0))) sz sk rf (pb_up sg M 0 (nI 2))) := by
  refine pb_start hfl (by decide +kernel) rfl (pb_c1 rfl) (Nat.le_of_ble_eq_true rfl) (fun F hF h hQ => ?_)
  subst hF
  show pv F 0 0 sz sk rf sg 0 [some (.ref M), some (.int (nI b)), some (.int t)] []
  obtain ⟨hM0, hr1, hk1, hr2, hk2, hr3, hk3, hr4, hk4, hr5, hk5, hr6, hk6, hr7, hk7, hr8, hk8, hr9, hk9, hr10, hk10, hr11, hk11, hr12, hk12, hr13, hk13, hr14, hk14, hr15, hk15, hr16, hk16, hr17, hk17, hr18, hk18, hr19, hk19, hr20, hk20, hr21, hk21, hr22, hk22, hr23, hk23, hr24, hk24⟩ := id hm
  refine v_aload_n h (i := 0) dX8_length_0 (q := 1) rfl rfl rfl ?_
  refine v_iload_n h (i := 1) dX8_length_1 (q := 2) rfl rfl rfl ?_
  refine v_iload_n h (i := 2) dX8_length_2 (q := 3) rfl rfl rfl ?_
  refine v_callV1 h (x2_X8_asks hfl hm hn hn8 hb hbad) kX8_asks tw984 tw22 (by assumption) (by decide) rfl rfl rfl (by simp [Value.category]) (by decide) (Nat.zero_le _) (Nat.zero_le _) rfl dX8_length_3 (q := 6) rfl ?_
  refine v_if_eq h dX8_length_6 (q := 9) rfl (tgt := 22) (by decide) (fun c1 => ?_) (fun c1 => absurd c1 (by decide))
  refine v_iconst h (v := nI 0) dX8_length_22 (q := 23) rfl (by decide +kernel) ?_
  refine v_iret h hQ rfl rfl dX8_length_23 (Nat.zero_le _) (Nat.zero_le _) ⟨rfl, rfl, rfl, rfl, rfl⟩
set_option maxHeartbeats 4000000 in
set_option maxRecDepth 100000 in
theorem c_X8_crew {l : Launch} (hfl : l.stackTraces = false) {sz : Nat} {sk : pb_Sk} {rf : pb_Rf} {sg : pb_Sg} {M : Nat} (hm : pb_md sk rf M) {n : Nat} (hn : sg M 8 = nI n) (hn8 : 1 ≤ n ∧ n ≤ 8) {b : Nat} (hb : b < n) {t : Nat} (ht : t < 16) : pb_Met l mX8_crew 6 0 0 [.ref M, .int (nI b), .int (nI t)] sz sk rf sg (pb_is (some (.int ((pb_up sg M 0 (nI 0)) (M + 2) (16 * b + t)))) sz sk rf (pb_up sg M 0 (nI 0))) := by
  refine pb_start hfl (by decide +kernel) rfl (pb_c1 rfl) (Nat.le_of_ble_eq_true rfl) (fun F hF h hQ => ?_)
  subst hF
  show pv F 0 0 sz sk rf sg 0 [some (.ref M), some (.int (nI b)), some (.int (nI t))] []
  obtain ⟨hM0, hr1, hk1, hr2, hk2, hr3, hk3, hr4, hk4, hr5, hk5, hr6, hk6, hr7, hk7, hr8, hk8, hr9, hk9, hr10, hk10, hr11, hk11, hr12, hk12, hr13, hk13, hr14, hk14, hr15, hk15, hr16, hk16, hr17, hk17, hr18, hk18, hr19, hk19, hr20, hk20, hr21, hk21, hr22, hk22, hr23, hk23, hr24, hk24⟩ := id hm
  refine v_aload_n h (i := 0) dX8_crew_0 (q := 1) rfl rfl rfl ?_
  refine v_iload_n h (i := 1) dX8_crew_1 (q := 2) rfl rfl rfl ?_
  refine v_iload_n h (i := 2) dX8_crew_2 (q := 3) rfl rfl rfl ?_
  refine v_callV1 h (c_X8_asks hfl hm hn hn8 hb ht) kX8_asks tw984 tw22 (by assumption) (by decide) rfl rfl rfl (by simp [Value.category]) (by decide) (Nat.zero_le _) (Nat.zero_le _) rfl dX8_crew_3 (q := 6) rfl ?_
  refine v_if_eq h dX8_crew_6 (q := 9) rfl (tgt := 22) (by decide) (fun c1 => absurd c1 (by decide)) (fun c1 => ?_)
  refine v_aload_n h (i := 0) dX8_crew_9 (q := 10) rfl rfl rfl ?_
  refine v_getr h fl_X8_13 (by assumption) rfl (by assumption) dX8_crew_10 (q := 13) rfl ?_
  refine v_iload_n h (i := 1) dX8_crew_13 (q := 14) rfl rfl rfl ?_
  refine v_iload_n h (i := 2) dX8_crew_14 (q := 15) rfl rfl rfl ?_
  refine v_callS1 h (c_X8_at hfl ) kX8_at rfl tw937 rfl rfl (by simp [Value.category]) (by decide) (Nat.zero_le _) (Nat.zero_le _) rfl dX8_crew_15 (q := 18) rfl ?_
  refine v_iald h (by assumption) rfl (by first | assumption | omega) (by decide) dX8_crew_18 (q := 19) rfl ?_
  refine v_goto h dX8_crew_19 (tgt := 23) (by decide) ?_
  refine v_iret h hQ rfl rfl dX8_crew_23 (Nat.zero_le _) (Nat.zero_le _) ⟨rfl, rfl, rfl, rfl, rfl⟩
set_option maxHeartbeats 4000000 in
set_option maxRecDepth 100000 in
theorem x1_X8_crew {l : Launch} (hfl : l.stackTraces = false) {sz : Nat} {sk : pb_Sk} {rf : pb_Rf} {sg : pb_Sg} {M : Nat} (hm : pb_md sk rf M) {n : Nat} (hn : sg M 8 = nI n) (hn8 : 1 ≤ n ∧ n ≤ 8) {x : Int32} (hx : ∀ b, b < n → ¬ x = nI b) {t : Int32} : pb_Met l mX8_crew 6 0 0 [.ref M, .int x, .int t] sz sk rf sg (pb_is (some (.int (nI 0))) sz sk rf (pb_up sg M 0 (nI 1))) := by
  refine pb_start hfl (by decide +kernel) rfl (pb_c1 rfl) (Nat.le_of_ble_eq_true rfl) (fun F hF h hQ => ?_)
  subst hF
  show pv F 0 0 sz sk rf sg 0 [some (.ref M), some (.int x), some (.int t)] []
  obtain ⟨hM0, hr1, hk1, hr2, hk2, hr3, hk3, hr4, hk4, hr5, hk5, hr6, hk6, hr7, hk7, hr8, hk8, hr9, hk9, hr10, hk10, hr11, hk11, hr12, hk12, hr13, hk13, hr14, hk14, hr15, hk15, hr16, hk16, hr17, hk17, hr18, hk18, hr19, hk19, hr20, hk20, hr21, hk21, hr22, hk22, hr23, hk23, hr24, hk24⟩ := id hm
  refine v_aload_n h (i := 0) dX8_crew_0 (q := 1) rfl rfl rfl ?_
  refine v_iload_n h (i := 1) dX8_crew_1 (q := 2) rfl rfl rfl ?_
  refine v_iload_n h (i := 2) dX8_crew_2 (q := 3) rfl rfl rfl ?_
  refine v_callV1 h (x1_X8_asks hfl hm hn hn8 hx) kX8_asks tw984 tw22 (by assumption) (by decide) rfl rfl rfl (by simp [Value.category]) (by decide) (Nat.zero_le _) (Nat.zero_le _) rfl dX8_crew_3 (q := 6) rfl ?_
  refine v_if_eq h dX8_crew_6 (q := 9) rfl (tgt := 22) (by decide) (fun c1 => ?_) (fun c1 => absurd c1 (by decide))
  refine v_iconst h (v := nI 0) dX8_crew_22 (q := 23) rfl (by decide +kernel) ?_
  refine v_iret h hQ rfl rfl dX8_crew_23 (Nat.zero_le _) (Nat.zero_le _) ⟨rfl, rfl, rfl, rfl, rfl⟩
set_option maxHeartbeats 4000000 in
set_option maxRecDepth 100000 in
theorem x2_X8_crew {l : Launch} (hfl : l.stackTraces = false) {sz : Nat} {sk : pb_Sk} {rf : pb_Rf} {sg : pb_Sg} {M : Nat} (hm : pb_md sk rf M) {n : Nat} (hn : sg M 8 = nI n) (hn8 : 1 ≤ n ∧ n ≤ 8) {b : Nat} (hb : b < n) {t : Int32} (hbad : ¬ (nI 0 ≤ t ∧ t ≤ nI 15)) : pb_Met l mX8_crew 6 0 0 [.ref M, .int (nI b), .int t] sz sk rf sg (pb_is (some (.int (nI 0))) sz sk rf (pb_up sg M 0 (nI 2))) := by
  refine pb_start hfl (by decide +kernel) rfl (pb_c1 rfl) (Nat.le_of_ble_eq_true rfl) (fun F hF h hQ => ?_)
  subst hF
  show pv F 0 0 sz sk rf sg 0 [some (.ref M), some (.int (nI b)), some (.int t)] []
  obtain ⟨hM0, hr1, hk1, hr2, hk2, hr3, hk3, hr4, hk4, hr5, hk5, hr6, hk6, hr7, hk7, hr8, hk8, hr9, hk9, hr10, hk10, hr11, hk11, hr12, hk12, hr13, hk13, hr14, hk14, hr15, hk15, hr16, hk16, hr17, hk17, hr18, hk18, hr19, hk19, hr20, hk20, hr21, hk21, hr22, hk22, hr23, hk23, hr24, hk24⟩ := id hm
  refine v_aload_n h (i := 0) dX8_crew_0 (q := 1) rfl rfl rfl ?_
  refine v_iload_n h (i := 1) dX8_crew_1 (q := 2) rfl rfl rfl ?_
  refine v_iload_n h (i := 2) dX8_crew_2 (q := 3) rfl rfl rfl ?_
  refine v_callV1 h (x2_X8_asks hfl hm hn hn8 hb hbad) kX8_asks tw984 tw22 (by assumption) (by decide) rfl rfl rfl (by simp [Value.category]) (by decide) (Nat.zero_le _) (Nat.zero_le _) rfl dX8_crew_3 (q := 6) rfl ?_
  refine v_if_eq h dX8_crew_6 (q := 9) rfl (tgt := 22) (by decide) (fun c1 => ?_) (fun c1 => absurd c1 (by decide))
  refine v_iconst h (v := nI 0) dX8_crew_22 (q := 23) rfl (by decide +kernel) ?_
  refine v_iret h hQ rfl rfl dX8_crew_23 (Nat.zero_le _) (Nat.zero_le _) ⟨rfl, rfl, rfl, rfl, rfl⟩
set_option maxHeartbeats 4000000 in
set_option maxRecDepth 100000 in
theorem c_X8_needs {l : Launch} (hfl : l.stackTraces = false) {sz : Nat} {sk : pb_Sk} {rf : pb_Rf} {sg : pb_Sg} {M : Nat} (hm : pb_md sk rf M) {n : Nat} (hn : sg M 8 = nI n) (hn8 : 1 ≤ n ∧ n ≤ 8) {b : Nat} (hb : b < n) {t : Nat} (ht : t < 16) : pb_Met l mX8_needs 6 0 0 [.ref M, .int (nI b), .int (nI t)] sz sk rf sg (pb_is (some (.int ((pb_up sg M 0 (nI 0)) (M + 4) (16 * b + t)))) sz sk rf (pb_up sg M 0 (nI 0))) := by
  refine pb_start hfl (by decide +kernel) rfl (pb_c1 rfl) (Nat.le_of_ble_eq_true rfl) (fun F hF h hQ => ?_)
  subst hF
  show pv F 0 0 sz sk rf sg 0 [some (.ref M), some (.int (nI b)), some (.int (nI t))] []
  obtain ⟨hM0, hr1, hk1, hr2, hk2, hr3, hk3, hr4, hk4, hr5, hk5, hr6, hk6, hr7, hk7, hr8, hk8, hr9, hk9, hr10, hk10, hr11, hk11, hr12, hk12, hr13, hk13, hr14, hk14, hr15, hk15, hr16, hk16, hr17, hk17, hr18, hk18, hr19, hk19, hr20, hk20, hr21, hk21, hr22, hk22, hr23, hk23, hr24, hk24⟩ := id hm
  refine v_aload_n h (i := 0) dX8_needs_0 (q := 1) rfl rfl rfl ?_
  refine v_iload_n h (i := 1) dX8_needs_1 (q := 2) rfl rfl rfl ?_
  refine v_iload_n h (i := 2) dX8_needs_2 (q := 3) rfl rfl rfl ?_
  refine v_callV1 h (c_X8_asks hfl hm hn hn8 hb ht) kX8_asks tw984 tw22 (by assumption) (by decide) rfl rfl rfl (by simp [Value.category]) (by decide) (Nat.zero_le _) (Nat.zero_le _) rfl dX8_needs_3 (q := 6) rfl ?_
  refine v_if_eq h dX8_needs_6 (q := 9) rfl (tgt := 22) (by decide) (fun c1 => absurd c1 (by decide)) (fun c1 => ?_)
  refine v_aload_n h (i := 0) dX8_needs_9 (q := 10) rfl rfl rfl ?_
  refine v_getr h fl_X8_19 (by assumption) rfl (by assumption) dX8_needs_10 (q := 13) rfl ?_
  refine v_iload_n h (i := 1) dX8_needs_13 (q := 14) rfl rfl rfl ?_
  refine v_iload_n h (i := 2) dX8_needs_14 (q := 15) rfl rfl rfl ?_
  refine v_callS1 h (c_X8_at hfl ) kX8_at rfl tw937 rfl rfl (by simp [Value.category]) (by decide) (Nat.zero_le _) (Nat.zero_le _) rfl dX8_needs_15 (q := 18) rfl ?_
  refine v_iald h (by assumption) rfl (by first | assumption | omega) (by decide) dX8_needs_18 (q := 19) rfl ?_
  refine v_goto h dX8_needs_19 (tgt := 23) (by decide) ?_
  refine v_iret h hQ rfl rfl dX8_needs_23 (Nat.zero_le _) (Nat.zero_le _) ⟨rfl, rfl, rfl, rfl, rfl⟩
set_option maxHeartbeats 4000000 in
set_option maxRecDepth 100000 in
theorem x1_X8_needs {l : Launch} (hfl : l.stackTraces = false) {sz : Nat} {sk : pb_Sk} {rf : pb_Rf} {sg : pb_Sg} {M : Nat} (hm : pb_md sk rf M) {n : Nat} (hn : sg M 8 = nI n) (hn8 : 1 ≤ n ∧ n ≤ 8) {x : Int32} (hx : ∀ b, b < n → ¬ x = nI b) {t : Int32} : pb_Met l mX8_needs 6 0 0 [.ref M, .int x, .int t] sz sk rf sg (pb_is (some (.int (nI 0))) sz sk rf (pb_up sg M 0 (nI 1))) := by
  refine pb_start hfl (by decide +kernel) rfl (pb_c1 rfl) (Nat.le_of_ble_eq_true rfl) (fun F hF h hQ => ?_)
  subst hF
  show pv F 0 0 sz sk rf sg 0 [some (.ref M), some (.int x), some (.int t)] []
  obtain ⟨hM0, hr1, hk1, hr2, hk2, hr3, hk3, hr4, hk4, hr5, hk5, hr6, hk6, hr7, hk7, hr8, hk8, hr9, hk9, hr10, hk10, hr11, hk11, hr12, hk12, hr13, hk13, hr14, hk14, hr15, hk15, hr16, hk16, hr17, hk17, hr18, hk18, hr19, hk19, hr20, hk20, hr21, hk21, hr22, hk22, hr23, hk23, hr24, hk24⟩ := id hm
  refine v_aload_n h (i := 0) dX8_needs_0 (q := 1) rfl rfl rfl ?_
  refine v_iload_n h (i := 1) dX8_needs_1 (q := 2) rfl rfl rfl ?_
  refine v_iload_n h (i := 2) dX8_needs_2 (q := 3) rfl rfl rfl ?_
  refine v_callV1 h (x1_X8_asks hfl hm hn hn8 hx) kX8_asks tw984 tw22 (by assumption) (by decide) rfl rfl rfl (by simp [Value.category]) (by decide) (Nat.zero_le _) (Nat.zero_le _) rfl dX8_needs_3 (q := 6) rfl ?_
  refine v_if_eq h dX8_needs_6 (q := 9) rfl (tgt := 22) (by decide) (fun c1 => ?_) (fun c1 => absurd c1 (by decide))
  refine v_iconst h (v := nI 0) dX8_needs_22 (q := 23) rfl (by decide +kernel) ?_
  refine v_iret h hQ rfl rfl dX8_needs_23 (Nat.zero_le _) (Nat.zero_le _) ⟨rfl, rfl, rfl, rfl, rfl⟩
set_option maxHeartbeats 4000000 in
set_option maxRecDepth 100000 in
theorem x2_X8_needs {l : Launch} (hfl : l.stackTraces = false) {sz : Nat} {sk : pb_Sk} {rf : pb_Rf} {sg : pb_Sg} {M : Nat} (hm : pb_md sk rf M) {n : Nat} (hn : sg M 8 = nI n) (hn8 : 1 ≤ n ∧ n ≤ 8) {b : Nat} (hb : b < n) {t : Int32} (hbad : ¬ (nI 0 ≤ t ∧ t ≤ nI 15)) : pb_Met l mX8_needs 6 0 0 [.ref M, .int (nI b), .int t] sz sk rf sg (pb_is (some (.int (nI 0))) sz sk rf (pb_up sg M 0 (nI 2))) := by
  refine pb_start hfl (by decide +kernel) rfl (pb_c1 rfl) (Nat.le_of_ble_eq_true rfl) (fun F hF h hQ => ?_)
  subst hF
  show pv F 0 0 sz sk rf sg 0 [some (.ref M), some (.int (nI b)), some (.int t)] []
  obtain ⟨hM0, hr1, hk1, hr2, hk2, hr3, hk3, hr4, hk4, hr5, hk5, hr6, hk6, hr7, hk7, hr8, hk8, hr9, hk9, hr10, hk10, hr11, hk11, hr12, hk12, hr13, hk13, hr14, hk14, hr15, hk15, hr16, hk16, hr17, hk17, hr18, hk18, hr19, hk19, hr20, hk20, hr21, hk21, hr22, hk22, hr23, hk23, hr24, hk24⟩ := id hm
  refine v_aload_n h (i := 0) dX8_needs_0 (q := 1) rfl rfl rfl ?_
  refine v_iload_n h (i := 1) dX8_needs_1 (q := 2) rfl rfl rfl ?_
  refine v_iload_n h (i := 2) dX8_needs_2 (q := 3) rfl rfl rfl ?_
  refine v_callV1 h (x2_X8_asks hfl hm hn hn8 hb hbad) kX8_asks tw984 tw22 (by assumption) (by decide) rfl rfl rfl (by simp [Value.category]) (by decide) (Nat.zero_le _) (Nat.zero_le _) rfl dX8_needs_3 (q := 6) rfl ?_
  refine v_if_eq h dX8_needs_6 (q := 9) rfl (tgt := 22) (by decide) (fun c1 => ?_) (fun c1 => absurd c1 (by decide))
  refine v_iconst h (v := nI 0) dX8_needs_22 (q := 23) rfl (by decide +kernel) ?_
  refine v_iret h hQ rfl rfl dX8_needs_23 (Nat.zero_le _) (Nat.zero_le _) ⟨rfl, rfl, rfl, rfl, rfl⟩
set_option maxHeartbeats 4000000 in
set_option maxRecDepth 100000 in
theorem c_X8_tasks {l : Launch} (hfl : l.stackTraces = false) {sz : Nat} {sk : pb_Sk} {rf : pb_Rf} {sg : pb_Sg} {M : Nat} (hm : pb_md sk rf M) {n : Nat} (hn : sg M 8 = nI n) (hn8 : 1 ≤ n ∧ n ≤ 8) {b : Nat} (hb : b < n) : pb_Met l mX8_tasks 6 0 0 [.ref M, .int (nI b)] sz sk rf sg (pb_is (some (.int (pb_set (fun t => pb_has ((pb_up sg M 0 (nI 0)) (M + 1)) (16 * b + t)) 16))) sz sk rf (pb_up sg M 0 (nI 0))) := by
  refine pb_start hfl (by decide +kernel) rfl (pb_c1 rfl) (Nat.le_of_ble_eq_true rfl) (fun F hF h hQ => ?_)
  subst hF
  show pv F 0 0 sz sk rf sg 0 [some (.ref M), some (.int (nI b))] []
  obtain ⟨hM0, hr1, hk1, hr2, hk2, hr3, hk3, hr4, hk4, hr5, hk5, hr6, hk6, hr7, hk7, hr8, hk8, hr9, hk9, hr10, hk10, hr11, hk11, hr12, hk12, hr13, hk13, hr14, hk14, hr15, hk15, hr16, hk16, hr17, hk17, hr18, hk18, hr19, hk19, hr20, hk20, hr21, hk21, hr22, hk22, hr23, hk23, hr24, hk24⟩ := id hm
  refine v_aload_n h (i := 0) dX8_tasks_0 (q := 1) rfl rfl rfl ?_
  refine v_aload_n h (i := 0) dX8_tasks_1 (q := 2) rfl rfl rfl ?_
  refine v_iload_n h (i := 1) dX8_tasks_2 (q := 3) rfl rfl rfl ?_
  refine v_callV1 h (c_X8_isBranch hfl hm hb hn hn8.2) kX8_isBranch tw925 tw13 (by assumption) (by decide) rfl rfl rfl (by simp [Value.category]) (by decide) (Nat.zero_le _) (Nat.zero_le _) rfl dX8_tasks_3 (q := 6) rfl ?_
  refine v_if_eq h dX8_tasks_6 (q := 9) rfl (tgt := 13) (by decide) (fun c1 => absurd c1 (by decide)) (fun c1 => ?_)
  refine v_iconst h (v := nI 0) dX8_tasks_9 (q := 10) rfl (by decide +kernel) ?_
  refine v_goto h dX8_tasks_10 (tgt := 14) (by decide) ?_
  refine v_callV1 h (c_X8_isFine hfl hm) kX8_isFine tw929 tw14 (by assumption) (by decide) rfl rfl rfl (by simp [Value.category]) (by decide) (Nat.zero_le _) (Nat.zero_le _) rfl dX8_tasks_14 (q := 17) rfl ?_
  refine v_if_eq h dX8_tasks_17 (q := 20) rfl (tgt := 28) (by decide) (fun c2 => absurd c2 (by decide)) (fun c2 => ?_)
  refine v_aload_n h (i := 0) dX8_tasks_20 (q := 21) rfl rfl rfl ?_
  refine v_iload_n h (i := 1) dX8_tasks_21 (q := 22) rfl rfl rfl ?_
  refine v_callV1 h (c_X8_tasks0 hfl hm (by omega)) kX8_tasks0 tw976 tw21 (by assumption) (by decide) rfl rfl rfl (by simp [Value.category]) (by decide) (Nat.zero_le _) (Nat.zero_le _) rfl dX8_tasks_22 (q := 25) rfl ?_
  refine v_goto h dX8_tasks_25 (tgt := 29) (by decide) ?_
  refine v_iret h hQ rfl rfl dX8_tasks_29 (Nat.zero_le _) (Nat.zero_le _) ⟨rfl, rfl, rfl, rfl, rfl⟩
set_option maxHeartbeats 4000000 in
set_option maxRecDepth 100000 in
theorem x1_X8_tasks {l : Launch} (hfl : l.stackTraces = false) {sz : Nat} {sk : pb_Sk} {rf : pb_Rf} {sg : pb_Sg} {M : Nat} (hm : pb_md sk rf M) {n : Nat} (hn : sg M 8 = nI n) (hn8 : 1 ≤ n ∧ n ≤ 8) {x : Int32} (hx : ∀ b, b < n → ¬ x = nI b) : pb_Met l mX8_tasks 6 0 0 [.ref M, .int x] sz sk rf sg (pb_is (some (.int (nI 0))) sz sk rf (pb_up sg M 0 (nI 1))) := by
  refine pb_start hfl (by decide +kernel) rfl (pb_c1 rfl) (Nat.le_of_ble_eq_true rfl) (fun F hF h hQ => ?_)
  subst hF
  show pv F 0 0 sz sk rf sg 0 [some (.ref M), some (.int x)] []
  obtain ⟨hM0, hr1, hk1, hr2, hk2, hr3, hk3, hr4, hk4, hr5, hk5, hr6, hk6, hr7, hk7, hr8, hk8, hr9, hk9, hr10, hk10, hr11, hk11, hr12, hk12, hr13, hk13, hr14, hk14, hr15, hk15, hr16, hk16, hr17, hk17, hr18, hk18, hr19, hk19, hr20, hk20, hr21, hk21, hr22, hk22, hr23, hk23, hr24, hk24⟩ := id hm
  refine v_aload_n h (i := 0) dX8_tasks_0 (q := 1) rfl rfl rfl ?_
  refine v_aload_n h (i := 0) dX8_tasks_1 (q := 2) rfl rfl rfl ?_
  refine v_iload_n h (i := 1) dX8_tasks_2 (q := 3) rfl rfl rfl ?_
  refine v_callV1 h (x_X8_isBranch hfl hm hx hn hn8) kX8_isBranch tw925 tw13 (by assumption) (by decide) rfl rfl rfl (by simp [Value.category]) (by decide) (Nat.zero_le _) (Nat.zero_le _) rfl dX8_tasks_3 (q := 6) rfl ?_
  refine v_if_eq h dX8_tasks_6 (q := 9) rfl (tgt := 13) (by decide) (fun c1 => ?_) (fun c1 => absurd c1 (by decide))
  refine v_iconst h (v := nI 1) dX8_tasks_13 (q := 14) rfl (by decide +kernel) ?_
  refine v_callV1 h (x_X8_isFine hfl hm (by decide)) kX8_isFine tw929 tw14 (by assumption) (by decide) rfl rfl rfl (by simp [Value.category]) (by decide) (Nat.zero_le _) (Nat.zero_le _) rfl dX8_tasks_14 (q := 17) rfl ?_
  refine v_if_eq h dX8_tasks_17 (q := 20) rfl (tgt := 28) (by decide) (fun c2 => ?_) (fun c2 => absurd c2 (by decide))
  refine v_iconst h (v := nI 0) dX8_tasks_28 (q := 29) rfl (by decide +kernel) ?_
  refine v_iret h hQ rfl rfl dX8_tasks_29 (Nat.zero_le _) (Nat.zero_le _) ⟨rfl, rfl, rfl, rfl, rfl⟩
set_option maxHeartbeats 4000000 in
set_option maxRecDepth 100000 in
theorem c_X8_cost {l : Launch} (hfl : l.stackTraces = false) {sz : Nat} {sk : pb_Sk} {rf : pb_Rf} {sg : pb_Sg} {M : Nat} (hm : pb_md sk rf M) {n : Nat} (hn : sg M 8 = nI n) (hn8 : 1 ≤ n ∧ n ≤ 8) {b : Nat} (hb : b < n) : pb_Met l mX8_cost 6 0 0 [.ref M, .int (nI b)] sz sk rf sg (pb_is (some (.int (pb_sum (fun t => (pb_up sg M 0 (nI 0)) (M + 1) (16 * b + t) * (pb_up sg M 0 (nI 0)) (M + 3) (16 * b + t)) 16))) sz sk rf (pb_up sg M 0 (nI 0))) := by
  refine pb_start hfl (by decide +kernel) rfl (pb_c1 rfl) (Nat.le_of_ble_eq_true rfl) (fun F hF h hQ => ?_)
  subst hF
  show pv F 0 0 sz sk rf sg 0 [some (.ref M), some (.int (nI b))] []
  obtain ⟨hM0, hr1, hk1, hr2, hk2, hr3, hk3, hr4, hk4, hr5, hk5, hr6, hk6, hr7, hk7, hr8, hk8, hr9, hk9, hr10, hk10, hr11, hk11, hr12, hk12, hr13, hk13, hr14, hk14, hr15, hk15, hr16, hk16, hr17, hk17, hr18, hk18, hr19, hk19, hr20, hk20, hr21, hk21, hr22, hk22, hr23, hk23, hr24, hk24⟩ := id hm
  refine v_aload_n h (i := 0) dX8_cost_0 (q := 1) rfl rfl rfl ?_
  refine v_aload_n h (i := 0) dX8_cost_1 (q := 2) rfl rfl rfl ?_
  refine v_iload_n h (i := 1) dX8_cost_2 (q := 3) rfl rfl rfl ?_
  refine v_callV1 h (c_X8_isBranch hfl hm hb hn hn8.2) kX8_isBranch tw925 tw13 (by assumption) (by decide) rfl rfl rfl (by simp [Value.category]) (by decide) (Nat.zero_le _) (Nat.zero_le _) rfl dX8_cost_3 (q := 6) rfl ?_
  refine v_if_eq h dX8_cost_6 (q := 9) rfl (tgt := 13) (by decide) (fun c1 => absurd c1 (by decide)) (fun c1 => ?_)
  refine v_iconst h (v := nI 0) dX8_cost_9 (q := 10) rfl (by decide +kernel) ?_
  refine v_goto h dX8_cost_10 (tgt := 14) (by decide) ?_
  refine v_callV1 h (c_X8_isFine hfl hm) kX8_isFine tw929 tw14 (by assumption) (by decide) rfl rfl rfl (by simp [Value.category]) (by decide) (Nat.zero_le _) (Nat.zero_le _) rfl dX8_cost_14 (q := 17) rfl ?_
  refine v_if_eq h dX8_cost_17 (q := 20) rfl (tgt := 28) (by decide) (fun c2 => absurd c2 (by decide)) (fun c2 => ?_)
  refine v_aload_n h (i := 0) dX8_cost_20 (q := 21) rfl rfl rfl ?_
  refine v_iload_n h (i := 1) dX8_cost_21 (q := 22) rfl rfl rfl ?_
  refine v_callV1 h (c_X8_cost0 hfl hm (by omega)) kX8_cost0 tw1000 tw23 (by assumption) (by decide) rfl rfl rfl (by simp [Value.category]) (by decide) (Nat.zero_le _) (Nat.zero_le _) rfl dX8_cost_22 (q := 25) rfl ?_
  refine v_goto h dX8_cost_25 (tgt := 29) (by decide) ?_
  refine v_iret h hQ rfl rfl dX8_cost_29 (Nat.zero_le _) (Nat.zero_le _) ⟨rfl, rfl, rfl, rfl, rfl⟩
set_option maxHeartbeats 4000000 in
set_option maxRecDepth 100000 in
theorem x1_X8_cost {l : Launch} (hfl : l.stackTraces = false) {sz : Nat} {sk : pb_Sk} {rf : pb_Rf} {sg : pb_Sg} {M : Nat} (hm : pb_md sk rf M) {n : Nat} (hn : sg M 8 = nI n) (hn8 : 1 ≤ n ∧ n ≤ 8) {x : Int32} (hx : ∀ b, b < n → ¬ x = nI b) : pb_Met l mX8_cost 6 0 0 [.ref M, .int x] sz sk rf sg (pb_is (some (.int (nI 0))) sz sk rf (pb_up sg M 0 (nI 1))) := by
  refine pb_start hfl (by decide +kernel) rfl (pb_c1 rfl) (Nat.le_of_ble_eq_true rfl) (fun F hF h hQ => ?_)
  subst hF
  show pv F 0 0 sz sk rf sg 0 [some (.ref M), some (.int x)] []
  obtain ⟨hM0, hr1, hk1, hr2, hk2, hr3, hk3, hr4, hk4, hr5, hk5, hr6, hk6, hr7, hk7, hr8, hk8, hr9, hk9, hr10, hk10, hr11, hk11, hr12, hk12, hr13, hk13, hr14, hk14, hr15, hk15, hr16, hk16, hr17, hk17, hr18, hk18, hr19, hk19, hr20, hk20, hr21, hk21, hr22, hk22, hr23, hk23, hr24, hk24⟩ := id hm
  refine v_aload_n h (i := 0) dX8_cost_0 (q := 1) rfl rfl rfl ?_
  refine v_aload_n h (i := 0) dX8_cost_1 (q := 2) rfl rfl rfl ?_
  refine v_iload_n h (i := 1) dX8_cost_2 (q := 3) rfl rfl rfl ?_
  refine v_callV1 h (x_X8_isBranch hfl hm hx hn hn8) kX8_isBranch tw925 tw13 (by assumption) (by decide) rfl rfl rfl (by simp [Value.category]) (by decide) (Nat.zero_le _) (Nat.zero_le _) rfl dX8_cost_3 (q := 6) rfl ?_
  refine v_if_eq h dX8_cost_6 (q := 9) rfl (tgt := 13) (by decide) (fun c1 => ?_) (fun c1 => absurd c1 (by decide))
  refine v_iconst h (v := nI 1) dX8_cost_13 (q := 14) rfl (by decide +kernel) ?_
  refine v_callV1 h (x_X8_isFine hfl hm (by decide)) kX8_isFine tw929 tw14 (by assumption) (by decide) rfl rfl rfl (by simp [Value.category]) (by decide) (Nat.zero_le _) (Nat.zero_le _) rfl dX8_cost_14 (q := 17) rfl ?_
  refine v_if_eq h dX8_cost_17 (q := 20) rfl (tgt := 28) (by decide) (fun c2 => ?_) (fun c2 => absurd c2 (by decide))
  refine v_iconst h (v := nI 0) dX8_cost_28 (q := 29) rfl (by decide +kernel) ?_
  refine v_iret h hQ rfl rfl dX8_cost_29 (Nat.zero_le _) (Nat.zero_le _) ⟨rfl, rfl, rfl, rfl, rfl⟩
set_option maxHeartbeats 4000000 in
set_option maxRecDepth 100000 in
theorem c_X8_parent {l : Launch} (hfl : l.stackTraces = false) {sz : Nat} {sk : pb_Sk} {rf : pb_Rf} {sg : pb_Sg} {M : Nat} (hm : pb_md sk rf M) {n : Nat} (hn : sg M 8 = nI n) (hn8 : 1 ≤ n ∧ n ≤ 8) {b : Nat} (hb : b < n) : pb_Met l mX8_parent 6 0 0 [.ref M, .int (nI b)] sz sk rf sg (pb_is (some (.int ((pb_up sg M 0 (nI 0)) (M + 5) b))) sz sk rf (pb_up sg M 0 (nI 0))) := by
  refine pb_start hfl (by decide +kernel) rfl (pb_c1 rfl) (Nat.le_of_ble_eq_true rfl) (fun F hF h hQ => ?_)
  subst hF
  show pv F 0 0 sz sk rf sg 0 [some (.ref M), some (.int (nI b))] []
  obtain ⟨hM0, hr1, hk1, hr2, hk2, hr3, hk3, hr4, hk4, hr5, hk5, hr6, hk6, hr7, hk7, hr8, hk8, hr9, hk9, hr10, hk10, hr11, hk11, hr12, hk12, hr13, hk13, hr14, hk14, hr15, hk15, hr16, hk16, hr17, hk17, hr18, hk18, hr19, hk19, hr20, hk20, hr21, hk21, hr22, hk22, hr23, hk23, hr24, hk24⟩ := id hm
  refine v_aload_n h (i := 0) dX8_parent_0 (q := 1) rfl rfl rfl ?_
  refine v_aload_n h (i := 0) dX8_parent_1 (q := 2) rfl rfl rfl ?_
  refine v_iload_n h (i := 1) dX8_parent_2 (q := 3) rfl rfl rfl ?_
  refine v_callV1 h (c_X8_isBranch hfl hm hb hn hn8.2) kX8_isBranch tw925 tw13 (by assumption) (by decide) rfl rfl rfl (by simp [Value.category]) (by decide) (Nat.zero_le _) (Nat.zero_le _) rfl dX8_parent_3 (q := 6) rfl ?_
  refine v_if_eq h dX8_parent_6 (q := 9) rfl (tgt := 13) (by decide) (fun c1 => absurd c1 (by decide)) (fun c1 => ?_)
  refine v_iconst h (v := nI 0) dX8_parent_9 (q := 10) rfl (by decide +kernel) ?_
  refine v_goto h dX8_parent_10 (tgt := 14) (by decide) ?_
  refine v_callV1 h (c_X8_isFine hfl hm) kX8_isFine tw929 tw14 (by assumption) (by decide) rfl rfl rfl (by simp [Value.category]) (by decide) (Nat.zero_le _) (Nat.zero_le _) rfl dX8_parent_14 (q := 17) rfl ?_
  refine v_if_eq h dX8_parent_17 (q := 20) rfl (tgt := 29) (by decide) (fun c2 => absurd c2 (by decide)) (fun c2 => ?_)
  refine v_aload_n h (i := 0) dX8_parent_20 (q := 21) rfl rfl rfl ?_
  refine v_getr h fl_X8_22 (by assumption) rfl (by assumption) dX8_parent_21 (q := 24) rfl ?_
  refine v_iload_n h (i := 1) dX8_parent_24 (q := 25) rfl rfl rfl ?_
  refine v_iald h (by assumption) rfl (by first | assumption | omega) (by decide) dX8_parent_25 (q := 26) rfl ?_
  refine v_goto h dX8_parent_26 (tgt := 30) (by decide) ?_
  refine v_iret h hQ rfl rfl dX8_parent_30 (Nat.zero_le _) (Nat.zero_le _) ⟨rfl, rfl, rfl, rfl, rfl⟩
set_option maxHeartbeats 4000000 in
set_option maxRecDepth 100000 in
theorem x1_X8_parent {l : Launch} (hfl : l.stackTraces = false) {sz : Nat} {sk : pb_Sk} {rf : pb_Rf} {sg : pb_Sg} {M : Nat} (hm : pb_md sk rf M) {n : Nat} (hn : sg M 8 = nI n) (hn8 : 1 ≤ n ∧ n ≤ 8) {x : Int32} (hx : ∀ b, b < n → ¬ x = nI b) : pb_Met l mX8_parent 6 0 0 [.ref M, .int x] sz sk rf sg (pb_is (some (.int (nI 0))) sz sk rf (pb_up sg M 0 (nI 1))) := by
  refine pb_start hfl (by decide +kernel) rfl (pb_c1 rfl) (Nat.le_of_ble_eq_true rfl) (fun F hF h hQ => ?_)
  subst hF
  show pv F 0 0 sz sk rf sg 0 [some (.ref M), some (.int x)] []
  obtain ⟨hM0, hr1, hk1, hr2, hk2, hr3, hk3, hr4, hk4, hr5, hk5, hr6, hk6, hr7, hk7, hr8, hk8, hr9, hk9, hr10, hk10, hr11, hk11, hr12, hk12, hr13, hk13, hr14, hk14, hr15, hk15, hr16, hk16, hr17, hk17, hr18, hk18, hr19, hk19, hr20, hk20, hr21, hk21, hr22, hk22, hr23, hk23, hr24, hk24⟩ := id hm
  refine v_aload_n h (i := 0) dX8_parent_0 (q := 1) rfl rfl rfl ?_
  refine v_aload_n h (i := 0) dX8_parent_1 (q := 2) rfl rfl rfl ?_
  refine v_iload_n h (i := 1) dX8_parent_2 (q := 3) rfl rfl rfl ?_
  refine v_callV1 h (x_X8_isBranch hfl hm hx hn hn8) kX8_isBranch tw925 tw13 (by assumption) (by decide) rfl rfl rfl (by simp [Value.category]) (by decide) (Nat.zero_le _) (Nat.zero_le _) rfl dX8_parent_3 (q := 6) rfl ?_
  refine v_if_eq h dX8_parent_6 (q := 9) rfl (tgt := 13) (by decide) (fun c1 => ?_) (fun c1 => absurd c1 (by decide))
  refine v_iconst h (v := nI 1) dX8_parent_13 (q := 14) rfl (by decide +kernel) ?_
  refine v_callV1 h (x_X8_isFine hfl hm (by decide)) kX8_isFine tw929 tw14 (by assumption) (by decide) rfl rfl rfl (by simp [Value.category]) (by decide) (Nat.zero_le _) (Nat.zero_le _) rfl dX8_parent_14 (q := 17) rfl ?_
  refine v_if_eq h dX8_parent_17 (q := 20) rfl (tgt := 29) (by decide) (fun c2 => ?_) (fun c2 => absurd c2 (by decide))
  refine v_iconst h (v := nI 0) dX8_parent_29 (q := 30) rfl (by decide +kernel) ?_
  refine v_iret h hQ rfl rfl dX8_parent_30 (Nat.zero_le _) (Nat.zero_le _) ⟨rfl, rfl, rfl, rfl, rfl⟩
set_option maxHeartbeats 4000000 in
set_option maxRecDepth 100000 in
theorem c_X8_way {l : Launch} (hfl : l.stackTraces = false) {sz : Nat} {sk : pb_Sk} {rf : pb_Rf} {sg : pb_Sg} {M : Nat} (hm : pb_md sk rf M) {n : Nat} (hn : sg M 8 = nI n) (hn8 : 1 ≤ n ∧ n ≤ 8) {b : Nat} (hb : b < n) : pb_Met l mX8_way 6 0 0 [.ref M, .int (nI b)] sz sk rf sg (pb_is (some (.int (pb_gmx (pb_gK (pb_up sg M 0 (nI 0)) M b 16 (M + 19)) 16))) sz sk rf (pb_gK (pb_up sg M 0 (nI 0)) M b 16)) := by
  refine pb_start hfl (by decide +kernel) rfl (pb_c1 rfl) (Nat.le_of_ble_eq_true rfl) (fun F hF h hQ => ?_)
  subst hF
  show pv F 0 0 sz sk rf sg 0 [some (.ref M), some (.int (nI b))] []
  obtain ⟨hM0, hr1, hk1, hr2, hk2, hr3, hk3, hr4, hk4, hr5, hk5, hr6, hk6, hr7, hk7, hr8, hk8, hr9, hk9, hr10, hk10, hr11, hk11, hr12, hk12, hr13, hk13, hr14, hk14, hr15, hk15, hr16, hk16, hr17, hk17, hr18, hk18, hr19, hk19, hr20, hk20, hr21, hk21, hr22, hk22, hr23, hk23, hr24, hk24⟩ := id hm
  refine v_aload_n h (i := 0) dX8_way_0 (q := 1) rfl rfl rfl ?_
  refine v_aload_n h (i := 0) dX8_way_1 (q := 2) rfl rfl rfl ?_
  refine v_iload_n h (i := 1) dX8_way_2 (q := 3) rfl rfl rfl ?_
  refine v_callV1 h (c_X8_isBranch hfl hm hb hn hn8.2) kX8_isBranch tw925 tw13 (by assumption) (by decide) rfl rfl rfl (by simp [Value.category]) (by decide) (Nat.zero_le _) (Nat.zero_le _) rfl dX8_way_3 (q := 6) rfl ?_
  refine v_if_eq h dX8_way_6 (q := 9) rfl (tgt := 13) (by decide) (fun c1 => absurd c1 (by decide)) (fun c1 => ?_)
  refine v_iconst h (v := nI 0) dX8_way_9 (q := 10) rfl (by decide +kernel) ?_
  refine v_goto h dX8_way_10 (tgt := 14) (by decide) ?_
  refine v_callV1 h (c_X8_isFine hfl hm) kX8_isFine tw929 tw14 (by assumption) (by decide) rfl rfl rfl (by simp [Value.category]) (by decide) (Nat.zero_le _) (Nat.zero_le _) rfl dX8_way_14 (q := 17) rfl ?_
  refine v_if_eq h dX8_way_17 (q := 20) rfl (tgt := 28) (by decide) (fun c2 => absurd c2 (by decide)) (fun c2 => ?_)
  refine v_aload_n h (i := 0) dX8_way_20 (q := 21) rfl rfl rfl ?_
  refine v_iload_n h (i := 1) dX8_way_21 (q := 22) rfl rfl rfl ?_
  refine v_callV1 h (c_X8_goes hfl hm (by omega)) kX8_goes tw1086 tw36 (by assumption) (by decide) rfl rfl rfl (by simp [Value.category]) (by decide) (Nat.zero_le _) (Nat.zero_le _) rfl dX8_way_22 (q := 25) rfl ?_
  refine v_goto h dX8_way_25 (tgt := 29) (by decide) ?_
  refine v_iret h hQ rfl rfl dX8_way_29 (Nat.zero_le _) (Nat.zero_le _) ⟨rfl, rfl, rfl, rfl, rfl⟩
set_option maxHeartbeats 4000000 in
set_option maxRecDepth 100000 in
theorem x1_X8_way {l : Launch} (hfl : l.stackTraces = false) {sz : Nat} {sk : pb_Sk} {rf : pb_Rf} {sg : pb_Sg} {M : Nat} (hm : pb_md sk rf M) {n : Nat} (hn : sg M 8 = nI n) (hn8 : 1 ≤ n ∧ n ≤ 8) {x : Int32} (hx : ∀ b, b < n → ¬ x = nI b) : pb_Met l mX8_way 6 0 0 [.ref M, .int x] sz sk rf sg (pb_is (some (.int (nI 0))) sz sk rf (pb_up sg M 0 (nI 1))) := by
  refine pb_start hfl (by decide +kernel) rfl (pb_c1 rfl) (Nat.le_of_ble_eq_true rfl) (fun F hF h hQ => ?_)
  subst hF
  show pv F 0 0 sz sk rf sg 0 [some (.ref M), some (.int x)] []
  obtain ⟨hM0, hr1, hk1, hr2, hk2, hr3, hk3, hr4, hk4, hr5, hk5, hr6, hk6, hr7, hk7, hr8, hk8, hr9, hk9, hr10, hk10, hr11, hk11, hr12, hk12, hr13, hk13, hr14, hk14, hr15, hk15, hr16, hk16, hr17, hk17, hr18, hk18, hr19, hk19, hr20, hk20, hr21, hk21, hr22, hk22, hr23, hk23, hr24, hk24⟩ := id hm
  refine v_aload_n h (i := 0) dX8_way_0 (q := 1) rfl rfl rfl ?_
  refine v_aload_n h (i := 0) dX8_way_1 (q := 2) rfl rfl rfl ?_
  refine v_iload_n h (i := 1) dX8_way_2 (q := 3) rfl rfl rfl ?_
  refine v_callV1 h (x_X8_isBranch hfl hm hx hn hn8) kX8_isBranch tw925 tw13 (by assumption) (by decide) rfl rfl rfl (by simp [Value.category]) (by decide) (Nat.zero_le _) (Nat.zero_le _) rfl dX8_way_3 (q := 6) rfl ?_
  refine v_if_eq h dX8_way_6 (q := 9) rfl (tgt := 13) (by decide) (fun c1 => ?_) (fun c1 => absurd c1 (by decide))
  refine v_iconst h (v := nI 1) dX8_way_13 (q := 14) rfl (by decide +kernel) ?_
  refine v_callV1 h (x_X8_isFine hfl hm (by decide)) kX8_isFine tw929 tw14 (by assumption) (by decide) rfl rfl rfl (by simp [Value.category]) (by decide) (Nat.zero_le _) (Nat.zero_le _) rfl dX8_way_14 (q := 17) rfl ?_
  refine v_if_eq h dX8_way_17 (q := 20) rfl (tgt := 28) (by decide) (fun c2 => ?_) (fun c2 => absurd c2 (by decide))
  refine v_iconst h (v := nI 0) dX8_way_28 (q := 29) rfl (by decide +kernel) ?_
  refine v_iret h hQ rfl rfl dX8_way_29 (Nat.zero_le _) (Nat.zero_le _) ⟨rfl, rfl, rfl, rfl, rfl⟩
set_option maxHeartbeats 4000000 in
set_option maxRecDepth 100000 in
theorem c_X8_branches {l : Launch} (hfl : l.stackTraces = false) {sz : Nat} {sk : pb_Sk} {rf : pb_Rf} {sg : pb_Sg} {M : Nat} (hm : pb_md sk rf M) : pb_Met l mX8_branches 6 0 0 [.ref M] sz sk rf sg (pb_is (some (.int ((pb_up sg M 0 (nI 0)) M 8))) sz sk rf (pb_up sg M 0 (nI 0))) := by
  refine pb_start hfl (by decide +kernel) rfl (pb_c1 rfl) (Nat.le_of_ble_eq_true rfl) (fun F hF h hQ => ?_)
  subst hF
  show pv F 0 0 sz sk rf sg 0 [some (.ref M)] []
  obtain ⟨hM0, hr1, hk1, hr2, hk2, hr3, hk3, hr4, hk4, hr5, hk5, hr6, hk6, hr7, hk7, hr8, hk8, hr9, hk9, hr10, hk10, hr11, hk11, hr12, hk12, hr13, hk13, hr14, hk14, hr15, hk15, hr16, hk16, hr17, hk17, hr18, hk18, hr19, hk19, hr20, hk20, hr21, hk21, hr22, hk22, hr23, hk23, hr24, hk24⟩ := id hm
  refine v_aload_n h (i := 0) dX8_branches_0 (q := 1) rfl rfl rfl ?_
  refine v_iconst h (v := nI 0) dX8_branches_1 (q := 2) rfl (by decide +kernel) ?_
  refine v_puti h fl_X8_88 (by assumption) rfl rfl dX8_branches_2 (q := 5) rfl ?_
  refine v_aload_n h (i := 0) dX8_branches_5 (q := 6) rfl rfl rfl ?_
  refine v_geti h fl_X8_31 (by assumption) rfl dX8_branches_6 (q := 9) rfl ?_
  refine v_iret h hQ rfl rfl dX8_branches_9 (Nat.zero_le _) (Nat.zero_le _) ⟨rfl, rfl, rfl, rfl, rfl⟩
set_option maxHeartbeats 4000000 in
set_option maxRecDepth 100000 in
theorem c_X8_setBudget {l : Launch} (hfl : l.stackTraces = false) {sz : Nat} {sk : pb_Sk} {rf : pb_Rf} {sg : pb_Sg} {M : Nat} (hm : pb_md sk rf M) {n : Nat} (hn : sg M 8 = nI n) (hn8 : 1 ≤ n ∧ n ≤ 8) {b : Nat} (hb : b < n) {y : Int32} (h1 : nI 0 ≤ y ∧ y ≤ 1000000) : pb_Met l mX8_setBudget 6 0 0 [.ref M, .int (nI b), .int y] sz sk rf sg (pb_is (some (.int ((pb_up sg M 0 (nI 0)) (M + 6) b))) sz sk rf (pb_up (pb_up sg M 0 (nI 0)) (M + 6) b y)) := by
  refine pb_start hfl (by decide +kernel) rfl (pb_c1 rfl) (Nat.le_of_ble_eq_true rfl) (fun F hF h hQ => ?_)
  subst hF
  show pv F 0 0 sz sk rf sg 0 [some (.ref M), some (.int (nI b)), some (.int y), none] []
  obtain ⟨hM0, hr1, hk1, hr2, hk2, hr3, hk3, hr4, hk4, hr5, hk5, hr6, hk6, hr7, hk7, hr8, hk8, hr9, hk9, hr10, hk10, hr11, hk11, hr12, hk12, hr13, hk13, hr14, hk14, hr15, hk15, hr16, hk16, hr17, hk17, hr18, hk18, hr19, hk19, hr20, hk20, hr21, hk21, hr22, hk22, hr23, hk23, hr24, hk24⟩ := id hm
  refine v_aload_n h (i := 0) dX8_setBudget_0 (q := 1) rfl rfl rfl ?_
  refine v_aload_n h (i := 0) dX8_setBudget_1 (q := 2) rfl rfl rfl ?_
  refine v_iload_n h (i := 1) dX8_setBudget_2 (q := 3) rfl rfl rfl ?_
  refine v_callV1 h (c_X8_isBranch hfl hm hb hn hn8.2) kX8_isBranch tw925 tw13 (by assumption) (by decide) rfl rfl rfl (by simp [Value.category]) (by decide) (Nat.zero_le _) (Nat.zero_le _) rfl dX8_setBudget_3 (q := 6) rfl ?_
  refine v_if_ne h dX8_setBudget_6 (q := 9) rfl (tgt := 13) (by decide) (fun c1 => ?_) (fun c1 => absurd c1 (by decide))
  refine v_iload_n h (i := 2) dX8_setBudget_13 (q := 14) rfl rfl rfl ?_
  refine v_iconst h (v := nI 0) dX8_setBudget_14 (q := 15) rfl (by decide +kernel) ?_
  refine v_ldc h dX8_setBudget_15 (q := 17) rfl tw824 ?_
  refine v_callS1 h (c_X8_isIn hfl h1) kX8_isIn rfl tw922 rfl rfl (by simp [Value.category]) (by decide) (Nat.zero_le _) (Nat.zero_le _) rfl dX8_setBudget_17 (q := 20) rfl ?_
  refine v_if_ne h dX8_setBudget_20 (q := 23) rfl (tgt := 27) (by decide) (fun c2 => ?_) (fun c2 => absurd c2 (by decide))
  refine v_iconst h (v := nI 0) dX8_setBudget_27 (q := 28) rfl (by decide +kernel) ?_
  refine v_callV1 h (c_X8_isFine hfl hm) kX8_isFine tw929 tw14 (by assumption) (by decide) rfl rfl rfl (by simp [Value.category]) (by decide) (Nat.zero_le _) (Nat.zero_le _) rfl dX8_setBudget_28 (q := 31) rfl ?_
  refine v_if_ne h dX8_setBudget_31 (q := 34) rfl (tgt := 36) (by decide) (fun c3 => ?_) (fun c3 => absurd c3 (by decide))
  refine v_aload_n h (i := 0) dX8_setBudget_36 (q := 37) rfl rfl rfl ?_
  refine v_getr h fl_X8_25 (by assumption) rfl (by assumption) dX8_setBudget_37 (q := 40) rfl ?_
  refine v_iload_n h (i := 1) dX8_setBudget_40 (q := 41) rfl rfl rfl ?_
  refine v_iald h (by assumption) rfl (by first | assumption | omega) (by decide) dX8_setBudget_41 (q := 42) rfl ?_
  refine v_istore_n h (i := 3) dX8_setBudget_42 (q := 43) rfl rfl (Nat.le_of_ble_eq_true rfl) rfl ?_
  refine v_aload_n h (i := 0) dX8_setBudget_43 (q := 44) rfl rfl rfl ?_
  refine v_getr h fl_X8_25 (by assumption) rfl (by assumption) dX8_setBudget_44 (q := 47) rfl ?_
  refine v_iload_n h (i := 1) dX8_setBudget_47 (q := 48) rfl rfl rfl ?_
  refine v_iload_n h (i := 2) dX8_setBudget_48 (q := 49) rfl rfl rfl ?_
  refine v_iast h (by assumption) rfl (by first | assumption | omega) (by decide) dX8_setBudget_49 (q := 50) rfl ?_
  refine v_iload_n h (i := 3) dX8_setBudget_50 (q := 51) rfl rfl rfl ?_
  refine v_iret h hQ rfl rfl dX8_setBudget_51 (Nat.zero_le _) (Nat.zero_le _) ⟨rfl, rfl, rfl, rfl, rfl⟩
set_option maxHeartbeats 4000000 in
set_option maxRecDepth 100000 in
theorem x1_X8_setBudget {l : Launch} (hfl : l.stackTraces = false) {sz : Nat} {sk : pb_Sk} {rf : pb_Rf} {sg : pb_Sg} {M : Nat} (hm : pb_md sk rf M) {n : Nat} (hn : sg M 8 = nI n) (hn8 : 1 ≤ n ∧ n ≤ 8) {x : Int32} (hx : ∀ b, b < n → ¬ x = nI b) {y : Int32} : pb_Met l mX8_setBudget 6 0 0 [.ref M, .int x, .int y] sz sk rf sg (pb_is (some (.int (nI 0))) sz sk rf (pb_up sg M 0 (nI 1))) := by
  refine pb_start hfl (by decide +kernel) rfl (pb_c1 rfl) (Nat.le_of_ble_eq_true rfl) (fun F hF h hQ => ?_)
  subst hF
  show pv F 0 0 sz sk rf sg 0 [some (.ref M), some (.int x), some (.int y), none] []
  obtain ⟨hM0, hr1, hk1, hr2, hk2, hr3, hk3, hr4, hk4, hr5, hk5, hr6, hk6, hr7, hk7, hr8, hk8, hr9, hk9, hr10, hk10, hr11, hk11, hr12, hk12, hr13, hk13, hr14, hk14, hr15, hk15, hr16, hk16, hr17, hk17, hr18, hk18, hr19, hk19, hr20, hk20, hr21, hk21, hr22, hk22, hr23, hk23, hr24, hk24⟩ := id hm
  refine v_aload_n h (i := 0) dX8_setBudget_0 (q := 1) rfl rfl rfl ?_
  refine v_aload_n h (i := 0) dX8_setBudget_1 (q := 2) rfl rfl rfl ?_
  refine v_iload_n h (i := 1) dX8_setBudget_2 (q := 3) rfl rfl rfl ?_
  refine v_callV1 h (x_X8_isBranch hfl hm hx hn hn8) kX8_isBranch tw925 tw13 (by assumption) (by decide) rfl rfl rfl (by simp [Value.category]) (by decide) (Nat.zero_le _) (Nat.zero_le _) rfl dX8_setBudget_3 (q := 6) rfl ?_
  refine v_if_ne h dX8_setBudget_6 (q := 9) rfl (tgt := 13) (by decide) (fun c1 => absurd c1 (by decide)) (fun c1 => ?_)
  refine v_iconst h (v := nI 1) dX8_setBudget_9 (q := 10) rfl (by decide +kernel) ?_
  refine v_goto h dX8_setBudget_10 (tgt := 28) (by decide) ?_
  refine v_callV1 h (x_X8_isFine hfl hm (by decide)) kX8_isFine tw929 tw14 (by assumption) (by decide) rfl rfl rfl (by simp [Value.category]) (by decide) (Nat.zero_le _) (Nat.zero_le _) rfl dX8_setBudget_28 (q := 31) rfl ?_
  refine v_if_ne h dX8_setBudget_31 (q := 34) rfl (tgt := 36) (by decide) (fun c2 => absurd c2 (by decide)) (fun c2 => ?_)
  refine v_iconst h (v := nI 0) dX8_setBudget_34 (q := 35) rfl (by decide +kernel) ?_
  refine v_iret h hQ rfl rfl dX8_setBudget_35 (Nat.zero_le _) (Nat.zero_le _) ⟨rfl, rfl, rfl, rfl, rfl⟩
set_option maxHeartbeats 4000000 in
set_option maxRecDepth 100000 in
theorem x2_X8_setBudget {l : Launch} (hfl : l.stackTraces = false) {sz : Nat} {sk : pb_Sk} {rf : pb_Rf} {sg : pb_Sg} {M : Nat} (hm : pb_md sk rf M) {n : Nat} (hn : sg M 8 = nI n) (hn8 : 1 ≤ n ∧ n ≤ 8) {b : Nat} (hb : b < n) {y : Int32} (hbad : ¬ (nI 0 ≤ y ∧ y ≤ 1000000)) : pb_Met l mX8_setBudget 6 0 0 [.ref M, .int (nI b), .int y] sz sk rf sg (pb_is (some (.int (nI 0))) sz sk rf (pb_up sg M 0 (nI 2))) := by
  refine pb_start hfl (by decide +kernel) rfl (pb_c1 rfl) (Nat.le_of_ble_eq_true rfl) (fun F hF h hQ => ?_)
  subst hF
  show pv F 0 0 sz sk rf sg 0 [some (.ref M), some (.int (nI b)), some (.int y), none] []
  obtain ⟨hM0, hr1, hk1, hr2, hk2, hr3, hk3, hr4, hk4, hr5, hk5, hr6, hk6, hr7, hk7, hr8, hk8, hr9, hk9, hr10, hk10, hr11, hk11, hr12, hk12, hr13, hk13, hr14, hk14, hr15, hk15, hr16, hk16, hr17, hk17, hr18, hk18, hr19, hk19, hr20, hk20, hr21, hk21, hr22, hk22, hr23, hk23, hr24, hk24⟩ := id hm
  refine v_aload_n h (i := 0) dX8_setBudget_0 (q := 1) rfl rfl rfl ?_
  refine v_aload_n h (i := 0) dX8_setBudget_1 (q := 2) rfl rfl rfl ?_
  refine v_iload_n h (i := 1) dX8_setBudget_2 (q := 3) rfl rfl rfl ?_
  refine v_callV1 h (c_X8_isBranch hfl hm hb hn hn8.2) kX8_isBranch tw925 tw13 (by assumption) (by decide) rfl rfl rfl (by simp [Value.category]) (by decide) (Nat.zero_le _) (Nat.zero_le _) rfl dX8_setBudget_3 (q := 6) rfl ?_
  refine v_if_ne h dX8_setBudget_6 (q := 9) rfl (tgt := 13) (by decide) (fun c1 => ?_) (fun c1 => absurd c1 (by decide))
  refine v_iload_n h (i := 2) dX8_setBudget_13 (q := 14) rfl rfl rfl ?_
  refine v_iconst h (v := nI 0) dX8_setBudget_14 (q := 15) rfl (by decide +kernel) ?_
  refine v_ldc h dX8_setBudget_15 (q := 17) rfl tw824 ?_
  refine v_callS1 h (x_X8_isIn hfl hbad) kX8_isIn rfl tw922 rfl rfl (by simp [Value.category]) (by decide) (Nat.zero_le _) (Nat.zero_le _) rfl dX8_setBudget_17 (q := 20) rfl ?_
  refine v_if_ne h dX8_setBudget_20 (q := 23) rfl (tgt := 27) (by decide) (fun c2 => absurd c2 (by decide)) (fun c2 => ?_)
  refine v_iconst h (v := nI 2) dX8_setBudget_23 (q := 24) rfl (by decide +kernel) ?_
  refine v_goto h dX8_setBudget_24 (tgt := 28) (by decide) ?_
  refine v_callV1 h (x_X8_isFine hfl hm (by decide)) kX8_isFine tw929 tw14 (by assumption) (by decide) rfl rfl rfl (by simp [Value.category]) (by decide) (Nat.zero_le _) (Nat.zero_le _) rfl dX8_setBudget_28 (q := 31) rfl ?_
  refine v_if_ne h dX8_setBudget_31 (q := 34) rfl (tgt := 36) (by decide) (fun c3 => absurd c3 (by decide)) (fun c3 => ?_)
  refine v_iconst h (v := nI 0) dX8_setBudget_34 (q := 35) rfl (by decide +kernel) ?_
  refine v_iret h hQ rfl rfl dX8_setBudget_35 (Nat.zero_le _) (Nat.zero_le _) ⟨rfl, rfl, rfl, rfl, rfl⟩
set_option maxHeartbeats 4000000 in
set_option maxRecDepth 100000 in
theorem c_X8_give {l : Launch} (hfl : l.stackTraces = false) {sz : Nat} {sk : pb_Sk} {rf : pb_Rf} {sg : pb_Sg} {M : Nat} (hm : pb_md sk rf M) {n : Nat} (hn : sg M 8 = nI n) (hn8 : 1 ≤ n ∧ n ≤ 8) {b : Nat} (hb : b < n) {c : Nat} (hc : c < 5) : pb_Met l mX8_give 6 0 0 [.ref M, .int (nI c), .int (nI b)] sz sk rf sg (pb_is (some (.int ((pb_up sg M 0 (nI 0)) (M + 14) c))) sz sk rf (pb_up (pb_up sg M 0 (nI 0)) (M + 14) c (nI b))) := by
  refine pb_start hfl (by decide +kernel) rfl (pb_c1 rfl) (Nat.le_of_ble_eq_true rfl) (fun F hF h hQ => ?_)
  subst hF
  show pv F 0 0 sz sk rf sg 0 [some (.ref M), some (.int (nI c)), some (.int (nI b)), none] []
  obtain ⟨hM0, hr1, hk1, hr2, hk2, hr3, hk3, hr4, hk4, hr5, hk5, hr6, hk6, hr7, hk7, hr8, hk8, hr9, hk9, hr10, hk10, hr11, hk11, hr12, hk12, hr13, hk13, hr14, hk14, hr15, hk15, hr16, hk16, hr17, hk17, hr18, hk18, hr19, hk19, hr20, hk20, hr21, hk21, hr22, hk22, hr23, hk23, hr24, hk24⟩ := id hm
  refine v_aload_n h (i := 0) dX8_give_0 (q := 1) rfl rfl rfl ?_
  refine v_aload_n h (i := 0) dX8_give_1 (q := 2) rfl rfl rfl ?_
  refine v_iload_n h (i := 2) dX8_give_2 (q := 3) rfl rfl rfl ?_
  refine v_callV1 h (c_X8_isBranch hfl hm hb hn hn8.2) kX8_isBranch tw925 tw13 (by assumption) (by decide) rfl rfl rfl (by simp [Value.category]) (by decide) (Nat.zero_le _) (Nat.zero_le _) rfl dX8_give_3 (q := 6) rfl ?_
  refine v_if_ne h dX8_give_6 (q := 9) rfl (tgt := 13) (by decide) (fun c1 => ?_) (fun c1 => absurd c1 (by decide))
  refine v_iload_n h (i := 1) dX8_give_13 (q := 14) rfl rfl rfl ?_
  refine v_callS1 h (c_X8_isCrew hfl hc) kX8_isCrew rfl tw1133 rfl rfl (by simp [Value.category]) (by decide) (Nat.zero_le _) (Nat.zero_le _) rfl dX8_give_14 (q := 17) rfl ?_
  refine v_if_ne h dX8_give_17 (q := 20) rfl (tgt := 24) (by decide) (fun c2 => ?_) (fun c2 => absurd c2 (by decide))
  refine v_iconst h (v := nI 0) dX8_give_24 (q := 25) rfl (by decide +kernel) ?_
  refine v_callV1 h (c_X8_isFine hfl hm) kX8_isFine tw929 tw14 (by assumption) (by decide) rfl rfl rfl (by simp [Value.category]) (by decide) (Nat.zero_le _) (Nat.zero_le _) rfl dX8_give_25 (q := 28) rfl ?_
  refine v_if_ne h dX8_give_28 (q := 31) rfl (tgt := 33) (by decide) (fun c3 => ?_) (fun c3 => absurd c3 (by decide))
  refine v_aload_n h (i := 0) dX8_give_33 (q := 34) rfl rfl rfl ?_
  refine v_getr h fl_X8_53 (by assumption) rfl (by assumption) dX8_give_34 (q := 37) rfl ?_
  refine v_iload_n h (i := 1) dX8_give_37 (q := 38) rfl rfl rfl ?_
  refine v_iald h (by assumption) rfl (by first | assumption | omega) (by decide) dX8_give_38 (q := 39) rfl ?_
  refine v_istore_n h (i := 3) dX8_give_39 (q := 40) rfl rfl (Nat.le_of_ble_eq_true rfl) rfl ?_
  refine v_aload_n h (i := 0) dX8_give_40 (q := 41) rfl rfl rfl ?_
  refine v_getr h fl_X8_53 (by assumption) rfl (by assumption) dX8_give_41 (q := 44) rfl ?_
  refine v_iload_n h (i := 1) dX8_give_44 (q := 45) rfl rfl rfl ?_
  refine v_iload_n h (i := 2) dX8_give_45 (q := 46) rfl rfl rfl ?_
  refine v_iast h (by assumption) rfl (by first | assumption | omega) (by decide) dX8_give_46 (q := 47) rfl ?_
  refine v_iload_n h (i := 3) dX8_give_47 (q := 48) rfl rfl rfl ?_
  refine v_iret h hQ rfl rfl dX8_give_48 (Nat.zero_le _) (Nat.zero_le _) ⟨rfl, rfl, rfl, rfl, rfl⟩
set_option maxHeartbeats 4000000 in
set_option maxRecDepth 100000 in
theorem x1_X8_give {l : Launch} (hfl : l.stackTraces = false) {sz : Nat} {sk : pb_Sk} {rf : pb_Rf} {sg : pb_Sg} {M : Nat} (hm : pb_md sk rf M) {n : Nat} (hn : sg M 8 = nI n) (hn8 : 1 ≤ n ∧ n ≤ 8) {x : Int32} (hx : ∀ b, b < n → ¬ x = nI b) {c : Int32} : pb_Met l mX8_give 6 0 0 [.ref M, .int c, .int x] sz sk rf sg (pb_is (some (.int (nI 0))) sz sk rf (pb_up sg M 0 (nI 1))) := by
  refine pb_start hfl (by decide +kernel) rfl (pb_c1 rfl) (Nat.le_of_ble_eq_true rfl) (fun F hF h hQ => ?_)
  subst hF
  show pv F 0 0 sz sk rf sg 0 [some (.ref M), some (.int c), some (.int x), none] []
  obtain ⟨hM0, hr1, hk1, hr2, hk2, hr3, hk3, hr4, hk4, hr5, hk5, hr6, hk6, hr7, hk7, hr8, hk8, hr9, hk9, hr10, hk10, hr11, hk11, hr12, hk12, hr13, hk13, hr14, hk14, hr15, hk15, hr16, hk16, hr17, hk17, hr18, hk18, hr19, hk19, hr20, hk20, hr21, hk21, hr22, hk22, hr23, hk23, hr24, hk24⟩ := id hm
  refine v_aload_n h (i := 0) dX8_give_0 (q := 1) rfl rfl rfl ?_
  refine v_aload_n h (i := 0) dX8_give_1 (q := 2) rfl rfl rfl ?_
  refine v_iload_n h (i := 2) dX8_give_2 (q := 3) rfl rfl rfl ?_
  refine v_callV1 h (x_X8_isBranch hfl hm hx hn hn8) kX8_isBranch tw925 tw13 (by assumption) (by decide) rfl rfl rfl (by simp [Value.category]) (by decide) (Nat.zero_le _) (Nat.zero_le _) rfl dX8_give_3 (q := 6) rfl ?_
  refine v_if_ne h dX8_give_6 (q := 9) rfl (tgt := 13) (by decide) (fun c1 => absurd c1 (by decide)) (fun c1 => ?_)
  refine v_iconst h (v := nI 1) dX8_give_9 (q := 10) rfl (by decide +kernel) ?_
  refine v_goto h dX8_give_10 (tgt := 25) (by decide) ?_
  refine v_callV1 h (x_X8_isFine hfl hm (by decide)) kX8_isFine tw929 tw14 (by assumption) (by decide) rfl rfl rfl (by simp [Value.category]) (by decide) (Nat.zero_le _) (Nat.zero_le _) rfl dX8_give_25 (q := 28) rfl ?_
  refine v_if_ne h dX8_give_28 (q := 31) rfl (tgt := 33) (by decide) (fun c2 => absurd c2 (by decide)) (fun c2 => ?_)
  refine v_iconst h (v := nI 0) dX8_give_31 (q := 32) rfl (by decide +kernel) ?_
  refine v_iret h hQ rfl rfl dX8_give_32 (Nat.zero_le _) (Nat.zero_le _) ⟨rfl, rfl, rfl, rfl, rfl⟩
set_option maxHeartbeats 4000000 in
set_option maxRecDepth 100000 in
theorem x2_X8_give {l : Launch} (hfl : l.stackTraces = false) {sz : Nat} {sk : pb_Sk} {rf : pb_Rf} {sg : pb_Sg} {M : Nat} (hm : pb_md sk rf M) {n : Nat} (hn : sg M 8 = nI n) (hn8 : 1 ≤ n ∧ n ≤ 8) {b : Nat} (hb : b < n) {c : Int32} (hbad : ¬ (nI 0 ≤ c ∧ c ≤ nI 4)) : pb_Met l mX8_give 6 0 0 [.ref M, .int c, .int (nI b)] sz sk rf sg (pb_is (some (.int (nI 0))) sz sk rf (pb_up sg M 0 (nI 2))) := by
  refine pb_start hfl (by decide +kernel) rfl (pb_c1 rfl) (Nat.le_of_ble_eq_true rfl) (fun F hF h hQ => ?_)
  subst hF
  show pv F 0 0 sz sk rf sg 0 [some (.ref M), some (.int c), some (.int (nI b)), none] []
  obtain ⟨hM0, hr1, hk1, hr2, hk2, hr3, hk3, hr4, hk4, hr5, hk5, hr6, hk6, hr7, hk7, hr8, hk8, hr9, hk9, hr10, hk10, hr11, hk11, hr12, hk12, hr13, hk13, hr14, hk14, hr15, hk15, hr16, hk16, hr17, hk17, hr18, hk18, hr19, hk19, hr20, hk20, hr21, hk21, hr22, hk22, hr23, hk23, hr24, hk24⟩ := id hm
  refine v_aload_n h (i := 0) dX8_give_0 (q := 1) rfl rfl rfl ?_
  refine v_aload_n h (i := 0) dX8_give_1 (q := 2) rfl rfl rfl ?_
  refine v_iload_n h (i := 2) dX8_give_2 (q := 3) rfl rfl rfl ?_
  refine v_callV1 h (c_X8_isBranch hfl hm hb hn hn8.2) kX8_isBranch tw925 tw13 (by assumption) (by decide) rfl rfl rfl (by simp [Value.category]) (by decide) (Nat.zero_le _) (Nat.zero_le _) rfl dX8_give_3 (q := 6) rfl ?_
  refine v_if_ne h dX8_give_6 (q := 9) rfl (tgt := 13) (by decide) (fun c1 => ?_) (fun c1 => absurd c1 (by decide))
  refine v_iload_n h (i := 1) dX8_give_13 (q := 14) rfl rfl rfl ?_
  refine v_callS1 h (x_X8_isCrew hfl hbad) kX8_isCrew rfl tw1133 rfl rfl (by simp [Value.category]) (by decide) (Nat.zero_le _) (Nat.zero_le _) rfl dX8_give_14 (q := 17) rfl ?_
  refine v_if_ne h dX8_give_17 (q := 20) rfl (tgt := 24) (by decide) (fun c2 => absurd c2 (by decide)) (fun c2 => ?_)
  refine v_iconst h (v := nI 2) dX8_give_20 (q := 21) rfl (by decide +kernel) ?_
  refine v_goto h dX8_give_21 (tgt := 25) (by decide) ?_
  refine v_callV1 h (x_X8_isFine hfl hm (by decide)) kX8_isFine tw929 tw14 (by assumption) (by decide) rfl rfl rfl (by simp [Value.category]) (by decide) (Nat.zero_le _) (Nat.zero_le _) rfl dX8_give_25 (q := 28) rfl ?_
  refine v_if_ne h dX8_give_28 (q := 31) rfl (tgt := 33) (by decide) (fun c3 => absurd c3 (by decide)) (fun c3 => ?_)
  refine v_iconst h (v := nI 0) dX8_give_31 (q := 32) rfl (by decide +kernel) ?_
  refine v_iret h hQ rfl rfl dX8_give_32 (Nat.zero_le _) (Nat.zero_le _) ⟨rfl, rfl, rfl, rfl, rfl⟩
set_option maxHeartbeats 4000000 in
set_option maxRecDepth 100000 in
theorem c_X8_holder {l : Launch} (hfl : l.stackTraces = false) {sz : Nat} {sk : pb_Sk} {rf : pb_Rf} {sg : pb_Sg} {M : Nat} (hm : pb_md sk rf M) {c dy L : Nat} (hc : c < 5) (hd : dy < 400) (hL : sg M 20 = nI L) (hL40 : L ≤ 40) : pb_Met l mX8_holder 6 0 0 [.ref M, .int (nI c), .int (nI dy)] sz sk rf sg (pb_is (some (.int (pb_mh (pb_up sg M 0 (nI 0)) M c (nI dy) L))) sz sk rf (pb_up sg M 0 (nI 0))) := by
  refine pb_start hfl (by decide +kernel) rfl (pb_c1 rfl) (Nat.le_of_ble_eq_true rfl) (fun F hF h hQ => ?_)
  subst hF
  show pv F 0 0 sz sk rf sg 0 [some (.ref M), some (.int (nI c)), some (.int (nI dy))] []
  obtain ⟨hM0, hr1, hk1, hr2, hk2, hr3, hk3, hr4, hk4, hr5, hk5, hr6, hk6, hr7, hk7, hr8, hk8, hr9, hk9, hr10, hk10, hr11, hk11, hr12, hk12, hr13, hk13, hr14, hk14, hr15, hk15, hr16, hk16, hr17, hk17, hr18, hk18, hr19, hk19, hr20, hk20, hr21, hk21, hr22, hk22, hr23, hk23, hr24, hk24⟩ := id hm
  refine v_aload_n h (i := 0) dX8_holder_0 (q := 1) rfl rfl rfl ?_
  refine v_iload_n h (i := 1) dX8_holder_1 (q := 2) rfl rfl rfl ?_
  refine v_callS1 h (c_X8_isCrew hfl hc) kX8_isCrew rfl tw1133 rfl rfl (by simp [Value.category]) (by decide) (Nat.zero_le _) (Nat.zero_le _) rfl dX8_holder_2 (q := 5) rfl ?_
  refine v_if_eq h dX8_holder_5 (q := 8) rfl (tgt := 19) (by decide) (fun c1 => absurd c1 (by decide)) (fun c1 => ?_)
  refine v_iload_n h (i := 2) dX8_holder_8 (q := 9) rfl rfl rfl ?_
  refine v_callS1 h (c_X8_isDay hfl hd) kX8_isDay rfl tw1140 rfl rfl (by simp [Value.category]) (by decide) (Nat.zero_le _) (Nat.zero_le _) rfl dX8_holder_9 (q := 12) rfl ?_
  refine v_if_eq h dX8_holder_12 (q := 15) rfl (tgt := 19) (by decide) (fun c2 => absurd c2 (by decide)) (fun c2 => ?_)
  refine v_iconst h (v := nI 0) dX8_holder_15 (q := 16) rfl (by decide +kernel) ?_
  refine v_goto h dX8_holder_16 (tgt := 20) (by decide) ?_
  refine v_callV1 h (c_X8_isFine hfl hm) kX8_isFine tw929 tw14 (by assumption) (by decide) rfl rfl rfl (by simp [Value.category]) (by decide) (Nat.zero_le _) (Nat.zero_le _) rfl dX8_holder_20 (q := 23) rfl ?_
  refine v_if_eq h dX8_holder_23 (q := 26) rfl (tgt := 35) (by decide) (fun c3 => absurd c3 (by decide)) (fun c3 => ?_)
  refine v_aload_n h (i := 0) dX8_holder_26 (q := 27) rfl rfl rfl ?_
  refine v_iload_n h (i := 1) dX8_holder_27 (q := 28) rfl rfl rfl ?_
  refine v_iload_n h (i := 2) dX8_holder_28 (q := 29) rfl rfl rfl ?_
  refine v_callV1 h (c_X8_holds hfl hm hc (show pb_up sg M 0 (nI 0) M 20 = nI L by rw [pb_up_ne3 (by decide)]; exact hL) hL40) kX8_holds tw1098 tw39 (by assumption) (by decide) rfl rfl rfl (by simp [Value.category]) (by decide) (Nat.zero_le _) (Nat.zero_le _) rfl dX8_holder_29 (q := 32) rfl ?_
  refine v_goto h dX8_holder_32 (tgt := 36) (by decide) ?_
  refine v_iret h hQ rfl rfl dX8_holder_36 (Nat.zero_le _) (Nat.zero_le _) ⟨rfl, rfl, rfl, rfl, rfl⟩
set_option maxHeartbeats 4000000 in
set_option maxRecDepth 100000 in
theorem x1_X8_holder {l : Launch} (hfl : l.stackTraces = false) {sz : Nat} {sk : pb_Sk} {rf : pb_Rf} {sg : pb_Sg} {M : Nat} (hm : pb_md sk rf M) {c dy : Int32} (hbad : ¬ ((nI 0 ≤ c ∧ c ≤ nI 4) ∧ (nI 0 ≤ dy ∧ dy ≤ nI 399))) : pb_Met l mX8_holder 6 0 0 [.ref M, .int c, .int dy] sz sk rf sg (pb_is (some (.int (nI 0))) sz sk rf (pb_up sg M 0 (nI 1))) := by
  refine pb_start hfl (by decide +kernel) rfl (pb_c1 rfl) (Nat.le_of_ble_eq_true rfl) (fun F hF h hQ => ?_)
  subst hF
  show pv F 0 0 sz sk rf sg 0 [some (.ref M), some (.int c), some (.int dy)] []
  obtain ⟨hM0, hr1, hk1, hr2, hk2, hr3, hk3, hr4, hk4, hr5, hk5, hr6, hk6, hr7, hk7, hr8, hk8, hr9, hk9, hr10, hk10, hr11, hk11, hr12, hk12, hr13, hk13, hr14, hk14, hr15, hk15, hr16, hk16, hr17, hk17, hr18, hk18, hr19, hk19, hr20, hk20, hr21, hk21, hr22, hk22, hr23, hk23, hr24, hk24⟩ := id hm
  refine v_aload_n h (i := 0) dX8_holder_0 (q := 1) rfl rfl rfl ?_
  refine v_iload_n h (i := 1) dX8_holder_1 (q := 2) rfl rfl rfl ?_
  by_cases hk1 : nI 0 ≤ c ∧ c ≤ nI 4
  · skip
    refine v_callS1 h (c2_X8_isCrew hfl hk1) kX8_isCrew rfl tw1133 rfl rfl (by simp [Value.category]) (by decide) (Nat.zero_le _) (Nat.zero_le _) rfl dX8_holder_2 (q := 5) rfl ?_
    refine v_if_eq h dX8_holder_5 (q := 8) rfl (tgt := 19) (by decide) (fun c1 => absurd c1 (by decide)) (fun c1 => ?_)
    refine v_iload_n h (i := 2) dX8_holder_8 (q := 9) rfl rfl rfl ?_
    by_cases hk2 : nI 0 ≤ dy ∧ dy ≤ nI 399
    · skip
      refine v_callS1 h (c2_X8_isDay hfl hk2) kX8_isDay rfl tw1140 rfl rfl (by simp [Value.category]) (by decide) (Nat.zero_le _) (Nat.zero_le _) rfl dX8_holder_9 (q := 12) rfl ?_
      refine v_if_eq h dX8_holder_12 (q := 15) rfl (tgt := 19) (by decide) (fun c2 => absurd c2 (by decide)) (fun c2 => ?_)
      exact absurd ⟨hk1, hk2⟩ hbad
    · skip
      refine v_callS1 h (x_X8_isDay hfl hk2) kX8_isDay rfl tw1140 rfl rfl (by simp [Value.category]) (by decide) (Nat.zero_le _) (Nat.zero_le _) rfl dX8_holder_9 (q := 12) rfl ?_
      refine v_if_eq h dX8_holder_12 (q := 15) rfl (tgt := 19) (by decide) (fun c3 => ?_) (fun c3 => absurd c3 (by decide))
      refine v_iconst h (v := nI 1) dX8_holder_19 (q := 20) rfl (by decide +kernel) ?_
      refine v_callV1 h (x_X8_isFine hfl hm (by decide)) kX8_isFine tw929 tw14 (by assumption) (by decide) rfl rfl rfl (by simp [Value.category]) (by decide) (Nat.zero_le _) (Nat.zero_le _) rfl dX8_holder_20 (q := 23) rfl ?_
      refine v_if_eq h dX8_holder_23 (q := 26) rfl (tgt := 35) (by decide) (fun c4 => ?_) (fun c4 => absurd c4 (by decide))
      refine v_iconst h (v := nI 0) dX8_holder_35 (q := 36) rfl (by decide +kernel) ?_
      refine v_iret h hQ rfl rfl dX8_holder_36 (Nat.zero_le _) (Nat.zero_le _) ⟨rfl, rfl, rfl, rfl, rfl⟩
  · skip
    refine v_callS1 h (x_X8_isCrew hfl hk1) kX8_isCrew rfl tw1133 rfl rfl (by simp [Value.category]) (by decide) (Nat.zero_le _) (Nat.zero_le _) rfl dX8_holder_2 (q := 5) rfl ?_
    refine v_if_eq h dX8_holder_5 (q := 8) rfl (tgt := 19) (by decide) (fun c5 => ?_) (fun c5 => absurd c5 (by decide))
    refine v_iconst h (v := nI 1) dX8_holder_19 (q := 20) rfl (by decide +kernel) ?_
    refine v_callV1 h (x_X8_isFine hfl hm (by decide)) kX8_isFine tw929 tw14 (by assumption) (by decide) rfl rfl rfl (by simp [Value.category]) (by decide) (Nat.zero_le _) (Nat.zero_le _) rfl dX8_holder_20 (q := 23) rfl ?_
    refine v_if_eq h dX8_holder_23 (q := 26) rfl (tgt := 35) (by decide) (fun c6 => ?_) (fun c6 => absurd c6 (by decide))
    refine v_iconst h (v := nI 0) dX8_holder_35 (q := 36) rfl (by decide +kernel) ?_
    refine v_iret h hQ rfl rfl dX8_holder_36 (Nat.zero_le _) (Nat.zero_le _) ⟨rfl, rfl, rfl, rfl, rfl⟩
set_option maxHeartbeats 4000000 in
set_option maxRecDepth 100000 in
theorem c_X8_resolve {l : Launch} (hfl : l.stackTraces = false) {sz : Nat} {sk : pb_Sk} {rf : pb_Rf} {sg : pb_Sg} {M : Nat} (hm : pb_md sk rf M) {n : Nat} (hn : sg M 8 = nI n) (hn8 : 1 ≤ n ∧ n ≤ 8) {b : Nat} (hb : b < n) {t : Nat} (ht : t < 16) (hpos : 0 < b) {y : Int32} (h1 : -1 ≤ y ∧ y ≤ nI 1) : pb_Met l mX8_resolve 6 0 0 [.ref M, .int (nI b), .int (nI t), .int y] sz sk rf sg (pb_is (some (.int ((pb_up sg M 0 (nI 0)) (M + 7) (16 * b + t)))) sz sk rf (pb_up (pb_up sg M 0 (nI 0)) (M + 7) (16 * b + t) y)) := by
  refine pb_start hfl (by decide +kernel) rfl (pb_c1 rfl) (Nat.le_of_ble_eq_true rfl) (fun F hF h hQ => ?_)
  subst hF
  show pv F 0 0 sz sk rf sg 0 [some (.ref M), some (.int (nI b)), some (.int (nI t)), some (.int y), none, none] []
  obtain ⟨hM0, hr1, hk1, hr2, hk2, hr3, hk3, hr4, hk4, hr5, hk5, hr6, hk6, hr7, hk7, hr8, hk8, hr9, hk9, hr10, hk10, hr11, hk11, hr12, hk12, hr13, hk13, hr14, hk14, hr15, hk15, hr16, hk16, hr17, hk17, hr18, hk18, hr19, hk19, hr20, hk20, hr21, hk21, hr22, hk22, hr23, hk23, hr24, hk24⟩ := id hm
  refine v_iload_n h (i := 2) dX8_resolve_0 (q := 1) rfl rfl rfl ?_
  refine v_callS1 h (c_X8_isTask hfl ht) kX8_isTask rfl tw919 rfl rfl (by simp [Value.category]) (by decide) (Nat.zero_le _) (Nat.zero_le _) rfl dX8_resolve_1 (q := 4) rfl ?_
  refine v_if_eq h dX8_resolve_4 (q := 7) rfl (tgt := 20) (by decide) (fun c1 => absurd c1 (by decide)) (fun c1 => ?_)
  refine v_iload_n h (i := 3) dX8_resolve_7 (q := 8) rfl rfl rfl ?_
  refine v_iconst h (v := (-1)) dX8_resolve_8 (q := 9) rfl (by decide +kernel) ?_
  refine v_iconst h (v := nI 1) dX8_resolve_9 (q := 10) rfl (by decide +kernel) ?_
  refine v_callS1 h (c_X8_isIn hfl h1) kX8_isIn rfl tw922 rfl rfl (by simp [Value.category]) (by decide) (Nat.zero_le _) (Nat.zero_le _) rfl dX8_resolve_10 (q := 13) rfl ?_
  refine v_if_eq h dX8_resolve_13 (q := 16) rfl (tgt := 20) (by decide) (fun c2 => absurd c2 (by decide)) (fun c2 => ?_)
  refine v_iconst h (v := nI 1) dX8_resolve_16 (q := 17) rfl (by decide +kernel) ?_
  refine v_goto h dX8_resolve_17 (tgt := 21) (by decide) ?_
  refine v_istore h dX8_resolve_21 (q := 23) rfl (Nat.le_of_ble_eq_true rfl) rfl ?_
  refine v_aload_n h (i := 0) dX8_resolve_23 (q := 24) rfl rfl rfl ?_
  refine v_aload_n h (i := 0) dX8_resolve_24 (q := 25) rfl rfl rfl ?_
  refine v_iload_n h (i := 1) dX8_resolve_25 (q := 26) rfl rfl rfl ?_
  refine v_callV1 h (c_X8_isBranch hfl hm hb hn hn8.2) kX8_isBranch tw925 tw13 (by assumption) (by decide) rfl rfl rfl (by simp [Value.category]) (by decide) (Nat.zero_le _) (Nat.zero_le _) rfl dX8_resolve_26 (q := 29) rfl ?_
  refine v_if_ne h dX8_resolve_29 (q := 32) rfl (tgt := 36) (by decide) (fun c3 => ?_) (fun c3 => absurd c3 (by decide))
  refine v_iload h dX8_resolve_36 (q := 38) rfl rfl ?_
  refine v_if_ne h dX8_resolve_38 (q := 41) rfl (tgt := 45) (by decide) (fun c4 => ?_) (fun c4 => absurd c4 (by decide))
  refine v_iload_n h (i := 1) dX8_resolve_45 (q := 46) rfl rfl rfl ?_
  refine v_if_ne h dX8_resolve_46 (q := 49) rfl (tgt := 53) (by decide) (fun c5 => ?_) (fun c5 => absurd c5 (nI_ne0 hpos (by omega)))
  refine v_iconst h (v := nI 0) dX8_resolve_53 (q := 54) rfl (by decide +kernel) ?_
  refine v_callV1 h (c_X8_isFine hfl hm) kX8_isFine tw929 tw14 (by assumption) (by decide) rfl rfl rfl (by simp [Value.category]) (by decide) (Nat.zero_le _) (Nat.zero_le _) rfl dX8_resolve_54 (q := 57) rfl ?_
  refine v_if_ne h dX8_resolve_57 (q := 60) rfl (tgt := 62) (by decide) (fun c6 => ?_) (fun c6 => absurd c6 (by decide))
  refine v_aload_n h (i := 0) dX8_resolve_62 (q := 63) rfl rfl rfl ?_
  refine v_getr h fl_X8_28 (by assumption) rfl (by assumption) dX8_resolve_63 (q := 66) rfl ?_
  refine v_iload_n h (i := 1) dX8_resolve_66 (q := 67) rfl rfl rfl ?_
  refine v_iload_n h (i := 2) dX8_resolve_67 (q := 68) rfl rfl rfl ?_
  refine v_callS1 h (c_X8_at hfl ) kX8_at rfl tw937 rfl rfl (by simp [Value.category]) (by decide) (Nat.zero_le _) (Nat.zero_le _) rfl dX8_resolve_68 (q := 71) rfl ?_
  refine v_iald h (by assumption) rfl (by first | assumption | omega) (by decide) dX8_resolve_71 (q := 72) rfl ?_
  refine v_istore h dX8_resolve_72 (q := 74) rfl (Nat.le_of_ble_eq_true rfl) rfl ?_
  refine v_aload_n h (i := 0) dX8_resolve_74 (q := 75) rfl rfl rfl ?_
  refine v_getr h fl_X8_28 (by assumption) rfl (by assumption) dX8_resolve_75 (q := 78) rfl ?_
  refine v_iload_n h (i := 1) dX8_resolve_78 (q := 79) rfl rfl rfl ?_
  refine v_iload_n h (i := 2) dX8_resolve_79 (q := 80) rfl rfl rfl ?_
  refine v_callS1 h (c_X8_at hfl ) kX8_at rfl tw937 rfl rfl (by simp [Value.category]) (by decide) (Nat.zero_le _) (Nat.zero_le _) rfl dX8_resolve_80 (q := 83) rfl ?_
  refine v_iload_n h (i := 3) dX8_resolve_83 (q := 84) rfl rfl rfl ?_
  refine v_iast h (by assumption) rfl (by first | assumption | omega) (by decide) dX8_resolve_84 (q := 85) rfl ?_
  refine v_iload h dX8_resolve_85 (q := 87) rfl rfl ?_
  refine v_iret h hQ rfl rfl dX8_resolve_87 (Nat.zero_le _) (Nat.zero_le _) ⟨rfl, rfl, rfl, rfl, rfl⟩
set_option maxHeartbeats 4000000 in
set_option maxRecDepth 100000 in
theorem x3_X8_resolve {l : Launch} (hfl : l.stackTraces = false) {sz : Nat} {sk : pb_Sk} {rf : pb_Rf} {sg : pb_Sg} {M : Nat} (hm : pb_md sk rf M) {n : Nat} (hn : sg M 8 = nI n) (hn8 : 1 ≤ n ∧ n ≤ 8) {b : Nat} (hb : b < n) {t : Nat} (ht : t < 16) (hz : b = 0) {y : Int32} (h1 : -1 ≤ y ∧ y ≤ nI 1) : pb_Met l mX8_resolve 6 0 0 [.ref M, .int (nI b), .int (nI t), .int y] sz sk rf sg (pb_is (some (.int (nI 0))) sz sk rf (pb_up sg M 0 (nI 3))) := by
  refine pb_start hfl (by decide +kernel) rfl (pb_c1 rfl) (Nat.le_of_ble_eq_true rfl) (fun F hF h hQ => ?_)
  subst hF
  show pv F 0 0 sz sk rf sg 0 [some (.ref M), some (.int (nI b)), some (.int (nI t)), some (.int y), none, none] []
  obtain ⟨hM0, hr1, hk1, hr2, hk2, hr3, hk3, hr4, hk4, hr5, hk5, hr6, hk6, hr7, hk7, hr8, hk8, hr9, hk9, hr10, hk10, hr11, hk11, hr12, hk12, hr13, hk13, hr14, hk14, hr15, hk15, hr16, hk16, hr17, hk17, hr18, hk18, hr19, hk19, hr20, hk20, hr21, hk21, hr22, hk22, hr23, hk23, hr24, hk24⟩ := id hm
  refine v_iload_n h (i := 2) dX8_resolve_0 (q := 1) rfl rfl rfl ?_
  refine v_callS1 h (c_X8_isTask hfl ht) kX8_isTask rfl tw919 rfl rfl (by simp [Value.category]) (by decide) (Nat.zero_le _) (Nat.zero_le _) rfl dX8_resolve_1 (q := 4) rfl ?_
  refine v_if_eq h dX8_resolve_4 (q := 7) rfl (tgt := 20) (by decide) (fun c1 => absurd c1 (by decide)) (fun c1 => ?_)
  refine v_iload_n h (i := 3) dX8_resolve_7 (q := 8) rfl rfl rfl ?_
  refine v_iconst h (v := (-1)) dX8_resolve_8 (q := 9) rfl (by decide +kernel) ?_
  refine v_iconst h (v := nI 1) dX8_resolve_9 (q := 10) rfl (by decide +kernel) ?_
  refine v_callS1 h (c_X8_isIn hfl h1) kX8_isIn rfl tw922 rfl rfl (by simp [Value.category]) (by decide) (Nat.zero_le _) (Nat.zero_le _) rfl dX8_resolve_10 (q := 13) rfl ?_
  refine v_if_eq h dX8_resolve_13 (q := 16) rfl (tgt := 20) (by decide) (fun c2 => absurd c2 (by decide)) (fun c2 => ?_)
  refine v_iconst h (v := nI 1) dX8_resolve_16 (q := 17) rfl (by decide +kernel) ?_
  refine v_goto h dX8_resolve_17 (tgt := 21) (by decide) ?_
  refine v_istore h dX8_resolve_21 (q := 23) rfl (Nat.le_of_ble_eq_true rfl) rfl ?_
  refine v_aload_n h (i := 0) dX8_resolve_23 (q := 24) rfl rfl rfl ?_
  refine v_aload_n h (i := 0) dX8_resolve_24 (q := 25) rfl rfl rfl ?_
  refine v_iload_n h (i := 1) dX8_resolve_25 (q := 26) rfl rfl rfl ?_
  refine v_callV1 h (c_X8_isBranch hfl hm hb hn hn8.2) kX8_isBranch tw925 tw13 (by assumption) (by decide) rfl rfl rfl (by simp [Value.category]) (by decide) (Nat.zero_le _) (Nat.zero_le _) rfl dX8_resolve_26 (q := 29) rfl ?_
  refine v_if_ne h dX8_resolve_29 (q := 32) rfl (tgt := 36) (by decide) (fun c3 => ?_) (fun c3 => absurd c3 (by decide))
  refine v_iload h dX8_resolve_36 (q := 38) rfl rfl ?_
  refine v_if_ne h dX8_resolve_38 (q := 41) rfl (tgt := 45) (by decide) (fun c4 => ?_) (fun c4 => absurd c4 (by decide))
  refine v_iload_n h (i := 1) dX8_resolve_45 (q := 46) rfl rfl rfl ?_
  refine v_if_ne h dX8_resolve_46 (q := 49) rfl (tgt := 53) (by decide) (fun c5 => absurd (by rw [hz]; rfl) c5) (fun c5 => ?_)
  refine v_iconst h (v := nI 3) dX8_resolve_49 (q := 50) rfl (by decide +kernel) ?_
  refine v_goto h dX8_resolve_50 (tgt := 54) (by decide) ?_
  refine v_callV1 h (x_X8_isFine hfl hm (by decide)) kX8_isFine tw929 tw14 (by assumption) (by decide) rfl rfl rfl (by simp [Value.category]) (by decide) (Nat.zero_le _) (Nat.zero_le _) rfl dX8_resolve_54 (q := 57) rfl ?_
  refine v_if_ne h dX8_resolve_57 (q := 60) rfl (tgt := 62) (by decide) (fun c6 => absurd c6 (by decide)) (fun c6 => ?_)
  refine v_iconst h (v := nI 0) dX8_resolve_60 (q := 61) rfl (by decide +kernel) ?_
  refine v_iret h hQ rfl rfl dX8_resolve_61 (Nat.zero_le _) (Nat.zero_le _) ⟨rfl, rfl, rfl, rfl, rfl⟩
set_option maxHeartbeats 4000000 in
set_option maxRecDepth 100000 in
theorem x1_X8_resolve {l : Launch} (hfl : l.stackTraces = false) {sz : Nat} {sk : pb_Sk} {rf : pb_Rf} {sg : pb_Sg} {M : Nat} (hm : pb_md sk rf M) {n : Nat} (hn : sg M 8 = nI n) (hn8 : 1 ≤ n ∧ n ≤ 8) {x : Int32} (hx : ∀ b, b < n → ¬ x = nI b) {t y : Int32} : pb_Met l mX8_resolve 6 0 0 [.ref M, .int x, .int t, .int y] sz sk rf sg (pb_is (some (.int (nI 0))) sz sk rf (pb_up sg M 0 (nI 1))) := by
  refine pb_start hfl (by decide +kernel) rfl (pb_c1 rfl) (Nat.le_of_ble_eq_true rfl) (fun F hF h hQ => ?_)
  subst hF
  show pv F 0 0 sz sk rf sg 0 [some (.ref M), some (.int x), some (.int t), some (.int y), none, none] []
  obtain ⟨hM0, hr1, hk1, hr2, hk2, hr3, hk3, hr4, hk4, hr5, hk5, hr6, hk6, hr7, hk7, hr8, hk8, hr9, hk9, hr10, hk10, hr11, hk11, hr12, hk12, hr13, hk13, hr14, hk14, hr15, hk15, hr16, hk16, hr17, hk17, hr18, hk18, hr19, hk19, hr20, hk20, hr21, hk21, hr22, hk22, hr23, hk23, hr24, hk24⟩ := id hm
  refine v_iload_n h (i := 2) dX8_resolve_0 (q := 1) rfl rfl rfl ?_
  by_cases hk1 : nI 0 ≤ t ∧ t ≤ nI 15
  · skip
    refine v_callS1 h (c2_X8_isTask hfl hk1) kX8_isTask rfl tw919 rfl rfl (by simp [Value.category]) (by decide) (Nat.zero_le _) (Nat.zero_le _) rfl dX8_resolve_1 (q := 4) rfl ?_
    refine v_if_eq h dX8_resolve_4 (q := 7) rfl (tgt := 20) (by decide) (fun c1 => absurd c1 (by decide)) (fun c1 => ?_)
    refine v_iload_n h (i := 3) dX8_resolve_7 (q := 8) rfl rfl rfl ?_
    refine v_iconst h (v := (-1)) dX8_resolve_8 (q := 9) rfl (by decide +kernel) ?_
    refine v_iconst h (v := nI 1) dX8_resolve_9 (q := 10) rfl (by decide +kernel) ?_
    by_cases hk2 : -1 ≤ y ∧ y ≤ nI 1
    · skip
      refine v_callS1 h (c_X8_isIn hfl hk2) kX8_isIn rfl tw922 rfl rfl (by simp [Value.category]) (by decide) (Nat.zero_le _) (Nat.zero_le _) rfl dX8_resolve_10 (q := 13) rfl ?_
      refine v_if_eq h dX8_resolve_13 (q := 16) rfl (tgt := 20) (by decide) (fun c2 => absurd c2 (by decide)) (fun c2 => ?_)
      refine v_iconst h (v := nI 1) dX8_resolve_16 (q := 17) rfl (by decide +kernel) ?_
      refine v_goto h dX8_resolve_17 (tgt := 21) (by decide) ?_
      refine v_istore h dX8_resolve_21 (q := 23) rfl (Nat.le_of_ble_eq_true rfl) rfl ?_
      refine v_aload_n h (i := 0) dX8_resolve_23 (q := 24) rfl rfl rfl ?_
      refine v_aload_n h (i := 0) dX8_resolve_24 (q := 25) rfl rfl rfl ?_
      refine v_iload_n h (i := 1) dX8_resolve_25 (q := 26) rfl rfl rfl ?_
      refine v_callV1 h (x_X8_isBranch hfl hm hx hn hn8) kX8_isBranch tw925 tw13 (by assumption) (by decide) rfl rfl rfl (by simp [Value.category]) (by decide) (Nat.zero_le _) (Nat.zero_le _) rfl dX8_resolve_26 (q := 29) rfl ?_
      refine v_if_ne h dX8_resolve_29 (q := 32) rfl (tgt := 36) (by decide) (fun c3 => absurd c3 (by decide)) (fun c3 => ?_)
      refine v_iconst h (v := nI 1) dX8_resolve_32 (q := 33) rfl (by decide +kernel) ?_
      refine v_goto h dX8_resolve_33 (tgt := 54) (by decide) ?_
      refine v_callV1 h (x_X8_isFine hfl hm (by decide)) kX8_isFine tw929 tw14 (by assumption) (by decide) rfl rfl rfl (by simp [Value.category]) (by decide) (Nat.zero_le _) (Nat.zero_le _) rfl dX8_resolve_54 (q := 57) rfl ?_
      refine v_if_ne h dX8_resolve_57 (q := 60) rfl (tgt := 62) (by decide) (fun c4 => absurd c4 (by decide)) (fun c4 => ?_)
      refine v_iconst h (v := nI 0) dX8_resolve_60 (q := 61) rfl (by decide +kernel) ?_
      refine v_iret h hQ rfl rfl dX8_resolve_61 (Nat.zero_le _) (Nat.zero_le _) ⟨rfl, rfl, rfl, rfl, rfl⟩
    · skip
      refine v_callS1 h (x_X8_isIn hfl hk2) kX8_isIn rfl tw922 rfl rfl (by simp [Value.category]) (by decide) (Nat.zero_le _) (Nat.zero_le _) rfl dX8_resolve_10 (q := 13) rfl ?_
      refine v_if_eq h dX8_resolve_13 (q := 16) rfl (tgt := 20) (by decide) (fun c5 => ?_) (fun c5 => absurd c5 (by decide))
      refine v_iconst h (v := nI 0) dX8_resolve_20 (q := 21) rfl (by decide +kernel) ?_
      refine v_istore h dX8_resolve_21 (q := 23) rfl (Nat.le_of_ble_eq_true rfl) rfl ?_
      refine v_aload_n h (i := 0) dX8_resolve_23 (q := 24) rfl rfl rfl ?_
      refine v_aload_n h (i := 0) dX8_resolve_24 (q := 25) rfl rfl rfl ?_
      refine v_iload_n h (i := 1) dX8_resolve_25 (q := 26) rfl rfl rfl ?_
      refine v_callV1 h (x_X8_isBranch hfl hm hx hn hn8) kX8_isBranch tw925 tw13 (by assumption) (by decide) rfl rfl rfl (by simp [Value.category]) (by decide) (Nat.zero_le _) (Nat.zero_le _) rfl dX8_resolve_26 (q := 29) rfl ?_
      refine v_if_ne h dX8_resolve_29 (q := 32) rfl (tgt := 36) (by decide) (fun c6 => absurd c6 (by decide)) (fun c6 => ?_)
      refine v_iconst h (v := nI 1) dX8_resolve_32 (q := 33) rfl (by decide +kernel) ?_
      refine v_goto h dX8_resolve_33 (tgt := 54) (by decide) ?_
      refine v_callV1 h (x_X8_isFine hfl hm (by decide)) kX8_isFine tw929 tw14 (by assumption) (by decide) rfl rfl rfl (by simp [Value.category]) (by decide) (Nat.zero_le _) (Nat.zero_le _) rfl dX8_resolve_54 (q := 57) rfl ?_
      refine v_if_ne h dX8_resolve_57 (q := 60) rfl (tgt := 62) (by decide) (fun c7 => absurd c7 (by decide)) (fun c7 => ?_)
      refine v_iconst h (v := nI 0) dX8_resolve_60 (q := 61) rfl (by decide +kernel) ?_
      refine v_iret h hQ rfl rfl dX8_resolve_61 (Nat.zero_le _) (Nat.zero_le _) ⟨rfl, rfl, rfl, rfl, rfl⟩
  · skip
    refine v_callS1 h (x_X8_isTask hfl hk1) kX8_isTask rfl tw919 rfl rfl (by simp [Value.category]) (by decide) (Nat.zero_le _) (Nat.zero_le _) rfl dX8_resolve_1 (q := 4) rfl ?_
    refine v_if_eq h dX8_resolve_4 (q := 7) rfl (tgt := 20) (by decide) (fun c8 => ?_) (fun c8 => absurd c8 (by decide))
    refine v_iconst h (v := nI 0) dX8_resolve_20 (q := 21) rfl (by decide +kernel) ?_
    refine v_istore h dX8_resolve_21 (q := 23) rfl (Nat.le_of_ble_eq_true rfl) rfl ?_
    refine v_aload_n h (i := 0) dX8_resolve_23 (q := 24) rfl rfl rfl ?_
    refine v_aload_n h (i := 0) dX8_resolve_24 (q := 25) rfl rfl rfl ?_
    refine v_iload_n h (i := 1) dX8_resolve_25 (q := 26) rfl rfl rfl ?_
    refine v_callV1 h (x_X8_isBranch hfl hm hx hn hn8) kX8_isBranch tw925 tw13 (by assumption) (by decide) rfl rfl rfl (by simp [Value.category]) (by decide) (Nat.zero_le _) (Nat.zero_le _) rfl dX8_resolve_26 (q := 29) rfl ?_
    refine v_if_ne h dX8_resolve_29 (q := 32) rfl (tgt := 36) (by decide) (fun c9 => absurd c9 (by decide)) (fun c9 => ?_)
    refine v_iconst h (v := nI 1) dX8_resolve_32 (q := 33) rfl (by decide +kernel) ?_
    refine v_goto h dX8_resolve_33 (tgt := 54) (by decide) ?_
    refine v_callV1 h (x_X8_isFine hfl hm (by decide)) kX8_isFine tw929 tw14 (by assumption) (by decide) rfl rfl rfl (by simp [Value.category]) (by decide) (Nat.zero_le _) (Nat.zero_le _) rfl dX8_resolve_54 (q := 57) rfl ?_
    refine v_if_ne h dX8_resolve_57 (q := 60) rfl (tgt := 62) (by decide) (fun c10 => absurd c10 (by decide)) (fun c10 => ?_)
    refine v_iconst h (v := nI 0) dX8_resolve_60 (q := 61) rfl (by decide +kernel) ?_
    refine v_iret h hQ rfl rfl dX8_resolve_61 (Nat.zero_le _) (Nat.zero_le _) ⟨rfl, rfl, rfl, rfl, rfl⟩
set_option maxHeartbeats 4000000 in
set_option maxRecDepth 100000 in
theorem x2_X8_resolve {l : Launch} (hfl : l.stackTraces = false) {sz : Nat} {sk : pb_Sk} {rf : pb_Rf} {sg : pb_Sg} {M : Nat} (hm : pb_md sk rf M) {n : Nat} (hn : sg M 8 = nI n) (hn8 : 1 ≤ n ∧ n ≤ 8) {b : Nat} (hb : b < n) {t y : Int32} (hbad : ¬ ((nI 0 ≤ t ∧ t ≤ nI 15) ∧ (-1 ≤ y ∧ y ≤ nI 1))) : pb_Met l mX8_resolve 6 0 0 [.ref M, .int (nI b), .int t, .int y] sz sk rf sg (pb_is (some (.int (nI 0))) sz sk rf (pb_up sg M 0 (nI 2))) := by
  refine pb_start hfl (by decide +kernel) rfl (pb_c1 rfl) (Nat.le_of_ble_eq_true rfl) (fun F hF h hQ => ?_)
  subst hF
  show pv F 0 0 sz sk rf sg 0 [some (.ref M), some (.int (nI b)), some (.int t), some (.int y), none, none] []
  obtain ⟨hM0, hr1, hk1, hr2, hk2, hr3, hk3, hr4, hk4, hr5, hk5, hr6, hk6, hr7, hk7, hr8, hk8, hr9, hk9, hr10, hk10, hr11, hk11, hr12, hk12, hr13, hk13, hr14, hk14, hr15, hk15, hr16, hk16, hr17, hk17, hr18, hk18, hr19, hk19, hr20, hk20, hr21, hk21, hr22, hk22, hr23, hk23, hr24, hk24⟩ := id hm
  refine v_iload_n h (i := 2) dX8_resolve_0 (q := 1) rfl rfl rfl ?_
  by_cases hk1 : nI 0 ≤ t ∧ t ≤ nI 15
  · skip
    refine v_callS1 h (c2_X8_isTask hfl hk1) kX8_isTask rfl tw919 rfl rfl (by simp [Value.category]) (by decide) (Nat.zero_le _) (Nat.zero_le _) rfl dX8_resolve_1 (q := 4) rfl ?_
    refine v_if_eq h dX8_resolve_4 (q := 7) rfl (tgt := 20) (by decide) (fun c1 => absurd c1 (by decide)) (fun c1 => ?_)
    refine v_iload_n h (i := 3) dX8_resolve_7 (q := 8) rfl rfl rfl ?_
    refine v_iconst h (v := (-1)) dX8_resolve_8 (q := 9) rfl (by decide +kernel) ?_
    refine v_iconst h (v := nI 1) dX8_resolve_9 (q := 10) rfl (by decide +kernel) ?_
    by_cases hk2 : -1 ≤ y ∧ y ≤ nI 1
    · skip
      refine v_callS1 h (c_X8_isIn hfl hk2) kX8_isIn rfl tw922 rfl rfl (by simp [Value.category]) (by decide) (Nat.zero_le _) (Nat.zero_le _) rfl dX8_resolve_10 (q := 13) rfl ?_
      refine v_if_eq h dX8_resolve_13 (q := 16) rfl (tgt := 20) (by decide) (fun c2 => absurd c2 (by decide)) (fun c2 => ?_)
      exact absurd ⟨hk1, hk2⟩ hbad
    · skip
      refine v_callS1 h (x_X8_isIn hfl hk2) kX8_isIn rfl tw922 rfl rfl (by simp [Value.category]) (by decide) (Nat.zero_le _) (Nat.zero_le _) rfl dX8_resolve_10 (q := 13) rfl ?_
      refine v_if_eq h dX8_resolve_13 (q := 16) rfl (tgt := 20) (by decide) (fun c3 => ?_) (fun c3 => absurd c3 (by decide))
      refine v_iconst h (v := nI 0) dX8_resolve_20 (q := 21) rfl (by decide +kernel) ?_
      refine v_istore h dX8_resolve_21 (q := 23) rfl (Nat.le_of_ble_eq_true rfl) rfl ?_
      refine v_aload_n h (i := 0) dX8_resolve_23 (q := 24) rfl rfl rfl ?_
      refine v_aload_n h (i := 0) dX8_resolve_24 (q := 25) rfl rfl rfl ?_
      refine v_iload_n h (i := 1) dX8_resolve_25 (q := 26) rfl rfl rfl ?_
      refine v_callV1 h (c_X8_isBranch hfl hm hb hn hn8.2) kX8_isBranch tw925 tw13 (by assumption) (by decide) rfl rfl rfl (by simp [Value.category]) (by decide) (Nat.zero_le _) (Nat.zero_le _) rfl dX8_resolve_26 (q := 29) rfl ?_
      refine v_if_ne h dX8_resolve_29 (q := 32) rfl (tgt := 36) (by decide) (fun c4 => ?_) (fun c4 => absurd c4 (by decide))
      refine v_iload h dX8_resolve_36 (q := 38) rfl rfl ?_
      refine v_if_ne h dX8_resolve_38 (q := 41) rfl (tgt := 45) (by decide) (fun c5 => absurd c5 (by decide)) (fun c5 => ?_)
      refine v_iconst h (v := nI 2) dX8_resolve_41 (q := 42) rfl (by decide +kernel) ?_
      refine v_goto h dX8_resolve_42 (tgt := 54) (by decide) ?_
      refine v_callV1 h (x_X8_isFine hfl hm (by decide)) kX8_isFine tw929 tw14 (by assumption) (by decide) rfl rfl rfl (by simp [Value.category]) (by decide) (Nat.zero_le _) (Nat.zero_le _) rfl dX8_resolve_54 (q := 57) rfl ?_
      refine v_if_ne h dX8_resolve_57 (q := 60) rfl (tgt := 62) (by decide) (fun c6 => absurd c6 (by decide)) (fun c6 => ?_)
      refine v_iconst h (v := nI 0) dX8_resolve_60 (q := 61) rfl (by decide +kernel) ?_
      refine v_iret h hQ rfl rfl dX8_resolve_61 (Nat.zero_le _) (Nat.zero_le _) ⟨rfl, rfl, rfl, rfl, rfl⟩
  · skip
    refine v_callS1 h (x_X8_isTask hfl hk1) kX8_isTask rfl tw919 rfl rfl (by simp [Value.category]) (by decide) (Nat.zero_le _) (Nat.zero_le _) rfl dX8_resolve_1 (q := 4) rfl ?_
    refine v_if_eq h dX8_resolve_4 (q := 7) rfl (tgt := 20) (by decide) (fun c7 => ?_) (fun c7 => absurd c7 (by decide))
    refine v_iconst h (v := nI 0) dX8_resolve_20 (q := 21) rfl (by decide +kernel) ?_
    refine v_istore h dX8_resolve_21 (q := 23) rfl (Nat.le_of_ble_eq_true rfl) rfl ?_
    refine v_aload_n h (i := 0) dX8_resolve_23 (q := 24) rfl rfl rfl ?_
    refine v_aload_n h (i := 0) dX8_resolve_24 (q := 25) rfl rfl rfl ?_
    refine v_iload_n h (i := 1) dX8_resolve_25 (q := 26) rfl rfl rfl ?_
    refine v_callV1 h (c_X8_isBranch hfl hm hb hn hn8.2) kX8_isBranch tw925 tw13 (by assumption) (by decide) rfl rfl rfl (by simp [Value.category]) (by decide) (Nat.zero_le _) (Nat.zero_le _) rfl dX8_resolve_26 (q := 29) rfl ?_
    refine v_if_ne h dX8_resolve_29 (q := 32) rfl (tgt := 36) (by decide) (fun c8 => ?_) (fun c8 => absurd c8 (by decide))
    refine v_iload h dX8_resolve_36 (q := 38) rfl rfl ?_
    refine v_if_ne h dX8_resolve_38 (q := 41) rfl (tgt := 45) (by decide) (fun c9 => absurd c9 (by decide)) (fun c9 => ?_)
    refine v_iconst h (v := nI 2) dX8_resolve_41 (q := 42) rfl (by decide +kernel) ?_
    refine v_goto h dX8_resolve_42 (tgt := 54) (by decide) ?_
    refine v_callV1 h (x_X8_isFine hfl hm (by decide)) kX8_isFine tw929 tw14 (by assumption) (by decide) rfl rfl rfl (by simp [Value.category]) (by decide) (Nat.zero_le _) (Nat.zero_le _) rfl dX8_resolve_54 (q := 57) rfl ?_
    refine v_if_ne h dX8_resolve_57 (q := 60) rfl (tgt := 62) (by decide) (fun c10 => absurd c10 (by decide)) (fun c10 => ?_)
    refine v_iconst h (v := nI 0) dX8_resolve_60 (q := 61) rfl (by decide +kernel) ?_
    refine v_iret h hQ rfl rfl dX8_resolve_61 (Nat.zero_le _) (Nat.zero_le _) ⟨rfl, rfl, rfl, rfl, rfl⟩
set_option maxHeartbeats 4000000 in
set_option maxRecDepth 100000 in
theorem c_X8_setTask {l : Launch} (hfl : l.stackTraces = false) {sz : Nat} {sk : pb_Sk} {rf : pb_Rf} {sg : pb_Sg} {M : Nat} (hm : pb_md sk rf M) {n : Nat} (hn : sg M 8 = nI n) (hn8 : 1 ≤ n ∧ n ≤ 8) {b : Nat} (hb : b < n) {t : Nat} (ht : t < 16) {len crew cost : Int32} (h1 : nI 1 ≤ len) (h2 : len ≤ nI 20) (h3 : -1 ≤ crew) (h4 : crew ≤ nI 4) (h5 : nI 0 ≤ cost) (h6 : cost ≤ nI 1000) {s : Nat} (hs : sg (M + 13) b = nI s) (hs30 : s ≤ 30) : pb_Met l mX8_setTask 6 0 0 [.ref M, .int (nI b), .int (nI t), .int len, .int crew, .int cost] sz sk rf sg (pb_is (some (.int (pb_b (pb_has ((pb_mkk (pb_up sg M 0 (nI 0)) M b t s) (M + 1)) (16 * b + t))))) sz sk rf (pb_ml (pb_mkk (pb_up sg M 0 (nI 0)) M b t s) M (16 * b + t) len crew cost ((pb_mkk (pb_up sg M 0 (nI 0)) M b t s) (M + 4) (16 * b + t)))) := by
  refine pb_start hfl (by decide +kernel) rfl (pb_c1 rfl) (Nat.le_of_ble_eq_true rfl) (fun F hF h hQ => ?_)
  subst hF
  show pv F 0 0 sz sk rf sg 0 [some (.ref M), some (.int (nI b)), some (.int (nI t)), some (.int len), some (.int crew), some (.int cost), none, none] []
  obtain ⟨hM0, hr1, hk1, hr2, hk2, hr3, hk3, hr4, hk4, hr5, hk5, hr6, hk6, hr7, hk7, hr8, hk8, hr9, hk9, hr10, hk10, hr11, hk11, hr12, hk12, hr13, hk13, hr14, hk14, hr15, hk15, hr16, hk16, hr17, hk17, hr18, hk18, hr19, hk19, hr20, hk20, hr21, hk21, hr22, hk22, hr23, hk23, hr24, hk24⟩ := id hm
  refine v_iload_n h (i := 2) dX8_setTask_0 (q := 1) rfl rfl rfl ?_
  refine v_callS1 h (c_X8_isTask hfl ht) kX8_isTask rfl tw919 rfl rfl (by simp [Value.category]) (by decide) (Nat.zero_le _) (Nat.zero_le _) rfl dX8_setTask_1 (q := 4) rfl ?_
  refine v_if_eq h dX8_setTask_4 (q := 7) rfl (tgt := 43) (by decide) (fun c1 => absurd c1 (by decide)) (fun c1 => ?_)
  refine v_iload_n h (i := 3) dX8_setTask_7 (q := 8) rfl rfl rfl ?_
  refine v_iconst h (v := nI 1) dX8_setTask_8 (q := 9) rfl (by decide +kernel) ?_
  refine v_bipush h (v := nI 20) dX8_setTask_9 (q := 11) rfl (by decide +kernel) ?_
  refine v_callS1 h (c_X8_isIn hfl ⟨h1, h2⟩) kX8_isIn rfl tw922 rfl rfl (by simp [Value.category]) (by decide) (Nat.zero_le _) (Nat.zero_le _) rfl dX8_setTask_11 (q := 14) rfl ?_
  refine v_if_eq h dX8_setTask_14 (q := 17) rfl (tgt := 43) (by decide) (fun c2 => absurd c2 (by decide)) (fun c2 => ?_)
  refine v_iload h dX8_setTask_17 (q := 19) rfl rfl ?_
  refine v_iconst h (v := (-1)) dX8_setTask_19 (q := 20) rfl (by decide +kernel) ?_
  refine v_iconst h (v := nI 4) dX8_setTask_20 (q := 21) rfl (by decide +kernel) ?_
  refine v_callS1 h (c_X8_isIn hfl ⟨h3, h4⟩) kX8_isIn rfl tw922 rfl rfl (by simp [Value.category]) (by decide) (Nat.zero_le _) (Nat.zero_le _) rfl dX8_setTask_21 (q := 24) rfl ?_
  refine v_if_eq h dX8_setTask_24 (q := 27) rfl (tgt := 43) (by decide) (fun c3 => absurd c3 (by decide)) (fun c3 => ?_)
  refine v_iload h dX8_setTask_27 (q := 29) rfl rfl ?_
  refine v_iconst h (v := nI 0) dX8_setTask_29 (q := 30) rfl (by decide +kernel) ?_
  refine v_sipush h (v := nI 1000) dX8_setTask_30 (q := 33) rfl (by decide +kernel) ?_
  refine v_callS1 h (c_X8_isIn hfl ⟨h5, h6⟩) kX8_isIn rfl tw922 rfl rfl (by simp [Value.category]) (by decide) (Nat.zero_le _) (Nat.zero_le _) rfl dX8_setTask_33 (q := 36) rfl ?_
  refine v_if_eq h dX8_setTask_36 (q := 39) rfl (tgt := 43) (by decide) (fun c4 => absurd c4 (by decide)) (fun c4 => ?_)
  refine v_iconst h (v := nI 1) dX8_setTask_39 (q := 40) rfl (by decide +kernel) ?_
  refine v_goto h dX8_setTask_40 (tgt := 44) (by decide) ?_
  refine v_istore h dX8_setTask_44 (q := 46) rfl (Nat.le_of_ble_eq_true rfl) rfl ?_
  refine v_aload_n h (i := 0) dX8_setTask_46 (q := 47) rfl rfl rfl ?_
  refine v_aload_n h (i := 0) dX8_setTask_47 (q := 48) rfl rfl rfl ?_
  refine v_iload_n h (i := 1) dX8_setTask_48 (q := 49) rfl rfl rfl ?_
  refine v_callV1 h (c_X8_isBranch hfl hm hb hn hn8.2) kX8_isBranch tw925 tw13 (by assumption) (by decide) rfl rfl rfl (by simp [Value.category]) (by decide) (Nat.zero_le _) (Nat.zero_le _) rfl dX8_setTask_49 (q := 52) rfl ?_
  refine v_if_ne h dX8_setTask_52 (q := 55) rfl (tgt := 59) (by decide) (fun c5 => ?_) (fun c5 => absurd c5 (by decide))
  refine v_iload h dX8_setTask_59 (q := 61) rfl rfl ?_
  refine v_if_ne h dX8_setTask_61 (q := 64) rfl (tgt := 68) (by decide) (fun c6 => ?_) (fun c6 => absurd c6 (by decide))
  refine v_iconst h (v := nI 0) dX8_setTask_68 (q := 69) rfl (by decide +kernel) ?_
  refine v_callV1 h (c_X8_isFine hfl hm) kX8_isFine tw929 tw14 (by assumption) (by decide) rfl rfl rfl (by simp [Value.category]) (by decide) (Nat.zero_le _) (Nat.zero_le _) rfl dX8_setTask_69 (q := 72) rfl ?_
  refine v_if_ne h dX8_setTask_72 (q := 75) rfl (tgt := 77) (by decide) (fun c7 => ?_) (fun c7 => absurd c7 (by decide))
  refine v_aload_n h (i := 0) dX8_setTask_77 (q := 78) rfl rfl rfl ?_
  refine v_iload_n h (i := 1) dX8_setTask_78 (q := 79) rfl rfl rfl ?_
  refine v_iload_n h (i := 2) dX8_setTask_79 (q := 80) rfl rfl rfl ?_
  refine v_callV0 h (c_X8_keeps hfl hm (show b < 8 by omega) ht (show pb_up sg M 0 (nI 0) (M + 13) b = nI s by rw [pb_up_neA (by omega)]; exact hs) hs30) kX8_keeps tw933 tw15 (by assumption) (by decide) rfl rfl rfl (by simp [Value.category]) (by decide) (Nat.zero_le _) (Nat.zero_le _) rfl dX8_setTask_80 (q := 83) rfl ?_
  refine v_aload_n h (i := 0) dX8_setTask_83 (q := 84) rfl rfl rfl ?_
  refine v_iload_n h (i := 1) dX8_setTask_84 (q := 85) rfl rfl rfl ?_
  refine v_iload_n h (i := 2) dX8_setTask_85 (q := 86) rfl rfl rfl ?_
  refine v_callV1 h (c_X8_isThere hfl hm (show b < 17 by omega) ht) kX8_isThere tw940 tw16 (by assumption) (by decide) rfl rfl rfl (by simp [Value.category]) (by decide) (Nat.zero_le _) (Nat.zero_le _) rfl dX8_setTask_86 (q := 89) rfl ?_
  refine v_istore h dX8_setTask_89 (q := 91) rfl (Nat.le_of_ble_eq_true rfl) rfl ?_
  refine v_aload_n h (i := 0) dX8_setTask_91 (q := 92) rfl rfl rfl ?_
  refine v_iload_n h (i := 1) dX8_setTask_92 (q := 93) rfl rfl rfl ?_
  refine v_iload_n h (i := 2) dX8_setTask_93 (q := 94) rfl rfl rfl ?_
  refine v_iload_n h (i := 3) dX8_setTask_94 (q := 95) rfl rfl rfl ?_
  refine v_iload h dX8_setTask_95 (q := 97) rfl rfl ?_
  refine v_iload h dX8_setTask_97 (q := 99) rfl rfl ?_
  refine v_aload_n h (i := 0) dX8_setTask_99 (q := 100) rfl rfl rfl ?_
  refine v_getr h fl_X8_19 (by assumption) rfl (by assumption) dX8_setTask_100 (q := 103) rfl ?_
  refine v_iload_n h (i := 1) dX8_setTask_103 (q := 104) rfl rfl rfl ?_
  refine v_iload_n h (i := 2) dX8_setTask_104 (q := 105) rfl rfl rfl ?_
  refine v_callS1 h (c_X8_at hfl ) kX8_at rfl tw937 rfl rfl (by simp [Value.category]) (by decide) (Nat.zero_le _) (Nat.zero_le _) rfl dX8_setTask_105 (q := 108) rfl ?_
  refine v_iald h (by assumption) rfl (by first | assumption | omega) (by decide) dX8_setTask_108 (q := 109) rfl ?_
  refine v_callV0 h (c_X8_lays hfl hm (show b < 17 by omega) ht) kX8_lays tw944 tw17 (by assumption) (by decide) rfl rfl rfl (by simp [Value.category]) (by decide) (Nat.zero_le _) (Nat.zero_le _) rfl dX8_setTask_109 (q := 112) rfl ?_
  refine v_iload h dX8_setTask_112 (q := 114) rfl rfl ?_
  refine v_iret h hQ rfl (by first | exact rfl | exact pb_b_nar _) dX8_setTask_114 (Nat.zero_le _) (Nat.zero_le _) ⟨rfl, rfl, rfl, rfl, rfl⟩
set_option maxHeartbeats 4000000 in
set_option maxRecDepth 100000 in
theorem x1_X8_setTask {l : Launch} (hfl : l.stackTraces = false) {sz : Nat} {sk : pb_Sk} {rf : pb_Rf} {sg : pb_Sg} {M : Nat} (hm : pb_md sk rf M) {n : Nat} (hn : sg M 8 = nI n) (hn8 : 1 ≤ n ∧ n ≤ 8) {x : Int32} (hx : ∀ b, b < n → ¬ x = nI b) {t len crew cost : Int32} : pb_Met l mX8_setTask 6 0 0 [.ref M, .int x, .int t, .int len, .int crew, .int cost] sz sk rf sg (pb_is (some (.int (nI 0))) sz sk rf (pb_up sg M 0 (nI 1))) := by
  refine pb_start hfl (by decide +kernel) rfl (pb_c1 rfl) (Nat.le_of_ble_eq_true rfl) (fun F hF h hQ => ?_)
  subst hF
  show pv F 0 0 sz sk rf sg 0 [some (.ref M), some (.int x), some (.int t), some (.int len), some (.int crew), some (.int cost), none, none] []
  obtain ⟨hM0, hr1, hk1, hr2, hk2, hr3, hk3, hr4, hk4, hr5, hk5, hr6, hk6, hr7, hk7, hr8, hk8, hr9, hk9, hr10, hk10, hr11, hk11, hr12, hk12, hr13, hk13, hr14, hk14, hr15, hk15, hr16, hk16, hr17, hk17, hr18, hk18, hr19, hk19, hr20, hk20, hr21, hk21, hr22, hk22, hr23, hk23, hr24, hk24⟩ := id hm
  refine v_iload_n h (i := 2) dX8_setTask_0 (q := 1) rfl rfl rfl ?_
  by_cases hk1 : nI 0 ≤ t ∧ t ≤ nI 15
  · skip
    refine v_callS1 h (c2_X8_isTask hfl hk1) kX8_isTask rfl tw919 rfl rfl (by simp [Value.category]) (by decide) (Nat.zero_le _) (Nat.zero_le _) rfl dX8_setTask_1 (q := 4) rfl ?_
    refine v_if_eq h dX8_setTask_4 (q := 7) rfl (tgt := 43) (by decide) (fun c1 => absurd c1 (by decide)) (fun c1 => ?_)
    refine v_iload_n h (i := 3) dX8_setTask_7 (q := 8) rfl rfl rfl ?_
    refine v_iconst h (v := nI 1) dX8_setTask_8 (q := 9) rfl (by decide +kernel) ?_
    refine v_bipush h (v := nI 20) dX8_setTask_9 (q := 11) rfl (by decide +kernel) ?_
    by_cases hk2 : nI 1 ≤ len ∧ len ≤ nI 20
    · skip
      refine v_callS1 h (c_X8_isIn hfl hk2) kX8_isIn rfl tw922 rfl rfl (by simp [Value.category]) (by decide) (Nat.zero_le _) (Nat.zero_le _) rfl dX8_setTask_11 (q := 14) rfl ?_
      refine v_if_eq h dX8_setTask_14 (q := 17) rfl (tgt := 43) (by decide) (fun c2 => absurd c2 (by decide)) (fun c2 => ?_)
      refine v_iload h dX8_setTask_17 (q := 19) rfl rfl ?_
      refine v_iconst h (v := (-1)) dX8_setTask_19 (q := 20) rfl (by decide +kernel) ?_
      refine v_iconst h (v := nI 4) dX8_setTask_20 (q := 21) rfl (by decide +kernel) ?_
      by_cases hk3 : -1 ≤ crew ∧ crew ≤ nI 4
      · skip
        refine v_callS1 h (c_X8_isIn hfl hk3) kX8_isIn rfl tw922 rfl rfl (by simp [Value.category]) (by decide) (Nat.zero_le _) (Nat.zero_le _) rfl dX8_setTask_21 (q := 24) rfl ?_
        refine v_if_eq h dX8_setTask_24 (q := 27) rfl (tgt := 43) (by decide) (fun c3 => absurd c3 (by decide)) (fun c3 => ?_)
        refine v_iload h dX8_setTask_27 (q := 29) rfl rfl ?_
        refine v_iconst h (v := nI 0) dX8_setTask_29 (q := 30) rfl (by decide +kernel) ?_
        refine v_sipush h (v := nI 1000) dX8_setTask_30 (q := 33) rfl (by decide +kernel) ?_
        by_cases hk4 : nI 0 ≤ cost ∧ cost ≤ nI 1000
        · skip
          refine v_callS1 h (c_X8_isIn hfl hk4) kX8_isIn rfl tw922 rfl rfl (by simp [Value.category]) (by decide) (Nat.zero_le _) (Nat.zero_le _) rfl dX8_setTask_33 (q := 36) rfl ?_
          refine v_if_eq h dX8_setTask_36 (q := 39) rfl (tgt := 43) (by decide) (fun c4 => absurd c4 (by decide)) (fun c4 => ?_)
          refine v_iconst h (v := nI 1) dX8_setTask_39 (q := 40) rfl (by decide +kernel) ?_
          refine v_goto h dX8_setTask_40 (tgt := 44) (by decide) ?_
          refine v_istore h dX8_setTask_44 (q := 46) rfl (Nat.le_of_ble_eq_true rfl) rfl ?_
          refine v_aload_n h (i := 0) dX8_setTask_46 (q := 47) rfl rfl rfl ?_
          refine v_aload_n h (i := 0) dX8_setTask_47 (q := 48) rfl rfl rfl ?_
          refine v_iload_n h (i := 1) dX8_setTask_48 (q := 49) rfl rfl rfl ?_
          refine v_callV1 h (x_X8_isBranch hfl hm hx hn hn8) kX8_isBranch tw925 tw13 (by assumption) (by decide) rfl rfl rfl (by simp [Value.category]) (by decide) (Nat.zero_le _) (Nat.zero_le _) rfl dX8_setTask_49 (q := 52) rfl ?_
          refine v_if_ne h dX8_setTask_52 (q := 55) rfl (tgt := 59) (by decide) (fun c5 => absurd c5 (by decide)) (fun c5 => ?_)
          refine v_iconst h (v := nI 1) dX8_setTask_55 (q := 56) rfl (by decide +kernel) ?_
          refine v_goto h dX8_setTask_56 (tgt := 69) (by decide) ?_
          refine v_callV1 h (x_X8_isFine hfl hm (by decide)) kX8_isFine tw929 tw14 (by assumption) (by decide) rfl rfl rfl (by simp [Value.category]) (by decide) (Nat.zero_le _) (Nat.zero_le _) rfl dX8_setTask_69 (q := 72) rfl ?_
          refine v_if_ne h dX8_setTask_72 (q := 75) rfl (tgt := 77) (by decide) (fun c6 => absurd c6 (by decide)) (fun c6 => ?_)
          refine v_iconst h (v := nI 0) dX8_setTask_75 (q := 76) rfl (by decide +kernel) ?_
          refine v_iret h hQ rfl (by first | exact rfl | exact pb_b_nar _) dX8_setTask_76 (Nat.zero_le _) (Nat.zero_le _) ⟨rfl, rfl, rfl, rfl, rfl⟩
        · skip
          refine v_callS1 h (x_X8_isIn hfl hk4) kX8_isIn rfl tw922 rfl rfl (by simp [Value.category]) (by decide) (Nat.zero_le _) (Nat.zero_le _) rfl dX8_setTask_33 (q := 36) rfl ?_
          refine v_if_eq h dX8_setTask_36 (q := 39) rfl (tgt := 43) (by decide) (fun c7 => ?_) (fun c7 => absurd c7 (by decide))
          refine v_iconst h (v := nI 0) dX8_setTask_43 (q := 44) rfl (by decide +kernel) ?_
          refine v_istore h dX8_setTask_44 (q := 46) rfl (Nat.le_of_ble_eq_true rfl) rfl ?_
          refine v_aload_n h (i := 0) dX8_setTask_46 (q := 47) rfl rfl rfl ?_
          refine v_aload_n h (i := 0) dX8_setTask_47 (q := 48) rfl rfl rfl ?_
          refine v_iload_n h (i := 1) dX8_setTask_48 (q := 49) rfl rfl rfl ?_
          refine v_callV1 h (x_X8_isBranch hfl hm hx hn hn8) kX8_isBranch tw925 tw13 (by assumption) (by decide) rfl rfl rfl (by simp [Value.category]) (by decide) (Nat.zero_le _) (Nat.zero_le _) rfl dX8_setTask_49 (q := 52) rfl ?_
          refine v_if_ne h dX8_setTask_52 (q := 55) rfl (tgt := 59) (by decide) (fun c8 => absurd c8 (by decide)) (fun c8 => ?_)
          refine v_iconst h (v := nI 1) dX8_setTask_55 (q := 56) rfl (by decide +kernel) ?_
          refine v_goto h dX8_setTask_56 (tgt := 69) (by decide) ?_
          refine v_callV1 h (x_X8_isFine hfl hm (by decide)) kX8_isFine tw929 tw14 (by assumption) (by decide) rfl rfl rfl (by simp [Value.category]) (by decide) (Nat.zero_le _) (Nat.zero_le _) rfl dX8_setTask_69 (q := 72) rfl ?_
          refine v_if_ne h dX8_setTask_72 (q := 75) rfl (tgt := 77) (by decide) (fun c9 => absurd c9 (by decide)) (fun c9 => ?_)
          refine v_iconst h (v := nI 0) dX8_setTask_75 (q := 76) rfl (by decide +kernel) ?_
          refine v_iret h hQ rfl (by first | exact rfl | exact pb_b_nar _) dX8_setTask_76 (Nat.zero_le _) (Nat.zero_le _) ⟨rfl, rfl, rfl, rfl, rfl⟩
      · skip
        refine v_callS1 h (x_X8_isIn hfl hk3) kX8_isIn rfl tw922 rfl rfl (by simp [Value.category]) (by decide) (Nat.zero_le _) (Nat.zero_le _) rfl dX8_setTask_21 (q := 24) rfl ?_
        refine v_if_eq h dX8_setTask_24 (q := 27) rfl (tgt := 43) (by decide) (fun c10 => ?_) (fun c10 => absurd c10 (by decide))
        refine v_iconst h (v := nI 0) dX8_setTask_43 (q := 44) rfl (by decide +kernel) ?_
        refine v_istore h dX8_setTask_44 (q := 46) rfl (Nat.le_of_ble_eq_true rfl) rfl ?_
        refine v_aload_n h (i := 0) dX8_setTask_46 (q := 47) rfl rfl rfl ?_
        refine v_aload_n h (i := 0) dX8_setTask_47 (q := 48) rfl rfl rfl ?_
        refine v_iload_n h (i := 1) dX8_setTask_48 (q := 49) rfl rfl rfl ?_
        refine v_callV1 h (x_X8_isBranch hfl hm hx hn hn8) kX8_isBranch tw925 tw13 (by assumption) (by decide) rfl rfl rfl (by simp [Value.category]) (by decide) (Nat.zero_le _) (Nat.zero_le _) rfl dX8_setTask_49 (q := 52) rfl ?_
        refine v_if_ne h dX8_setTask_52 (q := 55) rfl (tgt := 59) (by decide) (fun c11 => absurd c11 (by decide)) (fun c11 => ?_)
        refine v_iconst h (v := nI 1) dX8_setTask_55 (q := 56) rfl (by decide +kernel) ?_
        refine v_goto h dX8_setTask_56 (tgt := 69) (by decide) ?_
        refine v_callV1 h (x_X8_isFine hfl hm (by decide)) kX8_isFine tw929 tw14 (by assumption) (by decide) rfl rfl rfl (by simp [Value.category]) (by decide) (Nat.zero_le _) (Nat.zero_le _) rfl dX8_setTask_69 (q := 72) rfl ?_
        refine v_if_ne h dX8_setTask_72 (q := 75) rfl (tgt := 77) (by decide) (fun c12 => absurd c12 (by decide)) (fun c12 => ?_)
        refine v_iconst h (v := nI 0) dX8_setTask_75 (q := 76) rfl (by decide +kernel) ?_
        refine v_iret h hQ rfl (by first | exact rfl | exact pb_b_nar _) dX8_setTask_76 (Nat.zero_le _) (Nat.zero_le _) ⟨rfl, rfl, rfl, rfl, rfl⟩
    · skip
      refine v_callS1 h (x_X8_isIn hfl hk2) kX8_isIn rfl tw922 rfl rfl (by simp [Value.category]) (by decide) (Nat.zero_le _) (Nat.zero_le _) rfl dX8_setTask_11 (q := 14) rfl ?_
      refine v_if_eq h dX8_setTask_14 (q := 17) rfl (tgt := 43) (by decide) (fun c13 => ?_) (fun c13 => absurd c13 (by decide))
      refine v_iconst h (v := nI 0) dX8_setTask_43 (q := 44) rfl (by decide +kernel) ?_
      refine v_istore h dX8_setTask_44 (q := 46) rfl (Nat.le_of_ble_eq_true rfl) rfl ?_
      refine v_aload_n h (i := 0) dX8_setTask_46 (q := 47) rfl rfl rfl ?_
      refine v_aload_n h (i := 0) dX8_setTask_47 (q := 48) rfl rfl rfl ?_
      refine v_iload_n h (i := 1) dX8_setTask_48 (q := 49) rfl rfl rfl ?_
      refine v_callV1 h (x_X8_isBranch hfl hm hx hn hn8) kX8_isBranch tw925 tw13 (by assumption) (by decide) rfl rfl rfl (by simp [Value.category]) (by decide) (Nat.zero_le _) (Nat.zero_le _) rfl dX8_setTask_49 (q := 52) rfl ?_
      refine v_if_ne h dX8_setTask_52 (q := 55) rfl (tgt := 59) (by decide) (fun c14 => absurd c14 (by decide)) (fun c14 => ?_)
      refine v_iconst h (v := nI 1) dX8_setTask_55 (q := 56) rfl (by decide +kernel) ?_
      refine v_goto h dX8_setTask_56 (tgt := 69) (by decide) ?_
      refine v_callV1 h (x_X8_isFine hfl hm (by decide)) kX8_isFine tw929 tw14 (by assumption) (by decide) rfl rfl rfl (by simp [Value.category]) (by decide) (Nat.zero_le _) (Nat.zero_le _) rfl dX8_setTask_69 (q := 72) rfl ?_
      refine v_if_ne h dX8_setTask_72 (q := 75) rfl (tgt := 77) (by decide) (fun c15 => absurd c15 (by decide)) (fun c15 => ?_)
      refine v_iconst h (v := nI 0) dX8_setTask_75 (q := 76) rfl (by decide +kernel) ?_
      refine v_iret h hQ rfl (by first | exact rfl | exact pb_b_nar _) dX8_setTask_76 (Nat.zero_le _) (Nat.zero_le _) ⟨rfl, rfl, rfl, rfl, rfl⟩
  · skip
    refine v_callS1 h (x_X8_isTask hfl hk1) kX8_isTask rfl tw919 rfl rfl (by simp [Value.category]) (by decide) (Nat.zero_le _) (Nat.zero_le _) rfl dX8_setTask_1 (q := 4) rfl ?_
    refine v_if_eq h dX8_setTask_4 (q := 7) rfl (tgt := 43) (by decide) (fun c16 => ?_) (fun c16 => absurd c16 (by decide))
    refine v_iconst h (v := nI 0) dX8_setTask_43 (q := 44) rfl (by decide +kernel) ?_
    refine v_istore h dX8_setTask_44 (q := 46) rfl (Nat.le_of_ble_eq_true rfl) rfl ?_
    refine v_aload_n h (i := 0) dX8_setTask_46 (q := 47) rfl rfl rfl ?_
    refine v_aload_n h (i := 0) dX8_setTask_47 (q := 48) rfl rfl rfl ?_
    refine v_iload_n h (i := 1) dX8_setTask_48 (q := 49) rfl rfl rfl ?_
    refine v_callV1 h (x_X8_isBranch hfl hm hx hn hn8) kX8_isBranch tw925 tw13 (by assumption) (by decide) rfl rfl rfl (by simp [Value.category]) (by decide) (Nat.zero_le _) (Nat.zero_le _) rfl dX8_setTask_49 (q := 52) rfl ?_
    refine v_if_ne h dX8_setTask_52 (q := 55) rfl (tgt := 59) (by decide) (fun c17 => absurd c17 (by decide)) (fun c17 => ?_)
    refine v_iconst h (v := nI 1) dX8_setTask_55 (q := 56) rfl (by decide +kernel) ?_
    refine v_goto h dX8_setTask_56 (tgt := 69) (by decide) ?_
    refine v_callV1 h (x_X8_isFine hfl hm (by decide)) kX8_isFine tw929 tw14 (by assumption) (by decide) rfl rfl rfl (by simp [Value.category]) (by decide) (Nat.zero_le _) (Nat.zero_le _) rfl dX8_setTask_69 (q := 72) rfl ?_
    refine v_if_ne h dX8_setTask_72 (q := 75) rfl (tgt := 77) (by decide) (fun c18 => absurd c18 (by decide)) (fun c18 => ?_)
    refine v_iconst h (v := nI 0) dX8_setTask_75 (q := 76) rfl (by decide +kernel) ?_
    refine v_iret h hQ rfl (by first | exact rfl | exact pb_b_nar _) dX8_setTask_76 (Nat.zero_le _) (Nat.zero_le _) ⟨rfl, rfl, rfl, rfl, rfl⟩
set_option maxHeartbeats 4000000 in
set_option maxRecDepth 100000 in
theorem x2_X8_setTask {l : Launch} (hfl : l.stackTraces = false) {sz : Nat} {sk : pb_Sk} {rf : pb_Rf} {sg : pb_Sg} {M : Nat} (hm : pb_md sk rf M) {n : Nat} (hn : sg M 8 = nI n) (hn8 : 1 ≤ n ∧ n ≤ 8) {b : Nat} (hb : b < n) {t len crew cost : Int32} (hbad : ¬ ((nI 0 ≤ t ∧ t ≤ nI 15) ∧ (nI 1 ≤ len ∧ len ≤ nI 20) ∧ (-1 ≤ crew ∧ crew ≤ nI 4) ∧ (nI 0 ≤ cost ∧ cost ≤ nI 1000))) : pb_Met l mX8_setTask 6 0 0 [.ref M, .int (nI b), .int t, .int len, .int crew, .int cost] sz sk rf sg (pb_is (some (.int (nI 0))) sz sk rf (pb_up sg M 0 (nI 2))) := by
  refine pb_start hfl (by decide +kernel) rfl (pb_c1 rfl) (Nat.le_of_ble_eq_true rfl) (fun F hF h hQ => ?_)
  subst hF
  show pv F 0 0 sz sk rf sg 0 [some (.ref M), some (.int (nI b)), some (.int t), some (.int len), some (.int crew), some (.int cost), none, none] []
  obtain ⟨hM0, hr1, hk1, hr2, hk2, hr3, hk3, hr4, hk4, hr5, hk5, hr6, hk6, hr7, hk7, hr8, hk8, hr9, hk9, hr10, hk10, hr11, hk11, hr12, hk12, hr13, hk13, hr14, hk14, hr15, hk15, hr16, hk16, hr17, hk17, hr18, hk18, hr19, hk19, hr20, hk20, hr21, hk21, hr22, hk22, hr23, hk23, hr24, hk24⟩ := id hm
  refine v_iload_n h (i := 2) dX8_setTask_0 (q := 1) rfl rfl rfl ?_
  by_cases hk1 : nI 0 ≤ t ∧ t ≤ nI 15
  · skip
    refine v_callS1 h (c2_X8_isTask hfl hk1) kX8_isTask rfl tw919 rfl rfl (by simp [Value.category]) (by decide) (Nat.zero_le _) (Nat.zero_le _) rfl dX8_setTask_1 (q := 4) rfl ?_
    refine v_if_eq h dX8_setTask_4 (q := 7) rfl (tgt := 43) (by decide) (fun c1 => absurd c1 (by decide)) (fun c1 => ?_)
    refine v_iload_n h (i := 3) dX8_setTask_7 (q := 8) rfl rfl rfl ?_
    refine v_iconst h (v := nI 1) dX8_setTask_8 (q := 9) rfl (by decide +kernel) ?_
    refine v_bipush h (v := nI 20) dX8_setTask_9 (q := 11) rfl (by decide +kernel) ?_
    by_cases hk2 : nI 1 ≤ len ∧ len ≤ nI 20
    · skip
      refine v_callS1 h (c_X8_isIn hfl hk2) kX8_isIn rfl tw922 rfl rfl (by simp [Value.category]) (by decide) (Nat.zero_le _) (Nat.zero_le _) rfl dX8_setTask_11 (q := 14) rfl ?_
      refine v_if_eq h dX8_setTask_14 (q := 17) rfl (tgt := 43) (by decide) (fun c2 => absurd c2 (by decide)) (fun c2 => ?_)
      refine v_iload h dX8_setTask_17 (q := 19) rfl rfl ?_
      refine v_iconst h (v := (-1)) dX8_setTask_19 (q := 20) rfl (by decide +kernel) ?_
      refine v_iconst h (v := nI 4) dX8_setTask_20 (q := 21) rfl (by decide +kernel) ?_
      by_cases hk3 : -1 ≤ crew ∧ crew ≤ nI 4
      · skip
        refine v_callS1 h (c_X8_isIn hfl hk3) kX8_isIn rfl tw922 rfl rfl (by simp [Value.category]) (by decide) (Nat.zero_le _) (Nat.zero_le _) rfl dX8_setTask_21 (q := 24) rfl ?_
        refine v_if_eq h dX8_setTask_24 (q := 27) rfl (tgt := 43) (by decide) (fun c3 => absurd c3 (by decide)) (fun c3 => ?_)
        refine v_iload h dX8_setTask_27 (q := 29) rfl rfl ?_
        refine v_iconst h (v := nI 0) dX8_setTask_29 (q := 30) rfl (by decide +kernel) ?_
        refine v_sipush h (v := nI 1000) dX8_setTask_30 (q := 33) rfl (by decide +kernel) ?_
        by_cases hk4 : nI 0 ≤ cost ∧ cost ≤ nI 1000
        · skip
          refine v_callS1 h (c_X8_isIn hfl hk4) kX8_isIn rfl tw922 rfl rfl (by simp [Value.category]) (by decide) (Nat.zero_le _) (Nat.zero_le _) rfl dX8_setTask_33 (q := 36) rfl ?_
          refine v_if_eq h dX8_setTask_36 (q := 39) rfl (tgt := 43) (by decide) (fun c4 => absurd c4 (by decide)) (fun c4 => ?_)
          exact absurd ⟨hk1, hk2, hk3, hk4⟩ hbad
        · skip
          refine v_callS1 h (x_X8_isIn hfl hk4) kX8_isIn rfl tw922 rfl rfl (by simp [Value.category]) (by decide) (Nat.zero_le _) (Nat.zero_le _) rfl dX8_setTask_33 (q := 36) rfl ?_
          refine v_if_eq h dX8_setTask_36 (q := 39) rfl (tgt := 43) (by decide) (fun c5 => ?_) (fun c5 => absurd c5 (by decide))
          refine v_iconst h (v := nI 0) dX8_setTask_43 (q := 44) rfl (by decide +kernel) ?_
          refine v_istore h dX8_setTask_44 (q := 46) rfl (Nat.le_of_ble_eq_true rfl) rfl ?_
          refine v_aload_n h (i := 0) dX8_setTask_46 (q := 47) rfl rfl rfl ?_
          refine v_aload_n h (i := 0) dX8_setTask_47 (q := 48) rfl rfl rfl ?_
          refine v_iload_n h (i := 1) dX8_setTask_48 (q := 49) rfl rfl rfl ?_
          refine v_callV1 h (c_X8_isBranch hfl hm hb hn hn8.2) kX8_isBranch tw925 tw13 (by assumption) (by decide) rfl rfl rfl (by simp [Value.category]) (by decide) (Nat.zero_le _) (Nat.zero_le _) rfl dX8_setTask_49 (q := 52) rfl ?_
          refine v_if_ne h dX8_setTask_52 (q := 55) rfl (tgt := 59) (by decide) (fun c6 => ?_) (fun c6 => absurd c6 (by decide))
          refine v_iload h dX8_setTask_59 (q := 61) rfl rfl ?_
          refine v_if_ne h dX8_setTask_61 (q := 64) rfl (tgt := 68) (by decide) (fun c7 => absurd c7 (by decide)) (fun c7 => ?_)
          refine v_iconst h (v := nI 2) dX8_setTask_64 (q := 65) rfl (by decide +kernel) ?_
          refine v_goto h dX8_setTask_65 (tgt := 69) (by decide) ?_
          refine v_callV1 h (x_X8_isFine hfl hm (by decide)) kX8_isFine tw929 tw14 (by assumption) (by decide) rfl rfl rfl (by simp [Value.category]) (by decide) (Nat.zero_le _) (Nat.zero_le _) rfl dX8_setTask_69 (q := 72) rfl ?_
          refine v_if_ne h dX8_setTask_72 (q := 75) rfl (tgt := 77) (by decide) (fun c8 => absurd c8 (by decide)) (fun c8 => ?_)
          refine v_iconst h (v := nI 0) dX8_setTask_75 (q := 76) rfl (by decide +kernel) ?_
          refine v_iret h hQ rfl (by first | exact rfl | exact pb_b_nar _) dX8_setTask_76 (Nat.zero_le _) (Nat.zero_le _) ⟨rfl, rfl, rfl, rfl, rfl⟩
      · skip
        refine v_callS1 h (x_X8_isIn hfl hk3) kX8_isIn rfl tw922 rfl rfl (by simp [Value.category]) (by decide) (Nat.zero_le _) (Nat.zero_le _) rfl dX8_setTask_21 (q := 24) rfl ?_
        refine v_if_eq h dX8_setTask_24 (q := 27) rfl (tgt := 43) (by decide) (fun c9 => ?_) (fun c9 => absurd c9 (by decide))
        refine v_iconst h (v := nI 0) dX8_setTask_43 (q := 44) rfl (by decide +kernel) ?_
        refine v_istore h dX8_setTask_44 (q := 46) rfl (Nat.le_of_ble_eq_true rfl) rfl ?_
        refine v_aload_n h (i := 0) dX8_setTask_46 (q := 47) rfl rfl rfl ?_
        refine v_aload_n h (i := 0) dX8_setTask_47 (q := 48) rfl rfl rfl ?_
        refine v_iload_n h (i := 1) dX8_setTask_48 (q := 49) rfl rfl rfl ?_
        refine v_callV1 h (c_X8_isBranch hfl hm hb hn hn8.2) kX8_isBranch tw925 tw13 (by assumption) (by decide) rfl rfl rfl (by simp [Value.category]) (by decide) (Nat.zero_le _) (Nat.zero_le _) rfl dX8_setTask_49 (q := 52) rfl ?_
        refine v_if_ne h dX8_setTask_52 (q := 55) rfl (tgt := 59) (by decide) (fun c10 => ?_) (fun c10 => absurd c10 (by decide))
        refine v_iload h dX8_setTask_59 (q := 61) rfl rfl ?_
        refine v_if_ne h dX8_setTask_61 (q := 64) rfl (tgt := 68) (by decide) (fun c11 => absurd c11 (by decide)) (fun c11 => ?_)
        refine v_iconst h (v := nI 2) dX8_setTask_64 (q := 65) rfl (by decide +kernel) ?_
        refine v_goto h dX8_setTask_65 (tgt := 69) (by decide) ?_
        refine v_callV1 h (x_X8_isFine hfl hm (by decide)) kX8_isFine tw929 tw14 (by assumption) (by decide) rfl rfl rfl (by simp [Value.category]) (by decide) (Nat.zero_le _) (Nat.zero_le _) rfl dX8_setTask_69 (q := 72) rfl ?_
        refine v_if_ne h dX8_setTask_72 (q := 75) rfl (tgt := 77) (by decide) (fun c12 => absurd c12 (by decide)) (fun c12 => ?_)
        refine v_iconst h (v := nI 0) dX8_setTask_75 (q := 76) rfl (by decide +kernel) ?_
        refine v_iret h hQ rfl (by first | exact rfl | exact pb_b_nar _) dX8_setTask_76 (Nat.zero_le _) (Nat.zero_le _) ⟨rfl, rfl, rfl, rfl, rfl⟩
    · skip
      refine v_callS1 h (x_X8_isIn hfl hk2) kX8_isIn rfl tw922 rfl rfl (by simp [Value.category]) (by decide) (Nat.zero_le _) (Nat.zero_le _) rfl dX8_setTask_11 (q := 14) rfl ?_
      refine v_if_eq h dX8_setTask_14 (q := 17) rfl (tgt := 43) (by decide) (fun c13 => ?_) (fun c13 => absurd c13 (by decide))
      refine v_iconst h (v := nI 0) dX8_setTask_43 (q := 44) rfl (by decide +kernel) ?_
      refine v_istore h dX8_setTask_44 (q := 46) rfl (Nat.le_of_ble_eq_true rfl) rfl ?_
      refine v_aload_n h (i := 0) dX8_setTask_46 (q := 47) rfl rfl rfl ?_
      refine v_aload_n h (i := 0) dX8_setTask_47 (q := 48) rfl rfl rfl ?_
      refine v_iload_n h (i := 1) dX8_setTask_48 (q := 49) rfl rfl rfl ?_
      refine v_callV1 h (c_X8_isBranch hfl hm hb hn hn8.2) kX8_isBranch tw925 tw13 (by assumption) (by decide) rfl rfl rfl (by simp [Value.category]) (by decide) (Nat.zero_le _) (Nat.zero_le _) rfl dX8_setTask_49 (q := 52) rfl ?_
      refine v_if_ne h dX8_setTask_52 (q := 55) rfl (tgt := 59) (by decide) (fun c14 => ?_) (fun c14 => absurd c14 (by decide))
      refine v_iload h dX8_setTask_59 (q := 61) rfl rfl ?_
      refine v_if_ne h dX8_setTask_61 (q := 64) rfl (tgt := 68) (by decide) (fun c15 => absurd c15 (by decide)) (fun c15 => ?_)
      refine v_iconst h (v := nI 2) dX8_setTask_64 (q := 65) rfl (by decide +kernel) ?_
      refine v_goto h dX8_setTask_65 (tgt := 69) (by decide) ?_
      refine v_callV1 h (x_X8_isFine hfl hm (by decide)) kX8_isFine tw929 tw14 (by assumption) (by decide) rfl rfl rfl (by simp [Value.category]) (by decide) (Nat.zero_le _) (Nat.zero_le _) rfl dX8_setTask_69 (q := 72) rfl ?_
      refine v_if_ne h dX8_setTask_72 (q := 75) rfl (tgt := 77) (by decide) (fun c16 => absurd c16 (by decide)) (fun c16 => ?_)
      refine v_iconst h (v := nI 0) dX8_setTask_75 (q := 76) rfl (by decide +kernel) ?_
      refine v_iret h hQ rfl (by first | exact rfl | exact pb_b_nar _) dX8_setTask_76 (Nat.zero_le _) (Nat.zero_le _) ⟨rfl, rfl, rfl, rfl, rfl⟩
  · skip
    refine v_callS1 h (x_X8_isTask hfl hk1) kX8_isTask rfl tw919 rfl rfl (by simp [Value.category]) (by decide) (Nat.zero_le _) (Nat.zero_le _) rfl dX8_setTask_1 (q := 4) rfl ?_
    refine v_if_eq h dX8_setTask_4 (q := 7) rfl (tgt := 43) (by decide) (fun c17 => ?_) (fun c17 => absurd c17 (by decide))
    refine v_iconst h (v := nI 0) dX8_setTask_43 (q := 44) rfl (by decide +kernel) ?_
    refine v_istore h dX8_setTask_44 (q := 46) rfl (Nat.le_of_ble_eq_true rfl) rfl ?_
    refine v_aload_n h (i := 0) dX8_setTask_46 (q := 47) rfl rfl rfl ?_
    refine v_aload_n h (i := 0) dX8_setTask_47 (q := 48) rfl rfl rfl ?_
    refine v_iload_n h (i := 1) dX8_setTask_48 (q := 49) rfl rfl rfl ?_
    refine v_callV1 h (c_X8_isBranch hfl hm hb hn hn8.2) kX8_isBranch tw925 tw13 (by assumption) (by decide) rfl rfl rfl (by simp [Value.category]) (by decide) (Nat.zero_le _) (Nat.zero_le _) rfl dX8_setTask_49 (q := 52) rfl ?_
    refine v_if_ne h dX8_setTask_52 (q := 55) rfl (tgt := 59) (by decide) (fun c18 => ?_) (fun c18 => absurd c18 (by decide))
    refine v_iload h dX8_setTask_59 (q := 61) rfl rfl ?_
    refine v_if_ne h dX8_setTask_61 (q := 64) rfl (tgt := 68) (by decide) (fun c19 => absurd c19 (by decide)) (fun c19 => ?_)
    refine v_iconst h (v := nI 2) dX8_setTask_64 (q := 65) rfl (by decide +kernel) ?_
    refine v_goto h dX8_setTask_65 (tgt := 69) (by decide) ?_
    refine v_callV1 h (x_X8_isFine hfl hm (by decide)) kX8_isFine tw929 tw14 (by assumption) (by decide) rfl rfl rfl (by simp [Value.category]) (by decide) (Nat.zero_le _) (Nat.zero_le _) rfl dX8_setTask_69 (q := 72) rfl ?_
    refine v_if_ne h dX8_setTask_72 (q := 75) rfl (tgt := 77) (by decide) (fun c20 => absurd c20 (by decide)) (fun c20 => ?_)
    refine v_iconst h (v := nI 0) dX8_setTask_75 (q := 76) rfl (by decide +kernel) ?_
    refine v_iret h hQ rfl (by first | exact rfl | exact pb_b_nar _) dX8_setTask_76 (Nat.zero_le _) (Nat.zero_le _) ⟨rfl, rfl, rfl, rfl, rfl⟩
