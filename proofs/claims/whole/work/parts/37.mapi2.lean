set_option maxHeartbeats 4000000 in
set_option maxRecDepth 100000 in
theorem c_X8_removeTask {l : Launch} (hfl : l.stackTraces = false) {sz : Nat} {sk : pb_Sk} {rf : pb_Rf} {sg : pb_Sg} {M : Nat} (hm : pb_md sk rf M) {n : Nat} (hn : sg M 8 = nI n) (hn8 : 1 ≤ n ∧ n ≤ 8) {b : Nat} (hb : b < n) {t : Nat} (ht : t < 16) (hh : pb_has (sg (M + 1)) (16 * b + t) = true) (hnd : pb_any (fun k => pb_in (sg (M + 4) (16 * b + k)) t) 16 = false) {s : Nat} (hs : sg (M + 13) b = nI s) (hs30 : s ≤ 30) : pb_Met l mX8_removeTask 6 0 0 [.ref M, .int (nI b), .int (nI t)] sz sk rf sg (pb_is (some (.int ((pb_mkk (pb_up sg M 0 (nI 0)) M b t s) (M + 1) (16 * b + t)))) sz sk rf (pb_ml (pb_mkk (pb_up sg M 0 (nI 0)) M b t s) M (16 * b + t) (nI 0) (-1) (nI 0) (nI 0))) := by
  refine pb_start hfl (by decide +kernel) rfl (pb_c1 rfl) (Nat.le_of_ble_eq_true rfl) (fun F hF h hQ => ?_)
  subst hF
  show pv F 0 0 sz sk rf sg 0 [some (.ref M), some (.int (nI b)), some (.int (nI t)), none, none, none] []
  obtain ⟨hM0, hr1, hk1, hr2, hk2, hr3, hk3, hr4, hk4, hr5, hk5, hr6, hk6, hr7, hk7, hr8, hk8, hr9, hk9, hr10, hk10, hr11, hk11, hr12, hk12, hr13, hk13, hr14, hk14, hr15, hk15, hr16, hk16, hr17, hk17, hr18, hk18, hr19, hk19, hr20, hk20, hr21, hk21, hr22, hk22, hr23, hk23, hr24, hk24⟩ := id hm
  refine v_aload_n h (i := 0) dX8_removeTask_0 (q := 1) rfl rfl rfl ?_
  refine v_iload_n h (i := 1) dX8_removeTask_1 (q := 2) rfl rfl rfl ?_
  refine v_callV1 h (c_X8_isBranch hfl hm hb hn hn8.2) kX8_isBranch tw925 tw13 (by assumption) (by decide) rfl rfl rfl (by simp [Value.category]) (by decide) (Nat.zero_le _) (Nat.zero_le _) rfl dX8_removeTask_2 (q := 5) rfl ?_
  refine v_if_eq h dX8_removeTask_5 (q := 8) rfl (tgt := 19) (by decide) (fun c1 => absurd c1 (by decide)) (fun c1 => ?_)
  refine v_iload_n h (i := 2) dX8_removeTask_8 (q := 9) rfl rfl rfl ?_
  refine v_callS1 h (c_X8_isTask hfl ht) kX8_isTask rfl tw919 rfl rfl (by simp [Value.category]) (by decide) (Nat.zero_le _) (Nat.zero_le _) rfl dX8_removeTask_9 (q := 12) rfl ?_
  refine v_if_eq h dX8_removeTask_12 (q := 15) rfl (tgt := 19) (by decide) (fun c2 => absurd c2 (by decide)) (fun c2 => ?_)
  refine v_iconst h (v := nI 1) dX8_removeTask_15 (q := 16) rfl (by decide +kernel) ?_
  refine v_goto h dX8_removeTask_16 (tgt := 20) (by decide) ?_
  refine v_istore_n h (i := 3) dX8_removeTask_20 (q := 21) rfl rfl (Nat.le_of_ble_eq_true rfl) rfl ?_
  refine v_iload_n h (i := 3) dX8_removeTask_21 (q := 22) rfl rfl rfl ?_
  refine v_if_eq h dX8_removeTask_22 (q := 25) rfl (tgt := 47) (by decide) (fun c3 => absurd c3 (by decide)) (fun c3 => ?_)
  refine v_aload_n h (i := 0) dX8_removeTask_25 (q := 26) rfl rfl rfl ?_
  refine v_iload_n h (i := 1) dX8_removeTask_26 (q := 27) rfl rfl rfl ?_
  refine v_iload_n h (i := 2) dX8_removeTask_27 (q := 28) rfl rfl rfl ?_
  refine v_callV1 h (c_X8_isThere hfl hm (show b < 17 by omega) ht) kX8_isThere tw940 tw16 (by assumption) (by decide) rfl rfl rfl (by simp [Value.category]) (by decide) (Nat.zero_le _) (Nat.zero_le _) rfl dX8_removeTask_28 (q := 31) rfl ?_
  refine v_if_eq h dX8_removeTask_31 (q := 34) rfl (tgt := 47) (by decide) (fun c4 => absurd (hh.symm.trans (pb_b_0.mp c4)) (by decide)) (fun c4 => ?_)
  refine v_aload_n h (i := 0) dX8_removeTask_34 (q := 35) rfl rfl rfl ?_
  refine v_iload_n h (i := 1) dX8_removeTask_35 (q := 36) rfl rfl rfl ?_
  refine v_iload_n h (i := 2) dX8_removeTask_36 (q := 37) rfl rfl rfl ?_
  refine v_callV1 h (c_X8_isNeeded hfl hm (show b < 17 by omega) ht) kX8_isNeeded tw952 tw18 (by assumption) (by decide) rfl rfl rfl (by simp [Value.category]) (by decide) (Nat.zero_le _) (Nat.zero_le _) rfl dX8_removeTask_37 (q := 40) rfl ?_
  refine v_if_ne h dX8_removeTask_40 (q := 43) rfl (tgt := 47) (by decide) (fun c5 => absurd (pb_b_0.mpr hnd) c5) (fun c5 => ?_)
  refine v_iconst h (v := nI 1) dX8_removeTask_43 (q := 44) rfl (by decide +kernel) ?_
  refine v_goto h dX8_removeTask_44 (tgt := 48) (by decide) ?_
  refine v_istore h dX8_removeTask_48 (q := 50) rfl (Nat.le_of_ble_eq_true rfl) rfl ?_
  refine v_aload_n h (i := 0) dX8_removeTask_50 (q := 51) rfl rfl rfl ?_
  refine v_aload_n h (i := 0) dX8_removeTask_51 (q := 52) rfl rfl rfl ?_
  refine v_iload_n h (i := 1) dX8_removeTask_52 (q := 53) rfl rfl rfl ?_
  refine v_callV1 h (c_X8_isBranch hfl hm hb hn hn8.2) kX8_isBranch tw925 tw13 (by assumption) (by decide) rfl rfl rfl (by simp [Value.category]) (by decide) (Nat.zero_le _) (Nat.zero_le _) rfl dX8_removeTask_53 (q := 56) rfl ?_
  refine v_if_ne h dX8_removeTask_56 (q := 59) rfl (tgt := 63) (by decide) (fun c6 => ?_) (fun c6 => absurd c6 (by decide))
  refine v_iload_n h (i := 3) dX8_removeTask_63 (q := 64) rfl rfl rfl ?_
  refine v_if_ne h dX8_removeTask_64 (q := 67) rfl (tgt := 71) (by decide) (fun c7 => ?_) (fun c7 => absurd c7 (by decide))
  refine v_iload h dX8_removeTask_71 (q := 73) rfl rfl ?_
  refine v_if_ne h dX8_removeTask_73 (q := 76) rfl (tgt := 80) (by decide) (fun c8 => ?_) (fun c8 => absurd c8 (by decide))
  refine v_iconst h (v := nI 0) dX8_removeTask_80 (q := 81) rfl (by decide +kernel) ?_
  refine v_callV1 h (c_X8_isFine hfl hm) kX8_isFine tw929 tw14 (by assumption) (by decide) rfl rfl rfl (by simp [Value.category]) (by decide) (Nat.zero_le _) (Nat.zero_le _) rfl dX8_removeTask_81 (q := 84) rfl ?_
  refine v_if_ne h dX8_removeTask_84 (q := 87) rfl (tgt := 89) (by decide) (fun c9 => ?_) (fun c9 => absurd c9 (by decide))
  refine v_aload_n h (i := 0) dX8_removeTask_89 (q := 90) rfl rfl rfl ?_
  refine v_iload_n h (i := 1) dX8_removeTask_90 (q := 91) rfl rfl rfl ?_
  refine v_iload_n h (i := 2) dX8_removeTask_91 (q := 92) rfl rfl rfl ?_
  refine v_callV0 h (c_X8_keeps hfl hm (show b < 8 by omega) ht (show pb_up sg M 0 (nI 0) (M + 13) b = nI s by rw [pb_up_neA (by omega)]; exact hs) hs30) kX8_keeps tw933 tw15 (by assumption) (by decide) rfl rfl rfl (by simp [Value.category]) (by decide) (Nat.zero_le _) (Nat.zero_le _) rfl dX8_removeTask_92 (q := 95) rfl ?_
  refine v_aload_n h (i := 0) dX8_removeTask_95 (q := 96) rfl rfl rfl ?_
  refine v_getr h fl_X8_7 (by assumption) rfl (by assumption) dX8_removeTask_96 (q := 99) rfl ?_
  refine v_iload_n h (i := 1) dX8_removeTask_99 (q := 100) rfl rfl rfl ?_
  refine v_iload_n h (i := 2) dX8_removeTask_100 (q := 101) rfl rfl rfl ?_
  refine v_callS1 h (c_X8_at hfl ) kX8_at rfl tw937 rfl rfl (by simp [Value.category]) (by decide) (Nat.zero_le _) (Nat.zero_le _) rfl dX8_removeTask_101 (q := 104) rfl ?_
  refine v_iald h (by assumption) rfl (by first | assumption | omega) (by decide) dX8_removeTask_104 (q := 105) rfl ?_
  refine v_istore h dX8_removeTask_105 (q := 107) rfl (Nat.le_of_ble_eq_true rfl) rfl ?_
  refine v_aload_n h (i := 0) dX8_removeTask_107 (q := 108) rfl rfl rfl ?_
  refine v_iload_n h (i := 1) dX8_removeTask_108 (q := 109) rfl rfl rfl ?_
  refine v_iload_n h (i := 2) dX8_removeTask_109 (q := 110) rfl rfl rfl ?_
  refine v_iconst h (v := nI 0) dX8_removeTask_110 (q := 111) rfl (by decide +kernel) ?_
  refine v_iconst h (v := (-1)) dX8_removeTask_111 (q := 112) rfl (by decide +kernel) ?_
  refine v_iconst h (v := nI 0) dX8_removeTask_112 (q := 113) rfl (by decide +kernel) ?_
  refine v_iconst h (v := nI 0) dX8_removeTask_113 (q := 114) rfl (by decide +kernel) ?_
  refine v_callV0 h (c_X8_lays hfl hm (show b < 17 by omega) ht) kX8_lays tw944 tw17 (by assumption) (by decide) rfl rfl rfl (by simp [Value.category]) (by decide) (Nat.zero_le _) (Nat.zero_le _) rfl dX8_removeTask_114 (q := 117) rfl ?_
  refine v_iload h dX8_removeTask_117 (q := 119) rfl rfl ?_
  refine v_iret h hQ rfl rfl dX8_removeTask_119 (Nat.zero_le _) (Nat.zero_le _) ⟨rfl, rfl, rfl, rfl, rfl⟩
set_option maxHeartbeats 4000000 in
set_option maxRecDepth 100000 in
theorem x1_X8_removeTask {l : Launch} (hfl : l.stackTraces = false) {sz : Nat} {sk : pb_Sk} {rf : pb_Rf} {sg : pb_Sg} {M : Nat} (hm : pb_md sk rf M) {n : Nat} (hn : sg M 8 = nI n) (hn8 : 1 ≤ n ∧ n ≤ 8) {x : Int32} (hx : ∀ b, b < n → ¬ x = nI b) {t : Int32} : pb_Met l mX8_removeTask 6 0 0 [.ref M, .int x, .int t] sz sk rf sg (pb_is (some (.int (nI 0))) sz sk rf (pb_up sg M 0 (nI 1))) := by
  refine pb_start hfl (by decide +kernel) rfl (pb_c1 rfl) (Nat.le_of_ble_eq_true rfl) (fun F hF h hQ => ?_)
  subst hF
  show pv F 0 0 sz sk rf sg 0 [some (.ref M), some (.int x), some (.int t), none, none, none] []
  obtain ⟨hM0, hr1, hk1, hr2, hk2, hr3, hk3, hr4, hk4, hr5, hk5, hr6, hk6, hr7, hk7, hr8, hk8, hr9, hk9, hr10, hk10, hr11, hk11, hr12, hk12, hr13, hk13, hr14, hk14, hr15, hk15, hr16, hk16, hr17, hk17, hr18, hk18, hr19, hk19, hr20, hk20, hr21, hk21, hr22, hk22, hr23, hk23, hr24, hk24⟩ := id hm
  refine v_aload_n h (i := 0) dX8_removeTask_0 (q := 1) rfl rfl rfl ?_
  refine v_iload_n h (i := 1) dX8_removeTask_1 (q := 2) rfl rfl rfl ?_
  refine v_callV1 h (x_X8_isBranch hfl hm hx hn hn8) kX8_isBranch tw925 tw13 (by assumption) (by decide) rfl rfl rfl (by simp [Value.category]) (by decide) (Nat.zero_le _) (Nat.zero_le _) rfl dX8_removeTask_2 (q := 5) rfl ?_
  refine v_if_eq h dX8_removeTask_5 (q := 8) rfl (tgt := 19) (by decide) (fun c1 => ?_) (fun c1 => absurd c1 (by decide))
  refine v_iconst h (v := nI 0) dX8_removeTask_19 (q := 20) rfl (by decide +kernel) ?_
  refine v_istore_n h (i := 3) dX8_removeTask_20 (q := 21) rfl rfl (Nat.le_of_ble_eq_true rfl) rfl ?_
  refine v_iload_n h (i := 3) dX8_removeTask_21 (q := 22) rfl rfl rfl ?_
  refine v_if_eq h dX8_removeTask_22 (q := 25) rfl (tgt := 47) (by decide) (fun c2 => ?_) (fun c2 => absurd c2 (by decide))
  refine v_iconst h (v := nI 0) dX8_removeTask_47 (q := 48) rfl (by decide +kernel) ?_
  refine v_istore h dX8_removeTask_48 (q := 50) rfl (Nat.le_of_ble_eq_true rfl) rfl ?_
  refine v_aload_n h (i := 0) dX8_removeTask_50 (q := 51) rfl rfl rfl ?_
  refine v_aload_n h (i := 0) dX8_removeTask_51 (q := 52) rfl rfl rfl ?_
  refine v_iload_n h (i := 1) dX8_removeTask_52 (q := 53) rfl rfl rfl ?_
  refine v_callV1 h (x_X8_isBranch hfl hm hx hn hn8) kX8_isBranch tw925 tw13 (by assumption) (by decide) rfl rfl rfl (by simp [Value.category]) (by decide) (Nat.zero_le _) (Nat.zero_le _) rfl dX8_removeTask_53 (q := 56) rfl ?_
  refine v_if_ne h dX8_removeTask_56 (q := 59) rfl (tgt := 63) (by decide) (fun c3 => absurd c3 (by decide)) (fun c3 => ?_)
  refine v_iconst h (v := nI 1) dX8_removeTask_59 (q := 60) rfl (by decide +kernel) ?_
  refine v_goto h dX8_removeTask_60 (tgt := 81) (by decide) ?_
  refine v_callV1 h (x_X8_isFine hfl hm (by decide)) kX8_isFine tw929 tw14 (by assumption) (by decide) rfl rfl rfl (by simp [Value.category]) (by decide) (Nat.zero_le _) (Nat.zero_le _) rfl dX8_removeTask_81 (q := 84) rfl ?_
  refine v_if_ne h dX8_removeTask_84 (q := 87) rfl (tgt := 89) (by decide) (fun c4 => absurd c4 (by decide)) (fun c4 => ?_)
  refine v_iconst h (v := nI 0) dX8_removeTask_87 (q := 88) rfl (by decide +kernel) ?_
  refine v_iret h hQ rfl rfl dX8_removeTask_88 (Nat.zero_le _) (Nat.zero_le _) ⟨rfl, rfl, rfl, rfl, rfl⟩
set_option maxHeartbeats 4000000 in
set_option maxRecDepth 100000 in
theorem x2_X8_removeTask {l : Launch} (hfl : l.stackTraces = false) {sz : Nat} {sk : pb_Sk} {rf : pb_Rf} {sg : pb_Sg} {M : Nat} (hm : pb_md sk rf M) {n : Nat} (hn : sg M 8 = nI n) (hn8 : 1 ≤ n ∧ n ≤ 8) {b : Nat} (hb : b < n) {t : Int32} (hbad : ¬ (nI 0 ≤ t ∧ t ≤ nI 15)) : pb_Met l mX8_removeTask 6 0 0 [.ref M, .int (nI b), .int t] sz sk rf sg (pb_is (some (.int (nI 0))) sz sk rf (pb_up sg M 0 (nI 2))) := by
  refine pb_start hfl (by decide +kernel) rfl (pb_c1 rfl) (Nat.le_of_ble_eq_true rfl) (fun F hF h hQ => ?_)
  subst hF
  show pv F 0 0 sz sk rf sg 0 [some (.ref M), some (.int (nI b)), some (.int t), none, none, none] []
  obtain ⟨hM0, hr1, hk1, hr2, hk2, hr3, hk3, hr4, hk4, hr5, hk5, hr6, hk6, hr7, hk7, hr8, hk8, hr9, hk9, hr10, hk10, hr11, hk11, hr12, hk12, hr13, hk13, hr14, hk14, hr15, hk15, hr16, hk16, hr17, hk17, hr18, hk18, hr19, hk19, hr20, hk20, hr21, hk21, hr22, hk22, hr23, hk23, hr24, hk24⟩ := id hm
  refine v_aload_n h (i := 0) dX8_removeTask_0 (q := 1) rfl rfl rfl ?_
  refine v_iload_n h (i := 1) dX8_removeTask_1 (q := 2) rfl rfl rfl ?_
  refine v_callV1 h (c_X8_isBranch hfl hm hb hn hn8.2) kX8_isBranch tw925 tw13 (by assumption) (by decide) rfl rfl rfl (by simp [Value.category]) (by decide) (Nat.zero_le _) (Nat.zero_le _) rfl dX8_removeTask_2 (q := 5) rfl ?_
  refine v_if_eq h dX8_removeTask_5 (q := 8) rfl (tgt := 19) (by decide) (fun c1 => absurd c1 (by decide)) (fun c1 => ?_)
  refine v_iload_n h (i := 2) dX8_removeTask_8 (q := 9) rfl rfl rfl ?_
  refine v_callS1 h (x_X8_isTask hfl hbad) kX8_isTask rfl tw919 rfl rfl (by simp [Value.category]) (by decide) (Nat.zero_le _) (Nat.zero_le _) rfl dX8_removeTask_9 (q := 12) rfl ?_
  refine v_if_eq h dX8_removeTask_12 (q := 15) rfl (tgt := 19) (by decide) (fun c2 => ?_) (fun c2 => absurd c2 (by decide))
  refine v_iconst h (v := nI 0) dX8_removeTask_19 (q := 20) rfl (by decide +kernel) ?_
  refine v_istore_n h (i := 3) dX8_removeTask_20 (q := 21) rfl rfl (Nat.le_of_ble_eq_true rfl) rfl ?_
  refine v_iload_n h (i := 3) dX8_removeTask_21 (q := 22) rfl rfl rfl ?_
  refine v_if_eq h dX8_removeTask_22 (q := 25) rfl (tgt := 47) (by decide) (fun c3 => ?_) (fun c3 => absurd c3 (by decide))
  refine v_iconst h (v := nI 0) dX8_removeTask_47 (q := 48) rfl (by decide +kernel) ?_
  refine v_istore h dX8_removeTask_48 (q := 50) rfl (Nat.le_of_ble_eq_true rfl) rfl ?_
  refine v_aload_n h (i := 0) dX8_removeTask_50 (q := 51) rfl rfl rfl ?_
  refine v_aload_n h (i := 0) dX8_removeTask_51 (q := 52) rfl rfl rfl ?_
  refine v_iload_n h (i := 1) dX8_removeTask_52 (q := 53) rfl rfl rfl ?_
  refine v_callV1 h (c_X8_isBranch hfl hm hb hn hn8.2) kX8_isBranch tw925 tw13 (by assumption) (by decide) rfl rfl rfl (by simp [Value.category]) (by decide) (Nat.zero_le _) (Nat.zero_le _) rfl dX8_removeTask_53 (q := 56) rfl ?_
  refine v_if_ne h dX8_removeTask_56 (q := 59) rfl (tgt := 63) (by decide) (fun c4 => ?_) (fun c4 => absurd c4 (by decide))
  refine v_iload_n h (i := 3) dX8_removeTask_63 (q := 64) rfl rfl rfl ?_
  refine v_if_ne h dX8_removeTask_64 (q := 67) rfl (tgt := 71) (by decide) (fun c5 => absurd c5 (by decide)) (fun c5 => ?_)
  refine v_iconst h (v := nI 2) dX8_removeTask_67 (q := 68) rfl (by decide +kernel) ?_
  refine v_goto h dX8_removeTask_68 (tgt := 81) (by decide) ?_
  refine v_callV1 h (x_X8_isFine hfl hm (by decide)) kX8_isFine tw929 tw14 (by assumption) (by decide) rfl rfl rfl (by simp [Value.category]) (by decide) (Nat.zero_le _) (Nat.zero_le _) rfl dX8_removeTask_81 (q := 84) rfl ?_
  refine v_if_ne h dX8_removeTask_84 (q := 87) rfl (tgt := 89) (by decide) (fun c6 => absurd c6 (by decide)) (fun c6 => ?_)
  refine v_iconst h (v := nI 0) dX8_removeTask_87 (q := 88) rfl (by decide +kernel) ?_
  refine v_iret h hQ rfl rfl dX8_removeTask_88 (Nat.zero_le _) (Nat.zero_le _) ⟨rfl, rfl, rfl, rfl, rfl⟩
set_option maxHeartbeats 4000000 in
set_option maxRecDepth 100000 in
theorem x3_X8_removeTask {l : Launch} (hfl : l.stackTraces = false) {sz : Nat} {sk : pb_Sk} {rf : pb_Rf} {sg : pb_Sg} {M : Nat} (hm : pb_md sk rf M) {n : Nat} (hn : sg M 8 = nI n) (hn8 : 1 ≤ n ∧ n ≤ 8) {b : Nat} (hb : b < n) {t : Nat} (ht : t < 16) (hbad : pb_has (sg (M + 1)) (16 * b + t) = true → pb_any (fun k => pb_in (sg (M + 4) (16 * b + k)) t) 16 = true) : pb_Met l mX8_removeTask 6 0 0 [.ref M, .int (nI b), .int (nI t)] sz sk rf sg (pb_is (some (.int (nI 0))) sz sk rf (pb_up sg M 0 (nI 3))) := by
  refine pb_start hfl (by decide +kernel) rfl (pb_c1 rfl) (Nat.le_of_ble_eq_true rfl) (fun F hF h hQ => ?_)
  subst hF
  show pv F 0 0 sz sk rf sg 0 [some (.ref M), some (.int (nI b)), some (.int (nI t)), none, none, none] []
  obtain ⟨hM0, hr1, hk1, hr2, hk2, hr3, hk3, hr4, hk4, hr5, hk5, hr6, hk6, hr7, hk7, hr8, hk8, hr9, hk9, hr10, hk10, hr11, hk11, hr12, hk12, hr13, hk13, hr14, hk14, hr15, hk15, hr16, hk16, hr17, hk17, hr18, hk18, hr19, hk19, hr20, hk20, hr21, hk21, hr22, hk22, hr23, hk23, hr24, hk24⟩ := id hm
  refine v_aload_n h (i := 0) dX8_removeTask_0 (q := 1) rfl rfl rfl ?_
  refine v_iload_n h (i := 1) dX8_removeTask_1 (q := 2) rfl rfl rfl ?_
  refine v_callV1 h (c_X8_isBranch hfl hm hb hn hn8.2) kX8_isBranch tw925 tw13 (by assumption) (by decide) rfl rfl rfl (by simp [Value.category]) (by decide) (Nat.zero_le _) (Nat.zero_le _) rfl dX8_removeTask_2 (q := 5) rfl ?_
  refine v_if_eq h dX8_removeTask_5 (q := 8) rfl (tgt := 19) (by decide) (fun c1 => absurd c1 (by decide)) (fun c1 => ?_)
  refine v_iload_n h (i := 2) dX8_removeTask_8 (q := 9) rfl rfl rfl ?_
  refine v_callS1 h (c_X8_isTask hfl ht) kX8_isTask rfl tw919 rfl rfl (by simp [Value.category]) (by decide) (Nat.zero_le _) (Nat.zero_le _) rfl dX8_removeTask_9 (q := 12) rfl ?_
  refine v_if_eq h dX8_removeTask_12 (q := 15) rfl (tgt := 19) (by decide) (fun c2 => absurd c2 (by decide)) (fun c2 => ?_)
  refine v_iconst h (v := nI 1) dX8_removeTask_15 (q := 16) rfl (by decide +kernel) ?_
  refine v_goto h dX8_removeTask_16 (tgt := 20) (by decide) ?_
  refine v_istore_n h (i := 3) dX8_removeTask_20 (q := 21) rfl rfl (Nat.le_of_ble_eq_true rfl) rfl ?_
  refine v_iload_n h (i := 3) dX8_removeTask_21 (q := 22) rfl rfl rfl ?_
  refine v_if_eq h dX8_removeTask_22 (q := 25) rfl (tgt := 47) (by decide) (fun c3 => absurd c3 (by decide)) (fun c3 => ?_)
  refine v_aload_n h (i := 0) dX8_removeTask_25 (q := 26) rfl rfl rfl ?_
  refine v_iload_n h (i := 1) dX8_removeTask_26 (q := 27) rfl rfl rfl ?_
  refine v_iload_n h (i := 2) dX8_removeTask_27 (q := 28) rfl rfl rfl ?_
  refine v_callV1 h (c_X8_isThere hfl hm (show b < 17 by omega) ht) kX8_isThere tw940 tw16 (by assumption) (by decide) rfl rfl rfl (by simp [Value.category]) (by decide) (Nat.zero_le _) (Nat.zero_le _) rfl dX8_removeTask_28 (q := 31) rfl ?_
  refine v_if_eq h dX8_removeTask_31 (q := 34) rfl (tgt := 47) (by decide) (fun c4 => ?_) (fun c4 => ?_)
  · skip
    refine v_iconst h (v := nI 0) dX8_removeTask_47 (q := 48) rfl (by decide +kernel) ?_
    refine v_istore h dX8_removeTask_48 (q := 50) rfl (Nat.le_of_ble_eq_true rfl) rfl ?_
    refine v_aload_n h (i := 0) dX8_removeTask_50 (q := 51) rfl rfl rfl ?_
    refine v_aload_n h (i := 0) dX8_removeTask_51 (q := 52) rfl rfl rfl ?_
    refine v_iload_n h (i := 1) dX8_removeTask_52 (q := 53) rfl rfl rfl ?_
    refine v_callV1 h (c_X8_isBranch hfl hm hb hn hn8.2) kX8_isBranch tw925 tw13 (by assumption) (by decide) rfl rfl rfl (by simp [Value.category]) (by decide) (Nat.zero_le _) (Nat.zero_le _) rfl dX8_removeTask_53 (q := 56) rfl ?_
    refine v_if_ne h dX8_removeTask_56 (q := 59) rfl (tgt := 63) (by decide) (fun c5 => ?_) (fun c5 => absurd c5 (by decide))
    refine v_iload_n h (i := 3) dX8_removeTask_63 (q := 64) rfl rfl rfl ?_
    refine v_if_ne h dX8_removeTask_64 (q := 67) rfl (tgt := 71) (by decide) (fun c6 => ?_) (fun c6 => absurd c6 (by decide))
    refine v_iload h dX8_removeTask_71 (q := 73) rfl rfl ?_
    refine v_if_ne h dX8_removeTask_73 (q := 76) rfl (tgt := 80) (by decide) (fun c7 => absurd c7 (by decide)) (fun c7 => ?_)
    refine v_iconst h (v := nI 3) dX8_removeTask_76 (q := 77) rfl (by decide +kernel) ?_
    refine v_goto h dX8_removeTask_77 (tgt := 81) (by decide) ?_
    refine v_callV1 h (x_X8_isFine hfl hm (by decide)) kX8_isFine tw929 tw14 (by assumption) (by decide) rfl rfl rfl (by simp [Value.category]) (by decide) (Nat.zero_le _) (Nat.zero_le _) rfl dX8_removeTask_81 (q := 84) rfl ?_
    refine v_if_ne h dX8_removeTask_84 (q := 87) rfl (tgt := 89) (by decide) (fun c8 => absurd c8 (by decide)) (fun c8 => ?_)
    refine v_iconst h (v := nI 0) dX8_removeTask_87 (q := 88) rfl (by decide +kernel) ?_
    refine v_iret h hQ rfl rfl dX8_removeTask_88 (Nat.zero_le _) (Nat.zero_le _) ⟨rfl, rfl, rfl, rfl, rfl⟩
  · skip
    have e1 := pb_ne_f (fun q => c4 (pb_b_0.mpr q))
    refine v_aload_n h (i := 0) dX8_removeTask_34 (q := 35) rfl rfl rfl ?_
    refine v_iload_n h (i := 1) dX8_removeTask_35 (q := 36) rfl rfl rfl ?_
    refine v_iload_n h (i := 2) dX8_removeTask_36 (q := 37) rfl rfl rfl ?_
    refine v_callV1 h (c_X8_isNeeded hfl hm (show b < 17 by omega) ht) kX8_isNeeded tw952 tw18 (by assumption) (by decide) rfl rfl rfl (by simp [Value.category]) (by decide) (Nat.zero_le _) (Nat.zero_le _) rfl dX8_removeTask_37 (q := 40) rfl ?_
    refine v_if_ne h dX8_removeTask_40 (q := 43) rfl (tgt := 47) (by decide) (fun c9 => ?_) (fun c9 => absurd ((hbad e1).symm.trans (pb_b_0.mp c9)) (by decide))
    refine v_iconst h (v := nI 0) dX8_removeTask_47 (q := 48) rfl (by decide +kernel) ?_
    refine v_istore h dX8_removeTask_48 (q := 50) rfl (Nat.le_of_ble_eq_true rfl) rfl ?_
    refine v_aload_n h (i := 0) dX8_removeTask_50 (q := 51) rfl rfl rfl ?_
    refine v_aload_n h (i := 0) dX8_removeTask_51 (q := 52) rfl rfl rfl ?_
    refine v_iload_n h (i := 1) dX8_removeTask_52 (q := 53) rfl rfl rfl ?_
    refine v_callV1 h (c_X8_isBranch hfl hm hb hn hn8.2) kX8_isBranch tw925 tw13 (by assumption) (by decide) rfl rfl rfl (by simp [Value.category]) (by decide) (Nat.zero_le _) (Nat.zero_le _) rfl dX8_removeTask_53 (q := 56) rfl ?_
    refine v_if_ne h dX8_removeTask_56 (q := 59) rfl (tgt := 63) (by decide) (fun c10 => ?_) (fun c10 => absurd c10 (by decide))
    refine v_iload_n h (i := 3) dX8_removeTask_63 (q := 64) rfl rfl rfl ?_
    refine v_if_ne h dX8_removeTask_64 (q := 67) rfl (tgt := 71) (by decide) (fun c11 => ?_) (fun c11 => absurd c11 (by decide))
    refine v_iload h dX8_removeTask_71 (q := 73) rfl rfl ?_
    refine v_if_ne h dX8_removeTask_73 (q := 76) rfl (tgt := 80) (by decide) (fun c12 => absurd c12 (by decide)) (fun c12 => ?_)
    refine v_iconst h (v := nI 3) dX8_removeTask_76 (q := 77) rfl (by decide +kernel) ?_
    refine v_goto h dX8_removeTask_77 (tgt := 81) (by decide) ?_
    refine v_callV1 h (x_X8_isFine hfl hm (by decide)) kX8_isFine tw929 tw14 (by assumption) (by decide) rfl rfl rfl (by simp [Value.category]) (by decide) (Nat.zero_le _) (Nat.zero_le _) rfl dX8_removeTask_81 (q := 84) rfl ?_
    refine v_if_ne h dX8_removeTask_84 (q := 87) rfl (tgt := 89) (by decide) (fun c13 => absurd c13 (by decide)) (fun c13 => ?_)
    refine v_iconst h (v := nI 0) dX8_removeTask_87 (q := 88) rfl (by decide +kernel) ?_
    refine v_iret h hQ rfl rfl dX8_removeTask_88 (Nat.zero_le _) (Nat.zero_le _) ⟨rfl, rfl, rfl, rfl, rfl⟩
set_option maxHeartbeats 4000000 in
set_option maxRecDepth 100000 in
theorem c_X8_setNeed {l : Launch} (hfl : l.stackTraces = false) {sz : Nat} {sk : pb_Sk} {rf : pb_Rf} {sg : pb_Sg} {M : Nat} (hm : pb_md sk rf M) {n : Nat} (hn : sg M 8 = nI n) (hn8 : 1 ≤ n ∧ n ≤ 8) {b : Nat} (hb : b < n) {t : Nat} (ht : t < 16) {o : Nat} {does : Bool} (ho : o < 16) (hne : ¬ t = o) (hh1 : pb_has (sg (M + 1)) (16 * b + t) = true) (hh2 : pb_has (sg (M + 1)) (16 * b + o) = true) (hr : does = true → pb_in (pb_mall (fun t => sg (M + 4) (16 * b + t)) o) t = false) {s : Nat} (hs : sg (M + 13) b = nI s) (hs30 : s ≤ 30) : pb_Met l mX8_setNeed 6 0 0 [.ref M, .int (nI b), .int (nI t), .int (nI o), .int (pb_b does)] sz sk rf sg (pb_is (some (.int (pb_b (pb_in ((pb_mkk (pb_up sg M 0 (nI 0)) M b t s) (M + 4) (16 * b + t)) o)))) sz sk rf (pb_up (pb_mkk (pb_up sg M 0 (nI 0)) M b t s) (M + 4) (16 * b + t) (if does = true then ((pb_mkk (pb_up sg M 0 (nI 0)) M b t s) (M + 4) (16 * b + t) &&& ((nI 1 <<< (nI o &&& 31)) ^^^ (-1))) ||| (nI 1 <<< (nI o &&& 31)) else ((pb_mkk (pb_up sg M 0 (nI 0)) M b t s) (M + 4) (16 * b + t) &&& ((nI 1 <<< (nI o &&& 31)) ^^^ (-1)))))) := by
  refine pb_start hfl (by decide +kernel) rfl (pb_c1 rfl) (Nat.le_of_ble_eq_true rfl) (fun F hF h hQ => ?_)
  subst hF
  show pv F 0 0 sz sk rf sg 0 [some (.ref M), some (.int (nI b)), some (.int (nI t)), some (.int (nI o)), some (.int (pb_b does)), none, none, none, none, none] []
  obtain ⟨hM0, hr1, hk1, hr2, hk2, hr3, hk3, hr4, hk4, hr5, hk5, hr6, hk6, hr7, hk7, hr8, hk8, hr9, hk9, hr10, hk10, hr11, hk11, hr12, hk12, hr13, hk13, hr14, hk14, hr15, hk15, hr16, hk16, hr17, hk17, hr18, hk18, hr19, hk19, hr20, hk20, hr21, hk21, hr22, hk22, hr23, hk23, hr24, hk24⟩ := id hm
  refine v_iload_n h (i := 2) dX8_setNeed_0 (q := 1) rfl rfl rfl ?_
  refine v_callS1 h (c_X8_isTask hfl ht) kX8_isTask rfl tw919 rfl rfl (by simp [Value.category]) (by decide) (Nat.zero_le _) (Nat.zero_le _) rfl dX8_setNeed_1 (q := 4) rfl ?_
  refine v_if_eq h dX8_setNeed_4 (q := 7) rfl (tgt := 23) (by decide) (fun c1 => absurd c1 (by decide)) (fun c1 => ?_)
  refine v_iload_n h (i := 3) dX8_setNeed_7 (q := 8) rfl rfl rfl ?_
  refine v_callS1 h (c_X8_isTask hfl ho) kX8_isTask rfl tw919 rfl rfl (by simp [Value.category]) (by decide) (Nat.zero_le _) (Nat.zero_le _) rfl dX8_setNeed_8 (q := 11) rfl ?_
  refine v_if_eq h dX8_setNeed_11 (q := 14) rfl (tgt := 23) (by decide) (fun c2 => absurd c2 (by decide)) (fun c2 => ?_)
  refine v_iload_n h (i := 2) dX8_setNeed_14 (q := 15) rfl rfl rfl ?_
  refine v_iload_n h (i := 3) dX8_setNeed_15 (q := 16) rfl rfl rfl ?_
  refine v_icmp_eq h dX8_setNeed_16 (q := 19) rfl (tgt := 23) (by decide) (fun c3 => absurd ((nI_eq (by omega) (by omega)).mp c3) hne) (fun c3 => ?_)
  refine v_iconst h (v := nI 1) dX8_setNeed_19 (q := 20) rfl (by decide +kernel) ?_
  refine v_goto h dX8_setNeed_20 (tgt := 24) (by decide) ?_
  refine v_istore h dX8_setNeed_24 (q := 26) rfl (Nat.le_of_ble_eq_true rfl) rfl ?_
  refine v_aload_n h (i := 0) dX8_setNeed_26 (q := 27) rfl rfl rfl ?_
  refine v_iload_n h (i := 1) dX8_setNeed_27 (q := 28) rfl rfl rfl ?_
  refine v_callV1 h (c_X8_isBranch hfl hm hb hn hn8.2) kX8_isBranch tw925 tw13 (by assumption) (by decide) rfl rfl rfl (by simp [Value.category]) (by decide) (Nat.zero_le _) (Nat.zero_le _) rfl dX8_setNeed_28 (q := 31) rfl ?_
  refine v_if_eq h dX8_setNeed_31 (q := 34) rfl (tgt := 43) (by decide) (fun c4 => absurd c4 (by decide)) (fun c4 => ?_)
  refine v_iload h dX8_setNeed_34 (q := 36) rfl rfl ?_
  refine v_if_eq h dX8_setNeed_36 (q := 39) rfl (tgt := 43) (by decide) (fun c5 => absurd c5 (by decide)) (fun c5 => ?_)
  refine v_iconst h (v := nI 1) dX8_setNeed_39 (q := 40) rfl (by decide +kernel) ?_
  refine v_goto h dX8_setNeed_40 (tgt := 44) (by decide) ?_
  refine v_istore h dX8_setNeed_44 (q := 46) rfl (Nat.le_of_ble_eq_true rfl) rfl ?_
  refine v_iload h dX8_setNeed_46 (q := 48) rfl rfl ?_
  refine v_if_eq h dX8_setNeed_48 (q := 51) rfl (tgt := 91) (by decide) (fun c6 => absurd c6 (by decide)) (fun c6 => ?_)
  refine v_aload_n h (i := 0) dX8_setNeed_51 (q := 52) rfl rfl rfl ?_
  refine v_iload_n h (i := 1) dX8_setNeed_52 (q := 53) rfl rfl rfl ?_
  refine v_iload_n h (i := 2) dX8_setNeed_53 (q := 54) rfl rfl rfl ?_
  refine v_callV1 h (c_X8_isThere hfl hm (show b < 17 by omega) ht) kX8_isThere tw940 tw16 (by assumption) (by decide) rfl rfl rfl (by simp [Value.category]) (by decide) (Nat.zero_le _) (Nat.zero_le _) rfl dX8_setNeed_54 (q := 57) rfl ?_
  refine v_if_eq h dX8_setNeed_57 (q := 60) rfl (tgt := 91) (by decide) (fun c7 => absurd (hh1.symm.trans (pb_b_0.mp c7)) (by decide)) (fun c7 => ?_)
  refine v_aload_n h (i := 0) dX8_setNeed_60 (q := 61) rfl rfl rfl ?_
  refine v_iload_n h (i := 1) dX8_setNeed_61 (q := 62) rfl rfl rfl ?_
  refine v_iload_n h (i := 3) dX8_setNeed_62 (q := 63) rfl rfl rfl ?_
  refine v_callV1 h (c_X8_isThere hfl hm (show b < 17 by omega) ho) kX8_isThere tw940 tw16 (by assumption) (by decide) rfl rfl rfl (by simp [Value.category]) (by decide) (Nat.zero_le _) (Nat.zero_le _) rfl dX8_setNeed_63 (q := 66) rfl ?_
  refine v_if_eq h dX8_setNeed_66 (q := 69) rfl (tgt := 91) (by decide) (fun c8 => absurd (hh2.symm.trans (pb_b_0.mp c8)) (by decide)) (fun c8 => ?_)
  refine v_iload h dX8_setNeed_69 (q := 71) rfl rfl ?_
  refine v_if_eq h dX8_setNeed_71 (q := 74) rfl (tgt := 87) (by decide) (fun c9 => ?_) (fun c9 => ?_)
  · skip
    have e7 := pb_b_0.mp c9
    refine v_iconst h (v := nI 1) dX8_setNeed_87 (q := 88) rfl (by decide +kernel) ?_
    refine v_goto h dX8_setNeed_88 (tgt := 92) (by decide) ?_
    refine v_istore h dX8_setNeed_92 (q := 94) rfl (Nat.le_of_ble_eq_true rfl) rfl ?_
    refine v_aload_n h (i := 0) dX8_setNeed_94 (q := 95) rfl rfl rfl ?_
    refine v_aload_n h (i := 0) dX8_setNeed_95 (q := 96) rfl rfl rfl ?_
    refine v_iload_n h (i := 1) dX8_setNeed_96 (q := 97) rfl rfl rfl ?_
    refine v_callV1 h (c_X8_isBranch hfl hm hb hn hn8.2) kX8_isBranch tw925 tw13 (by assumption) (by decide) rfl rfl rfl (by simp [Value.category]) (by decide) (Nat.zero_le _) (Nat.zero_le _) rfl dX8_setNeed_97 (q := 100) rfl ?_
    refine v_if_ne h dX8_setNeed_100 (q := 103) rfl (tgt := 107) (by decide) (fun c10 => ?_) (fun c10 => absurd c10 (by decide))
    refine v_iload h dX8_setNeed_107 (q := 109) rfl rfl ?_
    refine v_if_ne h dX8_setNeed_109 (q := 112) rfl (tgt := 116) (by decide) (fun c11 => ?_) (fun c11 => absurd c11 (by decide))
    refine v_iload h dX8_setNeed_116 (q := 118) rfl rfl ?_
    refine v_if_ne h dX8_setNeed_118 (q := 121) rfl (tgt := 125) (by decide) (fun c12 => ?_) (fun c12 => absurd c12 (by decide))
    refine v_iconst h (v := nI 0) dX8_setNeed_125 (q := 126) rfl (by decide +kernel) ?_
    refine v_callV1 h (c_X8_isFine hfl hm) kX8_isFine tw929 tw14 (by assumption) (by decide) rfl rfl rfl (by simp [Value.category]) (by decide) (Nat.zero_le _) (Nat.zero_le _) rfl dX8_setNeed_126 (q := 129) rfl ?_
    refine v_if_ne h dX8_setNeed_129 (q := 132) rfl (tgt := 134) (by decide) (fun c13 => ?_) (fun c13 => absurd c13 (by decide))
    refine v_aload_n h (i := 0) dX8_setNeed_134 (q := 135) rfl rfl rfl ?_
    refine v_iload_n h (i := 1) dX8_setNeed_135 (q := 136) rfl rfl rfl ?_
    refine v_iload_n h (i := 2) dX8_setNeed_136 (q := 137) rfl rfl rfl ?_
    refine v_callV0 h (c_X8_keeps hfl hm (show b < 8 by omega) ht (show pb_up sg M 0 (nI 0) (M + 13) b = nI s by rw [pb_up_neA (by omega)]; exact hs) hs30) kX8_keeps tw933 tw15 (by assumption) (by decide) rfl rfl rfl (by simp [Value.category]) (by decide) (Nat.zero_le _) (Nat.zero_le _) rfl dX8_setNeed_137 (q := 140) rfl ?_
    refine v_aload_n h (i := 0) dX8_setNeed_140 (q := 141) rfl rfl rfl ?_
    refine v_iload_n h (i := 1) dX8_setNeed_141 (q := 142) rfl rfl rfl ?_
    refine v_iload_n h (i := 2) dX8_setNeed_142 (q := 143) rfl rfl rfl ?_
    refine v_iload_n h (i := 3) dX8_setNeed_143 (q := 144) rfl rfl rfl ?_
    refine v_callV1 h (c_X8_doesNeed hfl hm (show b < 17 by omega) ht ho) kX8_doesNeed tw956 tw19 (by assumption) (by decide) rfl rfl rfl (by simp [Value.category]) (by decide) (Nat.zero_le _) (Nat.zero_le _) rfl dX8_setNeed_144 (q := 147) rfl ?_
    refine v_istore h dX8_setNeed_147 (q := 149) rfl (Nat.le_of_ble_eq_true rfl) rfl ?_
    refine v_aload_n h (i := 0) dX8_setNeed_149 (q := 150) rfl rfl rfl ?_
    refine v_getr h fl_X8_19 (by assumption) rfl (by assumption) dX8_setNeed_150 (q := 153) rfl ?_
    refine v_iload_n h (i := 1) dX8_setNeed_153 (q := 154) rfl rfl rfl ?_
    refine v_iload_n h (i := 2) dX8_setNeed_154 (q := 155) rfl rfl rfl ?_
    refine v_callS1 h (c_X8_at hfl ) kX8_at rfl tw937 rfl rfl (by simp [Value.category]) (by decide) (Nat.zero_le _) (Nat.zero_le _) rfl dX8_setNeed_155 (q := 158) rfl ?_
    refine v_iald h (by assumption) rfl (by first | assumption | omega) (by decide) dX8_setNeed_158 (q := 159) rfl ?_
    refine v_iconst h (v := nI 1) dX8_setNeed_159 (q := 160) rfl (by decide +kernel) ?_
    refine v_iload_n h (i := 3) dX8_setNeed_160 (q := 161) rfl rfl rfl ?_
    refine v_ishl h dX8_setNeed_161 (q := 162) rfl ?_
    refine v_iconst h (v := (-1)) dX8_setNeed_162 (q := 163) rfl (by decide +kernel) ?_
    refine v_ixor h dX8_setNeed_163 (q := 164) rfl ?_
    refine v_iand h dX8_setNeed_164 (q := 165) rfl ?_
    refine v_istore h dX8_setNeed_165 (q := 167) rfl (Nat.le_of_ble_eq_true rfl) rfl ?_
    refine v_aload_n h (i := 0) dX8_setNeed_167 (q := 168) rfl rfl rfl ?_
    refine v_getr h fl_X8_19 (by assumption) rfl (by assumption) dX8_setNeed_168 (q := 171) rfl ?_
    refine v_iload_n h (i := 1) dX8_setNeed_171 (q := 172) rfl rfl rfl ?_
    refine v_iload_n h (i := 2) dX8_setNeed_172 (q := 173) rfl rfl rfl ?_
    refine v_callS1 h (c_X8_at hfl ) kX8_at rfl tw937 rfl rfl (by simp [Value.category]) (by decide) (Nat.zero_le _) (Nat.zero_le _) rfl dX8_setNeed_173 (q := 176) rfl ?_
    refine v_iload h dX8_setNeed_176 (q := 178) rfl rfl ?_
    refine v_if_eq h dX8_setNeed_178 (q := 181) rfl (tgt := 190) (by decide) (fun c14 => ?_) (fun c14 => absurd (pb_b_0.mpr e7) c14)
    refine v_iload h dX8_setNeed_190 (q := 192) rfl rfl ?_
    refine v_eq (st' := [.int (if does = true then ((pb_mkk (pb_up sg M 0 (nI 0)) M b t s) (M + 4) (16 * b + t) &&& ((nI 1 <<< (nI o &&& 31)) ^^^ (-1))) ||| (nI 1 <<< (nI o &&& 31)) else ((pb_mkk (pb_up sg M 0 (nI 0)) M b t s) (M + 4) (16 * b + t) &&& ((nI 1 <<< (nI o &&& 31)) ^^^ (-1)))), .int (nI (16 * b + t)), .ref (M + 4)]) (by rw [e7]; rfl) ?_
    refine v_iast h (by assumption) rfl (by first | assumption | omega) (by decide) dX8_setNeed_192 (q := 193) rfl ?_
    refine v_iload h dX8_setNeed_193 (q := 195) rfl rfl ?_
    refine v_iret h hQ rfl (by first | exact rfl | exact pb_b_nar _) dX8_setNeed_195 (Nat.zero_le _) (Nat.zero_le _) ⟨rfl, rfl, rfl, rfl, rfl⟩
  · skip
    have e7 := pb_ne_f (fun q => c9 (pb_b_0.mpr q))
    refine v_aload_n h (i := 0) dX8_setNeed_74 (q := 75) rfl rfl rfl ?_
    refine v_iload_n h (i := 1) dX8_setNeed_75 (q := 76) rfl rfl rfl ?_
    refine v_iload_n h (i := 3) dX8_setNeed_76 (q := 77) rfl rfl rfl ?_
    refine v_callV1 h (c_X8_allNeeds hfl hm (show b < 17 by omega) ho) kX8_allNeeds tw964 tw20 (by assumption) (by decide) rfl rfl rfl (by simp [Value.category]) (by decide) (Nat.zero_le _) (Nat.zero_le _) rfl dX8_setNeed_77 (q := 80) rfl ?_
    refine v_iload_n h (i := 2) dX8_setNeed_80 (q := 81) rfl rfl rfl ?_
    refine v_ishr h dX8_setNeed_81 (q := 82) rfl ?_
    refine v_iconst h (v := nI 1) dX8_setNeed_82 (q := 83) rfl (by decide +kernel) ?_
    refine v_iand h dX8_setNeed_83 (q := 84) rfl ?_
    refine v_if_ne h dX8_setNeed_84 (q := 87) rfl (tgt := 91) (by decide) (fun c15 => absurd ((pb_in_sh (by omega)).mpr (hr e7)) c15) (fun c15 => ?_)
    refine v_iconst h (v := nI 1) dX8_setNeed_87 (q := 88) rfl (by decide +kernel) ?_
    refine v_goto h dX8_setNeed_88 (tgt := 92) (by decide) ?_
    refine v_istore h dX8_setNeed_92 (q := 94) rfl (Nat.le_of_ble_eq_true rfl) rfl ?_
    refine v_aload_n h (i := 0) dX8_setNeed_94 (q := 95) rfl rfl rfl ?_
    refine v_aload_n h (i := 0) dX8_setNeed_95 (q := 96) rfl rfl rfl ?_
    refine v_iload_n h (i := 1) dX8_setNeed_96 (q := 97) rfl rfl rfl ?_
    refine v_callV1 h (c_X8_isBranch hfl hm hb hn hn8.2) kX8_isBranch tw925 tw13 (by assumption) (by decide) rfl rfl rfl (by simp [Value.category]) (by decide) (Nat.zero_le _) (Nat.zero_le _) rfl dX8_setNeed_97 (q := 100) rfl ?_
    refine v_if_ne h dX8_setNeed_100 (q := 103) rfl (tgt := 107) (by decide) (fun c16 => ?_) (fun c16 => absurd c16 (by decide))
    refine v_iload h dX8_setNeed_107 (q := 109) rfl rfl ?_
    refine v_if_ne h dX8_setNeed_109 (q := 112) rfl (tgt := 116) (by decide) (fun c17 => ?_) (fun c17 => absurd c17 (by decide))
    refine v_iload h dX8_setNeed_116 (q := 118) rfl rfl ?_
    refine v_if_ne h dX8_setNeed_118 (q := 121) rfl (tgt := 125) (by decide) (fun c18 => ?_) (fun c18 => absurd c18 (by decide))
    refine v_iconst h (v := nI 0) dX8_setNeed_125 (q := 126) rfl (by decide +kernel) ?_
    refine v_callV1 h (c_X8_isFine hfl hm) kX8_isFine tw929 tw14 (by assumption) (by decide) rfl rfl rfl (by simp [Value.category]) (by decide) (Nat.zero_le _) (Nat.zero_le _) rfl dX8_setNeed_126 (q := 129) rfl ?_
    refine v_if_ne h dX8_setNeed_129 (q := 132) rfl (tgt := 134) (by decide) (fun c19 => ?_) (fun c19 => absurd c19 (by decide))
    refine v_aload_n h (i := 0) dX8_setNeed_134 (q := 135) rfl rfl rfl ?_
    refine v_iload_n h (i := 1) dX8_setNeed_135 (q := 136) rfl rfl rfl ?_
    refine v_iload_n h (i := 2) dX8_setNeed_136 (q := 137) rfl rfl rfl ?_
    refine v_callV0 h (c_X8_keeps hfl hm (show b < 8 by omega) ht (show pb_up sg M 0 (nI 0) (M + 13) b = nI s by rw [pb_up_neA (by omega)]; exact hs) hs30) kX8_keeps tw933 tw15 (by assumption) (by decide) rfl rfl rfl (by simp [Value.category]) (by decide) (Nat.zero_le _) (Nat.zero_le _) rfl dX8_setNeed_137 (q := 140) rfl ?_
    refine v_aload_n h (i := 0) dX8_setNeed_140 (q := 141) rfl rfl rfl ?_
    refine v_iload_n h (i := 1) dX8_setNeed_141 (q := 142) rfl rfl rfl ?_
    refine v_iload_n h (i := 2) dX8_setNeed_142 (q := 143) rfl rfl rfl ?_
    refine v_iload_n h (i := 3) dX8_setNeed_143 (q := 144) rfl rfl rfl ?_
    refine v_callV1 h (c_X8_doesNeed hfl hm (show b < 17 by omega) ht ho) kX8_doesNeed tw956 tw19 (by assumption) (by decide) rfl rfl rfl (by simp [Value.category]) (by decide) (Nat.zero_le _) (Nat.zero_le _) rfl dX8_setNeed_144 (q := 147) rfl ?_
    refine v_istore h dX8_setNeed_147 (q := 149) rfl (Nat.le_of_ble_eq_true rfl) rfl ?_
    refine v_aload_n h (i := 0) dX8_setNeed_149 (q := 150) rfl rfl rfl ?_
    refine v_getr h fl_X8_19 (by assumption) rfl (by assumption) dX8_setNeed_150 (q := 153) rfl ?_
    refine v_iload_n h (i := 1) dX8_setNeed_153 (q := 154) rfl rfl rfl ?_
    refine v_iload_n h (i := 2) dX8_setNeed_154 (q := 155) rfl rfl rfl ?_
    refine v_callS1 h (c_X8_at hfl ) kX8_at rfl tw937 rfl rfl (by simp [Value.category]) (by decide) (Nat.zero_le _) (Nat.zero_le _) rfl dX8_setNeed_155 (q := 158) rfl ?_
    refine v_iald h (by assumption) rfl (by first | assumption | omega) (by decide) dX8_setNeed_158 (q := 159) rfl ?_
    refine v_iconst h (v := nI 1) dX8_setNeed_159 (q := 160) rfl (by decide +kernel) ?_
    refine v_iload_n h (i := 3) dX8_setNeed_160 (q := 161) rfl rfl rfl ?_
    refine v_ishl h dX8_setNeed_161 (q := 162) rfl ?_
    refine v_iconst h (v := (-1)) dX8_setNeed_162 (q := 163) rfl (by decide +kernel) ?_
    refine v_ixor h dX8_setNeed_163 (q := 164) rfl ?_
    refine v_iand h dX8_setNeed_164 (q := 165) rfl ?_
    refine v_istore h dX8_setNeed_165 (q := 167) rfl (Nat.le_of_ble_eq_true rfl) rfl ?_
    refine v_aload_n h (i := 0) dX8_setNeed_167 (q := 168) rfl rfl rfl ?_
    refine v_getr h fl_X8_19 (by assumption) rfl (by assumption) dX8_setNeed_168 (q := 171) rfl ?_
    refine v_iload_n h (i := 1) dX8_setNeed_171 (q := 172) rfl rfl rfl ?_
    refine v_iload_n h (i := 2) dX8_setNeed_172 (q := 173) rfl rfl rfl ?_
    refine v_callS1 h (c_X8_at hfl ) kX8_at rfl tw937 rfl rfl (by simp [Value.category]) (by decide) (Nat.zero_le _) (Nat.zero_le _) rfl dX8_setNeed_173 (q := 176) rfl ?_
    refine v_iload h dX8_setNeed_176 (q := 178) rfl rfl ?_
    refine v_if_eq h dX8_setNeed_178 (q := 181) rfl (tgt := 190) (by decide) (fun c20 => absurd (e7.symm.trans (pb_b_0.mp c20)) (by decide)) (fun c20 => ?_)
    refine v_iload h dX8_setNeed_181 (q := 183) rfl rfl ?_
    refine v_iconst h (v := nI 1) dX8_setNeed_183 (q := 184) rfl (by decide +kernel) ?_
    refine v_iload_n h (i := 3) dX8_setNeed_184 (q := 185) rfl rfl rfl ?_
    refine v_ishl h dX8_setNeed_185 (q := 186) rfl ?_
    refine v_ior h dX8_setNeed_186 (q := 187) rfl ?_
    refine v_goto h dX8_setNeed_187 (tgt := 192) (by decide) ?_
    refine v_eq (st' := [.int (if does = true then ((pb_mkk (pb_up sg M 0 (nI 0)) M b t s) (M + 4) (16 * b + t) &&& ((nI 1 <<< (nI o &&& 31)) ^^^ (-1))) ||| (nI 1 <<< (nI o &&& 31)) else ((pb_mkk (pb_up sg M 0 (nI 0)) M b t s) (M + 4) (16 * b + t) &&& ((nI 1 <<< (nI o &&& 31)) ^^^ (-1)))), .int (nI (16 * b + t)), .ref (M + 4)]) (by rw [e7]; rfl) ?_
    refine v_iast h (by assumption) rfl (by first | assumption | omega) (by decide) dX8_setNeed_192 (q := 193) rfl ?_
    refine v_iload h dX8_setNeed_193 (q := 195) rfl rfl ?_
    refine v_iret h hQ rfl (by first | exact rfl | exact pb_b_nar _) dX8_setNeed_195 (Nat.zero_le _) (Nat.zero_le _) ⟨rfl, rfl, rfl, rfl, rfl⟩
set_option maxHeartbeats 4000000 in
set_option maxRecDepth 100000 in
theorem x1_X8_setNeed {l : Launch} (hfl : l.stackTraces = false) {sz : Nat} {sk : pb_Sk} {rf : pb_Rf} {sg : pb_Sg} {M : Nat} (hm : pb_md sk rf M) {n : Nat} (hn : sg M 8 = nI n) (hn8 : 1 ≤ n ∧ n ≤ 8) {x : Int32} (hx : ∀ b, b < n → ¬ x = nI b) {t o e : Int32} : pb_Met l mX8_setNeed 6 0 0 [.ref M, .int x, .int t, .int o, .int e] sz sk rf sg (pb_is (some (.int (nI 0))) sz sk rf (pb_up sg M 0 (nI 1))) := by
  refine pb_start hfl (by decide +kernel) rfl (pb_c1 rfl) (Nat.le_of_ble_eq_true rfl) (fun F hF h hQ => ?_)
  subst hF
  show pv F 0 0 sz sk rf sg 0 [some (.ref M), some (.int x), some (.int t), some (.int o), some (.int e), none, none, none, none, none] []
  obtain ⟨hM0, hr1, hk1, hr2, hk2, hr3, hk3, hr4, hk4, hr5, hk5, hr6, hk6, hr7, hk7, hr8, hk8, hr9, hk9, hr10, hk10, hr11, hk11, hr12, hk12, hr13, hk13, hr14, hk14, hr15, hk15, hr16, hk16, hr17, hk17, hr18, hk18, hr19, hk19, hr20, hk20, hr21, hk21, hr22, hk22, hr23, hk23, hr24, hk24⟩ := id hm
  refine v_iload_n h (i := 2) dX8_setNeed_0 (q := 1) rfl rfl rfl ?_
  by_cases hk1 : nI 0 ≤ t ∧ t ≤ nI 15
  · skip
    refine v_callS1 h (c2_X8_isTask hfl hk1) kX8_isTask rfl tw919 rfl rfl (by simp [Value.category]) (by decide) (Nat.zero_le _) (Nat.zero_le _) rfl dX8_setNeed_1 (q := 4) rfl ?_
    refine v_if_eq h dX8_setNeed_4 (q := 7) rfl (tgt := 23) (by decide) (fun c1 => absurd c1 (by decide)) (fun c1 => ?_)
    refine v_iload_n h (i := 3) dX8_setNeed_7 (q := 8) rfl rfl rfl ?_
    by_cases hk2 : nI 0 ≤ o ∧ o ≤ nI 15
    · skip
      refine v_callS1 h (c2_X8_isTask hfl hk2) kX8_isTask rfl tw919 rfl rfl (by simp [Value.category]) (by decide) (Nat.zero_le _) (Nat.zero_le _) rfl dX8_setNeed_8 (q := 11) rfl ?_
      refine v_if_eq h dX8_setNeed_11 (q := 14) rfl (tgt := 23) (by decide) (fun c2 => absurd c2 (by decide)) (fun c2 => ?_)
      refine v_iload_n h (i := 2) dX8_setNeed_14 (q := 15) rfl rfl rfl ?_
      refine v_iload_n h (i := 3) dX8_setNeed_15 (q := 16) rfl rfl rfl ?_
      refine v_icmp_eq h dX8_setNeed_16 (q := 19) rfl (tgt := 23) (by decide) (fun c3 => ?_) (fun c3 => ?_)
      · skip
        refine v_iconst h (v := nI 0) dX8_setNeed_23 (q := 24) rfl (by decide +kernel) ?_
        refine v_istore h dX8_setNeed_24 (q := 26) rfl (Nat.le_of_ble_eq_true rfl) rfl ?_
        refine v_aload_n h (i := 0) dX8_setNeed_26 (q := 27) rfl rfl rfl ?_
        refine v_iload_n h (i := 1) dX8_setNeed_27 (q := 28) rfl rfl rfl ?_
        refine v_callV1 h (x_X8_isBranch hfl hm hx hn hn8) kX8_isBranch tw925 tw13 (by assumption) (by decide) rfl rfl rfl (by simp [Value.category]) (by decide) (Nat.zero_le _) (Nat.zero_le _) rfl dX8_setNeed_28 (q := 31) rfl ?_
        refine v_if_eq h dX8_setNeed_31 (q := 34) rfl (tgt := 43) (by decide) (fun c4 => ?_) (fun c4 => absurd c4 (by decide))
        refine v_iconst h (v := nI 0) dX8_setNeed_43 (q := 44) rfl (by decide +kernel) ?_
        refine v_istore h dX8_setNeed_44 (q := 46) rfl (Nat.le_of_ble_eq_true rfl) rfl ?_
        refine v_iload h dX8_setNeed_46 (q := 48) rfl rfl ?_
        refine v_if_eq h dX8_setNeed_48 (q := 51) rfl (tgt := 91) (by decide) (fun c5 => ?_) (fun c5 => absurd c5 (by decide))
        refine v_iconst h (v := nI 0) dX8_setNeed_91 (q := 92) rfl (by decide +kernel) ?_
        refine v_istore h dX8_setNeed_92 (q := 94) rfl (Nat.le_of_ble_eq_true rfl) rfl ?_
        refine v_aload_n h (i := 0) dX8_setNeed_94 (q := 95) rfl rfl rfl ?_
        refine v_aload_n h (i := 0) dX8_setNeed_95 (q := 96) rfl rfl rfl ?_
        refine v_iload_n h (i := 1) dX8_setNeed_96 (q := 97) rfl rfl rfl ?_
        refine v_callV1 h (x_X8_isBranch hfl hm hx hn hn8) kX8_isBranch tw925 tw13 (by assumption) (by decide) rfl rfl rfl (by simp [Value.category]) (by decide) (Nat.zero_le _) (Nat.zero_le _) rfl dX8_setNeed_97 (q := 100) rfl ?_
        refine v_if_ne h dX8_setNeed_100 (q := 103) rfl (tgt := 107) (by decide) (fun c6 => absurd c6 (by decide)) (fun c6 => ?_)
        refine v_iconst h (v := nI 1) dX8_setNeed_103 (q := 104) rfl (by decide +kernel) ?_
        refine v_goto h dX8_setNeed_104 (tgt := 126) (by decide) ?_
        refine v_callV1 h (x_X8_isFine hfl hm (by decide)) kX8_isFine tw929 tw14 (by assumption) (by decide) rfl rfl rfl (by simp [Value.category]) (by decide) (Nat.zero_le _) (Nat.zero_le _) rfl dX8_setNeed_126 (q := 129) rfl ?_
        refine v_if_ne h dX8_setNeed_129 (q := 132) rfl (tgt := 134) (by decide) (fun c7 => absurd c7 (by decide)) (fun c7 => ?_)
        refine v_iconst h (v := nI 0) dX8_setNeed_132 (q := 133) rfl (by decide +kernel) ?_
        refine v_iret h hQ rfl (by first | exact rfl | exact pb_b_nar _) dX8_setNeed_133 (Nat.zero_le _) (Nat.zero_le _) ⟨rfl, rfl, rfl, rfl, rfl⟩
      · skip
        refine v_iconst h (v := nI 1) dX8_setNeed_19 (q := 20) rfl (by decide +kernel) ?_
        refine v_goto h dX8_setNeed_20 (tgt := 24) (by decide) ?_
        refine v_istore h dX8_setNeed_24 (q := 26) rfl (Nat.le_of_ble_eq_true rfl) rfl ?_
        refine v_aload_n h (i := 0) dX8_setNeed_26 (q := 27) rfl rfl rfl ?_
        refine v_iload_n h (i := 1) dX8_setNeed_27 (q := 28) rfl rfl rfl ?_
        refine v_callV1 h (x_X8_isBranch hfl hm hx hn hn8) kX8_isBranch tw925 tw13 (by assumption) (by decide) rfl rfl rfl (by simp [Value.category]) (by decide) (Nat.zero_le _) (Nat.zero_le _) rfl dX8_setNeed_28 (q := 31) rfl ?_
        refine v_if_eq h dX8_setNeed_31 (q := 34) rfl (tgt := 43) (by decide) (fun c8 => ?_) (fun c8 => absurd c8 (by decide))
        refine v_iconst h (v := nI 0) dX8_setNeed_43 (q := 44) rfl (by decide +kernel) ?_
        refine v_istore h dX8_setNeed_44 (q := 46) rfl (Nat.le_of_ble_eq_true rfl) rfl ?_
        refine v_iload h dX8_setNeed_46 (q := 48) rfl rfl ?_
        refine v_if_eq h dX8_setNeed_48 (q := 51) rfl (tgt := 91) (by decide) (fun c9 => ?_) (fun c9 => absurd c9 (by decide))
        refine v_iconst h (v := nI 0) dX8_setNeed_91 (q := 92) rfl (by decide +kernel) ?_
        refine v_istore h dX8_setNeed_92 (q := 94) rfl (Nat.le_of_ble_eq_true rfl) rfl ?_
        refine v_aload_n h (i := 0) dX8_setNeed_94 (q := 95) rfl rfl rfl ?_
        refine v_aload_n h (i := 0) dX8_setNeed_95 (q := 96) rfl rfl rfl ?_
        refine v_iload_n h (i := 1) dX8_setNeed_96 (q := 97) rfl rfl rfl ?_
        refine v_callV1 h (x_X8_isBranch hfl hm hx hn hn8) kX8_isBranch tw925 tw13 (by assumption) (by decide) rfl rfl rfl (by simp [Value.category]) (by decide) (Nat.zero_le _) (Nat.zero_le _) rfl dX8_setNeed_97 (q := 100) rfl ?_
        refine v_if_ne h dX8_setNeed_100 (q := 103) rfl (tgt := 107) (by decide) (fun c10 => absurd c10 (by decide)) (fun c10 => ?_)
        refine v_iconst h (v := nI 1) dX8_setNeed_103 (q := 104) rfl (by decide +kernel) ?_
        refine v_goto h dX8_setNeed_104 (tgt := 126) (by decide) ?_
        refine v_callV1 h (x_X8_isFine hfl hm (by decide)) kX8_isFine tw929 tw14 (by assumption) (by decide) rfl rfl rfl (by simp [Value.category]) (by decide) (Nat.zero_le _) (Nat.zero_le _) rfl dX8_setNeed_126 (q := 129) rfl ?_
        refine v_if_ne h dX8_setNeed_129 (q := 132) rfl (tgt := 134) (by decide) (fun c11 => absurd c11 (by decide)) (fun c11 => ?_)
        refine v_iconst h (v := nI 0) dX8_setNeed_132 (q := 133) rfl (by decide +kernel) ?_
        refine v_iret h hQ rfl (by first | exact rfl | exact pb_b_nar _) dX8_setNeed_133 (Nat.zero_le _) (Nat.zero_le _) ⟨rfl, rfl, rfl, rfl, rfl⟩
    · skip
      refine v_callS1 h (x_X8_isTask hfl hk2) kX8_isTask rfl tw919 rfl rfl (by simp [Value.category]) (by decide) (Nat.zero_le _) (Nat.zero_le _) rfl dX8_setNeed_8 (q := 11) rfl ?_
      refine v_if_eq h dX8_setNeed_11 (q := 14) rfl (tgt := 23) (by decide) (fun c12 => ?_) (fun c12 => absurd c12 (by decide))
      refine v_iconst h (v := nI 0) dX8_setNeed_23 (q := 24) rfl (by decide +kernel) ?_
      refine v_istore h dX8_setNeed_24 (q := 26) rfl (Nat.le_of_ble_eq_true rfl) rfl ?_
      refine v_aload_n h (i := 0) dX8_setNeed_26 (q := 27) rfl rfl rfl ?_
      refine v_iload_n h (i := 1) dX8_setNeed_27 (q := 28) rfl rfl rfl ?_
      refine v_callV1 h (x_X8_isBranch hfl hm hx hn hn8) kX8_isBranch tw925 tw13 (by assumption) (by decide) rfl rfl rfl (by simp [Value.category]) (by decide) (Nat.zero_le _) (Nat.zero_le _) rfl dX8_setNeed_28 (q := 31) rfl ?_
      refine v_if_eq h dX8_setNeed_31 (q := 34) rfl (tgt := 43) (by decide) (fun c13 => ?_) (fun c13 => absurd c13 (by decide))
      refine v_iconst h (v := nI 0) dX8_setNeed_43 (q := 44) rfl (by decide +kernel) ?_
      refine v_istore h dX8_setNeed_44 (q := 46) rfl (Nat.le_of_ble_eq_true rfl) rfl ?_
      refine v_iload h dX8_setNeed_46 (q := 48) rfl rfl ?_
      refine v_if_eq h dX8_setNeed_48 (q := 51) rfl (tgt := 91) (by decide) (fun c14 => ?_) (fun c14 => absurd c14 (by decide))
      refine v_iconst h (v := nI 0) dX8_setNeed_91 (q := 92) rfl (by decide +kernel) ?_
      refine v_istore h dX8_setNeed_92 (q := 94) rfl (Nat.le_of_ble_eq_true rfl) rfl ?_
      refine v_aload_n h (i := 0) dX8_setNeed_94 (q := 95) rfl rfl rfl ?_
      refine v_aload_n h (i := 0) dX8_setNeed_95 (q := 96) rfl rfl rfl ?_
      refine v_iload_n h (i := 1) dX8_setNeed_96 (q := 97) rfl rfl rfl ?_
      refine v_callV1 h (x_X8_isBranch hfl hm hx hn hn8) kX8_isBranch tw925 tw13 (by assumption) (by decide) rfl rfl rfl (by simp [Value.category]) (by decide) (Nat.zero_le _) (Nat.zero_le _) rfl dX8_setNeed_97 (q := 100) rfl ?_
      refine v_if_ne h dX8_setNeed_100 (q := 103) rfl (tgt := 107) (by decide) (fun c15 => absurd c15 (by decide)) (fun c15 => ?_)
      refine v_iconst h (v := nI 1) dX8_setNeed_103 (q := 104) rfl (by decide +kernel) ?_
      refine v_goto h dX8_setNeed_104 (tgt := 126) (by decide) ?_
      refine v_callV1 h (x_X8_isFine hfl hm (by decide)) kX8_isFine tw929 tw14 (by assumption) (by decide) rfl rfl rfl (by simp [Value.category]) (by decide) (Nat.zero_le _) (Nat.zero_le _) rfl dX8_setNeed_126 (q := 129) rfl ?_
      refine v_if_ne h dX8_setNeed_129 (q := 132) rfl (tgt := 134) (by decide) (fun c16 => absurd c16 (by decide)) (fun c16 => ?_)
      refine v_iconst h (v := nI 0) dX8_setNeed_132 (q := 133) rfl (by decide +kernel) ?_
      refine v_iret h hQ rfl (by first | exact rfl | exact pb_b_nar _) dX8_setNeed_133 (Nat.zero_le _) (Nat.zero_le _) ⟨rfl, rfl, rfl, rfl, rfl⟩
  · skip
    refine v_callS1 h (x_X8_isTask hfl hk1) kX8_isTask rfl tw919 rfl rfl (by simp [Value.category]) (by decide) (Nat.zero_le _) (Nat.zero_le _) rfl dX8_setNeed_1 (q := 4) rfl ?_
    refine v_if_eq h dX8_setNeed_4 (q := 7) rfl (tgt := 23) (by decide) (fun c17 => ?_) (fun c17 => absurd c17 (by decide))
    refine v_iconst h (v := nI 0) dX8_setNeed_23 (q := 24) rfl (by decide +kernel) ?_
    refine v_istore h dX8_setNeed_24 (q := 26) rfl (Nat.le_of_ble_eq_true rfl) rfl ?_
    refine v_aload_n h (i := 0) dX8_setNeed_26 (q := 27) rfl rfl rfl ?_
    refine v_iload_n h (i := 1) dX8_setNeed_27 (q := 28) rfl rfl rfl ?_
    refine v_callV1 h (x_X8_isBranch hfl hm hx hn hn8) kX8_isBranch tw925 tw13 (by assumption) (by decide) rfl rfl rfl (by simp [Value.category]) (by decide) (Nat.zero_le _) (Nat.zero_le _) rfl dX8_setNeed_28 (q := 31) rfl ?_
    refine v_if_eq h dX8_setNeed_31 (q := 34) rfl (tgt := 43) (by decide) (fun c18 => ?_) (fun c18 => absurd c18 (by decide))
    refine v_iconst h (v := nI 0) dX8_setNeed_43 (q := 44) rfl (by decide +kernel) ?_
    refine v_istore h dX8_setNeed_44 (q := 46) rfl (Nat.le_of_ble_eq_true rfl) rfl ?_
    refine v_iload h dX8_setNeed_46 (q := 48) rfl rfl ?_
    refine v_if_eq h dX8_setNeed_48 (q := 51) rfl (tgt := 91) (by decide) (fun c19 => ?_) (fun c19 => absurd c19 (by decide))
    refine v_iconst h (v := nI 0) dX8_setNeed_91 (q := 92) rfl (by decide +kernel) ?_
    refine v_istore h dX8_setNeed_92 (q := 94) rfl (Nat.le_of_ble_eq_true rfl) rfl ?_
    refine v_aload_n h (i := 0) dX8_setNeed_94 (q := 95) rfl rfl rfl ?_
    refine v_aload_n h (i := 0) dX8_setNeed_95 (q := 96) rfl rfl rfl ?_
    refine v_iload_n h (i := 1) dX8_setNeed_96 (q := 97) rfl rfl rfl ?_
    refine v_callV1 h (x_X8_isBranch hfl hm hx hn hn8) kX8_isBranch tw925 tw13 (by assumption) (by decide) rfl rfl rfl (by simp [Value.category]) (by decide) (Nat.zero_le _) (Nat.zero_le _) rfl dX8_setNeed_97 (q := 100) rfl ?_
    refine v_if_ne h dX8_setNeed_100 (q := 103) rfl (tgt := 107) (by decide) (fun c20 => absurd c20 (by decide)) (fun c20 => ?_)
    refine v_iconst h (v := nI 1) dX8_setNeed_103 (q := 104) rfl (by decide +kernel) ?_
    refine v_goto h dX8_setNeed_104 (tgt := 126) (by decide) ?_
    refine v_callV1 h (x_X8_isFine hfl hm (by decide)) kX8_isFine tw929 tw14 (by assumption) (by decide) rfl rfl rfl (by simp [Value.category]) (by decide) (Nat.zero_le _) (Nat.zero_le _) rfl dX8_setNeed_126 (q := 129) rfl ?_
    refine v_if_ne h dX8_setNeed_129 (q := 132) rfl (tgt := 134) (by decide) (fun c21 => absurd c21 (by decide)) (fun c21 => ?_)
    refine v_iconst h (v := nI 0) dX8_setNeed_132 (q := 133) rfl (by decide +kernel) ?_
    refine v_iret h hQ rfl (by first | exact rfl | exact pb_b_nar _) dX8_setNeed_133 (Nat.zero_le _) (Nat.zero_le _) ⟨rfl, rfl, rfl, rfl, rfl⟩
set_option maxHeartbeats 4000000 in
set_option maxRecDepth 100000 in
theorem x2_X8_setNeed {l : Launch} (hfl : l.stackTraces = false) {sz : Nat} {sk : pb_Sk} {rf : pb_Rf} {sg : pb_Sg} {M : Nat} (hm : pb_md sk rf M) {n : Nat} (hn : sg M 8 = nI n) (hn8 : 1 ≤ n ∧ n ≤ 8) {b : Nat} (hb : b < n) {t o e : Int32} (hbad : ¬ ((nI 0 ≤ t ∧ t ≤ nI 15) ∧ (nI 0 ≤ o ∧ o ≤ nI 15) ∧ ¬ t = o)) : pb_Met l mX8_setNeed 6 0 0 [.ref M, .int (nI b), .int t, .int o, .int e] sz sk rf sg (pb_is (some (.int (nI 0))) sz sk rf (pb_up sg M 0 (nI 2))) := by
  refine pb_start hfl (by decide +kernel) rfl (pb_c1 rfl) (Nat.le_of_ble_eq_true rfl) (fun F hF h hQ => ?_)
  subst hF
  show pv F 0 0 sz sk rf sg 0 [some (.ref M), some (.int (nI b)), some (.int t), some (.int o), some (.int e), none, none, none, none, none] []
  obtain ⟨hM0, hr1, hk1, hr2, hk2, hr3, hk3, hr4, hk4, hr5, hk5, hr6, hk6, hr7, hk7, hr8, hk8, hr9, hk9, hr10, hk10, hr11, hk11, hr12, hk12, hr13, hk13, hr14, hk14, hr15, hk15, hr16, hk16, hr17, hk17, hr18, hk18, hr19, hk19, hr20, hk20, hr21, hk21, hr22, hk22, hr23, hk23, hr24, hk24⟩ := id hm
  refine v_iload_n h (i := 2) dX8_setNeed_0 (q := 1) rfl rfl rfl ?_
  by_cases hk1 : nI 0 ≤ t ∧ t ≤ nI 15
  · skip
    refine v_callS1 h (c2_X8_isTask hfl hk1) kX8_isTask rfl tw919 rfl rfl (by simp [Value.category]) (by decide) (Nat.zero_le _) (Nat.zero_le _) rfl dX8_setNeed_1 (q := 4) rfl ?_
    refine v_if_eq h dX8_setNeed_4 (q := 7) rfl (tgt := 23) (by decide) (fun c1 => absurd c1 (by decide)) (fun c1 => ?_)
    refine v_iload_n h (i := 3) dX8_setNeed_7 (q := 8) rfl rfl rfl ?_
    by_cases hk2 : nI 0 ≤ o ∧ o ≤ nI 15
    · skip
      refine v_callS1 h (c2_X8_isTask hfl hk2) kX8_isTask rfl tw919 rfl rfl (by simp [Value.category]) (by decide) (Nat.zero_le _) (Nat.zero_le _) rfl dX8_setNeed_8 (q := 11) rfl ?_
      refine v_if_eq h dX8_setNeed_11 (q := 14) rfl (tgt := 23) (by decide) (fun c2 => absurd c2 (by decide)) (fun c2 => ?_)
      refine v_iload_n h (i := 2) dX8_setNeed_14 (q := 15) rfl rfl rfl ?_
      refine v_iload_n h (i := 3) dX8_setNeed_15 (q := 16) rfl rfl rfl ?_
      refine v_icmp_eq h dX8_setNeed_16 (q := 19) rfl (tgt := 23) (by decide) (fun c3 => ?_) (fun c3 => absurd ⟨hk1, hk2, c3⟩ hbad)
      refine v_iconst h (v := nI 0) dX8_setNeed_23 (q := 24) rfl (by decide +kernel) ?_
      refine v_istore h dX8_setNeed_24 (q := 26) rfl (Nat.le_of_ble_eq_true rfl) rfl ?_
      refine v_aload_n h (i := 0) dX8_setNeed_26 (q := 27) rfl rfl rfl ?_
      refine v_iload_n h (i := 1) dX8_setNeed_27 (q := 28) rfl rfl rfl ?_
      refine v_callV1 h (c_X8_isBranch hfl hm hb hn hn8.2) kX8_isBranch tw925 tw13 (by assumption) (by decide) rfl rfl rfl (by simp [Value.category]) (by decide) (Nat.zero_le _) (Nat.zero_le _) rfl dX8_setNeed_28 (q := 31) rfl ?_
      refine v_if_eq h dX8_setNeed_31 (q := 34) rfl (tgt := 43) (by decide) (fun c4 => absurd c4 (by decide)) (fun c4 => ?_)
      refine v_iload h dX8_setNeed_34 (q := 36) rfl rfl ?_
      refine v_if_eq h dX8_setNeed_36 (q := 39) rfl (tgt := 43) (by decide) (fun c5 => ?_) (fun c5 => absurd c5 (by decide))
      refine v_iconst h (v := nI 0) dX8_setNeed_43 (q := 44) rfl (by decide +kernel) ?_
      refine v_istore h dX8_setNeed_44 (q := 46) rfl (Nat.le_of_ble_eq_true rfl) rfl ?_
      refine v_iload h dX8_setNeed_46 (q := 48) rfl rfl ?_
      refine v_if_eq h dX8_setNeed_48 (q := 51) rfl (tgt := 91) (by decide) (fun c6 => ?_) (fun c6 => absurd c6 (by decide))
      refine v_iconst h (v := nI 0) dX8_setNeed_91 (q := 92) rfl (by decide +kernel) ?_
      refine v_istore h dX8_setNeed_92 (q := 94) rfl (Nat.le_of_ble_eq_true rfl) rfl ?_
      refine v_aload_n h (i := 0) dX8_setNeed_94 (q := 95) rfl rfl rfl ?_
      refine v_aload_n h (i := 0) dX8_setNeed_95 (q := 96) rfl rfl rfl ?_
      refine v_iload_n h (i := 1) dX8_setNeed_96 (q := 97) rfl rfl rfl ?_
      refine v_callV1 h (c_X8_isBranch hfl hm hb hn hn8.2) kX8_isBranch tw925 tw13 (by assumption) (by decide) rfl rfl rfl (by simp [Value.category]) (by decide) (Nat.zero_le _) (Nat.zero_le _) rfl dX8_setNeed_97 (q := 100) rfl ?_
      refine v_if_ne h dX8_setNeed_100 (q := 103) rfl (tgt := 107) (by decide) (fun c7 => ?_) (fun c7 => absurd c7 (by decide))
      refine v_iload h dX8_setNeed_107 (q := 109) rfl rfl ?_
      refine v_if_ne h dX8_setNeed_109 (q := 112) rfl (tgt := 116) (by decide) (fun c8 => absurd c8 (by decide)) (fun c8 => ?_)
      refine v_iconst h (v := nI 2) dX8_setNeed_112 (q := 113) rfl (by decide +kernel) ?_
      refine v_goto h dX8_setNeed_113 (tgt := 126) (by decide) ?_
      refine v_callV1 h (x_X8_isFine hfl hm (by decide)) kX8_isFine tw929 tw14 (by assumption) (by decide) rfl rfl rfl (by simp [Value.category]) (by decide) (Nat.zero_le _) (Nat.zero_le _) rfl dX8_setNeed_126 (q := 129) rfl ?_
      refine v_if_ne h dX8_setNeed_129 (q := 132) rfl (tgt := 134) (by decide) (fun c9 => absurd c9 (by decide)) (fun c9 => ?_)
      refine v_iconst h (v := nI 0) dX8_setNeed_132 (q := 133) rfl (by decide +kernel) ?_
      refine v_iret h hQ rfl (by first | exact rfl | exact pb_b_nar _) dX8_setNeed_133 (Nat.zero_le _) (Nat.zero_le _) ⟨rfl, rfl, rfl, rfl, rfl⟩
    · skip
      refine v_callS1 h (x_X8_isTask hfl hk2) kX8_isTask rfl tw919 rfl rfl (by simp [Value.category]) (by decide) (Nat.zero_le _) (Nat.zero_le _) rfl dX8_setNeed_8 (q := 11) rfl ?_
      refine v_if_eq h dX8_setNeed_11 (q := 14) rfl (tgt := 23) (by decide) (fun c10 => ?_) (fun c10 => absurd c10 (by decide))
      refine v_iconst h (v := nI 0) dX8_setNeed_23 (q := 24) rfl (by decide +kernel) ?_
      refine v_istore h dX8_setNeed_24 (q := 26) rfl (Nat.le_of_ble_eq_true rfl) rfl ?_
      refine v_aload_n h (i := 0) dX8_setNeed_26 (q := 27) rfl rfl rfl ?_
      refine v_iload_n h (i := 1) dX8_setNeed_27 (q := 28) rfl rfl rfl ?_
      refine v_callV1 h (c_X8_isBranch hfl hm hb hn hn8.2) kX8_isBranch tw925 tw13 (by assumption) (by decide) rfl rfl rfl (by simp [Value.category]) (by decide) (Nat.zero_le _) (Nat.zero_le _) rfl dX8_setNeed_28 (q := 31) rfl ?_
      refine v_if_eq h dX8_setNeed_31 (q := 34) rfl (tgt := 43) (by decide) (fun c11 => absurd c11 (by decide)) (fun c11 => ?_)
      refine v_iload h dX8_setNeed_34 (q := 36) rfl rfl ?_
      refine v_if_eq h dX8_setNeed_36 (q := 39) rfl (tgt := 43) (by decide) (fun c12 => ?_) (fun c12 => absurd c12 (by decide))
      refine v_iconst h (v := nI 0) dX8_setNeed_43 (q := 44) rfl (by decide +kernel) ?_
      refine v_istore h dX8_setNeed_44 (q := 46) rfl (Nat.le_of_ble_eq_true rfl) rfl ?_
      refine v_iload h dX8_setNeed_46 (q := 48) rfl rfl ?_
      refine v_if_eq h dX8_setNeed_48 (q := 51) rfl (tgt := 91) (by decide) (fun c13 => ?_) (fun c13 => absurd c13 (by decide))
      refine v_iconst h (v := nI 0) dX8_setNeed_91 (q := 92) rfl (by decide +kernel) ?_
      refine v_istore h dX8_setNeed_92 (q := 94) rfl (Nat.le_of_ble_eq_true rfl) rfl ?_
      refine v_aload_n h (i := 0) dX8_setNeed_94 (q := 95) rfl rfl rfl ?_
      refine v_aload_n h (i := 0) dX8_setNeed_95 (q := 96) rfl rfl rfl ?_
      refine v_iload_n h (i := 1) dX8_setNeed_96 (q := 97) rfl rfl rfl ?_
      refine v_callV1 h (c_X8_isBranch hfl hm hb hn hn8.2) kX8_isBranch tw925 tw13 (by assumption) (by decide) rfl rfl rfl (by simp [Value.category]) (by decide) (Nat.zero_le _) (Nat.zero_le _) rfl dX8_setNeed_97 (q := 100) rfl ?_
      refine v_if_ne h dX8_setNeed_100 (q := 103) rfl (tgt := 107) (by decide) (fun c14 => ?_) (fun c14 => absurd c14 (by decide))
      refine v_iload h dX8_setNeed_107 (q := 109) rfl rfl ?_
      refine v_if_ne h dX8_setNeed_109 (q := 112) rfl (tgt := 116) (by decide) (fun c15 => absurd c15 (by decide)) (fun c15 => ?_)
      refine v_iconst h (v := nI 2) dX8_setNeed_112 (q := 113) rfl (by decide +kernel) ?_
      refine v_goto h dX8_setNeed_113 (tgt := 126) (by decide) ?_
      refine v_callV1 h (x_X8_isFine hfl hm (by decide)) kX8_isFine tw929 tw14 (by assumption) (by decide) rfl rfl rfl (by simp [Value.category]) (by decide) (Nat.zero_le _) (Nat.zero_le _) rfl dX8_setNeed_126 (q := 129) rfl ?_
      refine v_if_ne h dX8_setNeed_129 (q := 132) rfl (tgt := 134) (by decide) (fun c16 => absurd c16 (by decide)) (fun c16 => ?_)
      refine v_iconst h (v := nI 0) dX8_setNeed_132 (q := 133) rfl (by decide +kernel) ?_
      refine v_iret h hQ rfl (by first | exact rfl | exact pb_b_nar _) dX8_setNeed_133 (Nat.zero_le _) (Nat.zero_le _) ⟨rfl, rfl, rfl, rfl, rfl⟩
  · skip
    refine v_callS1 h (x_X8_isTask hfl hk1) kX8_isTask rfl tw919 rfl rfl (by simp [Value.category]) (by decide) (Nat.zero_le _) (Nat.zero_le _) rfl dX8_setNeed_1 (q := 4) rfl ?_
    refine v_if_eq h dX8_setNeed_4 (q := 7) rfl (tgt := 23) (by decide) (fun c17 => ?_) (fun c17 => absurd c17 (by decide))
    refine v_iconst h (v := nI 0) dX8_setNeed_23 (q := 24) rfl (by decide +kernel) ?_
    refine v_istore h dX8_setNeed_24 (q := 26) rfl (Nat.le_of_ble_eq_true rfl) rfl ?_
    refine v_aload_n h (i := 0) dX8_setNeed_26 (q := 27) rfl rfl rfl ?_
    refine v_iload_n h (i := 1) dX8_setNeed_27 (q := 28) rfl rfl rfl ?_
    refine v_callV1 h (c_X8_isBranch hfl hm hb hn hn8.2) kX8_isBranch tw925 tw13 (by assumption) (by decide) rfl rfl rfl (by simp [Value.category]) (by decide) (Nat.zero_le _) (Nat.zero_le _) rfl dX8_setNeed_28 (q := 31) rfl ?_
    refine v_if_eq h dX8_setNeed_31 (q := 34) rfl (tgt := 43) (by decide) (fun c18 => absurd c18 (by decide)) (fun c18 => ?_)
    refine v_iload h dX8_setNeed_34 (q := 36) rfl rfl ?_
    refine v_if_eq h dX8_setNeed_36 (q := 39) rfl (tgt := 43) (by decide) (fun c19 => ?_) (fun c19 => absurd c19 (by decide))
    refine v_iconst h (v := nI 0) dX8_setNeed_43 (q := 44) rfl (by decide +kernel) ?_
    refine v_istore h dX8_setNeed_44 (q := 46) rfl (Nat.le_of_ble_eq_true rfl) rfl ?_
    refine v_iload h dX8_setNeed_46 (q := 48) rfl rfl ?_
    refine v_if_eq h dX8_setNeed_48 (q := 51) rfl (tgt := 91) (by decide) (fun c20 => ?_) (fun c20 => absurd c20 (by decide))
    refine v_iconst h (v := nI 0) dX8_setNeed_91 (q := 92) rfl (by decide +kernel) ?_
    refine v_istore h dX8_setNeed_92 (q := 94) rfl (Nat.le_of_ble_eq_true rfl) rfl ?_
    refine v_aload_n h (i := 0) dX8_setNeed_94 (q := 95) rfl rfl rfl ?_
    refine v_aload_n h (i := 0) dX8_setNeed_95 (q := 96) rfl rfl rfl ?_
    refine v_iload_n h (i := 1) dX8_setNeed_96 (q := 97) rfl rfl rfl ?_
    refine v_callV1 h (c_X8_isBranch hfl hm hb hn hn8.2) kX8_isBranch tw925 tw13 (by assumption) (by decide) rfl rfl rfl (by simp [Value.category]) (by decide) (Nat.zero_le _) (Nat.zero_le _) rfl dX8_setNeed_97 (q := 100) rfl ?_
    refine v_if_ne h dX8_setNeed_100 (q := 103) rfl (tgt := 107) (by decide) (fun c21 => ?_) (fun c21 => absurd c21 (by decide))
    refine v_iload h dX8_setNeed_107 (q := 109) rfl rfl ?_
    refine v_if_ne h dX8_setNeed_109 (q := 112) rfl (tgt := 116) (by decide) (fun c22 => absurd c22 (by decide)) (fun c22 => ?_)
    refine v_iconst h (v := nI 2) dX8_setNeed_112 (q := 113) rfl (by decide +kernel) ?_
    refine v_goto h dX8_setNeed_113 (tgt := 126) (by decide) ?_
    refine v_callV1 h (x_X8_isFine hfl hm (by decide)) kX8_isFine tw929 tw14 (by assumption) (by decide) rfl rfl rfl (by simp [Value.category]) (by decide) (Nat.zero_le _) (Nat.zero_le _) rfl dX8_setNeed_126 (q := 129) rfl ?_
    refine v_if_ne h dX8_setNeed_129 (q := 132) rfl (tgt := 134) (by decide) (fun c23 => absurd c23 (by decide)) (fun c23 => ?_)
    refine v_iconst h (v := nI 0) dX8_setNeed_132 (q := 133) rfl (by decide +kernel) ?_
    refine v_iret h hQ rfl (by first | exact rfl | exact pb_b_nar _) dX8_setNeed_133 (Nat.zero_le _) (Nat.zero_le _) ⟨rfl, rfl, rfl, rfl, rfl⟩
set_option maxHeartbeats 4000000 in
set_option maxRecDepth 100000 in
theorem x3_X8_setNeed {l : Launch} (hfl : l.stackTraces = false) {sz : Nat} {sk : pb_Sk} {rf : pb_Rf} {sg : pb_Sg} {M : Nat} (hm : pb_md sk rf M) {n : Nat} (hn : sg M 8 = nI n) (hn8 : 1 ≤ n ∧ n ≤ 8) {b : Nat} (hb : b < n) {t : Nat} (ht : t < 16) {o : Nat} {does : Bool} (ho : o < 16) (hne : ¬ t = o) (hbad : pb_has (sg (M + 1)) (16 * b + t) = true → pb_has (sg (M + 1)) (16 * b + o) = true → does = true ∧ pb_in (pb_mall (fun t => sg (M + 4) (16 * b + t)) o) t = true) : pb_Met l mX8_setNeed 6 0 0 [.ref M, .int (nI b), .int (nI t), .int (nI o), .int (pb_b does)] sz sk rf sg (pb_is (some (.int (nI 0))) sz sk rf (pb_up sg M 0 (nI 3))) := by
  refine pb_start hfl (by decide +kernel) rfl (pb_c1 rfl) (Nat.le_of_ble_eq_true rfl) (fun F hF h hQ => ?_)
  subst hF
  show pv F 0 0 sz sk rf sg 0 [some (.ref M), some (.int (nI b)), some (.int (nI t)), some (.int (nI o)), some (.int (pb_b does)), none, none, none, none, none] []
  obtain ⟨hM0, hr1, hk1, hr2, hk2, hr3, hk3, hr4, hk4, hr5, hk5, hr6, hk6, hr7, hk7, hr8, hk8, hr9, hk9, hr10, hk10, hr11, hk11, hr12, hk12, hr13, hk13, hr14, hk14, hr15, hk15, hr16, hk16, hr17, hk17, hr18, hk18, hr19, hk19, hr20, hk20, hr21, hk21, hr22, hk22, hr23, hk23, hr24, hk24⟩ := id hm
  refine v_iload_n h (i := 2) dX8_setNeed_0 (q := 1) rfl rfl rfl ?_
  refine v_callS1 h (c_X8_isTask hfl ht) kX8_isTask rfl tw919 rfl rfl (by simp [Value.category]) (by decide) (Nat.zero_le _) (Nat.zero_le _) rfl dX8_setNeed_1 (q := 4) rfl ?_
  refine v_if_eq h dX8_setNeed_4 (q := 7) rfl (tgt := 23) (by decide) (fun c1 => absurd c1 (by decide)) (fun c1 => ?_)
  refine v_iload_n h (i := 3) dX8_setNeed_7 (q := 8) rfl rfl rfl ?_
  refine v_callS1 h (c_X8_isTask hfl ho) kX8_isTask rfl tw919 rfl rfl (by simp [Value.category]) (by decide) (Nat.zero_le _) (Nat.zero_le _) rfl dX8_setNeed_8 (q := 11) rfl ?_
  refine v_if_eq h dX8_setNeed_11 (q := 14) rfl (tgt := 23) (by decide) (fun c2 => absurd c2 (by decide)) (fun c2 => ?_)
  refine v_iload_n h (i := 2) dX8_setNeed_14 (q := 15) rfl rfl rfl ?_
  refine v_iload_n h (i := 3) dX8_setNeed_15 (q := 16) rfl rfl rfl ?_
  refine v_icmp_eq h dX8_setNeed_16 (q := 19) rfl (tgt := 23) (by decide) (fun c3 => absurd ((nI_eq (by omega) (by omega)).mp c3) hne) (fun c3 => ?_)
  refine v_iconst h (v := nI 1) dX8_setNeed_19 (q := 20) rfl (by decide +kernel) ?_
  refine v_goto h dX8_setNeed_20 (tgt := 24) (by decide) ?_
  refine v_istore h dX8_setNeed_24 (q := 26) rfl (Nat.le_of_ble_eq_true rfl) rfl ?_
  refine v_aload_n h (i := 0) dX8_setNeed_26 (q := 27) rfl rfl rfl ?_
  refine v_iload_n h (i := 1) dX8_setNeed_27 (q := 28) rfl rfl rfl ?_
  refine v_callV1 h (c_X8_isBranch hfl hm hb hn hn8.2) kX8_isBranch tw925 tw13 (by assumption) (by decide) rfl rfl rfl (by simp [Value.category]) (by decide) (Nat.zero_le _) (Nat.zero_le _) rfl dX8_setNeed_28 (q := 31) rfl ?_
  refine v_if_eq h dX8_setNeed_31 (q := 34) rfl (tgt := 43) (by decide) (fun c4 => absurd c4 (by decide)) (fun c4 => ?_)
  refine v_iload h dX8_setNeed_34 (q := 36) rfl rfl ?_
  refine v_if_eq h dX8_setNeed_36 (q := 39) rfl (tgt := 43) (by decide) (fun c5 => absurd c5 (by decide)) (fun c5 => ?_)
  refine v_iconst h (v := nI 1) dX8_setNeed_39 (q := 40) rfl (by decide +kernel) ?_
  refine v_goto h dX8_setNeed_40 (tgt := 44) (by decide) ?_
  refine v_istore h dX8_setNeed_44 (q := 46) rfl (Nat.le_of_ble_eq_true rfl) rfl ?_
  refine v_iload h dX8_setNeed_46 (q := 48) rfl rfl ?_
  refine v_if_eq h dX8_setNeed_48 (q := 51) rfl (tgt := 91) (by decide) (fun c6 => absurd c6 (by decide)) (fun c6 => ?_)
  refine v_aload_n h (i := 0) dX8_setNeed_51 (q := 52) rfl rfl rfl ?_
  refine v_iload_n h (i := 1) dX8_setNeed_52 (q := 53) rfl rfl rfl ?_
  refine v_iload_n h (i := 2) dX8_setNeed_53 (q := 54) rfl rfl rfl ?_
  refine v_callV1 h (c_X8_isThere hfl hm (show b < 17 by omega) ht) kX8_isThere tw940 tw16 (by assumption) (by decide) rfl rfl rfl (by simp [Value.category]) (by decide) (Nat.zero_le _) (Nat.zero_le _) rfl dX8_setNeed_54 (q := 57) rfl ?_
  refine v_if_eq h dX8_setNeed_57 (q := 60) rfl (tgt := 91) (by decide) (fun c7 => ?_) (fun c7 => ?_)
  · skip
    refine v_iconst h (v := nI 0) dX8_setNeed_91 (q := 92) rfl (by decide +kernel) ?_
    refine v_istore h dX8_setNeed_92 (q := 94) rfl (Nat.le_of_ble_eq_true rfl) rfl ?_
    refine v_aload_n h (i := 0) dX8_setNeed_94 (q := 95) rfl rfl rfl ?_
    refine v_aload_n h (i := 0) dX8_setNeed_95 (q := 96) rfl rfl rfl ?_
    refine v_iload_n h (i := 1) dX8_setNeed_96 (q := 97) rfl rfl rfl ?_
    refine v_callV1 h (c_X8_isBranch hfl hm hb hn hn8.2) kX8_isBranch tw925 tw13 (by assumption) (by decide) rfl rfl rfl (by simp [Value.category]) (by decide) (Nat.zero_le _) (Nat.zero_le _) rfl dX8_setNeed_97 (q := 100) rfl ?_
    refine v_if_ne h dX8_setNeed_100 (q := 103) rfl (tgt := 107) (by decide) (fun c8 => ?_) (fun c8 => absurd c8 (by decide))
    refine v_iload h dX8_setNeed_107 (q := 109) rfl rfl ?_
    refine v_if_ne h dX8_setNeed_109 (q := 112) rfl (tgt := 116) (by decide) (fun c9 => ?_) (fun c9 => absurd c9 (by decide))
    refine v_iload h dX8_setNeed_116 (q := 118) rfl rfl ?_
    refine v_if_ne h dX8_setNeed_118 (q := 121) rfl (tgt := 125) (by decide) (fun c10 => absurd c10 (by decide)) (fun c10 => ?_)
    refine v_iconst h (v := nI 3) dX8_setNeed_121 (q := 122) rfl (by decide +kernel) ?_
    refine v_goto h dX8_setNeed_122 (tgt := 126) (by decide) ?_
    refine v_callV1 h (x_X8_isFine hfl hm (by decide)) kX8_isFine tw929 tw14 (by assumption) (by decide) rfl rfl rfl (by simp [Value.category]) (by decide) (Nat.zero_le _) (Nat.zero_le _) rfl dX8_setNeed_126 (q := 129) rfl ?_
    refine v_if_ne h dX8_setNeed_129 (q := 132) rfl (tgt := 134) (by decide) (fun c11 => absurd c11 (by decide)) (fun c11 => ?_)
    refine v_iconst h (v := nI 0) dX8_setNeed_132 (q := 133) rfl (by decide +kernel) ?_
    refine v_iret h hQ rfl (by first | exact rfl | exact pb_b_nar _) dX8_setNeed_133 (Nat.zero_le _) (Nat.zero_le _) ⟨rfl, rfl, rfl, rfl, rfl⟩
  · skip
    have e1 := pb_ne_f (fun q => c7 (pb_b_0.mpr q))
    refine v_aload_n h (i := 0) dX8_setNeed_60 (q := 61) rfl rfl rfl ?_
    refine v_iload_n h (i := 1) dX8_setNeed_61 (q := 62) rfl rfl rfl ?_
    refine v_iload_n h (i := 3) dX8_setNeed_62 (q := 63) rfl rfl rfl ?_
    refine v_callV1 h (c_X8_isThere hfl hm (show b < 17 by omega) ho) kX8_isThere tw940 tw16 (by assumption) (by decide) rfl rfl rfl (by simp [Value.category]) (by decide) (Nat.zero_le _) (Nat.zero_le _) rfl dX8_setNeed_63 (q := 66) rfl ?_
    refine v_if_eq h dX8_setNeed_66 (q := 69) rfl (tgt := 91) (by decide) (fun c12 => ?_) (fun c12 => ?_)
    · skip
      refine v_iconst h (v := nI 0) dX8_setNeed_91 (q := 92) rfl (by decide +kernel) ?_
      refine v_istore h dX8_setNeed_92 (q := 94) rfl (Nat.le_of_ble_eq_true rfl) rfl ?_
      refine v_aload_n h (i := 0) dX8_setNeed_94 (q := 95) rfl rfl rfl ?_
      refine v_aload_n h (i := 0) dX8_setNeed_95 (q := 96) rfl rfl rfl ?_
      refine v_iload_n h (i := 1) dX8_setNeed_96 (q := 97) rfl rfl rfl ?_
      refine v_callV1 h (c_X8_isBranch hfl hm hb hn hn8.2) kX8_isBranch tw925 tw13 (by assumption) (by decide) rfl rfl rfl (by simp [Value.category]) (by decide) (Nat.zero_le _) (Nat.zero_le _) rfl dX8_setNeed_97 (q := 100) rfl ?_
      refine v_if_ne h dX8_setNeed_100 (q := 103) rfl (tgt := 107) (by decide) (fun c13 => ?_) (fun c13 => absurd c13 (by decide))
      refine v_iload h dX8_setNeed_107 (q := 109) rfl rfl ?_
      refine v_if_ne h dX8_setNeed_109 (q := 112) rfl (tgt := 116) (by decide) (fun c14 => ?_) (fun c14 => absurd c14 (by decide))
      refine v_iload h dX8_setNeed_116 (q := 118) rfl rfl ?_
      refine v_if_ne h dX8_setNeed_118 (q := 121) rfl (tgt := 125) (by decide) (fun c15 => absurd c15 (by decide)) (fun c15 => ?_)
      refine v_iconst h (v := nI 3) dX8_setNeed_121 (q := 122) rfl (by decide +kernel) ?_
      refine v_goto h dX8_setNeed_122 (tgt := 126) (by decide) ?_
      refine v_callV1 h (x_X8_isFine hfl hm (by decide)) kX8_isFine tw929 tw14 (by assumption) (by decide) rfl rfl rfl (by simp [Value.category]) (by decide) (Nat.zero_le _) (Nat.zero_le _) rfl dX8_setNeed_126 (q := 129) rfl ?_
      refine v_if_ne h dX8_setNeed_129 (q := 132) rfl (tgt := 134) (by decide) (fun c16 => absurd c16 (by decide)) (fun c16 => ?_)
      refine v_iconst h (v := nI 0) dX8_setNeed_132 (q := 133) rfl (by decide +kernel) ?_
      refine v_iret h hQ rfl (by first | exact rfl | exact pb_b_nar _) dX8_setNeed_133 (Nat.zero_le _) (Nat.zero_le _) ⟨rfl, rfl, rfl, rfl, rfl⟩
    · skip
      have e2 := pb_ne_f (fun q => c12 (pb_b_0.mpr q))
      obtain ⟨e3, e4⟩ := hbad e1 e2
      refine v_iload h dX8_setNeed_69 (q := 71) rfl rfl ?_
      refine v_if_eq h dX8_setNeed_71 (q := 74) rfl (tgt := 87) (by decide) (fun c17 => absurd (e3.symm.trans (pb_b_0.mp c17)) (by decide)) (fun c17 => ?_)
      refine v_aload_n h (i := 0) dX8_setNeed_74 (q := 75) rfl rfl rfl ?_
      refine v_iload_n h (i := 1) dX8_setNeed_75 (q := 76) rfl rfl rfl ?_
      refine v_iload_n h (i := 3) dX8_setNeed_76 (q := 77) rfl rfl rfl ?_
      refine v_callV1 h (c_X8_allNeeds hfl hm (show b < 17 by omega) ho) kX8_allNeeds tw964 tw20 (by assumption) (by decide) rfl rfl rfl (by simp [Value.category]) (by decide) (Nat.zero_le _) (Nat.zero_le _) rfl dX8_setNeed_77 (q := 80) rfl ?_
      refine v_iload_n h (i := 2) dX8_setNeed_80 (q := 81) rfl rfl rfl ?_
      refine v_ishr h dX8_setNeed_81 (q := 82) rfl ?_
      refine v_iconst h (v := nI 1) dX8_setNeed_82 (q := 83) rfl (by decide +kernel) ?_
      refine v_iand h dX8_setNeed_83 (q := 84) rfl ?_
      refine v_if_ne h dX8_setNeed_84 (q := 87) rfl (tgt := 91) (by decide) (fun c18 => ?_) (fun c18 => absurd ((pb_in_sh (by omega)).mp c18) (by rw [e4]; decide))
      refine v_iconst h (v := nI 0) dX8_setNeed_91 (q := 92) rfl (by decide +kernel) ?_
      refine v_istore h dX8_setNeed_92 (q := 94) rfl (Nat.le_of_ble_eq_true rfl) rfl ?_
      refine v_aload_n h (i := 0) dX8_setNeed_94 (q := 95) rfl rfl rfl ?_
      refine v_aload_n h (i := 0) dX8_setNeed_95 (q := 96) rfl rfl rfl ?_
      refine v_iload_n h (i := 1) dX8_setNeed_96 (q := 97) rfl rfl rfl ?_
      refine v_callV1 h (c_X8_isBranch hfl hm hb hn hn8.2) kX8_isBranch tw925 tw13 (by assumption) (by decide) rfl rfl rfl (by simp [Value.category]) (by decide) (Nat.zero_le _) (Nat.zero_le _) rfl dX8_setNeed_97 (q := 100) rfl ?_
      refine v_if_ne h dX8_setNeed_100 (q := 103) rfl (tgt := 107) (by decide) (fun c19 => ?_) (fun c19 => absurd c19 (by decide))
      refine v_iload h dX8_setNeed_107 (q := 109) rfl rfl ?_
      refine v_if_ne h dX8_setNeed_109 (q := 112) rfl (tgt := 116) (by decide) (fun c20 => ?_) (fun c20 => absurd c20 (by decide))
      refine v_iload h dX8_setNeed_116 (q := 118) rfl rfl ?_
      refine v_if_ne h dX8_setNeed_118 (q := 121) rfl (tgt := 125) (by decide) (fun c21 => absurd c21 (by decide)) (fun c21 => ?_)
      refine v_iconst h (v := nI 3) dX8_setNeed_121 (q := 122) rfl (by decide +kernel) ?_
      refine v_goto h dX8_setNeed_122 (tgt := 126) (by decide) ?_
      refine v_callV1 h (x_X8_isFine hfl hm (by decide)) kX8_isFine tw929 tw14 (by assumption) (by decide) rfl rfl rfl (by simp [Value.category]) (by decide) (Nat.zero_le _) (Nat.zero_le _) rfl dX8_setNeed_126 (q := 129) rfl ?_
      refine v_if_ne h dX8_setNeed_129 (q := 132) rfl (tgt := 134) (by decide) (fun c22 => absurd c22 (by decide)) (fun c22 => ?_)
      refine v_iconst h (v := nI 0) dX8_setNeed_132 (q := 133) rfl (by decide +kernel) ?_
      refine v_iret h hQ rfl (by first | exact rfl | exact pb_b_nar _) dX8_setNeed_133 (Nat.zero_le _) (Nat.zero_le _) ⟨rfl, rfl, rfl, rfl, rfl⟩
set_option maxHeartbeats 4000000 in
set_option maxRecDepth 100000 in
theorem c_X8_undo {l : Launch} (hfl : l.stackTraces = false) {sz : Nat} {sk : pb_Sk} {rf : pb_Rf} {sg : pb_Sg} {M : Nat} (hm : pb_md sk rf M) {n : Nat} (hn : sg M 8 = nI n) (hn8 : 1 ≤ n ∧ n ≤ 8) {b : Nat} (hb : b < n) {t : Nat} (ht : t < 16) {s : Nat} (hs : sg (M + 13) b = nI s) (hs0 : 0 < s) (hs30 : s ≤ 30) (hc : sg (M + 8) (30 * b + (s - 1)) = nI t) : pb_Met l mX8_undo 6 0 0 [.ref M, .int (nI b)] sz sk rf sg (pb_is (some (.int (nI (s - 1)))) sz sk rf (pb_ml (pb_up (pb_up sg M 0 (nI 0)) (M + 13) b (nI (s - 1))) M (16 * b + t) ((pb_up (pb_up sg M 0 (nI 0)) (M + 13) b (nI (s - 1))) (M + 9) (30 * b + (s - 1))) ((pb_up (pb_up sg M 0 (nI 0)) (M + 13) b (nI (s - 1))) (M + 10) (30 * b + (s - 1))) ((pb_up (pb_up sg M 0 (nI 0)) (M + 13) b (nI (s - 1))) (M + 11) (30 * b + (s - 1))) ((pb_up (pb_up sg M 0 (nI 0)) (M + 13) b (nI (s - 1))) (M + 12) (30 * b + (s - 1))))) := by
  refine pb_start hfl (by decide +kernel) rfl (pb_c1 rfl) (Nat.le_of_ble_eq_true rfl) (fun F hF h hQ => ?_)
  subst hF
  show pv F 0 0 sz sk rf sg 0 [some (.ref M), some (.int (nI b)), none] []
  obtain ⟨hM0, hr1, hk1, hr2, hk2, hr3, hk3, hr4, hk4, hr5, hk5, hr6, hk6, hr7, hk7, hr8, hk8, hr9, hk9, hr10, hk10, hr11, hk11, hr12, hk12, hr13, hk13, hr14, hk14, hr15, hk15, hr16, hk16, hr17, hk17, hr18, hk18, hr19, hk19, hr20, hk20, hr21, hk21, hr22, hk22, hr23, hk23, hr24, hk24⟩ := id hm
  refine v_aload_n h (i := 0) dX8_undo_0 (q := 1) rfl rfl rfl ?_
  refine v_aload_n h (i := 0) dX8_undo_1 (q := 2) rfl rfl rfl ?_
  refine v_iload_n h (i := 1) dX8_undo_2 (q := 3) rfl rfl rfl ?_
  refine v_callV1 h (c_X8_isBranch hfl hm hb hn hn8.2) kX8_isBranch tw925 tw13 (by assumption) (by decide) rfl rfl rfl (by simp [Value.category]) (by decide) (Nat.zero_le _) (Nat.zero_le _) rfl dX8_undo_3 (q := 6) rfl ?_
  refine v_if_ne h dX8_undo_6 (q := 9) rfl (tgt := 13) (by decide) (fun c1 => ?_) (fun c1 => absurd c1 (by decide))
  refine v_aload_n h (i := 0) dX8_undo_13 (q := 14) rfl rfl rfl ?_
  refine v_getr h fl_X8_50 (by assumption) rfl (by assumption) dX8_undo_14 (q := 17) rfl ?_
  refine v_iload_n h (i := 1) dX8_undo_17 (q := 18) rfl rfl rfl ?_
  refine v_iald h (by assumption) rfl (by first | assumption | omega) (by decide) dX8_undo_18 (q := 19) rfl ?_
  refine v_if_ne h dX8_undo_19 (q := 22) rfl (tgt := 26) (by decide) (fun c2 => ?_) (fun c2 => absurd (hs.symm.trans c2) (nI_ne0 hs0 (by omega)))
  refine v_iconst h (v := nI 0) dX8_undo_26 (q := 27) rfl (by decide +kernel) ?_
  refine v_callV1 h (c_X8_isFine hfl hm) kX8_isFine tw929 tw14 (by assumption) (by decide) rfl rfl rfl (by simp [Value.category]) (by decide) (Nat.zero_le _) (Nat.zero_le _) rfl dX8_undo_27 (q := 30) rfl ?_
  refine v_if_ne h dX8_undo_30 (q := 33) rfl (tgt := 35) (by decide) (fun c3 => ?_) (fun c3 => absurd c3 (by decide))
  refine v_aload_n h (i := 0) dX8_undo_35 (q := 36) rfl rfl rfl ?_
  refine v_getr h fl_X8_50 (by assumption) rfl (by assumption) dX8_undo_36 (q := 39) rfl ?_
  refine v_iload_n h (i := 1) dX8_undo_39 (q := 40) rfl rfl rfl ?_
  refine v_dup2 h dX8_undo_40 (q := 41) rfl rfl rfl ?_
  refine v_iald h (by assumption) rfl (by first | assumption | omega) (by decide) dX8_undo_41 (q := 42) rfl ?_
  refine v_iconst h (v := nI 1) dX8_undo_42 (q := 43) rfl (by decide +kernel) ?_
  refine v_isub h dX8_undo_43 (q := 44) rfl ?_
  refine v_eq (st' := [.int (nI (s - 1)), .int (nI b), .ref (M + 13)]) (by rw [pb_up_neA (by omega), hs, pb_n1 hs0]) ?_
  refine v_iast h (by assumption) rfl (by first | assumption | omega) (by decide) dX8_undo_44 (q := 45) rfl ?_
  refine v_bipush h (v := nI 30) dX8_undo_45 (q := 47) rfl (by decide +kernel) ?_
  refine v_iload_n h (i := 1) dX8_undo_47 (q := 48) rfl rfl rfl ?_
  refine v_imul h dX8_undo_48 (q := 49) rfl ?_
  refine v_aload_n h (i := 0) dX8_undo_49 (q := 50) rfl rfl rfl ?_
  refine v_getr h fl_X8_50 (by assumption) rfl (by assumption) dX8_undo_50 (q := 53) rfl ?_
  refine v_iload_n h (i := 1) dX8_undo_53 (q := 54) rfl rfl rfl ?_
  refine v_iald h (by assumption) rfl (by first | assumption | omega) (by decide) dX8_undo_54 (q := 55) rfl ?_
  refine v_iadd h dX8_undo_55 (q := 56) rfl ?_
  refine v_eq (st' := [.int (nI (30 * b + (s - 1)))]) (by rw [nI_mul, pb_up_self, nI_add]) ?_
  refine v_istore_n h (i := 2) dX8_undo_56 (q := 57) rfl rfl (Nat.le_of_ble_eq_true rfl) rfl ?_
  refine v_aload_n h (i := 0) dX8_undo_57 (q := 58) rfl rfl rfl ?_
  refine v_iload_n h (i := 1) dX8_undo_58 (q := 59) rfl rfl rfl ?_
  refine v_aload_n h (i := 0) dX8_undo_59 (q := 60) rfl rfl rfl ?_
  refine v_getr h fl_X8_35 (by assumption) rfl (by assumption) dX8_undo_60 (q := 63) rfl ?_
  refine v_iload_n h (i := 2) dX8_undo_63 (q := 64) rfl rfl rfl ?_
  refine v_iald h (by assumption) rfl (by first | assumption | omega) (by decide) dX8_undo_64 (q := 65) rfl ?_
  refine v_eq (st' := [.int (nI t), .int (nI b), .ref M]) (by rw [pb_up_neA (by omega), pb_up_neA (by omega), hc]) ?_
  refine v_aload_n h (i := 0) dX8_undo_65 (q := 66) rfl rfl rfl ?_
  refine v_getr h fl_X8_38 (by assumption) rfl (by assumption) dX8_undo_66 (q := 69) rfl ?_
  refine v_iload_n h (i := 2) dX8_undo_69 (q := 70) rfl rfl rfl ?_
  refine v_iald h (by assumption) rfl (by first | assumption | omega) (by decide) dX8_undo_70 (q := 71) rfl ?_
  refine v_aload_n h (i := 0) dX8_undo_71 (q := 72) rfl rfl rfl ?_
  refine v_getr h fl_X8_41 (by assumption) rfl (by assumption) dX8_undo_72 (q := 75) rfl ?_
  refine v_iload_n h (i := 2) dX8_undo_75 (q := 76) rfl rfl rfl ?_
  refine v_iald h (by assumption) rfl (by first | assumption | omega) (by decide) dX8_undo_76 (q := 77) rfl ?_
  refine v_aload_n h (i := 0) dX8_undo_77 (q := 78) rfl rfl rfl ?_
  refine v_getr h fl_X8_44 (by assumption) rfl (by assumption) dX8_undo_78 (q := 81) rfl ?_
  refine v_iload_n h (i := 2) dX8_undo_81 (q := 82) rfl rfl rfl ?_
  refine v_iald h (by assumption) rfl (by first | assumption | omega) (by decide) dX8_undo_82 (q := 83) rfl ?_
  refine v_aload_n h (i := 0) dX8_undo_83 (q := 84) rfl rfl rfl ?_
  refine v_getr h fl_X8_47 (by assumption) rfl (by assumption) dX8_undo_84 (q := 87) rfl ?_
  refine v_iload_n h (i := 2) dX8_undo_87 (q := 88) rfl rfl rfl ?_
  refine v_iald h (by assumption) rfl (by first | assumption | omega) (by decide) dX8_undo_88 (q := 89) rfl ?_
  refine v_callV0 h (c_X8_lays hfl hm (show b < 17 by omega) ht) kX8_lays tw944 tw17 (by assumption) (by decide) rfl rfl rfl (by simp [Value.category]) (by decide) (Nat.zero_le _) (Nat.zero_le _) rfl dX8_undo_89 (q := 92) rfl ?_
  refine v_aload_n h (i := 0) dX8_undo_92 (q := 93) rfl rfl rfl ?_
  refine v_getr h fl_X8_50 (by assumption) rfl (by assumption) dX8_undo_93 (q := 96) rfl ?_
  refine v_iload_n h (i := 1) dX8_undo_96 (q := 97) rfl rfl rfl ?_
  refine v_iald h (by assumption) rfl (by first | assumption | omega) (by decide) dX8_undo_97 (q := 98) rfl ?_
  refine v_eq (st' := [.int (nI (s - 1))]) (by rw [pb_ml_ne (by omega), pb_up_self]) ?_
  refine v_iret h hQ rfl rfl dX8_undo_98 (Nat.zero_le _) (Nat.zero_le _) ⟨rfl, rfl, rfl, rfl, rfl⟩
set_option maxHeartbeats 4000000 in
set_option maxRecDepth 100000 in
theorem x1_X8_undo {l : Launch} (hfl : l.stackTraces = false) {sz : Nat} {sk : pb_Sk} {rf : pb_Rf} {sg : pb_Sg} {M : Nat} (hm : pb_md sk rf M) {n : Nat} (hn : sg M 8 = nI n) (hn8 : 1 ≤ n ∧ n ≤ 8) {x : Int32} (hx : ∀ b, b < n → ¬ x = nI b) : pb_Met l mX8_undo 6 0 0 [.ref M, .int x] sz sk rf sg (pb_is (some (.int (nI 0))) sz sk rf (pb_up sg M 0 (nI 1))) := by
  refine pb_start hfl (by decide +kernel) rfl (pb_c1 rfl) (Nat.le_of_ble_eq_true rfl) (fun F hF h hQ => ?_)
  subst hF
  show pv F 0 0 sz sk rf sg 0 [some (.ref M), some (.int x), none] []
  obtain ⟨hM0, hr1, hk1, hr2, hk2, hr3, hk3, hr4, hk4, hr5, hk5, hr6, hk6, hr7, hk7, hr8, hk8, hr9, hk9, hr10, hk10, hr11, hk11, hr12, hk12, hr13, hk13, hr14, hk14, hr15, hk15, hr16, hk16, hr17, hk17, hr18, hk18, hr19, hk19, hr20, hk20, hr21, hk21, hr22, hk22, hr23, hk23, hr24, hk24⟩ := id hm
  refine v_aload_n h (i := 0) dX8_undo_0 (q := 1) rfl rfl rfl ?_
  refine v_aload_n h (i := 0) dX8_undo_1 (q := 2) rfl rfl rfl ?_
  refine v_iload_n h (i := 1) dX8_undo_2 (q := 3) rfl rfl rfl ?_
  refine v_callV1 h (x_X8_isBranch hfl hm hx hn hn8) kX8_isBranch tw925 tw13 (by assumption) (by decide) rfl rfl rfl (by simp [Value.category]) (by decide) (Nat.zero_le _) (Nat.zero_le _) rfl dX8_undo_3 (q := 6) rfl ?_
  refine v_if_ne h dX8_undo_6 (q := 9) rfl (tgt := 13) (by decide) (fun c1 => absurd c1 (by decide)) (fun c1 => ?_)
  refine v_iconst h (v := nI 1) dX8_undo_9 (q := 10) rfl (by decide +kernel) ?_
  refine v_goto h dX8_undo_10 (tgt := 27) (by decide) ?_
  refine v_callV1 h (x_X8_isFine hfl hm (by decide)) kX8_isFine tw929 tw14 (by assumption) (by decide) rfl rfl rfl (by simp [Value.category]) (by decide) (Nat.zero_le _) (Nat.zero_le _) rfl dX8_undo_27 (q := 30) rfl ?_
  refine v_if_ne h dX8_undo_30 (q := 33) rfl (tgt := 35) (by decide) (fun c2 => absurd c2 (by decide)) (fun c2 => ?_)
  refine v_iconst h (v := nI 0) dX8_undo_33 (q := 34) rfl (by decide +kernel) ?_
  refine v_iret h hQ rfl rfl dX8_undo_34 (Nat.zero_le _) (Nat.zero_le _) ⟨rfl, rfl, rfl, rfl, rfl⟩
set_option maxHeartbeats 4000000 in
set_option maxRecDepth 100000 in
theorem x2_X8_undo {l : Launch} (hfl : l.stackTraces = false) {sz : Nat} {sk : pb_Sk} {rf : pb_Rf} {sg : pb_Sg} {M : Nat} (hm : pb_md sk rf M) {n : Nat} (hn : sg M 8 = nI n) (hn8 : 1 ≤ n ∧ n ≤ 8) {b : Nat} (hb : b < n) (hs : sg (M + 13) b = nI 0) : pb_Met l mX8_undo 6 0 0 [.ref M, .int (nI b)] sz sk rf sg (pb_is (some (.int (nI 0))) sz sk rf (pb_up sg M 0 (nI 2))) := by
  refine pb_start hfl (by decide +kernel) rfl (pb_c1 rfl) (Nat.le_of_ble_eq_true rfl) (fun F hF h hQ => ?_)
  subst hF
  show pv F 0 0 sz sk rf sg 0 [some (.ref M), some (.int (nI b)), none] []
  obtain ⟨hM0, hr1, hk1, hr2, hk2, hr3, hk3, hr4, hk4, hr5, hk5, hr6, hk6, hr7, hk7, hr8, hk8, hr9, hk9, hr10, hk10, hr11, hk11, hr12, hk12, hr13, hk13, hr14, hk14, hr15, hk15, hr16, hk16, hr17, hk17, hr18, hk18, hr19, hk19, hr20, hk20, hr21, hk21, hr22, hk22, hr23, hk23, hr24, hk24⟩ := id hm
  refine v_aload_n h (i := 0) dX8_undo_0 (q := 1) rfl rfl rfl ?_
  refine v_aload_n h (i := 0) dX8_undo_1 (q := 2) rfl rfl rfl ?_
  refine v_iload_n h (i := 1) dX8_undo_2 (q := 3) rfl rfl rfl ?_
  refine v_callV1 h (c_X8_isBranch hfl hm hb hn hn8.2) kX8_isBranch tw925 tw13 (by assumption) (by decide) rfl rfl rfl (by simp [Value.category]) (by decide) (Nat.zero_le _) (Nat.zero_le _) rfl dX8_undo_3 (q := 6) rfl ?_
  refine v_if_ne h dX8_undo_6 (q := 9) rfl (tgt := 13) (by decide) (fun c1 => ?_) (fun c1 => absurd c1 (by decide))
  refine v_aload_n h (i := 0) dX8_undo_13 (q := 14) rfl rfl rfl ?_
  refine v_getr h fl_X8_50 (by assumption) rfl (by assumption) dX8_undo_14 (q := 17) rfl ?_
  refine v_iload_n h (i := 1) dX8_undo_17 (q := 18) rfl rfl rfl ?_
  refine v_iald h (by assumption) rfl (by first | assumption | omega) (by decide) dX8_undo_18 (q := 19) rfl ?_
  refine v_if_ne h dX8_undo_19 (q := 22) rfl (tgt := 26) (by decide) (fun c2 => absurd (hs.trans (show nI 0 = (0 : Int32) from rfl)) c2) (fun c2 => ?_)
  refine v_iconst h (v := nI 2) dX8_undo_22 (q := 23) rfl (by decide +kernel) ?_
  refine v_goto h dX8_undo_23 (tgt := 27) (by decide) ?_
  refine v_callV1 h (x_X8_isFine hfl hm (by decide)) kX8_isFine tw929 tw14 (by assumption) (by decide) rfl rfl rfl (by simp [Value.category]) (by decide) (Nat.zero_le _) (Nat.zero_le _) rfl dX8_undo_27 (q := 30) rfl ?_
  refine v_if_ne h dX8_undo_30 (q := 33) rfl (tgt := 35) (by decide) (fun c3 => absurd c3 (by decide)) (fun c3 => ?_)
  refine v_iconst h (v := nI 0) dX8_undo_33 (q := 34) rfl (by decide +kernel) ?_
  refine v_iret h hQ rfl rfl dX8_undo_34 (Nat.zero_le _) (Nat.zero_le _) ⟨rfl, rfl, rfl, rfl, rfl⟩
def pb_mbg (S : pb_Sg) (M b n : Nat) : pb_Sg :=
  let s1 := pb_up (pb_up S (M + 5) n (nI b)) (M + 6) n 1000000
  let s2 := pb_mcN (pb_mcN s1 M b n 16) M b (8 + n) 16
  pb_up (pb_up (pb_fillN s2 (M + 7) (16 * n) (-1) 16) (M + 13) b (nI 0)) M 8 (nI n + nI 1)
set_option maxHeartbeats 4000000 in
set_option maxRecDepth 100000 in
theorem c_X8_begin {l : Launch} (hfl : l.stackTraces = false) {sz : Nat} {sk : pb_Sk} {rf : pb_Rf} {sg : pb_Sg} {M : Nat} (hm : pb_md sk rf M) {n : Nat} (hn : sg M 8 = nI n) (hn8 : 1 ≤ n ∧ n ≤ 8) {b : Nat} (hb : b < n) (hn7 : n < 8) : pb_Met l mX8_begin 6 0 0 [.ref M, .int (nI b)] sz sk rf sg (pb_is (some (.int (nI n))) sz sk rf (pb_mbg (pb_up sg M 0 (nI 0)) M b n)) := by
  refine pb_start hfl (by decide +kernel) rfl (pb_c1 rfl) (Nat.le_of_ble_eq_true rfl) (fun F hF h hQ => ?_)
  subst hF
  show pv F 0 0 sz sk rf sg 0 [some (.ref M), some (.int (nI b)), none] []
  obtain ⟨hM0, hr1, hk1, hr2, hk2, hr3, hk3, hr4, hk4, hr5, hk5, hr6, hk6, hr7, hk7, hr8, hk8, hr9, hk9, hr10, hk10, hr11, hk11, hr12, hk12, hr13, hk13, hr14, hk14, hr15, hk15, hr16, hk16, hr17, hk17, hr18, hk18, hr19, hk19, hr20, hk20, hr21, hk21, hr22, hk22, hr23, hk23, hr24, hk24⟩ := id hm
  refine v_aload_n h (i := 0) dX8_begin_0 (q := 1) rfl rfl rfl ?_
  refine v_aload_n h (i := 0) dX8_begin_1 (q := 2) rfl rfl rfl ?_
  refine v_iload_n h (i := 1) dX8_begin_2 (q := 3) rfl rfl rfl ?_
  refine v_callV1 h (c_X8_isBranch hfl hm hb hn hn8.2) kX8_isBranch tw925 tw13 (by assumption) (by decide) rfl rfl rfl (by simp [Value.category]) (by decide) (Nat.zero_le _) (Nat.zero_le _) rfl dX8_begin_3 (q := 6) rfl ?_
  refine v_if_ne h dX8_begin_6 (q := 9) rfl (tgt := 13) (by decide) (fun c1 => ?_) (fun c1 => absurd c1 (by decide))
  refine v_aload_n h (i := 0) dX8_begin_13 (q := 14) rfl rfl rfl ?_
  refine v_geti h fl_X8_31 (by assumption) rfl dX8_begin_14 (q := 17) rfl ?_
  refine v_bipush h (v := nI 8) dX8_begin_17 (q := 19) rfl (by decide +kernel) ?_
  refine v_icmp_ne h dX8_begin_19 (q := 22) rfl (tgt := 26) (by decide) (fun c2 => ?_) (fun c2 => absurd ((nI_eq (by omega) (by decide)).mp (hn.symm.trans c2)) (by omega))
  refine v_iconst h (v := nI 0) dX8_begin_26 (q := 27) rfl (by decide +kernel) ?_
  refine v_callV1 h (c_X8_isFine hfl hm) kX8_isFine tw929 tw14 (by assumption) (by decide) rfl rfl rfl (by simp [Value.category]) (by decide) (Nat.zero_le _) (Nat.zero_le _) rfl dX8_begin_27 (q := 30) rfl ?_
  refine v_if_ne h dX8_begin_30 (q := 33) rfl (tgt := 35) (by decide) (fun c3 => ?_) (fun c3 => absurd c3 (by decide))
  refine v_aload_n h (i := 0) dX8_begin_35 (q := 36) rfl rfl rfl ?_
  refine v_geti h fl_X8_31 (by assumption) rfl dX8_begin_36 (q := 39) rfl ?_
  refine v_eq (st' := [.int (nI n)]) (by rw [pb_up_ne3 (by decide), hn]) ?_
  refine v_istore_n h (i := 2) dX8_begin_39 (q := 40) rfl rfl (Nat.le_of_ble_eq_true rfl) rfl ?_
  refine v_aload_n h (i := 0) dX8_begin_40 (q := 41) rfl rfl rfl ?_
  refine v_getr h fl_X8_22 (by assumption) rfl (by assumption) dX8_begin_41 (q := 44) rfl ?_
  refine v_iload_n h (i := 2) dX8_begin_44 (q := 45) rfl rfl rfl ?_
  refine v_iload_n h (i := 1) dX8_begin_45 (q := 46) rfl rfl rfl ?_
  refine v_iast h (by assumption) rfl (by first | assumption | omega) (by decide) dX8_begin_46 (q := 47) rfl ?_
  refine v_aload_n h (i := 0) dX8_begin_47 (q := 48) rfl rfl rfl ?_
  refine v_getr h fl_X8_25 (by assumption) rfl (by assumption) dX8_begin_48 (q := 51) rfl ?_
  refine v_iload_n h (i := 2) dX8_begin_51 (q := 52) rfl rfl rfl ?_
  refine v_ldc h dX8_begin_52 (q := 54) rfl tw824 ?_
  refine v_iast h (by assumption) rfl (by first | assumption | omega) (by decide) dX8_begin_54 (q := 55) rfl ?_
  refine v_aload_n h (i := 0) dX8_begin_55 (q := 56) rfl rfl rfl ?_
  refine v_iload_n h (i := 1) dX8_begin_56 (q := 57) rfl rfl rfl ?_
  refine v_iload_n h (i := 2) dX8_begin_57 (q := 58) rfl rfl rfl ?_
  refine v_callV0 h (c_X8_copies hfl hm (show b < 17 by omega) (show n < 17 by omega)) kX8_copies tw1008 tw24 (by assumption) (by decide) rfl rfl rfl (by simp [Value.category]) (by decide) (Nat.zero_le _) (Nat.zero_le _) rfl dX8_begin_58 (q := 61) rfl ?_
  refine v_aload_n h (i := 0) dX8_begin_61 (q := 62) rfl rfl rfl ?_
  refine v_iload_n h (i := 1) dX8_begin_62 (q := 63) rfl rfl rfl ?_
  refine v_bipush h (v := nI 8) dX8_begin_63 (q := 65) rfl (by decide +kernel) ?_
  refine v_iload_n h (i := 2) dX8_begin_65 (q := 66) rfl rfl rfl ?_
  refine v_iadd h dX8_begin_66 (q := 67) rfl ?_
  refine v_eq (st' := [.int (nI (8 + n)), .int (nI b), .ref M]) (by rw [nI_add]) ?_
  refine v_callV0 h (c_X8_copies hfl hm (show b < 17 by omega) (show 8 + n < 17 by omega)) kX8_copies tw1008 tw24 (by assumption) (by decide) rfl rfl rfl (by simp [Value.category]) (by decide) (Nat.zero_le _) (Nat.zero_le _) rfl dX8_begin_67 (q := 70) rfl ?_
  refine v_aload_n h (i := 0) dX8_begin_70 (q := 71) rfl rfl rfl ?_
  refine v_iload_n h (i := 2) dX8_begin_71 (q := 72) rfl rfl rfl ?_
  refine v_callV0 h (c_X8_forgets hfl hm hn7) kX8_forgets tw1016 tw26 (by assumption) (by decide) rfl rfl rfl (by simp [Value.category]) (by decide) (Nat.zero_le _) (Nat.zero_le _) rfl dX8_begin_72 (q := 75) rfl ?_
  refine v_aload_n h (i := 0) dX8_begin_75 (q := 76) rfl rfl rfl ?_
  refine v_getr h fl_X8_50 (by assumption) rfl (by assumption) dX8_begin_76 (q := 79) rfl ?_
  refine v_iload_n h (i := 1) dX8_begin_79 (q := 80) rfl rfl rfl ?_
  refine v_iconst h (v := nI 0) dX8_begin_80 (q := 81) rfl (by decide +kernel) ?_
  refine v_iast h (by assumption) rfl (by first | assumption | omega) (by decide) dX8_begin_81 (q := 82) rfl ?_
  refine v_aload_n h (i := 0) dX8_begin_82 (q := 83) rfl rfl rfl ?_
  refine v_dup h dX8_begin_83 (q := 84) rfl rfl ?_
  refine v_geti h fl_X8_31 (by assumption) rfl dX8_begin_84 (q := 87) rfl ?_
  refine v_eq (st' := [.int (nI n), .ref M]) (by rw [pb_up_neA (by omega), pb_fill_ne (by omega), pb_mcN_ne (by omega), pb_mcN_ne (by omega), pb_up_neA (by omega), pb_up_neA (by omega), pb_up_ne3 (by decide), hn]) ?_
  refine v_iconst h (v := nI 1) dX8_begin_87 (q := 88) rfl (by decide +kernel) ?_
  refine v_iadd h dX8_begin_88 (q := 89) rfl ?_
  refine v_puti h fl_X8_31 (by assumption) rfl rfl dX8_begin_89 (q := 92) rfl ?_
  refine v_iload_n h (i := 2) dX8_begin_92 (q := 93) rfl rfl rfl ?_
  refine v_iret h hQ rfl rfl dX8_begin_93 (Nat.zero_le _) (Nat.zero_le _) ⟨rfl, rfl, rfl, rfl, rfl⟩
set_option maxHeartbeats 4000000 in
set_option maxRecDepth 100000 in
theorem x1_X8_begin {l : Launch} (hfl : l.stackTraces = false) {sz : Nat} {sk : pb_Sk} {rf : pb_Rf} {sg : pb_Sg} {M : Nat} (hm : pb_md sk rf M) {n : Nat} (hn : sg M 8 = nI n) (hn8 : 1 ≤ n ∧ n ≤ 8) {x : Int32} (hx : ∀ b, b < n → ¬ x = nI b) : pb_Met l mX8_begin 6 0 0 [.ref M, .int x] sz sk rf sg (pb_is (some (.int (nI 0))) sz sk rf (pb_up sg M 0 (nI 1))) := by
  refine pb_start hfl (by decide +kernel) rfl (pb_c1 rfl) (Nat.le_of_ble_eq_true rfl) (fun F hF h hQ => ?_)
  subst hF
  show pv F 0 0 sz sk rf sg 0 [some (.ref M), some (.int x), none] []
  obtain ⟨hM0, hr1, hk1, hr2, hk2, hr3, hk3, hr4, hk4, hr5, hk5, hr6, hk6, hr7, hk7, hr8, hk8, hr9, hk9, hr10, hk10, hr11, hk11, hr12, hk12, hr13, hk13, hr14, hk14, hr15, hk15, hr16, hk16, hr17, hk17, hr18, hk18, hr19, hk19, hr20, hk20, hr21, hk21, hr22, hk22, hr23, hk23, hr24, hk24⟩ := id hm
  refine v_aload_n h (i := 0) dX8_begin_0 (q := 1) rfl rfl rfl ?_
  refine v_aload_n h (i := 0) dX8_begin_1 (q := 2) rfl rfl rfl ?_
  refine v_iload_n h (i := 1) dX8_begin_2 (q := 3) rfl rfl rfl ?_
  refine v_callV1 h (x_X8_isBranch hfl hm hx hn hn8) kX8_isBranch tw925 tw13 (by assumption) (by decide) rfl rfl rfl (by simp [Value.category]) (by decide) (Nat.zero_le _) (Nat.zero_le _) rfl dX8_begin_3 (q := 6) rfl ?_
  refine v_if_ne h dX8_begin_6 (q := 9) rfl (tgt := 13) (by decide) (fun c1 => absurd c1 (by decide)) (fun c1 => ?_)
  refine v_iconst h (v := nI 1) dX8_begin_9 (q := 10) rfl (by decide +kernel) ?_
  refine v_goto h dX8_begin_10 (tgt := 27) (by decide) ?_
  refine v_callV1 h (x_X8_isFine hfl hm (by decide)) kX8_isFine tw929 tw14 (by assumption) (by decide) rfl rfl rfl (by simp [Value.category]) (by decide) (Nat.zero_le _) (Nat.zero_le _) rfl dX8_begin_27 (q := 30) rfl ?_
  refine v_if_ne h dX8_begin_30 (q := 33) rfl (tgt := 35) (by decide) (fun c2 => absurd c2 (by decide)) (fun c2 => ?_)
  refine v_iconst h (v := nI 0) dX8_begin_33 (q := 34) rfl (by decide +kernel) ?_
  refine v_iret h hQ rfl rfl dX8_begin_34 (Nat.zero_le _) (Nat.zero_le _) ⟨rfl, rfl, rfl, rfl, rfl⟩
set_option maxHeartbeats 4000000 in
set_option maxRecDepth 100000 in
theorem x2_X8_begin {l : Launch} (hfl : l.stackTraces = false) {sz : Nat} {sk : pb_Sk} {rf : pb_Rf} {sg : pb_Sg} {M : Nat} (hm : pb_md sk rf M) {n : Nat} (hn : sg M 8 = nI n) (hn8 : 1 ≤ n ∧ n ≤ 8) {b : Nat} (hb : b < n) (hn7 : n = 8) : pb_Met l mX8_begin 6 0 0 [.ref M, .int (nI b)] sz sk rf sg (pb_is (some (.int (nI 0))) sz sk rf (pb_up sg M 0 (nI 2))) := by
  refine pb_start hfl (by decide +kernel) rfl (pb_c1 rfl) (Nat.le_of_ble_eq_true rfl) (fun F hF h hQ => ?_)
  subst hF
  show pv F 0 0 sz sk rf sg 0 [some (.ref M), some (.int (nI b)), none] []
  obtain ⟨hM0, hr1, hk1, hr2, hk2, hr3, hk3, hr4, hk4, hr5, hk5, hr6, hk6, hr7, hk7, hr8, hk8, hr9, hk9, hr10, hk10, hr11, hk11, hr12, hk12, hr13, hk13, hr14, hk14, hr15, hk15, hr16, hk16, hr17, hk17, hr18, hk18, hr19, hk19, hr20, hk20, hr21, hk21, hr22, hk22, hr23, hk23, hr24, hk24⟩ := id hm
  refine v_aload_n h (i := 0) dX8_begin_0 (q := 1) rfl rfl rfl ?_
  refine v_aload_n h (i := 0) dX8_begin_1 (q := 2) rfl rfl rfl ?_
  refine v_iload_n h (i := 1) dX8_begin_2 (q := 3) rfl rfl rfl ?_
  refine v_callV1 h (c_X8_isBranch hfl hm hb hn hn8.2) kX8_isBranch tw925 tw13 (by assumption) (by decide) rfl rfl rfl (by simp [Value.category]) (by decide) (Nat.zero_le _) (Nat.zero_le _) rfl dX8_begin_3 (q := 6) rfl ?_
  refine v_if_ne h dX8_begin_6 (q := 9) rfl (tgt := 13) (by decide) (fun c1 => ?_) (fun c1 => absurd c1 (by decide))
  refine v_aload_n h (i := 0) dX8_begin_13 (q := 14) rfl rfl rfl ?_
  refine v_geti h fl_X8_31 (by assumption) rfl dX8_begin_14 (q := 17) rfl ?_
  refine v_bipush h (v := nI 8) dX8_begin_17 (q := 19) rfl (by decide +kernel) ?_
  refine v_icmp_ne h dX8_begin_19 (q := 22) rfl (tgt := 26) (by decide) (fun c2 => absurd (hn.trans (by rw [hn7])) c2) (fun c2 => ?_)
  refine v_iconst h (v := nI 2) dX8_begin_22 (q := 23) rfl (by decide +kernel) ?_
  refine v_goto h dX8_begin_23 (tgt := 27) (by decide) ?_
  refine v_callV1 h (x_X8_isFine hfl hm (by decide)) kX8_isFine tw929 tw14 (by assumption) (by decide) rfl rfl rfl (by simp [Value.category]) (by decide) (Nat.zero_le _) (Nat.zero_le _) rfl dX8_begin_27 (q := 30) rfl ?_
  refine v_if_ne h dX8_begin_30 (q := 33) rfl (tgt := 35) (by decide) (fun c3 => absurd c3 (by decide)) (fun c3 => ?_)
  refine v_iconst h (v := nI 0) dX8_begin_33 (q := 34) rfl (by decide +kernel) ?_
  refine v_iret h hQ rfl rfl dX8_begin_34 (Nat.zero_le _) (Nat.zero_le _) ⟨rfl, rfl, rfl, rfl, rfl⟩
def pb_mld (S : pb_Sg) (M c b lo hi k : Nat) : pb_Sg := pb_up (pb_up (pb_up (pb_up (pb_up S (M + 15) k (nI c)) (M + 16) k (nI b)) (M + 17) k (nI lo)) (M + 18) k (nI hi)) M 20 (nI k + nI 1)
set_option maxHeartbeats 4000000 in
set_option maxRecDepth 100000 in
theorem c_X8_lend {l : Launch} (hfl : l.stackTraces = false) {sz : Nat} {sk : pb_Sk} {rf : pb_Rf} {sg : pb_Sg} {M : Nat} (hm : pb_md sk rf M) {n : Nat} (hn : sg M 8 = nI n) (hn8 : 1 ≤ n ∧ n ≤ 8) {b : Nat} (hb : b < n) {c lo hi : Nat} (hc : c < 5) (hlo : lo ≤ hi) (hhi : hi < 400) {k : Nat} (hL : sg M 20 = nI k) (hk40 : k < 40) : pb_Met l mX8_lend 6 0 0 [.ref M, .int (nI c), .int (nI b), .int (nI lo), .int (nI hi)] sz sk rf sg (pb_is (some (.int (nI (k + 1)))) sz sk rf (pb_mld (pb_up sg M 0 (nI 0)) M c b lo hi k)) := by
  refine pb_start hfl (by decide +kernel) rfl (pb_c1 rfl) (Nat.le_of_ble_eq_true rfl) (fun F hF h hQ => ?_)
  subst hF
  show pv F 0 0 sz sk rf sg 0 [some (.ref M), some (.int (nI c)), some (.int (nI b)), some (.int (nI lo)), some (.int (nI hi)), none] []
  obtain ⟨hM0, hr1, hk1, hr2, hk2, hr3, hk3, hr4, hk4, hr5, hk5, hr6, hk6, hr7, hk7, hr8, hk8, hr9, hk9, hr10, hk10, hr11, hk11, hr12, hk12, hr13, hk13, hr14, hk14, hr15, hk15, hr16, hk16, hr17, hk17, hr18, hk18, hr19, hk19, hr20, hk20, hr21, hk21, hr22, hk22, hr23, hk23, hr24, hk24⟩ := id hm
  refine v_iload_n h (i := 1) dX8_lend_0 (q := 1) rfl rfl rfl ?_
  refine v_callS1 h (c_X8_isCrew hfl hc) kX8_isCrew rfl tw1133 rfl rfl (by simp [Value.category]) (by decide) (Nat.zero_le _) (Nat.zero_le _) rfl dX8_lend_1 (q := 4) rfl ?_
  refine v_if_eq h dX8_lend_4 (q := 7) rfl (tgt := 32) (by decide) (fun c1 => absurd c1 (by decide)) (fun c1 => ?_)
  refine v_iload_n h (i := 3) dX8_lend_7 (q := 8) rfl rfl rfl ?_
  refine v_callS1 h (c_X8_isDay hfl (show lo < 400 by omega)) kX8_isDay rfl tw1140 rfl rfl (by simp [Value.category]) (by decide) (Nat.zero_le _) (Nat.zero_le _) rfl dX8_lend_8 (q := 11) rfl ?_
  refine v_if_eq h dX8_lend_11 (q := 14) rfl (tgt := 32) (by decide) (fun c2 => absurd c2 (by decide)) (fun c2 => ?_)
  refine v_iload h dX8_lend_14 (q := 16) rfl rfl ?_
  refine v_callS1 h (c_X8_isDay hfl hhi) kX8_isDay rfl tw1140 rfl rfl (by simp [Value.category]) (by decide) (Nat.zero_le _) (Nat.zero_le _) rfl dX8_lend_16 (q := 19) rfl ?_
  refine v_if_eq h dX8_lend_19 (q := 22) rfl (tgt := 32) (by decide) (fun c3 => absurd c3 (by decide)) (fun c3 => ?_)
  refine v_iload_n h (i := 3) dX8_lend_22 (q := 23) rfl rfl rfl ?_
  refine v_iload h dX8_lend_23 (q := 25) rfl rfl ?_
  refine v_icmp_gt h dX8_lend_25 (q := 28) rfl (tgt := 32) (by decide) (fun c4 => absurd (nI_le hlo (by omega)) (Int32.not_le.mpr c4)) (fun c4 => ?_)
  refine v_iconst h (v := nI 1) dX8_lend_28 (q := 29) rfl (by decide +kernel) ?_
  refine v_goto h dX8_lend_29 (tgt := 33) (by decide) ?_
  refine v_istore h dX8_lend_33 (q := 35) rfl (Nat.le_of_ble_eq_true rfl) rfl ?_
  refine v_aload_n h (i := 0) dX8_lend_35 (q := 36) rfl rfl rfl ?_
  refine v_aload_n h (i := 0) dX8_lend_36 (q := 37) rfl rfl rfl ?_
  refine v_iload_n h (i := 2) dX8_lend_37 (q := 38) rfl rfl rfl ?_
  refine v_callV1 h (c_X8_isBranch hfl hm hb hn hn8.2) kX8_isBranch tw925 tw13 (by assumption) (by decide) rfl rfl rfl (by simp [Value.category]) (by decide) (Nat.zero_le _) (Nat.zero_le _) rfl dX8_lend_38 (q := 41) rfl ?_
  refine v_if_ne h dX8_lend_41 (q := 44) rfl (tgt := 48) (by decide) (fun c5 => ?_) (fun c5 => absurd c5 (by decide))
  refine v_iload h dX8_lend_48 (q := 50) rfl rfl ?_
  refine v_if_ne h dX8_lend_50 (q := 53) rfl (tgt := 57) (by decide) (fun c6 => ?_) (fun c6 => absurd c6 (by decide))
  refine v_aload_n h (i := 0) dX8_lend_57 (q := 58) rfl rfl rfl ?_
  refine v_geti h fl_X8_203 (by assumption) rfl dX8_lend_58 (q := 61) rfl ?_
  refine v_bipush h (v := nI 40) dX8_lend_61 (q := 63) rfl (by decide +kernel) ?_
  refine v_icmp_ne h dX8_lend_63 (q := 66) rfl (tgt := 70) (by decide) (fun c7 => ?_) (fun c7 => absurd ((nI_eq (by omega) (by decide)).mp (hL.symm.trans c7)) (by omega))
  refine v_iconst h (v := nI 0) dX8_lend_70 (q := 71) rfl (by decide +kernel) ?_
  refine v_callV1 h (c_X8_isFine hfl hm) kX8_isFine tw929 tw14 (by assumption) (by decide) rfl rfl rfl (by simp [Value.category]) (by decide) (Nat.zero_le _) (Nat.zero_le _) rfl dX8_lend_71 (q := 74) rfl ?_
  refine v_if_ne h dX8_lend_74 (q := 77) rfl (tgt := 79) (by decide) (fun c8 => ?_) (fun c8 => absurd c8 (by decide))
  refine v_aload_n h (i := 0) dX8_lend_79 (q := 80) rfl rfl rfl ?_
  refine v_getr h fl_X8_56 (by assumption) rfl (by assumption) dX8_lend_80 (q := 83) rfl ?_
  refine v_aload_n h (i := 0) dX8_lend_83 (q := 84) rfl rfl rfl ?_
  refine v_geti h fl_X8_203 (by assumption) rfl dX8_lend_84 (q := 87) rfl ?_
  refine v_eq (st' := [.int (nI k), .ref (M + 15)]) (by rw [pb_up_ne3 (by decide), hL]) ?_
  refine v_iload_n h (i := 1) dX8_lend_87 (q := 88) rfl rfl rfl ?_
  refine v_iast h (by assumption) rfl (by first | assumption | omega) (by decide) dX8_lend_88 (q := 89) rfl ?_
  refine v_aload_n h (i := 0) dX8_lend_89 (q := 90) rfl rfl rfl ?_
  refine v_getr h fl_X8_59 (by assumption) rfl (by assumption) dX8_lend_90 (q := 93) rfl ?_
  refine v_aload_n h (i := 0) dX8_lend_93 (q := 94) rfl rfl rfl ?_
  refine v_geti h fl_X8_203 (by assumption) rfl dX8_lend_94 (q := 97) rfl ?_
  refine v_eq (st' := [.int (nI k), .ref (M + 16)]) (by rw [pb_up_neA (by omega), pb_up_ne3 (by decide), hL]) ?_
  refine v_iload_n h (i := 2) dX8_lend_97 (q := 98) rfl rfl rfl ?_
  refine v_iast h (by assumption) rfl (by first | assumption | omega) (by decide) dX8_lend_98 (q := 99) rfl ?_
  refine v_aload_n h (i := 0) dX8_lend_99 (q := 100) rfl rfl rfl ?_
  refine v_getr h fl_X8_62 (by assumption) rfl (by assumption) dX8_lend_100 (q := 103) rfl ?_
  refine v_aload_n h (i := 0) dX8_lend_103 (q := 104) rfl rfl rfl ?_
  refine v_geti h fl_X8_203 (by assumption) rfl dX8_lend_104 (q := 107) rfl ?_
  refine v_eq (st' := [.int (nI k), .ref (M + 17)]) (by rw [pb_up_neA (by omega), pb_up_neA (by omega), pb_up_ne3 (by decide), hL]) ?_
  refine v_iload_n h (i := 3) dX8_lend_107 (q := 108) rfl rfl rfl ?_
  refine v_iast h (by assumption) rfl (by first | assumption | omega) (by decide) dX8_lend_108 (q := 109) rfl ?_
  refine v_aload_n h (i := 0) dX8_lend_109 (q := 110) rfl rfl rfl ?_
  refine v_getr h fl_X8_65 (by assumption) rfl (by assumption) dX8_lend_110 (q := 113) rfl ?_
  refine v_aload_n h (i := 0) dX8_lend_113 (q := 114) rfl rfl rfl ?_
  refine v_geti h fl_X8_203 (by assumption) rfl dX8_lend_114 (q := 117) rfl ?_
  refine v_eq (st' := [.int (nI k), .ref (M + 18)]) (by rw [pb_up_neA (by omega), pb_up_neA (by omega), pb_up_neA (by omega), pb_up_ne3 (by decide), hL]) ?_
  refine v_iload h dX8_lend_117 (q := 119) rfl rfl ?_
  refine v_iast h (by assumption) rfl (by first | assumption | omega) (by decide) dX8_lend_119 (q := 120) rfl ?_
  refine v_aload_n h (i := 0) dX8_lend_120 (q := 121) rfl rfl rfl ?_
  refine v_dup h dX8_lend_121 (q := 122) rfl rfl ?_
  refine v_geti h fl_X8_203 (by assumption) rfl dX8_lend_122 (q := 125) rfl ?_
  refine v_eq (st' := [.int (nI k), .ref M]) (by rw [pb_up_neA (by omega), pb_up_neA (by omega), pb_up_neA (by omega), pb_up_neA (by omega), pb_up_ne3 (by decide), hL]) ?_
  refine v_iconst h (v := nI 1) dX8_lend_125 (q := 126) rfl (by decide +kernel) ?_
  refine v_iadd h dX8_lend_126 (q := 127) rfl ?_
  refine v_puti h fl_X8_203 (by assumption) rfl rfl dX8_lend_127 (q := 130) rfl ?_
  refine v_aload_n h (i := 0) dX8_lend_130 (q := 131) rfl rfl rfl ?_
  refine v_geti h fl_X8_203 (by assumption) rfl dX8_lend_131 (q := 134) rfl ?_
  refine v_eq (st' := [.int (nI (k + 1))]) (by rw [pb_up_self, nI_add]) ?_
  refine v_iret h hQ rfl rfl dX8_lend_134 (Nat.zero_le _) (Nat.zero_le _) ⟨rfl, rfl, rfl, rfl, rfl⟩
set_option maxHeartbeats 4000000 in
set_option maxRecDepth 100000 in
theorem x3_X8_lend {l : Launch} (hfl : l.stackTraces = false) {sz : Nat} {sk : pb_Sk} {rf : pb_Rf} {sg : pb_Sg} {M : Nat} (hm : pb_md sk rf M) {n : Nat} (hn : sg M 8 = nI n) (hn8 : 1 ≤ n ∧ n ≤ 8) {b : Nat} (hb : b < n) {c lo hi : Nat} (hc : c < 5) (hlo : lo ≤ hi) (hhi : hi < 400) (hL : sg M 20 = nI 40) : pb_Met l mX8_lend 6 0 0 [.ref M, .int (nI c), .int (nI b), .int (nI lo), .int (nI hi)] sz sk rf sg (pb_is (some (.int (nI 0))) sz sk rf (pb_up sg M 0 (nI 3))) := by
  refine pb_start hfl (by decide +kernel) rfl (pb_c1 rfl) (Nat.le_of_ble_eq_true rfl) (fun F hF h hQ => ?_)
  subst hF
  show pv F 0 0 sz sk rf sg 0 [some (.ref M), some (.int (nI c)), some (.int (nI b)), some (.int (nI lo)), some (.int (nI hi)), none] []
  obtain ⟨hM0, hr1, hk1, hr2, hk2, hr3, hk3, hr4, hk4, hr5, hk5, hr6, hk6, hr7, hk7, hr8, hk8, hr9, hk9, hr10, hk10, hr11, hk11, hr12, hk12, hr13, hk13, hr14, hk14, hr15, hk15, hr16, hk16, hr17, hk17, hr18, hk18, hr19, hk19, hr20, hk20, hr21, hk21, hr22, hk22, hr23, hk23, hr24, hk24⟩ := id hm
  refine v_iload_n h (i := 1) dX8_lend_0 (q := 1) rfl rfl rfl ?_
  refine v_callS1 h (c_X8_isCrew hfl hc) kX8_isCrew rfl tw1133 rfl rfl (by simp [Value.category]) (by decide) (Nat.zero_le _) (Nat.zero_le _) rfl dX8_lend_1 (q := 4) rfl ?_
  refine v_if_eq h dX8_lend_4 (q := 7) rfl (tgt := 32) (by decide) (fun c1 => absurd c1 (by decide)) (fun c1 => ?_)
  refine v_iload_n h (i := 3) dX8_lend_7 (q := 8) rfl rfl rfl ?_
  refine v_callS1 h (c_X8_isDay hfl (show lo < 400 by omega)) kX8_isDay rfl tw1140 rfl rfl (by simp [Value.category]) (by decide) (Nat.zero_le _) (Nat.zero_le _) rfl dX8_lend_8 (q := 11) rfl ?_
  refine v_if_eq h dX8_lend_11 (q := 14) rfl (tgt := 32) (by decide) (fun c2 => absurd c2 (by decide)) (fun c2 => ?_)
  refine v_iload h dX8_lend_14 (q := 16) rfl rfl ?_
  refine v_callS1 h (c_X8_isDay hfl hhi) kX8_isDay rfl tw1140 rfl rfl (by simp [Value.category]) (by decide) (Nat.zero_le _) (Nat.zero_le _) rfl dX8_lend_16 (q := 19) rfl ?_
  refine v_if_eq h dX8_lend_19 (q := 22) rfl (tgt := 32) (by decide) (fun c3 => absurd c3 (by decide)) (fun c3 => ?_)
  refine v_iload_n h (i := 3) dX8_lend_22 (q := 23) rfl rfl rfl ?_
  refine v_iload h dX8_lend_23 (q := 25) rfl rfl ?_
  refine v_icmp_gt h dX8_lend_25 (q := 28) rfl (tgt := 32) (by decide) (fun c4 => absurd (nI_le hlo (by omega)) (Int32.not_le.mpr c4)) (fun c4 => ?_)
  refine v_iconst h (v := nI 1) dX8_lend_28 (q := 29) rfl (by decide +kernel) ?_
  refine v_goto h dX8_lend_29 (tgt := 33) (by decide) ?_
  refine v_istore h dX8_lend_33 (q := 35) rfl (Nat.le_of_ble_eq_true rfl) rfl ?_
  refine v_aload_n h (i := 0) dX8_lend_35 (q := 36) rfl rfl rfl ?_
  refine v_aload_n h (i := 0) dX8_lend_36 (q := 37) rfl rfl rfl ?_
  refine v_iload_n h (i := 2) dX8_lend_37 (q := 38) rfl rfl rfl ?_
  refine v_callV1 h (c_X8_isBranch hfl hm hb hn hn8.2) kX8_isBranch tw925 tw13 (by assumption) (by decide) rfl rfl rfl (by simp [Value.category]) (by decide) (Nat.zero_le _) (Nat.zero_le _) rfl dX8_lend_38 (q := 41) rfl ?_
  refine v_if_ne h dX8_lend_41 (q := 44) rfl (tgt := 48) (by decide) (fun c5 => ?_) (fun c5 => absurd c5 (by decide))
  refine v_iload h dX8_lend_48 (q := 50) rfl rfl ?_
  refine v_if_ne h dX8_lend_50 (q := 53) rfl (tgt := 57) (by decide) (fun c6 => ?_) (fun c6 => absurd c6 (by decide))
  refine v_aload_n h (i := 0) dX8_lend_57 (q := 58) rfl rfl rfl ?_
  refine v_geti h fl_X8_203 (by assumption) rfl dX8_lend_58 (q := 61) rfl ?_
  refine v_bipush h (v := nI 40) dX8_lend_61 (q := 63) rfl (by decide +kernel) ?_
  refine v_icmp_ne h dX8_lend_63 (q := 66) rfl (tgt := 70) (by decide) (fun c7 => absurd hL c7) (fun c7 => ?_)
  refine v_iconst h (v := nI 3) dX8_lend_66 (q := 67) rfl (by decide +kernel) ?_
  refine v_goto h dX8_lend_67 (tgt := 71) (by decide) ?_
  refine v_callV1 h (x_X8_isFine hfl hm (by decide)) kX8_isFine tw929 tw14 (by assumption) (by decide) rfl rfl rfl (by simp [Value.category]) (by decide) (Nat.zero_le _) (Nat.zero_le _) rfl dX8_lend_71 (q := 74) rfl ?_
  refine v_if_ne h dX8_lend_74 (q := 77) rfl (tgt := 79) (by decide) (fun c8 => absurd c8 (by decide)) (fun c8 => ?_)
  refine v_iconst h (v := nI 0) dX8_lend_77 (q := 78) rfl (by decide +kernel) ?_
  refine v_iret h hQ rfl rfl dX8_lend_78 (Nat.zero_le _) (Nat.zero_le _) ⟨rfl, rfl, rfl, rfl, rfl⟩
set_option maxHeartbeats 4000000 in
set_option maxRecDepth 100000 in
theorem x1_X8_lend {l : Launch} (hfl : l.stackTraces = false) {sz : Nat} {sk : pb_Sk} {rf : pb_Rf} {sg : pb_Sg} {M : Nat} (hm : pb_md sk rf M) {n : Nat} (hn : sg M 8 = nI n) (hn8 : 1 ≤ n ∧ n ≤ 8) {x : Int32} (hx : ∀ b, b < n → ¬ x = nI b) {c lo hi : Int32} : pb_Met l mX8_lend 6 0 0 [.ref M, .int c, .int x, .int lo, .int hi] sz sk rf sg (pb_is (some (.int (nI 0))) sz sk rf (pb_up sg M 0 (nI 1))) := by
  refine pb_start hfl (by decide +kernel) rfl (pb_c1 rfl) (Nat.le_of_ble_eq_true rfl) (fun F hF h hQ => ?_)
  subst hF
  show pv F 0 0 sz sk rf sg 0 [some (.ref M), some (.int c), some (.int x), some (.int lo), some (.int hi), none] []
  obtain ⟨hM0, hr1, hk1, hr2, hk2, hr3, hk3, hr4, hk4, hr5, hk5, hr6, hk6, hr7, hk7, hr8, hk8, hr9, hk9, hr10, hk10, hr11, hk11, hr12, hk12, hr13, hk13, hr14, hk14, hr15, hk15, hr16, hk16, hr17, hk17, hr18, hk18, hr19, hk19, hr20, hk20, hr21, hk21, hr22, hk22, hr23, hk23, hr24, hk24⟩ := id hm
  refine v_iload_n h (i := 1) dX8_lend_0 (q := 1) rfl rfl rfl ?_
  by_cases hk1 : nI 0 ≤ c ∧ c ≤ nI 4
  · skip
    refine v_callS1 h (c2_X8_isCrew hfl hk1) kX8_isCrew rfl tw1133 rfl rfl (by simp [Value.category]) (by decide) (Nat.zero_le _) (Nat.zero_le _) rfl dX8_lend_1 (q := 4) rfl ?_
    refine v_if_eq h dX8_lend_4 (q := 7) rfl (tgt := 32) (by decide) (fun c1 => absurd c1 (by decide)) (fun c1 => ?_)
    refine v_iload_n h (i := 3) dX8_lend_7 (q := 8) rfl rfl rfl ?_
    by_cases hk2 : nI 0 ≤ lo ∧ lo ≤ nI 399
    · skip
      refine v_callS1 h (c2_X8_isDay hfl hk2) kX8_isDay rfl tw1140 rfl rfl (by simp [Value.category]) (by decide) (Nat.zero_le _) (Nat.zero_le _) rfl dX8_lend_8 (q := 11) rfl ?_
      refine v_if_eq h dX8_lend_11 (q := 14) rfl (tgt := 32) (by decide) (fun c2 => absurd c2 (by decide)) (fun c2 => ?_)
      refine v_iload h dX8_lend_14 (q := 16) rfl rfl ?_
      by_cases hk3 : nI 0 ≤ hi ∧ hi ≤ nI 399
      · skip
        refine v_callS1 h (c2_X8_isDay hfl hk3) kX8_isDay rfl tw1140 rfl rfl (by simp [Value.category]) (by decide) (Nat.zero_le _) (Nat.zero_le _) rfl dX8_lend_16 (q := 19) rfl ?_
        refine v_if_eq h dX8_lend_19 (q := 22) rfl (tgt := 32) (by decide) (fun c3 => absurd c3 (by decide)) (fun c3 => ?_)
        refine v_iload_n h (i := 3) dX8_lend_22 (q := 23) rfl rfl rfl ?_
        refine v_iload h dX8_lend_23 (q := 25) rfl rfl ?_
        refine v_icmp_gt h dX8_lend_25 (q := 28) rfl (tgt := 32) (by decide) (fun c4 => ?_) (fun c4 => ?_)
        · skip
          refine v_iconst h (v := nI 0) dX8_lend_32 (q := 33) rfl (by decide +kernel) ?_
          refine v_istore h dX8_lend_33 (q := 35) rfl (Nat.le_of_ble_eq_true rfl) rfl ?_
          refine v_aload_n h (i := 0) dX8_lend_35 (q := 36) rfl rfl rfl ?_
          refine v_aload_n h (i := 0) dX8_lend_36 (q := 37) rfl rfl rfl ?_
          refine v_iload_n h (i := 2) dX8_lend_37 (q := 38) rfl rfl rfl ?_
          refine v_callV1 h (x_X8_isBranch hfl hm hx hn hn8) kX8_isBranch tw925 tw13 (by assumption) (by decide) rfl rfl rfl (by simp [Value.category]) (by decide) (Nat.zero_le _) (Nat.zero_le _) rfl dX8_lend_38 (q := 41) rfl ?_
          refine v_if_ne h dX8_lend_41 (q := 44) rfl (tgt := 48) (by decide) (fun c5 => absurd c5 (by decide)) (fun c5 => ?_)
          refine v_iconst h (v := nI 1) dX8_lend_44 (q := 45) rfl (by decide +kernel) ?_
          refine v_goto h dX8_lend_45 (tgt := 71) (by decide) ?_
          refine v_callV1 h (x_X8_isFine hfl hm (by decide)) kX8_isFine tw929 tw14 (by assumption) (by decide) rfl rfl rfl (by simp [Value.category]) (by decide) (Nat.zero_le _) (Nat.zero_le _) rfl dX8_lend_71 (q := 74) rfl ?_
          refine v_if_ne h dX8_lend_74 (q := 77) rfl (tgt := 79) (by decide) (fun c6 => absurd c6 (by decide)) (fun c6 => ?_)
          refine v_iconst h (v := nI 0) dX8_lend_77 (q := 78) rfl (by decide +kernel) ?_
          refine v_iret h hQ rfl rfl dX8_lend_78 (Nat.zero_le _) (Nat.zero_le _) ⟨rfl, rfl, rfl, rfl, rfl⟩
        · skip
          refine v_iconst h (v := nI 1) dX8_lend_28 (q := 29) rfl (by decide +kernel) ?_
          refine v_goto h dX8_lend_29 (tgt := 33) (by decide) ?_
          refine v_istore h dX8_lend_33 (q := 35) rfl (Nat.le_of_ble_eq_true rfl) rfl ?_
          refine v_aload_n h (i := 0) dX8_lend_35 (q := 36) rfl rfl rfl ?_
          refine v_aload_n h (i := 0) dX8_lend_36 (q := 37) rfl rfl rfl ?_
          refine v_iload_n h (i := 2) dX8_lend_37 (q := 38) rfl rfl rfl ?_
          refine v_callV1 h (x_X8_isBranch hfl hm hx hn hn8) kX8_isBranch tw925 tw13 (by assumption) (by decide) rfl rfl rfl (by simp [Value.category]) (by decide) (Nat.zero_le _) (Nat.zero_le _) rfl dX8_lend_38 (q := 41) rfl ?_
          refine v_if_ne h dX8_lend_41 (q := 44) rfl (tgt := 48) (by decide) (fun c7 => absurd c7 (by decide)) (fun c7 => ?_)
          refine v_iconst h (v := nI 1) dX8_lend_44 (q := 45) rfl (by decide +kernel) ?_
          refine v_goto h dX8_lend_45 (tgt := 71) (by decide) ?_
          refine v_callV1 h (x_X8_isFine hfl hm (by decide)) kX8_isFine tw929 tw14 (by assumption) (by decide) rfl rfl rfl (by simp [Value.category]) (by decide) (Nat.zero_le _) (Nat.zero_le _) rfl dX8_lend_71 (q := 74) rfl ?_
          refine v_if_ne h dX8_lend_74 (q := 77) rfl (tgt := 79) (by decide) (fun c8 => absurd c8 (by decide)) (fun c8 => ?_)
          refine v_iconst h (v := nI 0) dX8_lend_77 (q := 78) rfl (by decide +kernel) ?_
          refine v_iret h hQ rfl rfl dX8_lend_78 (Nat.zero_le _) (Nat.zero_le _) ⟨rfl, rfl, rfl, rfl, rfl⟩
      · skip
        refine v_callS1 h (x_X8_isDay hfl hk3) kX8_isDay rfl tw1140 rfl rfl (by simp [Value.category]) (by decide) (Nat.zero_le _) (Nat.zero_le _) rfl dX8_lend_16 (q := 19) rfl ?_
        refine v_if_eq h dX8_lend_19 (q := 22) rfl (tgt := 32) (by decide) (fun c9 => ?_) (fun c9 => absurd c9 (by decide))
        refine v_iconst h (v := nI 0) dX8_lend_32 (q := 33) rfl (by decide +kernel) ?_
        refine v_istore h dX8_lend_33 (q := 35) rfl (Nat.le_of_ble_eq_true rfl) rfl ?_
        refine v_aload_n h (i := 0) dX8_lend_35 (q := 36) rfl rfl rfl ?_
        refine v_aload_n h (i := 0) dX8_lend_36 (q := 37) rfl rfl rfl ?_
        refine v_iload_n h (i := 2) dX8_lend_37 (q := 38) rfl rfl rfl ?_
        refine v_callV1 h (x_X8_isBranch hfl hm hx hn hn8) kX8_isBranch tw925 tw13 (by assumption) (by decide) rfl rfl rfl (by simp [Value.category]) (by decide) (Nat.zero_le _) (Nat.zero_le _) rfl dX8_lend_38 (q := 41) rfl ?_
        refine v_if_ne h dX8_lend_41 (q := 44) rfl (tgt := 48) (by decide) (fun c10 => absurd c10 (by decide)) (fun c10 => ?_)
        refine v_iconst h (v := nI 1) dX8_lend_44 (q := 45) rfl (by decide +kernel) ?_
        refine v_goto h dX8_lend_45 (tgt := 71) (by decide) ?_
        refine v_callV1 h (x_X8_isFine hfl hm (by decide)) kX8_isFine tw929 tw14 (by assumption) (by decide) rfl rfl rfl (by simp [Value.category]) (by decide) (Nat.zero_le _) (Nat.zero_le _) rfl dX8_lend_71 (q := 74) rfl ?_
        refine v_if_ne h dX8_lend_74 (q := 77) rfl (tgt := 79) (by decide) (fun c11 => absurd c11 (by decide)) (fun c11 => ?_)
        refine v_iconst h (v := nI 0) dX8_lend_77 (q := 78) rfl (by decide +kernel) ?_
        refine v_iret h hQ rfl rfl dX8_lend_78 (Nat.zero_le _) (Nat.zero_le _) ⟨rfl, rfl, rfl, rfl, rfl⟩
    · skip
      refine v_callS1 h (x_X8_isDay hfl hk2) kX8_isDay rfl tw1140 rfl rfl (by simp [Value.category]) (by decide) (Nat.zero_le _) (Nat.zero_le _) rfl dX8_lend_8 (q := 11) rfl ?_
      refine v_if_eq h dX8_lend_11 (q := 14) rfl (tgt := 32) (by decide) (fun c12 => ?_) (fun c12 => absurd c12 (by decide))
      refine v_iconst h (v := nI 0) dX8_lend_32 (q := 33) rfl (by decide +kernel) ?_
      refine v_istore h dX8_lend_33 (q := 35) rfl (Nat.le_of_ble_eq_true rfl) rfl ?_
      refine v_aload_n h (i := 0) dX8_lend_35 (q := 36) rfl rfl rfl ?_
      refine v_aload_n h (i := 0) dX8_lend_36 (q := 37) rfl rfl rfl ?_
      refine v_iload_n h (i := 2) dX8_lend_37 (q := 38) rfl rfl rfl ?_
      refine v_callV1 h (x_X8_isBranch hfl hm hx hn hn8) kX8_isBranch tw925 tw13 (by assumption) (by decide) rfl rfl rfl (by simp [Value.category]) (by decide) (Nat.zero_le _) (Nat.zero_le _) rfl dX8_lend_38 (q := 41) rfl ?_
      refine v_if_ne h dX8_lend_41 (q := 44) rfl (tgt := 48) (by decide) (fun c13 => absurd c13 (by decide)) (fun c13 => ?_)
      refine v_iconst h (v := nI 1) dX8_lend_44 (q := 45) rfl (by decide +kernel) ?_
      refine v_goto h dX8_lend_45 (tgt := 71) (by decide) ?_
      refine v_callV1 h (x_X8_isFine hfl hm (by decide)) kX8_isFine tw929 tw14 (by assumption) (by decide) rfl rfl rfl (by simp [Value.category]) (by decide) (Nat.zero_le _) (Nat.zero_le _) rfl dX8_lend_71 (q := 74) rfl ?_
      refine v_if_ne h dX8_lend_74 (q := 77) rfl (tgt := 79) (by decide) (fun c14 => absurd c14 (by decide)) (fun c14 => ?_)
      refine v_iconst h (v := nI 0) dX8_lend_77 (q := 78) rfl (by decide +kernel) ?_
      refine v_iret h hQ rfl rfl dX8_lend_78 (Nat.zero_le _) (Nat.zero_le _) ⟨rfl, rfl, rfl, rfl, rfl⟩
  · skip
    refine v_callS1 h (x_X8_isCrew hfl hk1) kX8_isCrew rfl tw1133 rfl rfl (by simp [Value.category]) (by decide) (Nat.zero_le _) (Nat.zero_le _) rfl dX8_lend_1 (q := 4) rfl ?_
    refine v_if_eq h dX8_lend_4 (q := 7) rfl (tgt := 32) (by decide) (fun c15 => ?_) (fun c15 => absurd c15 (by decide))
    refine v_iconst h (v := nI 0) dX8_lend_32 (q := 33) rfl (by decide +kernel) ?_
    refine v_istore h dX8_lend_33 (q := 35) rfl (Nat.le_of_ble_eq_true rfl) rfl ?_
    refine v_aload_n h (i := 0) dX8_lend_35 (q := 36) rfl rfl rfl ?_
    refine v_aload_n h (i := 0) dX8_lend_36 (q := 37) rfl rfl rfl ?_
    refine v_iload_n h (i := 2) dX8_lend_37 (q := 38) rfl rfl rfl ?_
    refine v_callV1 h (x_X8_isBranch hfl hm hx hn hn8) kX8_isBranch tw925 tw13 (by assumption) (by decide) rfl rfl rfl (by simp [Value.category]) (by decide) (Nat.zero_le _) (Nat.zero_le _) rfl dX8_lend_38 (q := 41) rfl ?_
    refine v_if_ne h dX8_lend_41 (q := 44) rfl (tgt := 48) (by decide) (fun c16 => absurd c16 (by decide)) (fun c16 => ?_)
    refine v_iconst h (v := nI 1) dX8_lend_44 (q := 45) rfl (by decide +kernel) ?_
    refine v_goto h dX8_lend_45 (tgt := 71) (by decide) ?_
    refine v_callV1 h (x_X8_isFine hfl hm (by decide)) kX8_isFine tw929 tw14 (by assumption) (by decide) rfl rfl rfl (by simp [Value.category]) (by decide) (Nat.zero_le _) (Nat.zero_le _) rfl dX8_lend_71 (q := 74) rfl ?_
    refine v_if_ne h dX8_lend_74 (q := 77) rfl (tgt := 79) (by decide) (fun c17 => absurd c17 (by decide)) (fun c17 => ?_)
    refine v_iconst h (v := nI 0) dX8_lend_77 (q := 78) rfl (by decide +kernel) ?_
    refine v_iret h hQ rfl rfl dX8_lend_78 (Nat.zero_le _) (Nat.zero_le _) ⟨rfl, rfl, rfl, rfl, rfl⟩
set_option maxHeartbeats 4000000 in
set_option maxRecDepth 100000 in
theorem x2_X8_lend {l : Launch} (hfl : l.stackTraces = false) {sz : Nat} {sk : pb_Sk} {rf : pb_Rf} {sg : pb_Sg} {M : Nat} (hm : pb_md sk rf M) {n : Nat} (hn : sg M 8 = nI n) (hn8 : 1 ≤ n ∧ n ≤ 8) {b : Nat} (hb : b < n) {c lo hi : Int32} (hbad : ¬ ((nI 0 ≤ c ∧ c ≤ nI 4) ∧ (nI 0 ≤ lo ∧ lo ≤ nI 399) ∧ (lo ≤ hi ∧ hi ≤ nI 399))) : pb_Met l mX8_lend 6 0 0 [.ref M, .int c, .int (nI b), .int lo, .int hi] sz sk rf sg (pb_is (some (.int (nI 0))) sz sk rf (pb_up sg M 0 (nI 2))) := by
  refine pb_start hfl (by decide +kernel) rfl (pb_c1 rfl) (Nat.le_of_ble_eq_true rfl) (fun F hF h hQ => ?_)
  subst hF
  show pv F 0 0 sz sk rf sg 0 [some (.ref M), some (.int c), some (.int (nI b)), some (.int lo), some (.int hi), none] []
  obtain ⟨hM0, hr1, hk1, hr2, hk2, hr3, hk3, hr4, hk4, hr5, hk5, hr6, hk6, hr7, hk7, hr8, hk8, hr9, hk9, hr10, hk10, hr11, hk11, hr12, hk12, hr13, hk13, hr14, hk14, hr15, hk15, hr16, hk16, hr17, hk17, hr18, hk18, hr19, hk19, hr20, hk20, hr21, hk21, hr22, hk22, hr23, hk23, hr24, hk24⟩ := id hm
  refine v_iload_n h (i := 1) dX8_lend_0 (q := 1) rfl rfl rfl ?_
  by_cases hk1 : nI 0 ≤ c ∧ c ≤ nI 4
  · skip
    refine v_callS1 h (c2_X8_isCrew hfl hk1) kX8_isCrew rfl tw1133 rfl rfl (by simp [Value.category]) (by decide) (Nat.zero_le _) (Nat.zero_le _) rfl dX8_lend_1 (q := 4) rfl ?_
    refine v_if_eq h dX8_lend_4 (q := 7) rfl (tgt := 32) (by decide) (fun c1 => absurd c1 (by decide)) (fun c1 => ?_)
    refine v_iload_n h (i := 3) dX8_lend_7 (q := 8) rfl rfl rfl ?_
    by_cases hk2 : nI 0 ≤ lo ∧ lo ≤ nI 399
    · skip
      refine v_callS1 h (c2_X8_isDay hfl hk2) kX8_isDay rfl tw1140 rfl rfl (by simp [Value.category]) (by decide) (Nat.zero_le _) (Nat.zero_le _) rfl dX8_lend_8 (q := 11) rfl ?_
      refine v_if_eq h dX8_lend_11 (q := 14) rfl (tgt := 32) (by decide) (fun c2 => absurd c2 (by decide)) (fun c2 => ?_)
      refine v_iload h dX8_lend_14 (q := 16) rfl rfl ?_
      by_cases hk3 : nI 0 ≤ hi ∧ hi ≤ nI 399
      · skip
        refine v_callS1 h (c2_X8_isDay hfl hk3) kX8_isDay rfl tw1140 rfl rfl (by simp [Value.category]) (by decide) (Nat.zero_le _) (Nat.zero_le _) rfl dX8_lend_16 (q := 19) rfl ?_
        refine v_if_eq h dX8_lend_19 (q := 22) rfl (tgt := 32) (by decide) (fun c3 => absurd c3 (by decide)) (fun c3 => ?_)
        refine v_iload_n h (i := 3) dX8_lend_22 (q := 23) rfl rfl rfl ?_
        refine v_iload h dX8_lend_23 (q := 25) rfl rfl ?_
        refine v_icmp_gt h dX8_lend_25 (q := 28) rfl (tgt := 32) (by decide) (fun c4 => ?_) (fun c4 => absurd ⟨hk1, hk2, Int32.not_lt.mp c4, hk3.2⟩ hbad)
        refine v_iconst h (v := nI 0) dX8_lend_32 (q := 33) rfl (by decide +kernel) ?_
        refine v_istore h dX8_lend_33 (q := 35) rfl (Nat.le_of_ble_eq_true rfl) rfl ?_
        refine v_aload_n h (i := 0) dX8_lend_35 (q := 36) rfl rfl rfl ?_
        refine v_aload_n h (i := 0) dX8_lend_36 (q := 37) rfl rfl rfl ?_
        refine v_iload_n h (i := 2) dX8_lend_37 (q := 38) rfl rfl rfl ?_
        refine v_callV1 h (c_X8_isBranch hfl hm hb hn hn8.2) kX8_isBranch tw925 tw13 (by assumption) (by decide) rfl rfl rfl (by simp [Value.category]) (by decide) (Nat.zero_le _) (Nat.zero_le _) rfl dX8_lend_38 (q := 41) rfl ?_
        refine v_if_ne h dX8_lend_41 (q := 44) rfl (tgt := 48) (by decide) (fun c5 => ?_) (fun c5 => absurd c5 (by decide))
        refine v_iload h dX8_lend_48 (q := 50) rfl rfl ?_
        refine v_if_ne h dX8_lend_50 (q := 53) rfl (tgt := 57) (by decide) (fun c6 => absurd c6 (by decide)) (fun c6 => ?_)
        refine v_iconst h (v := nI 2) dX8_lend_53 (q := 54) rfl (by decide +kernel) ?_
        refine v_goto h dX8_lend_54 (tgt := 71) (by decide) ?_
        refine v_callV1 h (x_X8_isFine hfl hm (by decide)) kX8_isFine tw929 tw14 (by assumption) (by decide) rfl rfl rfl (by simp [Value.category]) (by decide) (Nat.zero_le _) (Nat.zero_le _) rfl dX8_lend_71 (q := 74) rfl ?_
        refine v_if_ne h dX8_lend_74 (q := 77) rfl (tgt := 79) (by decide) (fun c7 => absurd c7 (by decide)) (fun c7 => ?_)
        refine v_iconst h (v := nI 0) dX8_lend_77 (q := 78) rfl (by decide +kernel) ?_
        refine v_iret h hQ rfl rfl dX8_lend_78 (Nat.zero_le _) (Nat.zero_le _) ⟨rfl, rfl, rfl, rfl, rfl⟩
      · skip
        refine v_callS1 h (x_X8_isDay hfl hk3) kX8_isDay rfl tw1140 rfl rfl (by simp [Value.category]) (by decide) (Nat.zero_le _) (Nat.zero_le _) rfl dX8_lend_16 (q := 19) rfl ?_
        refine v_if_eq h dX8_lend_19 (q := 22) rfl (tgt := 32) (by decide) (fun c8 => ?_) (fun c8 => absurd c8 (by decide))
        refine v_iconst h (v := nI 0) dX8_lend_32 (q := 33) rfl (by decide +kernel) ?_
        refine v_istore h dX8_lend_33 (q := 35) rfl (Nat.le_of_ble_eq_true rfl) rfl ?_
        refine v_aload_n h (i := 0) dX8_lend_35 (q := 36) rfl rfl rfl ?_
        refine v_aload_n h (i := 0) dX8_lend_36 (q := 37) rfl rfl rfl ?_
        refine v_iload_n h (i := 2) dX8_lend_37 (q := 38) rfl rfl rfl ?_
        refine v_callV1 h (c_X8_isBranch hfl hm hb hn hn8.2) kX8_isBranch tw925 tw13 (by assumption) (by decide) rfl rfl rfl (by simp [Value.category]) (by decide) (Nat.zero_le _) (Nat.zero_le _) rfl dX8_lend_38 (q := 41) rfl ?_
        refine v_if_ne h dX8_lend_41 (q := 44) rfl (tgt := 48) (by decide) (fun c9 => ?_) (fun c9 => absurd c9 (by decide))
        refine v_iload h dX8_lend_48 (q := 50) rfl rfl ?_
        refine v_if_ne h dX8_lend_50 (q := 53) rfl (tgt := 57) (by decide) (fun c10 => absurd c10 (by decide)) (fun c10 => ?_)
        refine v_iconst h (v := nI 2) dX8_lend_53 (q := 54) rfl (by decide +kernel) ?_
        refine v_goto h dX8_lend_54 (tgt := 71) (by decide) ?_
        refine v_callV1 h (x_X8_isFine hfl hm (by decide)) kX8_isFine tw929 tw14 (by assumption) (by decide) rfl rfl rfl (by simp [Value.category]) (by decide) (Nat.zero_le _) (Nat.zero_le _) rfl dX8_lend_71 (q := 74) rfl ?_
        refine v_if_ne h dX8_lend_74 (q := 77) rfl (tgt := 79) (by decide) (fun c11 => absurd c11 (by decide)) (fun c11 => ?_)
        refine v_iconst h (v := nI 0) dX8_lend_77 (q := 78) rfl (by decide +kernel) ?_
        refine v_iret h hQ rfl rfl dX8_lend_78 (Nat.zero_le _) (Nat.zero_le _) ⟨rfl, rfl, rfl, rfl, rfl⟩
    · skip
      refine v_callS1 h (x_X8_isDay hfl hk2) kX8_isDay rfl tw1140 rfl rfl (by simp [Value.category]) (by decide) (Nat.zero_le _) (Nat.zero_le _) rfl dX8_lend_8 (q := 11) rfl ?_
      refine v_if_eq h dX8_lend_11 (q := 14) rfl (tgt := 32) (by decide) (fun c12 => ?_) (fun c12 => absurd c12 (by decide))
      refine v_iconst h (v := nI 0) dX8_lend_32 (q := 33) rfl (by decide +kernel) ?_
      refine v_istore h dX8_lend_33 (q := 35) rfl (Nat.le_of_ble_eq_true rfl) rfl ?_
      refine v_aload_n h (i := 0) dX8_lend_35 (q := 36) rfl rfl rfl ?_
      refine v_aload_n h (i := 0) dX8_lend_36 (q := 37) rfl rfl rfl ?_
      refine v_iload_n h (i := 2) dX8_lend_37 (q := 38) rfl rfl rfl ?_
      refine v_callV1 h (c_X8_isBranch hfl hm hb hn hn8.2) kX8_isBranch tw925 tw13 (by assumption) (by decide) rfl rfl rfl (by simp [Value.category]) (by decide) (Nat.zero_le _) (Nat.zero_le _) rfl dX8_lend_38 (q := 41) rfl ?_
      refine v_if_ne h dX8_lend_41 (q := 44) rfl (tgt := 48) (by decide) (fun c13 => ?_) (fun c13 => absurd c13 (by decide))
      refine v_iload h dX8_lend_48 (q := 50) rfl rfl ?_
      refine v_if_ne h dX8_lend_50 (q := 53) rfl (tgt := 57) (by decide) (fun c14 => absurd c14 (by decide)) (fun c14 => ?_)
      refine v_iconst h (v := nI 2) dX8_lend_53 (q := 54) rfl (by decide +kernel) ?_
      refine v_goto h dX8_lend_54 (tgt := 71) (by decide) ?_
      refine v_callV1 h (x_X8_isFine hfl hm (by decide)) kX8_isFine tw929 tw14 (by assumption) (by decide) rfl rfl rfl (by simp [Value.category]) (by decide) (Nat.zero_le _) (Nat.zero_le _) rfl dX8_lend_71 (q := 74) rfl ?_
      refine v_if_ne h dX8_lend_74 (q := 77) rfl (tgt := 79) (by decide) (fun c15 => absurd c15 (by decide)) (fun c15 => ?_)
      refine v_iconst h (v := nI 0) dX8_lend_77 (q := 78) rfl (by decide +kernel) ?_
      refine v_iret h hQ rfl rfl dX8_lend_78 (Nat.zero_le _) (Nat.zero_le _) ⟨rfl, rfl, rfl, rfl, rfl⟩
  · skip
    refine v_callS1 h (x_X8_isCrew hfl hk1) kX8_isCrew rfl tw1133 rfl rfl (by simp [Value.category]) (by decide) (Nat.zero_le _) (Nat.zero_le _) rfl dX8_lend_1 (q := 4) rfl ?_
    refine v_if_eq h dX8_lend_4 (q := 7) rfl (tgt := 32) (by decide) (fun c16 => ?_) (fun c16 => absurd c16 (by decide))
    refine v_iconst h (v := nI 0) dX8_lend_32 (q := 33) rfl (by decide +kernel) ?_
    refine v_istore h dX8_lend_33 (q := 35) rfl (Nat.le_of_ble_eq_true rfl) rfl ?_
    refine v_aload_n h (i := 0) dX8_lend_35 (q := 36) rfl rfl rfl ?_
    refine v_aload_n h (i := 0) dX8_lend_36 (q := 37) rfl rfl rfl ?_
    refine v_iload_n h (i := 2) dX8_lend_37 (q := 38) rfl rfl rfl ?_
    refine v_callV1 h (c_X8_isBranch hfl hm hb hn hn8.2) kX8_isBranch tw925 tw13 (by assumption) (by decide) rfl rfl rfl (by simp [Value.category]) (by decide) (Nat.zero_le _) (Nat.zero_le _) rfl dX8_lend_38 (q := 41) rfl ?_
    refine v_if_ne h dX8_lend_41 (q := 44) rfl (tgt := 48) (by decide) (fun c17 => ?_) (fun c17 => absurd c17 (by decide))
    refine v_iload h dX8_lend_48 (q := 50) rfl rfl ?_
    refine v_if_ne h dX8_lend_50 (q := 53) rfl (tgt := 57) (by decide) (fun c18 => absurd c18 (by decide)) (fun c18 => ?_)
    refine v_iconst h (v := nI 2) dX8_lend_53 (q := 54) rfl (by decide +kernel) ?_
    refine v_goto h dX8_lend_54 (tgt := 71) (by decide) ?_
    refine v_callV1 h (x_X8_isFine hfl hm (by decide)) kX8_isFine tw929 tw14 (by assumption) (by decide) rfl rfl rfl (by simp [Value.category]) (by decide) (Nat.zero_le _) (Nat.zero_le _) rfl dX8_lend_71 (q := 74) rfl ?_
    refine v_if_ne h dX8_lend_74 (q := 77) rfl (tgt := 79) (by decide) (fun c19 => absurd c19 (by decide)) (fun c19 => ?_)
    refine v_iconst h (v := nI 0) dX8_lend_77 (q := 78) rfl (by decide +kernel) ?_
    refine v_iret h hQ rfl rfl dX8_lend_78 (Nat.zero_le _) (Nat.zero_le _) ⟨rfl, rfl, rfl, rfl, rfl⟩
set_option maxHeartbeats 4000000 in
set_option maxRecDepth 100000 in
theorem c_X8_tail {l : Launch} (hfl : l.stackTraces = false) {sz : Nat} {sk : pb_Sk} {rf : pb_Rf} {sg : pb_Sg} {M : Nat} (hm : pb_md sk rf M) {n : Nat} (hn : sg M 8 = nI n) (hn8 : 1 ≤ n ∧ n ≤ 8) {b : Nat} (hb : b < n) {t : Nat} (ht : t < 16) : pb_Met l mX8_tail 6 0 0 [.ref M, .int (nI b), .int (nI t)] sz sk rf sg (pb_is (some (.int (if (pb_gmx ((pb_gK (pb_up sg M 0 (nI 0)) M b 16) (M + 19)) 16) = 0 then nI 0 else (pb_gK (pb_up sg M 0 (nI 0)) M b 16) (M + 19) t))) sz sk rf ((pb_gK (pb_up sg M 0 (nI 0)) M b 16))) := by
  refine pb_start hfl (by decide +kernel) rfl (pb_c1 rfl) (Nat.le_of_ble_eq_true rfl) (fun F hF h hQ => ?_)
  subst hF
  show pv F 0 0 sz sk rf sg 0 [some (.ref M), some (.int (nI b)), some (.int (nI t)), none] []
  obtain ⟨hM0, hr1, hk1, hr2, hk2, hr3, hk3, hr4, hk4, hr5, hk5, hr6, hk6, hr7, hk7, hr8, hk8, hr9, hk9, hr10, hk10, hr11, hk11, hr12, hk12, hr13, hk13, hr14, hk14, hr15, hk15, hr16, hk16, hr17, hk17, hr18, hk18, hr19, hk19, hr20, hk20, hr21, hk21, hr22, hk22, hr23, hk23, hr24, hk24⟩ := id hm
  refine v_aload_n h (i := 0) dX8_tail_0 (q := 1) rfl rfl rfl ?_
  refine v_iload_n h (i := 1) dX8_tail_1 (q := 2) rfl rfl rfl ?_
  refine v_iload_n h (i := 2) dX8_tail_2 (q := 3) rfl rfl rfl ?_
  refine v_callV1 h (c_X8_asks hfl hm hn hn8 hb ht) kX8_asks tw984 tw22 (by assumption) (by decide) rfl rfl rfl (by simp [Value.category]) (by decide) (Nat.zero_le _) (Nat.zero_le _) rfl dX8_tail_3 (q := 6) rfl ?_
  refine v_if_ne h dX8_tail_6 (q := 9) rfl (tgt := 11) (by decide) (fun c1 => ?_) (fun c1 => absurd c1 (by decide))
  refine v_aload_n h (i := 0) dX8_tail_11 (q := 12) rfl rfl rfl ?_
  refine v_iload_n h (i := 1) dX8_tail_12 (q := 13) rfl rfl rfl ?_
  refine v_callV1 h (c_X8_goes hfl hm (show b < 17 by omega)) kX8_goes tw1086 tw36 (by assumption) (by decide) rfl rfl rfl (by simp [Value.category]) (by decide) (Nat.zero_le _) (Nat.zero_le _) rfl dX8_tail_13 (q := 16) rfl ?_
  refine v_istore_n h (i := 3) dX8_tail_16 (q := 17) rfl rfl (Nat.le_of_ble_eq_true rfl) rfl ?_
  refine v_iload_n h (i := 3) dX8_tail_17 (q := 18) rfl rfl rfl ?_
  refine v_if_ne h dX8_tail_18 (q := 21) rfl (tgt := 25) (by decide) (fun c2 => ?_) (fun c2 => ?_)
  · skip
    have e9 : (if (pb_gmx ((pb_gK (pb_up sg M 0 (nI 0)) M b 16) (M + 19)) 16) = 0 then nI 0 else (pb_gK (pb_up sg M 0 (nI 0)) M b 16) (M + 19) t) = (pb_gK (pb_up sg M 0 (nI 0)) M b 16) (M + 19) t := if_neg c2
    refine v_aload_n h (i := 0) dX8_tail_25 (q := 26) rfl rfl rfl ?_
    refine v_getr h fl_X8_68 (by assumption) rfl (by assumption) dX8_tail_26 (q := 29) rfl ?_
    refine v_iload_n h (i := 2) dX8_tail_29 (q := 30) rfl rfl rfl ?_
    refine v_iald h (by assumption) rfl (by first | assumption | omega) (by decide) dX8_tail_30 (q := 31) rfl ?_
    refine v_iret h hQ rfl rfl dX8_tail_31 (Nat.zero_le _) (Nat.zero_le _) ⟨by rw [e9], rfl, rfl, rfl, rfl⟩
  · skip
    have e9 : (if (pb_gmx ((pb_gK (pb_up sg M 0 (nI 0)) M b 16) (M + 19)) 16) = 0 then nI 0 else (pb_gK (pb_up sg M 0 (nI 0)) M b 16) (M + 19) t) = nI 0 := if_pos c2
    refine v_iconst h (v := nI 0) dX8_tail_21 (q := 22) rfl (by decide +kernel) ?_
    refine v_goto h dX8_tail_22 (tgt := 31) (by decide) ?_
    refine v_iret h hQ rfl rfl dX8_tail_31 (Nat.zero_le _) (Nat.zero_le _) ⟨by rw [e9], rfl, rfl, rfl, rfl⟩
set_option maxHeartbeats 4000000 in
set_option maxRecDepth 100000 in
theorem x1_X8_tail {l : Launch} (hfl : l.stackTraces = false) {sz : Nat} {sk : pb_Sk} {rf : pb_Rf} {sg : pb_Sg} {M : Nat} (hm : pb_md sk rf M) {n : Nat} (hn : sg M 8 = nI n) (hn8 : 1 ≤ n ∧ n ≤ 8) {x : Int32} (hx : ∀ b, b < n → ¬ x = nI b) {t : Int32} : pb_Met l mX8_tail 6 0 0 [.ref M, .int x, .int t] sz sk rf sg (pb_is (some (.int (nI 0))) sz sk rf (pb_up sg M 0 (nI 1))) := by
  refine pb_start hfl (by decide +kernel) rfl (pb_c1 rfl) (Nat.le_of_ble_eq_true rfl) (fun F hF h hQ => ?_)
  subst hF
  show pv F 0 0 sz sk rf sg 0 [some (.ref M), some (.int x), some (.int t), none] []
  obtain ⟨hM0, hr1, hk1, hr2, hk2, hr3, hk3, hr4, hk4, hr5, hk5, hr6, hk6, hr7, hk7, hr8, hk8, hr9, hk9, hr10, hk10, hr11, hk11, hr12, hk12, hr13, hk13, hr14, hk14, hr15, hk15, hr16, hk16, hr17, hk17, hr18, hk18, hr19, hk19, hr20, hk20, hr21, hk21, hr22, hk22, hr23, hk23, hr24, hk24⟩ := id hm
  refine v_aload_n h (i := 0) dX8_tail_0 (q := 1) rfl rfl rfl ?_
  refine v_iload_n h (i := 1) dX8_tail_1 (q := 2) rfl rfl rfl ?_
  refine v_iload_n h (i := 2) dX8_tail_2 (q := 3) rfl rfl rfl ?_
  refine v_callV1 h (x1_X8_asks hfl hm hn hn8 hx) kX8_asks tw984 tw22 (by assumption) (by decide) rfl rfl rfl (by simp [Value.category]) (by decide) (Nat.zero_le _) (Nat.zero_le _) rfl dX8_tail_3 (q := 6) rfl ?_
  refine v_if_ne h dX8_tail_6 (q := 9) rfl (tgt := 11) (by decide) (fun c1 => absurd c1 (by decide)) (fun c1 => ?_)
  refine v_iconst h (v := nI 0) dX8_tail_9 (q := 10) rfl (by decide +kernel) ?_
  refine v_iret h hQ rfl rfl dX8_tail_10 (Nat.zero_le _) (Nat.zero_le _) ⟨rfl, rfl, rfl, rfl, rfl⟩
set_option maxHeartbeats 4000000 in
set_option maxRecDepth 100000 in
theorem x2_X8_tail {l : Launch} (hfl : l.stackTraces = false) {sz : Nat} {sk : pb_Sk} {rf : pb_Rf} {sg : pb_Sg} {M : Nat} (hm : pb_md sk rf M) {n : Nat} (hn : sg M 8 = nI n) (hn8 : 1 ≤ n ∧ n ≤ 8) {b : Nat} (hb : b < n) {t : Int32} (hbad : ¬ (nI 0 ≤ t ∧ t ≤ nI 15)) : pb_Met l mX8_tail 6 0 0 [.ref M, .int (nI b), .int t] sz sk rf sg (pb_is (some (.int (nI 0))) sz sk rf (pb_up sg M 0 (nI 2))) := by
  refine pb_start hfl (by decide +kernel) rfl (pb_c1 rfl) (Nat.le_of_ble_eq_true rfl) (fun F hF h hQ => ?_)
  subst hF
  show pv F 0 0 sz sk rf sg 0 [some (.ref M), some (.int (nI b)), some (.int t), none] []
  obtain ⟨hM0, hr1, hk1, hr2, hk2, hr3, hk3, hr4, hk4, hr5, hk5, hr6, hk6, hr7, hk7, hr8, hk8, hr9, hk9, hr10, hk10, hr11, hk11, hr12, hk12, hr13, hk13, hr14, hk14, hr15, hk15, hr16, hk16, hr17, hk17, hr18, hk18, hr19, hk19, hr20, hk20, hr21, hk21, hr22, hk22, hr23, hk23, hr24, hk24⟩ := id hm
  refine v_aload_n h (i := 0) dX8_tail_0 (q := 1) rfl rfl rfl ?_
  refine v_iload_n h (i := 1) dX8_tail_1 (q := 2) rfl rfl rfl ?_
  refine v_iload_n h (i := 2) dX8_tail_2 (q := 3) rfl rfl rfl ?_
  refine v_callV1 h (x2_X8_asks hfl hm hn hn8 hb hbad) kX8_asks tw984 tw22 (by assumption) (by decide) rfl rfl rfl (by simp [Value.category]) (by decide) (Nat.zero_le _) (Nat.zero_le _) rfl dX8_tail_3 (q := 6) rfl ?_
  refine v_if_ne h dX8_tail_6 (q := 9) rfl (tgt := 11) (by decide) (fun c1 => absurd c1 (by decide)) (fun c1 => ?_)
  refine v_iconst h (v := nI 0) dX8_tail_9 (q := 10) rfl (by decide +kernel) ?_
  refine v_iret h hQ rfl rfl dX8_tail_10 (Nat.zero_le _) (Nat.zero_le _) ⟨rfl, rfl, rfl, rfl, rfl⟩
set_option maxHeartbeats 4000000 in
set_option maxRecDepth 100000 in
theorem c_X8_slack {l : Launch} (hfl : l.stackTraces = false) {sz : Nat} {sk : pb_Sk} {rf : pb_Rf} {sg : pb_Sg} {M : Nat} (hm : pb_md sk rf M) {n : Nat} (hn : sg M 8 = nI n) (hn8 : 1 ≤ n ∧ n ≤ 8) {b : Nat} (hb : b < n) {t : Nat} (ht : t < 16) (hh : pb_has (sg (M + 1)) (16 * b + t) = true) : pb_Met l mX8_slack 6 0 0 [.ref M, .int (nI b), .int (nI t)] sz sk rf sg (pb_is (some (.int ((pb_gmx ((pb_gK (pb_up sg M 0 (nI 0)) M b 16) (M + 19)) 16) - (pb_gK (pb_up sg M 0 (nI 0)) M b 16) (M + 20) t - (pb_gK (pb_up sg M 0 (nI 0)) M b 16) (M + 19) t))) sz sk rf ((pb_gK (pb_up sg M 0 (nI 0)) M b 16))) := by
  refine pb_start hfl (by decide +kernel) rfl (pb_c1 rfl) (Nat.le_of_ble_eq_true rfl) (fun F hF h hQ => ?_)
  subst hF
  show pv F 0 0 sz sk rf sg 0 [some (.ref M), some (.int (nI b)), some (.int (nI t)), none] []
  obtain ⟨hM0, hr1, hk1, hr2, hk2, hr3, hk3, hr4, hk4, hr5, hk5, hr6, hk6, hr7, hk7, hr8, hk8, hr9, hk9, hr10, hk10, hr11, hk11, hr12, hk12, hr13, hk13, hr14, hk14, hr15, hk15, hr16, hk16, hr17, hk17, hr18, hk18, hr19, hk19, hr20, hk20, hr21, hk21, hr22, hk22, hr23, hk23, hr24, hk24⟩ := id hm
  refine v_aload_n h (i := 0) dX8_slack_0 (q := 1) rfl rfl rfl ?_
  refine v_iload_n h (i := 1) dX8_slack_1 (q := 2) rfl rfl rfl ?_
  refine v_iload_n h (i := 2) dX8_slack_2 (q := 3) rfl rfl rfl ?_
  refine v_callV1 h (c_X8_asks hfl hm hn hn8 hb ht) kX8_asks tw984 tw22 (by assumption) (by decide) rfl rfl rfl (by simp [Value.category]) (by decide) (Nat.zero_le _) (Nat.zero_le _) rfl dX8_slack_3 (q := 6) rfl ?_
  refine v_if_ne h dX8_slack_6 (q := 9) rfl (tgt := 11) (by decide) (fun c1 => ?_) (fun c1 => absurd c1 (by decide))
  refine v_aload_n h (i := 0) dX8_slack_11 (q := 12) rfl rfl rfl ?_
  refine v_iload_n h (i := 1) dX8_slack_12 (q := 13) rfl rfl rfl ?_
  refine v_callV1 h (c_X8_goes hfl hm (show b < 17 by omega)) kX8_goes tw1086 tw36 (by assumption) (by decide) rfl rfl rfl (by simp [Value.category]) (by decide) (Nat.zero_le _) (Nat.zero_le _) rfl dX8_slack_13 (q := 16) rfl ?_
  refine v_istore_n h (i := 3) dX8_slack_16 (q := 17) rfl rfl (Nat.le_of_ble_eq_true rfl) rfl ?_
  refine v_aload_n h (i := 0) dX8_slack_17 (q := 18) rfl rfl rfl ?_
  refine v_iload_n h (i := 1) dX8_slack_18 (q := 19) rfl rfl rfl ?_
  refine v_iload_n h (i := 2) dX8_slack_19 (q := 20) rfl rfl rfl ?_
  refine v_callV1 h (c_X8_isThere hfl hm (show b < 17 by omega) ht) kX8_isThere tw940 tw16 (by assumption) (by decide) rfl rfl rfl (by simp [Value.category]) (by decide) (Nat.zero_le _) (Nat.zero_le _) rfl dX8_slack_20 (q := 23) rfl ?_
  refine v_eq (st' := [.int (nI 1)]) (by rw [pb_gK_ne (by omega), pb_up_neA (by omega), hh]; rfl) ?_
  refine v_if_eq h dX8_slack_23 (q := 26) rfl (tgt := 44) (by decide) (fun c2 => absurd c2 (by decide)) (fun c2 => ?_)
  refine v_iload_n h (i := 3) dX8_slack_26 (q := 27) rfl rfl rfl ?_
  refine v_aload_n h (i := 0) dX8_slack_27 (q := 28) rfl rfl rfl ?_
  refine v_getr h fl_X8_71 (by assumption) rfl (by assumption) dX8_slack_28 (q := 31) rfl ?_
  refine v_iload_n h (i := 2) dX8_slack_31 (q := 32) rfl rfl rfl ?_
  refine v_iald h (by assumption) rfl (by first | assumption | omega) (by decide) dX8_slack_32 (q := 33) rfl ?_
  refine v_isub h dX8_slack_33 (q := 34) rfl ?_
  refine v_aload_n h (i := 0) dX8_slack_34 (q := 35) rfl rfl rfl ?_
  refine v_getr h fl_X8_68 (by assumption) rfl (by assumption) dX8_slack_35 (q := 38) rfl ?_
  refine v_iload_n h (i := 2) dX8_slack_38 (q := 39) rfl rfl rfl ?_
  refine v_iald h (by assumption) rfl (by first | assumption | omega) (by decide) dX8_slack_39 (q := 40) rfl ?_
  refine v_isub h dX8_slack_40 (q := 41) rfl ?_
  refine v_goto h dX8_slack_41 (tgt := 45) (by decide) ?_
  refine v_iret h hQ rfl rfl dX8_slack_45 (Nat.zero_le _) (Nat.zero_le _) ⟨rfl, rfl, rfl, rfl, rfl⟩
set_option maxHeartbeats 4000000 in
set_option maxRecDepth 100000 in
theorem c0_X8_slack {l : Launch} (hfl : l.stackTraces = false) {sz : Nat} {sk : pb_Sk} {rf : pb_Rf} {sg : pb_Sg} {M : Nat} (hm : pb_md sk rf M) {n : Nat} (hn : sg M 8 = nI n) (hn8 : 1 ≤ n ∧ n ≤ 8) {b : Nat} (hb : b < n) {t : Nat} (ht : t < 16) (hh : pb_has (sg (M + 1)) (16 * b + t) = false) : pb_Met l mX8_slack 6 0 0 [.ref M, .int (nI b), .int (nI t)] sz sk rf sg (pb_is (some (.int (-1))) sz sk rf ((pb_gK (pb_up sg M 0 (nI 0)) M b 16))) := by
  refine pb_start hfl (by decide +kernel) rfl (pb_c1 rfl) (Nat.le_of_ble_eq_true rfl) (fun F hF h hQ => ?_)
  subst hF
  show pv F 0 0 sz sk rf sg 0 [some (.ref M), some (.int (nI b)), some (.int (nI t)), none] []
  obtain ⟨hM0, hr1, hk1, hr2, hk2, hr3, hk3, hr4, hk4, hr5, hk5, hr6, hk6, hr7, hk7, hr8, hk8, hr9, hk9, hr10, hk10, hr11, hk11, hr12, hk12, hr13, hk13, hr14, hk14, hr15, hk15, hr16, hk16, hr17, hk17, hr18, hk18, hr19, hk19, hr20, hk20, hr21, hk21, hr22, hk22, hr23, hk23, hr24, hk24⟩ := id hm
  refine v_aload_n h (i := 0) dX8_slack_0 (q := 1) rfl rfl rfl ?_
  refine v_iload_n h (i := 1) dX8_slack_1 (q := 2) rfl rfl rfl ?_
  refine v_iload_n h (i := 2) dX8_slack_2 (q := 3) rfl rfl rfl ?_
  refine v_callV1 h (c_X8_asks hfl hm hn hn8 hb ht) kX8_asks tw984 tw22 (by assumption) (by decide) rfl rfl rfl (by simp [Value.category]) (by decide) (Nat.zero_le _) (Nat.zero_le _) rfl dX8_slack_3 (q := 6) rfl ?_
  refine v_if_ne h dX8_slack_6 (q := 9) rfl (tgt := 11) (by decide) (fun c1 => ?_) (fun c1 => absurd c1 (by decide))
  refine v_aload_n h (i := 0) dX8_slack_11 (q := 12) rfl rfl rfl ?_
  refine v_iload_n h (i := 1) dX8_slack_12 (q := 13) rfl rfl rfl ?_
  refine v_callV1 h (c_X8_goes hfl hm (show b < 17 by omega)) kX8_goes tw1086 tw36 (by assumption) (by decide) rfl rfl rfl (by simp [Value.category]) (by decide) (Nat.zero_le _) (Nat.zero_le _) rfl dX8_slack_13 (q := 16) rfl ?_
  refine v_istore_n h (i := 3) dX8_slack_16 (q := 17) rfl rfl (Nat.le_of_ble_eq_true rfl) rfl ?_
  refine v_aload_n h (i := 0) dX8_slack_17 (q := 18) rfl rfl rfl ?_
  refine v_iload_n h (i := 1) dX8_slack_18 (q := 19) rfl rfl rfl ?_
  refine v_iload_n h (i := 2) dX8_slack_19 (q := 20) rfl rfl rfl ?_
  refine v_callV1 h (c_X8_isThere hfl hm (show b < 17 by omega) ht) kX8_isThere tw940 tw16 (by assumption) (by decide) rfl rfl rfl (by simp [Value.category]) (by decide) (Nat.zero_le _) (Nat.zero_le _) rfl dX8_slack_20 (q := 23) rfl ?_
  refine v_eq (st' := [.int (nI 0)]) (by rw [pb_gK_ne (by omega), pb_up_neA (by omega), hh]; rfl) ?_
  refine v_if_eq h dX8_slack_23 (q := 26) rfl (tgt := 44) (by decide) (fun c2 => ?_) (fun c2 => absurd c2 (by decide))
  refine v_iconst h (v := (-1)) dX8_slack_44 (q := 45) rfl (by decide +kernel) ?_
  refine v_iret h hQ rfl rfl dX8_slack_45 (Nat.zero_le _) (Nat.zero_le _) ⟨rfl, rfl, rfl, rfl, rfl⟩
set_option maxHeartbeats 4000000 in
set_option maxRecDepth 100000 in
theorem x1_X8_slack {l : Launch} (hfl : l.stackTraces = false) {sz : Nat} {sk : pb_Sk} {rf : pb_Rf} {sg : pb_Sg} {M : Nat} (hm : pb_md sk rf M) {n : Nat} (hn : sg M 8 = nI n) (hn8 : 1 ≤ n ∧ n ≤ 8) {x : Int32} (hx : ∀ b, b < n → ¬ x = nI b) {t : Int32} : pb_Met l mX8_slack 6 0 0 [.ref M, .int x, .int t] sz sk rf sg (pb_is (some (.int (nI 0))) sz sk rf (pb_up sg M 0 (nI 1))) := by
  refine pb_start hfl (by decide +kernel) rfl (pb_c1 rfl) (Nat.le_of_ble_eq_true rfl) (fun F hF h hQ => ?_)
  subst hF
  show pv F 0 0 sz sk rf sg 0 [some (.ref M), some (.int x), some (.int t), none] []
  obtain ⟨hM0, hr1, hk1, hr2, hk2, hr3, hk3, hr4, hk4, hr5, hk5, hr6, hk6, hr7, hk7, hr8, hk8, hr9, hk9, hr10, hk10, hr11, hk11, hr12, hk12, hr13, hk13, hr14, hk14, hr15, hk15, hr16, hk16, hr17, hk17, hr18, hk18, hr19, hk19, hr20, hk20, hr21, hk21, hr22, hk22, hr23, hk23, hr24, hk24⟩ := id hm
  refine v_aload_n h (i := 0) dX8_slack_0 (q := 1) rfl rfl rfl ?_
  refine v_iload_n h (i := 1) dX8_slack_1 (q := 2) rfl rfl rfl ?_
  refine v_iload_n h (i := 2) dX8_slack_2 (q := 3) rfl rfl rfl ?_
  refine v_callV1 h (x1_X8_asks hfl hm hn hn8 hx) kX8_asks tw984 tw22 (by assumption) (by decide) rfl rfl rfl (by simp [Value.category]) (by decide) (Nat.zero_le _) (Nat.zero_le _) rfl dX8_slack_3 (q := 6) rfl ?_
  refine v_if_ne h dX8_slack_6 (q := 9) rfl (tgt := 11) (by decide) (fun c1 => absurd c1 (by decide)) (fun c1 => ?_)
  refine v_iconst h (v := nI 0) dX8_slack_9 (q := 10) rfl (by decide +kernel) ?_
  refine v_iret h hQ rfl rfl dX8_slack_10 (Nat.zero_le _) (Nat.zero_le _) ⟨rfl, rfl, rfl, rfl, rfl⟩
set_option maxHeartbeats 4000000 in
set_option maxRecDepth 100000 in
theorem x2_X8_slack {l : Launch} (hfl : l.stackTraces = false) {sz : Nat} {sk : pb_Sk} {rf : pb_Rf} {sg : pb_Sg} {M : Nat} (hm : pb_md sk rf M) {n : Nat} (hn : sg M 8 = nI n) (hn8 : 1 ≤ n ∧ n ≤ 8) {b : Nat} (hb : b < n) {t : Int32} (hbad : ¬ (nI 0 ≤ t ∧ t ≤ nI 15)) : pb_Met l mX8_slack 6 0 0 [.ref M, .int (nI b), .int t] sz sk rf sg (pb_is (some (.int (nI 0))) sz sk rf (pb_up sg M 0 (nI 2))) := by
  refine pb_start hfl (by decide +kernel) rfl (pb_c1 rfl) (Nat.le_of_ble_eq_true rfl) (fun F hF h hQ => ?_)
  subst hF
  show pv F 0 0 sz sk rf sg 0 [some (.ref M), some (.int (nI b)), some (.int t), none] []
  obtain ⟨hM0, hr1, hk1, hr2, hk2, hr3, hk3, hr4, hk4, hr5, hk5, hr6, hk6, hr7, hk7, hr8, hk8, hr9, hk9, hr10, hk10, hr11, hk11, hr12, hk12, hr13, hk13, hr14, hk14, hr15, hk15, hr16, hk16, hr17, hk17, hr18, hk18, hr19, hk19, hr20, hk20, hr21, hk21, hr22, hk22, hr23, hk23, hr24, hk24⟩ := id hm
  refine v_aload_n h (i := 0) dX8_slack_0 (q := 1) rfl rfl rfl ?_
  refine v_iload_n h (i := 1) dX8_slack_1 (q := 2) rfl rfl rfl ?_
  refine v_iload_n h (i := 2) dX8_slack_2 (q := 3) rfl rfl rfl ?_
  refine v_callV1 h (x2_X8_asks hfl hm hn hn8 hb hbad) kX8_asks tw984 tw22 (by assumption) (by decide) rfl rfl rfl (by simp [Value.category]) (by decide) (Nat.zero_le _) (Nat.zero_le _) rfl dX8_slack_3 (q := 6) rfl ?_
  refine v_if_ne h dX8_slack_6 (q := 9) rfl (tgt := 11) (by decide) (fun c1 => absurd c1 (by decide)) (fun c1 => ?_)
  refine v_iconst h (v := nI 0) dX8_slack_9 (q := 10) rfl (by decide +kernel) ?_
  refine v_iret h hQ rfl rfl dX8_slack_10 (Nat.zero_le _) (Nat.zero_le _) ⟨rfl, rfl, rfl, rfl, rfl⟩
set_option maxHeartbeats 4000000 in
set_option maxRecDepth 100000 in
theorem c_X8_critical {l : Launch} (hfl : l.stackTraces = false) {sz : Nat} {sk : pb_Sk} {rf : pb_Rf} {sg : pb_Sg} {M : Nat} (hm : pb_md sk rf M) {n : Nat} (hn : sg M 8 = nI n) (hn8 : 1 ≤ n ∧ n ≤ 8) {b : Nat} (hb : b < n) : pb_Met l mX8_critical 6 0 0 [.ref M, .int (nI b)] sz sk rf sg (pb_is (some (.int (pb_set (fun t => pb_has ((pb_gK (pb_up sg M 0 (nI 0)) M b 16) (M + 1)) (16 * b + t) && decide ((pb_gmx ((pb_gK (pb_up sg M 0 (nI 0)) M b 16) (M + 19)) 16) = (pb_gK (pb_up sg M 0 (nI 0)) M b 16) (M + 20) t + (pb_gK (pb_up sg M 0 (nI 0)) M b 16) (M + 19) t)) 16))) sz sk rf ((pb_gK (pb_up sg M 0 (nI 0)) M b 16))) := by
  refine pb_start hfl (by decide +kernel) rfl (pb_c1 rfl) (Nat.le_of_ble_eq_true rfl) (fun F hF h hQ => ?_)
  subst hF
  show pv F 0 0 sz sk rf sg 0 [some (.ref M), some (.int (nI b)), none, none, none] []
  obtain ⟨hM0, hr1, hk1, hr2, hk2, hr3, hk3, hr4, hk4, hr5, hk5, hr6, hk6, hr7, hk7, hr8, hk8, hr9, hk9, hr10, hk10, hr11, hk11, hr12, hk12, hr13, hk13, hr14, hk14, hr15, hk15, hr16, hk16, hr17, hk17, hr18, hk18, hr19, hk19, hr20, hk20, hr21, hk21, hr22, hk22, hr23, hk23, hr24, hk24⟩ := id hm
  refine v_aload_n h (i := 0) dX8_critical_0 (q := 1) rfl rfl rfl ?_
  refine v_aload_n h (i := 0) dX8_critical_1 (q := 2) rfl rfl rfl ?_
  refine v_iload_n h (i := 1) dX8_critical_2 (q := 3) rfl rfl rfl ?_
  refine v_callV1 h (c_X8_isBranch hfl hm hb hn hn8.2) kX8_isBranch tw925 tw13 (by assumption) (by decide) rfl rfl rfl (by simp [Value.category]) (by decide) (Nat.zero_le _) (Nat.zero_le _) rfl dX8_critical_3 (q := 6) rfl ?_
  refine v_if_eq h dX8_critical_6 (q := 9) rfl (tgt := 13) (by decide) (fun c1 => absurd c1 (by decide)) (fun c1 => ?_)
  refine v_iconst h (v := nI 0) dX8_critical_9 (q := 10) rfl (by decide +kernel) ?_
  refine v_goto h dX8_critical_10 (tgt := 14) (by decide) ?_
  refine v_callV1 h (c_X8_isFine hfl hm) kX8_isFine tw929 tw14 (by assumption) (by decide) rfl rfl rfl (by simp [Value.category]) (by decide) (Nat.zero_le _) (Nat.zero_le _) rfl dX8_critical_14 (q := 17) rfl ?_
  refine v_if_ne h dX8_critical_17 (q := 20) rfl (tgt := 22) (by decide) (fun c2 => ?_) (fun c2 => absurd c2 (by decide))
  refine v_aload_n h (i := 0) dX8_critical_22 (q := 23) rfl rfl rfl ?_
  refine v_iload_n h (i := 1) dX8_critical_23 (q := 24) rfl rfl rfl ?_
  refine v_callV1 h (c_X8_goes hfl hm (show b < 17 by omega)) kX8_goes tw1086 tw36 (by assumption) (by decide) rfl rfl rfl (by simp [Value.category]) (by decide) (Nat.zero_le _) (Nat.zero_le _) rfl dX8_critical_24 (q := 27) rfl ?_
  refine v_istore_n h (i := 2) dX8_critical_27 (q := 28) rfl rfl (Nat.le_of_ble_eq_true rfl) rfl ?_
  refine v_iconst h (v := nI 0) dX8_critical_28 (q := 29) rfl (by decide +kernel) ?_
  refine v_istore_n h (i := 3) dX8_critical_29 (q := 30) rfl rfl (Nat.le_of_ble_eq_true rfl) rfl ?_
  refine v_iconst h (v := nI 0) dX8_critical_30 (q := 31) rfl (by decide +kernel) ?_
  refine v_istore h dX8_critical_31 (q := 33) rfl (Nat.le_of_ble_eq_true rfl) rfl ?_
  have lp : ∀ (j i : Nat), i + j = 16 → pv F 0 0 sz sk rf (pb_gK (pb_up sg M 0 (nI 0)) M b 16) 33 [some (.ref M), some (.int (nI b)), some (.int (pb_gmx ((pb_gK (pb_up sg M 0 (nI 0)) M b 16) (M + 19)) 16)), some (.int (pb_set (fun t => pb_has ((pb_gK (pb_up sg M 0 (nI 0)) M b 16) (M + 1)) (16 * b + t) && decide ((pb_gmx ((pb_gK (pb_up sg M 0 (nI 0)) M b 16) (M + 19)) 16) = (pb_gK (pb_up sg M 0 (nI 0)) M b 16) (M + 20) t + (pb_gK (pb_up sg M 0 (nI 0)) M b 16) (M + 19) t)) i)), some (.int (nI i))] [] := by
    intro j
    induction j with
    | zero =>
      intro i  hi
      obtain rfl : i = 16 := by omega
      refine v_iload h dX8_critical_33 (q := 35) rfl rfl ?_
      refine v_bipush h (v := nI 16) dX8_critical_35 (q := 37) rfl (by decide +kernel) ?_
      refine v_icmp_ge h dX8_critical_37 (q := 40) rfl (tgt := 86) (by decide) (fun c3 => ?_) (fun c3 => pb_kle (Nat.le_refl _) (by decide) c3)
      refine v_iload_n h (i := 3) dX8_critical_86 (q := 87) rfl rfl rfl ?_
      refine v_iret h hQ rfl rfl dX8_critical_87 (Nat.zero_le _) (Nat.zero_le _) ⟨rfl, rfl, rfl, rfl, rfl⟩
    | succ j ih =>
      intro i  hi
      have hi2 : i < 16 := by omega
      refine v_iload h dX8_critical_33 (q := 35) rfl rfl ?_
      refine v_bipush h (v := nI 16) dX8_critical_35 (q := 37) rfl (by decide +kernel) ?_
      refine v_icmp_ge h dX8_critical_37 (q := 40) rfl (tgt := 86) (by decide) (fun c4 => pb_kge hi2 (by decide) c4) (fun c4 => ?_)
      refine v_iload_n h (i := 3) dX8_critical_40 (q := 41) rfl rfl rfl ?_
      refine v_aload_n h (i := 0) dX8_critical_41 (q := 42) rfl rfl rfl ?_
      refine v_iload_n h (i := 1) dX8_critical_42 (q := 43) rfl rfl rfl ?_
      refine v_iload h dX8_critical_43 (q := 45) rfl rfl ?_
      refine v_callV1 h (c_X8_isThere hfl hm (show b < 17 by omega) hi2) kX8_isThere tw940 tw16 (by assumption) (by decide) rfl rfl rfl (by simp [Value.category]) (by decide) (Nat.zero_le _) (Nat.zero_le _) rfl dX8_critical_45 (q := 48) rfl ?_
      refine v_if_eq h dX8_critical_48 (q := 51) rfl (tgt := 77) (by decide) (fun c5 => ?_) (fun c5 => ?_)
      · skip
        have e1 := pb_b_0.mp c5
        have e9 := pb_set_f (c := (fun t => pb_has ((pb_gK (pb_up sg M 0 (nI 0)) M b 16) (M + 1)) (16 * b + t) && decide ((pb_gmx ((pb_gK (pb_up sg M 0 (nI 0)) M b 16) (M + 19)) 16) = (pb_gK (pb_up sg M 0 (nI 0)) M b 16) (M + 20) t + (pb_gK (pb_up sg M 0 (nI 0)) M b 16) (M + 19) t))) (n := i) (by simp [e1])
        rw [← pb_or0 (pb_set (fun t => pb_has ((pb_gK (pb_up sg M 0 (nI 0)) M b 16) (M + 1)) (16 * b + t) && decide ((pb_gmx ((pb_gK (pb_up sg M 0 (nI 0)) M b 16) (M + 19)) 16) = (pb_gK (pb_up sg M 0 (nI 0)) M b 16) (M + 20) t + (pb_gK (pb_up sg M 0 (nI 0)) M b 16) (M + 19) t)) i)] at e9
        refine v_iconst h (v := nI 0) dX8_critical_77 (q := 78) rfl (by decide +kernel) ?_
        refine v_ior h dX8_critical_78 (q := 79) rfl ?_
        refine v_istore_n h (i := 3) dX8_critical_79 (q := 80) rfl rfl (Nat.le_of_ble_eq_true rfl) rfl ?_
        refine v_iinc h dX8_critical_80 (q := 83) rfl rfl pb_inc rfl ?_
        refine v_goto h dX8_critical_83 (tgt := 33) (by decide) ?_
        have h9 := ih (i + 1) (by omega)
        rw [e9] at h9
        exact h9
      · skip
        have e1 := pb_ne_f (fun q => c5 (pb_b_0.mpr q))
        refine v_iload_n h (i := 2) dX8_critical_51 (q := 52) rfl rfl rfl ?_
        refine v_aload_n h (i := 0) dX8_critical_52 (q := 53) rfl rfl rfl ?_
        refine v_getr h fl_X8_71 (by assumption) rfl (by assumption) dX8_critical_53 (q := 56) rfl ?_
        refine v_iload h dX8_critical_56 (q := 58) rfl rfl ?_
        refine v_iald h (by assumption) rfl (by first | assumption | omega) (by decide) dX8_critical_58 (q := 59) rfl ?_
        refine v_aload_n h (i := 0) dX8_critical_59 (q := 60) rfl rfl rfl ?_
        refine v_getr h fl_X8_68 (by assumption) rfl (by assumption) dX8_critical_60 (q := 63) rfl ?_
        refine v_iload h dX8_critical_63 (q := 65) rfl rfl ?_
        refine v_iald h (by assumption) rfl (by first | assumption | omega) (by decide) dX8_critical_65 (q := 66) rfl ?_
        refine v_iadd h dX8_critical_66 (q := 67) rfl ?_
        refine v_icmp_ne h dX8_critical_67 (q := 70) rfl (tgt := 77) (by decide) (fun c6 => ?_) (fun c6 => ?_)
        · skip
          have e9 := pb_set_f (c := (fun t => pb_has ((pb_gK (pb_up sg M 0 (nI 0)) M b 16) (M + 1)) (16 * b + t) && decide ((pb_gmx ((pb_gK (pb_up sg M 0 (nI 0)) M b 16) (M + 19)) 16) = (pb_gK (pb_up sg M 0 (nI 0)) M b 16) (M + 20) t + (pb_gK (pb_up sg M 0 (nI 0)) M b 16) (M + 19) t))) (n := i) (by simp only [e1, decide_eq_false c6]; rfl)
          rw [← pb_or0 (pb_set (fun t => pb_has ((pb_gK (pb_up sg M 0 (nI 0)) M b 16) (M + 1)) (16 * b + t) && decide ((pb_gmx ((pb_gK (pb_up sg M 0 (nI 0)) M b 16) (M + 19)) 16) = (pb_gK (pb_up sg M 0 (nI 0)) M b 16) (M + 20) t + (pb_gK (pb_up sg M 0 (nI 0)) M b 16) (M + 19) t)) i)] at e9
          refine v_iconst h (v := nI 0) dX8_critical_77 (q := 78) rfl (by decide +kernel) ?_
          refine v_ior h dX8_critical_78 (q := 79) rfl ?_
          refine v_istore_n h (i := 3) dX8_critical_79 (q := 80) rfl rfl (Nat.le_of_ble_eq_true rfl) rfl ?_
          refine v_iinc h dX8_critical_80 (q := 83) rfl rfl pb_inc rfl ?_
          refine v_goto h dX8_critical_83 (tgt := 33) (by decide) ?_
          have h9 := ih (i + 1) (by omega)
          rw [e9] at h9
          exact h9
        · skip
          have e9 := pb_set_t (c := (fun t => pb_has ((pb_gK (pb_up sg M 0 (nI 0)) M b 16) (M + 1)) (16 * b + t) && decide ((pb_gmx ((pb_gK (pb_up sg M 0 (nI 0)) M b 16) (M + 19)) 16) = (pb_gK (pb_up sg M 0 (nI 0)) M b 16) (M + 20) t + (pb_gK (pb_up sg M 0 (nI 0)) M b 16) (M + 19) t))) (n := i) (by simp only [e1, decide_eq_true c6]; rfl)
          refine v_iconst h (v := nI 1) dX8_critical_70 (q := 71) rfl (by decide +kernel) ?_
          refine v_iload h dX8_critical_71 (q := 73) rfl rfl ?_
          refine v_ishl h dX8_critical_73 (q := 74) rfl ?_
          refine v_goto h dX8_critical_74 (tgt := 78) (by decide) ?_
          refine v_ior h dX8_critical_78 (q := 79) rfl ?_
          refine v_istore_n h (i := 3) dX8_critical_79 (q := 80) rfl rfl (Nat.le_of_ble_eq_true rfl) rfl ?_
          refine v_iinc h dX8_critical_80 (q := 83) rfl rfl pb_inc rfl ?_
          refine v_goto h dX8_critical_83 (tgt := 33) (by decide) ?_
          have h9 := ih (i + 1) (by omega)
          rw [e9] at h9
          exact h9
  exact lp 16 0 (by omega)
set_option maxHeartbeats 4000000 in
set_option maxRecDepth 100000 in
theorem x1_X8_critical {l : Launch} (hfl : l.stackTraces = false) {sz : Nat} {sk : pb_Sk} {rf : pb_Rf} {sg : pb_Sg} {M : Nat} (hm : pb_md sk rf M) {n : Nat} (hn : sg M 8 = nI n) (hn8 : 1 ≤ n ∧ n ≤ 8) {x : Int32} (hx : ∀ b, b < n → ¬ x = nI b) : pb_Met l mX8_critical 6 0 0 [.ref M, .int x] sz sk rf sg (pb_is (some (.int (nI 0))) sz sk rf (pb_up sg M 0 (nI 1))) := by
  refine pb_start hfl (by decide +kernel) rfl (pb_c1 rfl) (Nat.le_of_ble_eq_true rfl) (fun F hF h hQ => ?_)
  subst hF
  show pv F 0 0 sz sk rf sg 0 [some (.ref M), some (.int x), none, none, none] []
  obtain ⟨hM0, hr1, hk1, hr2, hk2, hr3, hk3, hr4, hk4, hr5, hk5, hr6, hk6, hr7, hk7, hr8, hk8, hr9, hk9, hr10, hk10, hr11, hk11, hr12, hk12, hr13, hk13, hr14, hk14, hr15, hk15, hr16, hk16, hr17, hk17, hr18, hk18, hr19, hk19, hr20, hk20, hr21, hk21, hr22, hk22, hr23, hk23, hr24, hk24⟩ := id hm
  refine v_aload_n h (i := 0) dX8_critical_0 (q := 1) rfl rfl rfl ?_
  refine v_aload_n h (i := 0) dX8_critical_1 (q := 2) rfl rfl rfl ?_
  refine v_iload_n h (i := 1) dX8_critical_2 (q := 3) rfl rfl rfl ?_
  refine v_callV1 h (x_X8_isBranch hfl hm hx hn hn8) kX8_isBranch tw925 tw13 (by assumption) (by decide) rfl rfl rfl (by simp [Value.category]) (by decide) (Nat.zero_le _) (Nat.zero_le _) rfl dX8_critical_3 (q := 6) rfl ?_
  refine v_if_eq h dX8_critical_6 (q := 9) rfl (tgt := 13) (by decide) (fun c1 => ?_) (fun c1 => absurd c1 (by decide))
  refine v_iconst h (v := nI 1) dX8_critical_13 (q := 14) rfl (by decide +kernel) ?_
  refine v_callV1 h (x_X8_isFine hfl hm (by decide)) kX8_isFine tw929 tw14 (by assumption) (by decide) rfl rfl rfl (by simp [Value.category]) (by decide) (Nat.zero_le _) (Nat.zero_le _) rfl dX8_critical_14 (q := 17) rfl ?_
  refine v_if_ne h dX8_critical_17 (q := 20) rfl (tgt := 22) (by decide) (fun c2 => absurd c2 (by decide)) (fun c2 => ?_)
  refine v_iconst h (v := nI 0) dX8_critical_20 (q := 21) rfl (by decide +kernel) ?_
  refine v_iret h hQ rfl rfl dX8_critical_21 (Nat.zero_le _) (Nat.zero_le _) ⟨rfl, rfl, rfl, rfl, rfl⟩
