set_option maxHeartbeats 400000 in
set_option maxRecDepth 100000 in
theorem c_X8_reason {l : Launch} (hfl : l.stackTraces = false) {sz : Nat} {sk : pb_Sk} {rf : pb_Rf} {sg : pb_Sg} {M : Nat} (hm : pb_md sk rf M) {n : Nat} (hn : sg M 8 = nI n) (hn8 : 1 ≤ n ∧ n ≤ 8) {b f L : Nat} (hb : b < n) (hpos : 0 < b) (hf8 : f < 8) (hf : sg (M + 5) b = nI f) (hL : sg M 20 = nI L) (hL40 : L ≤ 40) {m : Bool} {J : pb_Sg} (hJ : J = (pb_mjN (pb_up sg M 0 (nI 0)) M b f 16).1) (hw : pb_mw J M 16) {r : Int32 × pb_Sg} (hr : r = pb_mrs J M (pb_mto m f b) L) : pb_Met l mX8_reason 7 0 0 [.ref M, .int (nI b), .int (pb_b m)] sz sk rf sg (pb_is (some (.int r.1)) sz sk rf r.2) := by
  refine pb_start hfl (by decide +kernel) rfl (pb_c1 rfl) (Nat.le_of_ble_eq_true rfl) (fun F hF h hQ => ?_)
  subst hF
  show pv F 0 0 sz sk rf sg 0 [some (.ref M), some (.int (nI b)), some (.int (pb_b m))] []
  obtain ⟨hM0, hr1, hk1, hr2, hk2, hr3, hk3, hr4, hk4, hr5, hk5, hr6, hk6, hr7, hk7, hr8, hk8, hr9, hk9, hr10, hk10, hr11, hk11, hr12, hk12, hr13, hk13, hr14, hk14, hr15, hk15, hr16, hk16, hr17, hk17, hr18, hk18, hr19, hk19, hr20, hk20, hr21, hk21, hr22, hk22, hr23, hk23, hr24, hk24⟩ := id hm
  refine v_aload_n h (i := 0) dX8_reason_0 (q := 1) rfl rfl rfl ?_
  refine v_iload_n h (i := 1) dX8_reason_1 (q := 2) rfl rfl rfl ?_
  refine v_callV1 h (c_X8_isOwn hfl hm hn hn8 hb hpos) kX8_isOwn tw1066 tw31 (by assumption) (by decide) rfl rfl rfl (by simp [Value.category]) (by decide) (Nat.zero_le _) (Nat.zero_le _) rfl dX8_reason_2 (q := 5) rfl ?_
  refine v_if_eq h dX8_reason_5 (q := 8) rfl (tgt := 17) (by decide) (fun c1 => absurd c1 (by decide)) (fun c1 => ?_)
  refine v_aload_n h (i := 0) dX8_reason_8 (q := 9) rfl rfl rfl ?_
  refine v_iload_n h (i := 1) dX8_reason_9 (q := 10) rfl rfl rfl ?_
  refine v_iload_n h (i := 2) dX8_reason_10 (q := 11) rfl rfl rfl ?_
  refine v_callV1 h (c2_X8_reasonNow hfl hm (m := m) (show b < 8 by omega) hf8 (show pb_up sg M 0 (nI 0) (M + 5) b = nI f by rw [pb_up_neA (by omega)]; exact hf) (show pb_up sg M 0 (nI 0) M 20 = nI L by rw [pb_up_ne3 (by decide)]; exact hL) hL40 hJ hw hr) kX8_reasonNow tw1070 tw32 (by assumption) (by decide) rfl rfl rfl (by simp [Value.category]) (by decide) (Nat.zero_le _) (Nat.zero_le _) rfl dX8_reason_11 (q := 14) rfl ?_
  refine v_goto h dX8_reason_14 (tgt := 18) (by decide) ?_
  refine v_iret h hQ rfl rfl dX8_reason_18 (Nat.zero_le _) (Nat.zero_le _) ⟨rfl, rfl, rfl, rfl, rfl⟩
set_option maxHeartbeats 400000 in
set_option maxRecDepth 100000 in
theorem x1_X8_reason {l : Launch} (hfl : l.stackTraces = false) {sz : Nat} {sk : pb_Sk} {rf : pb_Rf} {sg : pb_Sg} {M : Nat} (hm : pb_md sk rf M) {n : Nat} (hn : sg M 8 = nI n) (hn8 : 1 ≤ n ∧ n ≤ 8) {x : Int32} (hx : ∀ b, b < n → ¬ x = nI b) {y : Int32} : pb_Met l mX8_reason 6 0 0 [.ref M, .int x, .int y] sz sk rf sg (pb_is (some (.int (nI 0))) sz sk rf (pb_up sg M 0 (nI 1))) := by
  refine pb_start hfl (by decide +kernel) rfl (pb_c1 rfl) (Nat.le_of_ble_eq_true rfl) (fun F hF h hQ => ?_)
  subst hF
  show pv F 0 0 sz sk rf sg 0 [some (.ref M), some (.int x), some (.int y)] []
  obtain ⟨hM0, hr1, hk1, hr2, hk2, hr3, hk3, hr4, hk4, hr5, hk5, hr6, hk6, hr7, hk7, hr8, hk8, hr9, hk9, hr10, hk10, hr11, hk11, hr12, hk12, hr13, hk13, hr14, hk14, hr15, hk15, hr16, hk16, hr17, hk17, hr18, hk18, hr19, hk19, hr20, hk20, hr21, hk21, hr22, hk22, hr23, hk23, hr24, hk24⟩ := id hm
  refine v_aload_n h (i := 0) dX8_reason_0 (q := 1) rfl rfl rfl ?_
  refine v_iload_n h (i := 1) dX8_reason_1 (q := 2) rfl rfl rfl ?_
  refine v_callV1 h (x1_X8_isOwn hfl hm hn hn8 hx) kX8_isOwn tw1066 tw31 (by assumption) (by decide) rfl rfl rfl (by simp [Value.category]) (by decide) (Nat.zero_le _) (Nat.zero_le _) rfl dX8_reason_2 (q := 5) rfl ?_
  refine v_if_eq h dX8_reason_5 (q := 8) rfl (tgt := 17) (by decide) (fun c1 => ?_) (fun c1 => absurd c1 (by decide))
  refine v_iconst h (v := nI 0) dX8_reason_17 (q := 18) rfl (by decide +kernel) ?_
  refine v_iret h hQ rfl rfl dX8_reason_18 (Nat.zero_le _) (Nat.zero_le _) ⟨rfl, rfl, rfl, rfl, rfl⟩
set_option maxHeartbeats 400000 in
set_option maxRecDepth 100000 in
theorem x2_X8_reason {l : Launch} (hfl : l.stackTraces = false) {sz : Nat} {sk : pb_Sk} {rf : pb_Rf} {sg : pb_Sg} {M : Nat} (hm : pb_md sk rf M) {n : Nat} (hn : sg M 8 = nI n) (hn8 : 1 ≤ n ∧ n ≤ 8) {b : Nat} (hb : b < n) (hz : b = 0) {y : Int32} : pb_Met l mX8_reason 6 0 0 [.ref M, .int (nI b), .int y] sz sk rf sg (pb_is (some (.int (nI 0))) sz sk rf (pb_up sg M 0 (nI 2))) := by
  refine pb_start hfl (by decide +kernel) rfl (pb_c1 rfl) (Nat.le_of_ble_eq_true rfl) (fun F hF h hQ => ?_)
  subst hF
  show pv F 0 0 sz sk rf sg 0 [some (.ref M), some (.int (nI b)), some (.int y)] []
  obtain ⟨hM0, hr1, hk1, hr2, hk2, hr3, hk3, hr4, hk4, hr5, hk5, hr6, hk6, hr7, hk7, hr8, hk8, hr9, hk9, hr10, hk10, hr11, hk11, hr12, hk12, hr13, hk13, hr14, hk14, hr15, hk15, hr16, hk16, hr17, hk17, hr18, hk18, hr19, hk19, hr20, hk20, hr21, hk21, hr22, hk22, hr23, hk23, hr24, hk24⟩ := id hm
  refine v_aload_n h (i := 0) dX8_reason_0 (q := 1) rfl rfl rfl ?_
  refine v_iload_n h (i := 1) dX8_reason_1 (q := 2) rfl rfl rfl ?_
  refine v_callV1 h (x2_X8_isOwn hfl hm hn hn8 hb hz) kX8_isOwn tw1066 tw31 (by assumption) (by decide) rfl rfl rfl (by simp [Value.category]) (by decide) (Nat.zero_le _) (Nat.zero_le _) rfl dX8_reason_2 (q := 5) rfl ?_
  refine v_if_eq h dX8_reason_5 (q := 8) rfl (tgt := 17) (by decide) (fun c1 => ?_) (fun c1 => absurd c1 (by decide))
  refine v_iconst h (v := nI 0) dX8_reason_17 (q := 18) rfl (by decide +kernel) ?_
  refine v_iret h hQ rfl rfl dX8_reason_18 (Nat.zero_le _) (Nat.zero_le _) ⟨rfl, rfl, rfl, rfl, rfl⟩
set_option maxHeartbeats 400000 in
set_option maxRecDepth 100000 in
theorem x1_X8_reasonTask {l : Launch} (hfl : l.stackTraces = false) {sz : Nat} {sk : pb_Sk} {rf : pb_Rf} {sg : pb_Sg} {M : Nat} (hm : pb_md sk rf M) {n : Nat} (hn : sg M 8 = nI n) (hn8 : 1 ≤ n ∧ n ≤ 8) {x : Int32} (hx : ∀ b, b < n → ¬ x = nI b) {y : Int32} : pb_Met l mX8_reasonTask 6 0 0 [.ref M, .int x, .int y] sz sk rf sg (pb_is (some (.int (nI 0))) sz sk rf (pb_up sg M 0 (nI 1))) := by
  refine pb_start hfl (by decide +kernel) rfl (pb_c1 rfl) (Nat.le_of_ble_eq_true rfl) (fun F hF h hQ => ?_)
  subst hF
  show pv F 0 0 sz sk rf sg 0 [some (.ref M), some (.int x), some (.int y), none, none] []
  obtain ⟨hM0, hr1, hk1, hr2, hk2, hr3, hk3, hr4, hk4, hr5, hk5, hr6, hk6, hr7, hk7, hr8, hk8, hr9, hk9, hr10, hk10, hr11, hk11, hr12, hk12, hr13, hk13, hr14, hk14, hr15, hk15, hr16, hk16, hr17, hk17, hr18, hk18, hr19, hk19, hr20, hk20, hr21, hk21, hr22, hk22, hr23, hk23, hr24, hk24⟩ := id hm
  refine v_aload_n h (i := 0) dX8_reasonTask_0 (q := 1) rfl rfl rfl ?_
  refine v_iload_n h (i := 1) dX8_reasonTask_1 (q := 2) rfl rfl rfl ?_
  refine v_callV1 h (x1_X8_isOwn hfl hm hn hn8 hx) kX8_isOwn tw1066 tw31 (by assumption) (by decide) rfl rfl rfl (by simp [Value.category]) (by decide) (Nat.zero_le _) (Nat.zero_le _) rfl dX8_reasonTask_2 (q := 5) rfl ?_
  refine v_if_ne h dX8_reasonTask_5 (q := 8) rfl (tgt := 10) (by decide) (fun c1 => absurd c1 (by decide)) (fun c1 => ?_)
  refine v_iconst h (v := nI 0) dX8_reasonTask_8 (q := 9) rfl (by decide +kernel) ?_
  refine v_iret h hQ rfl rfl dX8_reasonTask_9 (Nat.zero_le _) (Nat.zero_le _) ⟨rfl, rfl, rfl, rfl, rfl⟩
set_option maxHeartbeats 400000 in
set_option maxRecDepth 100000 in
theorem x2_X8_reasonTask {l : Launch} (hfl : l.stackTraces = false) {sz : Nat} {sk : pb_Sk} {rf : pb_Rf} {sg : pb_Sg} {M : Nat} (hm : pb_md sk rf M) {n : Nat} (hn : sg M 8 = nI n) (hn8 : 1 ≤ n ∧ n ≤ 8) {b : Nat} (hb : b < n) (hz : b = 0) {y : Int32} : pb_Met l mX8_reasonTask 6 0 0 [.ref M, .int (nI b), .int y] sz sk rf sg (pb_is (some (.int (nI 0))) sz sk rf (pb_up sg M 0 (nI 2))) := by
  refine pb_start hfl (by decide +kernel) rfl (pb_c1 rfl) (Nat.le_of_ble_eq_true rfl) (fun F hF h hQ => ?_)
  subst hF
  show pv F 0 0 sz sk rf sg 0 [some (.ref M), some (.int (nI b)), some (.int y), none, none] []
  obtain ⟨hM0, hr1, hk1, hr2, hk2, hr3, hk3, hr4, hk4, hr5, hk5, hr6, hk6, hr7, hk7, hr8, hk8, hr9, hk9, hr10, hk10, hr11, hk11, hr12, hk12, hr13, hk13, hr14, hk14, hr15, hk15, hr16, hk16, hr17, hk17, hr18, hk18, hr19, hk19, hr20, hk20, hr21, hk21, hr22, hk22, hr23, hk23, hr24, hk24⟩ := id hm
  refine v_aload_n h (i := 0) dX8_reasonTask_0 (q := 1) rfl rfl rfl ?_
  refine v_iload_n h (i := 1) dX8_reasonTask_1 (q := 2) rfl rfl rfl ?_
  refine v_callV1 h (x2_X8_isOwn hfl hm hn hn8 hb hz) kX8_isOwn tw1066 tw31 (by assumption) (by decide) rfl rfl rfl (by simp [Value.category]) (by decide) (Nat.zero_le _) (Nat.zero_le _) rfl dX8_reasonTask_2 (q := 5) rfl ?_
  refine v_if_ne h dX8_reasonTask_5 (q := 8) rfl (tgt := 10) (by decide) (fun c1 => absurd c1 (by decide)) (fun c1 => ?_)
  refine v_iconst h (v := nI 0) dX8_reasonTask_8 (q := 9) rfl (by decide +kernel) ?_
  refine v_iret h hQ rfl rfl dX8_reasonTask_9 (Nat.zero_le _) (Nat.zero_le _) ⟨rfl, rfl, rfl, rfl, rfl⟩
set_option maxHeartbeats 400000 in
set_option maxRecDepth 100000 in
theorem c_X8_reasonTask {l : Launch} (hfl : l.stackTraces = false) {sz : Nat} {sk : pb_Sk} {rf : pb_Rf} {sg : pb_Sg} {M : Nat} (hm : pb_md sk rf M) {n : Nat} (hn : sg M 8 = nI n) (hn8 : 1 ≤ n ∧ n ≤ 8) {b f L : Nat} (hb : b < n) (hpos : 0 < b) (hf8 : f < 8) (hf : sg (M + 5) b = nI f) (hL : sg M 20 = nI L) (hL40 : L ≤ 40) {m : Bool} {J : pb_Sg} (hJ : J = (pb_mjN (pb_up sg M 0 (nI 0)) M b f 16).1) (hw : pb_mw J M 16) {r : Int32 × pb_Sg} (hr : r = pb_mrs J M (pb_mto m f b) L) {u : pb_Sg × Int32} (hu : u = pb_mun r.2 M 16 (pb_mto m f b) L) : pb_Met l mX8_reasonTask 7 0 0 [.ref M, .int (nI b), .int (pb_b m)] sz sk rf sg (pb_is (some (.int (pb_mrt r M (pb_mto m f b) L).1)) sz sk rf ((pb_mrt r M (pb_mto m f b) L).2)) := by
  refine pb_start hfl (by decide +kernel) rfl (pb_c1 rfl) (Nat.le_of_ble_eq_true rfl) (fun F hF h hQ => ?_)
  subst hF
  show pv F 0 0 sz sk rf sg 0 [some (.ref M), some (.int (nI b)), some (.int (pb_b m)), none, none] []
  obtain ⟨hM0, hr1, hk1, hr2, hk2, hr3, hk3, hr4, hk4, hr5, hk5, hr6, hk6, hr7, hk7, hr8, hk8, hr9, hk9, hr10, hk10, hr11, hk11, hr12, hk12, hr13, hk13, hr14, hk14, hr15, hk15, hr16, hk16, hr17, hk17, hr18, hk18, hr19, hk19, hr20, hk20, hr21, hk21, hr22, hk22, hr23, hk23, hr24, hk24⟩ := id hm
  refine v_aload_n h (i := 0) dX8_reasonTask_0 (q := 1) rfl rfl rfl ?_
  refine v_iload_n h (i := 1) dX8_reasonTask_1 (q := 2) rfl rfl rfl ?_
  refine v_callV1 h (c_X8_isOwn hfl hm hn hn8 hb hpos) kX8_isOwn tw1066 tw31 (by assumption) (by decide) rfl rfl rfl (by simp [Value.category]) (by decide) (Nat.zero_le _) (Nat.zero_le _) rfl dX8_reasonTask_2 (q := 5) rfl ?_
  refine v_if_ne h dX8_reasonTask_5 (q := 8) rfl (tgt := 10) (by decide) (fun c1 => ?_) (fun c1 => absurd c1 (by decide))
  refine v_aload_n h (i := 0) dX8_reasonTask_10 (q := 11) rfl rfl rfl ?_
  refine v_iload_n h (i := 1) dX8_reasonTask_11 (q := 12) rfl rfl rfl ?_
  refine v_iload_n h (i := 2) dX8_reasonTask_12 (q := 13) rfl rfl rfl ?_
  refine v_callV1 h (c2_X8_reasonNow hfl hm (m := m) (show b < 8 by omega) hf8 (show pb_up sg M 0 (nI 0) (M + 5) b = nI f by rw [pb_up_neA (by omega)]; exact hf) (show pb_up sg M 0 (nI 0) M 20 = nI L by rw [pb_up_ne3 (by decide)]; exact hL) hL40 hJ hw hr) kX8_reasonNow tw1070 tw32 (by assumption) (by decide) rfl rfl rfl (by simp [Value.category]) (by decide) (Nat.zero_le _) (Nat.zero_le _) rfl dX8_reasonTask_13 (q := 16) rfl ?_
  refine v_istore_n h (i := 3) dX8_reasonTask_16 (q := 17) rfl rfl (Nat.le_of_ble_eq_true rfl) rfl ?_
  refine v_iload_n h (i := 2) dX8_reasonTask_17 (q := 18) rfl rfl rfl ?_
  refine v_if_eq h dX8_reasonTask_18 (q := 21) rfl (tgt := 30) (by decide) (fun c2 => ?_) (fun c2 => ?_)
  · skip
    have e6 := pb_b_0.mp c2
    have e7 : pb_mto m f b = b := if_neg (by rw [e6]; decide)
    refine v_iload_n h (i := 1) dX8_reasonTask_30 (q := 31) rfl rfl rfl ?_
    refine v_eq (st' := [.int (nI (pb_mto m f b))]) (by rw [e7]) ?_
    refine v_istore h dX8_reasonTask_31 (q := 33) rfl (Nat.le_of_ble_eq_true rfl) rfl ?_
    have hto : pb_mto m f b < 8 := by rw [e7]; omega
    refine v_iload_n h (i := 3) dX8_reasonTask_33 (q := 34) rfl rfl rfl ?_
    refine v_iconst h (v := nI 1) dX8_reasonTask_34 (q := 35) rfl (by decide +kernel) ?_
    refine v_icmp_ne h dX8_reasonTask_35 (q := 38) rfl (tgt := 48) (by decide) (fun k1 => ?_) (fun k1 => ?_)
    · skip
      refine v_iload_n h (i := 3) dX8_reasonTask_48 (q := 49) rfl rfl rfl ?_
      refine v_iconst h (v := nI 2) dX8_reasonTask_49 (q := 50) rfl (by decide +kernel) ?_
      refine v_icmp_ne h dX8_reasonTask_50 (q := 53) rfl (tgt := 63) (by decide) (fun k2 => ?_) (fun k2 => ?_)
      · skip
        refine v_iload_n h (i := 3) dX8_reasonTask_63 (q := 64) rfl rfl rfl ?_
        refine v_iconst h (v := nI 3) dX8_reasonTask_64 (q := 65) rfl (by decide +kernel) ?_
        refine v_icmp_ne h dX8_reasonTask_65 (q := 68) rfl (tgt := 78) (by decide) (fun k3 => ?_) (fun k3 => ?_)
        · skip
          refine v_iload_n h (i := 3) dX8_reasonTask_78 (q := 79) rfl rfl rfl ?_
          refine v_iconst h (v := nI 5) dX8_reasonTask_79 (q := 80) rfl (by decide +kernel) ?_
          refine v_icmp_ne h dX8_reasonTask_80 (q := 83) rfl (tgt := 97) (by decide) (fun k4 => ?_) (fun k4 => ?_)
          · skip
            have e8 : (pb_mrt r M (pb_mto m f b) L) = (-1, r.2) := by unfold pb_mrt; rw [if_neg k1, if_neg k2, if_neg k3, if_neg k4]
            refine v_iconst h (v := (-1)) dX8_reasonTask_97 (q := 98) rfl (by decide +kernel) ?_
            refine v_iret h hQ rfl rfl dX8_reasonTask_98 (Nat.zero_le _) (Nat.zero_le _) ⟨by rw [e8], rfl, rfl, rfl, by rw [e8]⟩
          · skip
            have e8 : (pb_mrt r M (pb_mto m f b) L) = (pb_low u.2 16, u.1) := by unfold pb_mrt; rw [if_neg k1, if_neg k2, if_neg k3, if_pos k4, ← hu]
            refine v_aload_n h (i := 0) dX8_reasonTask_83 (q := 84) rfl rfl rfl ?_
            refine v_bipush h (v := nI 16) dX8_reasonTask_84 (q := 86) rfl (by decide +kernel) ?_
            refine v_iload h dX8_reasonTask_86 (q := 88) rfl rfl ?_
            refine v_callV1 h (c2_X8_unplaced hfl hm (show 16 < 17 by decide) hto (show r.2 M 20 = nI L by rw [hr, pb_mrs_ne (by omega), hJ, pb_mjN_M (by decide), pb_up_ne3 (by decide)]; exact hL) hL40 (hw.of (by rw [hr, pb_mrs_ne (by omega)]) (by rw [hr, pb_mrs_ne (by omega)])) hu) kX8_unplaced tw1082 tw35 (by assumption) (by decide) rfl rfl rfl (by simp [Value.category]) (by decide) (Nat.zero_le _) (Nat.zero_le _) rfl dX8_reasonTask_88 (q := 91) rfl ?_
            refine v_callS1 h (c_X8_lowest hfl ) kX8_lowest rfl tw1114 rfl rfl (by simp [Value.category]) (by decide) (Nat.zero_le _) (Nat.zero_le _) rfl dX8_reasonTask_91 (q := 94) rfl ?_
            refine v_goto h dX8_reasonTask_94 (tgt := 98) (by decide) ?_
            refine v_iret h hQ rfl rfl dX8_reasonTask_98 (Nat.zero_le _) (Nat.zero_le _) ⟨by rw [e8], rfl, rfl, rfl, by rw [e8]⟩
        · skip
          have e8 : (pb_mrt r M (pb_mto m f b) L) = (pb_low (pb_mrg r.2 M) 16, r.2) := by unfold pb_mrt; rw [if_neg k1, if_neg k2, if_pos k3]
          refine v_aload_n h (i := 0) dX8_reasonTask_68 (q := 69) rfl rfl rfl ?_
          refine v_callV1 h (c_X8_rings hfl hm) kX8_rings tw1078 tw34 (by assumption) (by decide) rfl rfl rfl (by simp [Value.category]) (by decide) (Nat.zero_le _) (Nat.zero_le _) rfl dX8_reasonTask_69 (q := 72) rfl ?_
          refine v_eq (st' := [.int (pb_mrg r.2 M)]) rfl ?_
          refine v_callS1 h (c_X8_lowest hfl ) kX8_lowest rfl tw1114 rfl rfl (by simp [Value.category]) (by decide) (Nat.zero_le _) (Nat.zero_le _) rfl dX8_reasonTask_72 (q := 75) rfl ?_
          refine v_goto h dX8_reasonTask_75 (tgt := 98) (by decide) ?_
          refine v_iret h hQ rfl rfl dX8_reasonTask_98 (Nat.zero_le _) (Nat.zero_le _) ⟨by rw [e8], rfl, rfl, rfl, by rw [e8]⟩
      · skip
        have e8 : (pb_mrt r M (pb_mto m f b) L) = (pb_low (pb_set (pb_mmis r.2 M) 16) 16, r.2) := by unfold pb_mrt; rw [if_neg k1, if_pos k2]
        refine v_aload_n h (i := 0) dX8_reasonTask_53 (q := 54) rfl rfl rfl ?_
        refine v_callV1 h (c_X8_missing hfl hm) kX8_missing tw1074 tw33 (by assumption) (by decide) rfl rfl rfl (by simp [Value.category]) (by decide) (Nat.zero_le _) (Nat.zero_le _) rfl dX8_reasonTask_54 (q := 57) rfl ?_
        refine v_callS1 h (c_X8_lowest hfl ) kX8_lowest rfl tw1114 rfl rfl (by simp [Value.category]) (by decide) (Nat.zero_le _) (Nat.zero_le _) rfl dX8_reasonTask_57 (q := 60) rfl ?_
        refine v_goto h dX8_reasonTask_60 (tgt := 98) (by decide) ?_
        refine v_iret h hQ rfl rfl dX8_reasonTask_98 (Nat.zero_le _) (Nat.zero_le _) ⟨by rw [e8], rfl, rfl, rfl, by rw [e8]⟩
    · skip
      have e8 : (pb_mrt r M (pb_mto m f b) L) = (pb_low (r.2 M 27) 16, r.2) := by unfold pb_mrt; rw [if_pos k1]
      refine v_aload_n h (i := 0) dX8_reasonTask_38 (q := 39) rfl rfl rfl ?_
      refine v_geti h fl_X8_165 (by assumption) rfl dX8_reasonTask_39 (q := 42) rfl ?_
      refine v_callS1 h (c_X8_lowest hfl ) kX8_lowest rfl tw1114 rfl rfl (by simp [Value.category]) (by decide) (Nat.zero_le _) (Nat.zero_le _) rfl dX8_reasonTask_42 (q := 45) rfl ?_
      refine v_goto h dX8_reasonTask_45 (tgt := 98) (by decide) ?_
      refine v_iret h hQ rfl rfl dX8_reasonTask_98 (Nat.zero_le _) (Nat.zero_le _) ⟨by rw [e8], rfl, rfl, rfl, by rw [e8]⟩
  · skip
    have e6 := pb_ne_f (fun q => c2 (pb_b_0.mpr q))
    have e7 : pb_mto m f b = f := if_pos e6
    refine v_aload_n h (i := 0) dX8_reasonTask_21 (q := 22) rfl rfl rfl ?_
    refine v_getr h fl_X8_22 (by assumption) rfl (by assumption) dX8_reasonTask_22 (q := 25) rfl ?_
    refine v_iload_n h (i := 1) dX8_reasonTask_25 (q := 26) rfl rfl rfl ?_
    refine v_iald h (by assumption) rfl (by first | assumption | omega) (by decide) dX8_reasonTask_26 (q := 27) rfl ?_
    refine v_eq (st' := [.int (nI f)]) (by rw [(show r.2 (M + 5) b = nI f by rw [hr, pb_mrs_ne (by omega), hJ, pb_mjN_ne (by omega), pb_up_neA (by omega)]; exact hf)]) ?_
    refine v_goto h dX8_reasonTask_27 (tgt := 31) (by decide) ?_
    refine v_eq (st' := [.int (nI (pb_mto m f b))]) (by rw [e7]) ?_
    refine v_istore h dX8_reasonTask_31 (q := 33) rfl (Nat.le_of_ble_eq_true rfl) rfl ?_
    have hto : pb_mto m f b < 8 := by rw [e7]; omega
    refine v_iload_n h (i := 3) dX8_reasonTask_33 (q := 34) rfl rfl rfl ?_
    refine v_iconst h (v := nI 1) dX8_reasonTask_34 (q := 35) rfl (by decide +kernel) ?_
    refine v_icmp_ne h dX8_reasonTask_35 (q := 38) rfl (tgt := 48) (by decide) (fun k1 => ?_) (fun k1 => ?_)
    · skip
      refine v_iload_n h (i := 3) dX8_reasonTask_48 (q := 49) rfl rfl rfl ?_
      refine v_iconst h (v := nI 2) dX8_reasonTask_49 (q := 50) rfl (by decide +kernel) ?_
      refine v_icmp_ne h dX8_reasonTask_50 (q := 53) rfl (tgt := 63) (by decide) (fun k2 => ?_) (fun k2 => ?_)
      · skip
        refine v_iload_n h (i := 3) dX8_reasonTask_63 (q := 64) rfl rfl rfl ?_
        refine v_iconst h (v := nI 3) dX8_reasonTask_64 (q := 65) rfl (by decide +kernel) ?_
        refine v_icmp_ne h dX8_reasonTask_65 (q := 68) rfl (tgt := 78) (by decide) (fun k3 => ?_) (fun k3 => ?_)
        · skip
          refine v_iload_n h (i := 3) dX8_reasonTask_78 (q := 79) rfl rfl rfl ?_
          refine v_iconst h (v := nI 5) dX8_reasonTask_79 (q := 80) rfl (by decide +kernel) ?_
          refine v_icmp_ne h dX8_reasonTask_80 (q := 83) rfl (tgt := 97) (by decide) (fun k4 => ?_) (fun k4 => ?_)
          · skip
            have e8 : (pb_mrt r M (pb_mto m f b) L) = (-1, r.2) := by unfold pb_mrt; rw [if_neg k1, if_neg k2, if_neg k3, if_neg k4]
            refine v_iconst h (v := (-1)) dX8_reasonTask_97 (q := 98) rfl (by decide +kernel) ?_
            refine v_iret h hQ rfl rfl dX8_reasonTask_98 (Nat.zero_le _) (Nat.zero_le _) ⟨by rw [e8], rfl, rfl, rfl, by rw [e8]⟩
          · skip
            have e8 : (pb_mrt r M (pb_mto m f b) L) = (pb_low u.2 16, u.1) := by unfold pb_mrt; rw [if_neg k1, if_neg k2, if_neg k3, if_pos k4, ← hu]
            refine v_aload_n h (i := 0) dX8_reasonTask_83 (q := 84) rfl rfl rfl ?_
            refine v_bipush h (v := nI 16) dX8_reasonTask_84 (q := 86) rfl (by decide +kernel) ?_
            refine v_iload h dX8_reasonTask_86 (q := 88) rfl rfl ?_
            refine v_callV1 h (c2_X8_unplaced hfl hm (show 16 < 17 by decide) hto (show r.2 M 20 = nI L by rw [hr, pb_mrs_ne (by omega), hJ, pb_mjN_M (by decide), pb_up_ne3 (by decide)]; exact hL) hL40 (hw.of (by rw [hr, pb_mrs_ne (by omega)]) (by rw [hr, pb_mrs_ne (by omega)])) hu) kX8_unplaced tw1082 tw35 (by assumption) (by decide) rfl rfl rfl (by simp [Value.category]) (by decide) (Nat.zero_le _) (Nat.zero_le _) rfl dX8_reasonTask_88 (q := 91) rfl ?_
            refine v_callS1 h (c_X8_lowest hfl ) kX8_lowest rfl tw1114 rfl rfl (by simp [Value.category]) (by decide) (Nat.zero_le _) (Nat.zero_le _) rfl dX8_reasonTask_91 (q := 94) rfl ?_
            refine v_goto h dX8_reasonTask_94 (tgt := 98) (by decide) ?_
            refine v_iret h hQ rfl rfl dX8_reasonTask_98 (Nat.zero_le _) (Nat.zero_le _) ⟨by rw [e8], rfl, rfl, rfl, by rw [e8]⟩
        · skip
          have e8 : (pb_mrt r M (pb_mto m f b) L) = (pb_low (pb_mrg r.2 M) 16, r.2) := by unfold pb_mrt; rw [if_neg k1, if_neg k2, if_pos k3]
          refine v_aload_n h (i := 0) dX8_reasonTask_68 (q := 69) rfl rfl rfl ?_
          refine v_callV1 h (c_X8_rings hfl hm) kX8_rings tw1078 tw34 (by assumption) (by decide) rfl rfl rfl (by simp [Value.category]) (by decide) (Nat.zero_le _) (Nat.zero_le _) rfl dX8_reasonTask_69 (q := 72) rfl ?_
          refine v_eq (st' := [.int (pb_mrg r.2 M)]) rfl ?_
          refine v_callS1 h (c_X8_lowest hfl ) kX8_lowest rfl tw1114 rfl rfl (by simp [Value.category]) (by decide) (Nat.zero_le _) (Nat.zero_le _) rfl dX8_reasonTask_72 (q := 75) rfl ?_
          refine v_goto h dX8_reasonTask_75 (tgt := 98) (by decide) ?_
          refine v_iret h hQ rfl rfl dX8_reasonTask_98 (Nat.zero_le _) (Nat.zero_le _) ⟨by rw [e8], rfl, rfl, rfl, by rw [e8]⟩
      · skip
        have e8 : (pb_mrt r M (pb_mto m f b) L) = (pb_low (pb_set (pb_mmis r.2 M) 16) 16, r.2) := by unfold pb_mrt; rw [if_neg k1, if_pos k2]
        refine v_aload_n h (i := 0) dX8_reasonTask_53 (q := 54) rfl rfl rfl ?_
        refine v_callV1 h (c_X8_missing hfl hm) kX8_missing tw1074 tw33 (by assumption) (by decide) rfl rfl rfl (by simp [Value.category]) (by decide) (Nat.zero_le _) (Nat.zero_le _) rfl dX8_reasonTask_54 (q := 57) rfl ?_
        refine v_callS1 h (c_X8_lowest hfl ) kX8_lowest rfl tw1114 rfl rfl (by simp [Value.category]) (by decide) (Nat.zero_le _) (Nat.zero_le _) rfl dX8_reasonTask_57 (q := 60) rfl ?_
        refine v_goto h dX8_reasonTask_60 (tgt := 98) (by decide) ?_
        refine v_iret h hQ rfl rfl dX8_reasonTask_98 (Nat.zero_le _) (Nat.zero_le _) ⟨by rw [e8], rfl, rfl, rfl, by rw [e8]⟩
    · skip
      have e8 : (pb_mrt r M (pb_mto m f b) L) = (pb_low (r.2 M 27) 16, r.2) := by unfold pb_mrt; rw [if_pos k1]
      refine v_aload_n h (i := 0) dX8_reasonTask_38 (q := 39) rfl rfl rfl ?_
      refine v_geti h fl_X8_165 (by assumption) rfl dX8_reasonTask_39 (q := 42) rfl ?_
      refine v_callS1 h (c_X8_lowest hfl ) kX8_lowest rfl tw1114 rfl rfl (by simp [Value.category]) (by decide) (Nat.zero_le _) (Nat.zero_le _) rfl dX8_reasonTask_42 (q := 45) rfl ?_
      refine v_goto h dX8_reasonTask_45 (tgt := 98) (by decide) ?_
      refine v_iret h hQ rfl rfl dX8_reasonTask_98 (Nat.zero_le _) (Nat.zero_le _) ⟨by rw [e8], rfl, rfl, rfl, by rw [e8]⟩
set_option maxHeartbeats 400000 in
set_option maxRecDepth 100000 in
theorem c_X8_clashes {l : Launch} (hfl : l.stackTraces = false) {sz : Nat} {sk : pb_Sk} {rf : pb_Rf} {sg : pb_Sg} {M : Nat} (hm : pb_md sk rf M) {n : Nat} (hn : sg M 8 = nI n) (hn8 : 1 ≤ n ∧ n ≤ 8) {b f : Nat} (hb : b < n) (hpos : 0 < b) (hf8 : f < 8) (hf : sg (M + 5) b = nI f) {j : pb_Sg × Int32} (hj : j = pb_mjN (pb_up sg M 0 (nI 0)) M b f 16) : pb_Met l mX8_clashes 6 0 0 [.ref M, .int (nI b)] sz sk rf sg (pb_is (some (.int j.2)) sz sk rf j.1) := by
  refine pb_start hfl (by decide +kernel) rfl (pb_c1 rfl) (Nat.le_of_ble_eq_true rfl) (fun F hF h hQ => ?_)
  subst hF
  show pv F 0 0 sz sk rf sg 0 [some (.ref M), some (.int (nI b))] []
  obtain ⟨hM0, hr1, hk1, hr2, hk2, hr3, hk3, hr4, hk4, hr5, hk5, hr6, hk6, hr7, hk7, hr8, hk8, hr9, hk9, hr10, hk10, hr11, hk11, hr12, hk12, hr13, hk13, hr14, hk14, hr15, hk15, hr16, hk16, hr17, hk17, hr18, hk18, hr19, hk19, hr20, hk20, hr21, hk21, hr22, hk22, hr23, hk23, hr24, hk24⟩ := id hm
  refine v_aload_n h (i := 0) dX8_clashes_0 (q := 1) rfl rfl rfl ?_
  refine v_aload_n h (i := 0) dX8_clashes_1 (q := 2) rfl rfl rfl ?_
  refine v_iload_n h (i := 1) dX8_clashes_2 (q := 3) rfl rfl rfl ?_
  refine v_callV1 h (c_X8_isBranch hfl hm hb hn hn8.2) kX8_isBranch tw925 tw13 (by assumption) (by decide) rfl rfl rfl (by simp [Value.category]) (by decide) (Nat.zero_le _) (Nat.zero_le _) rfl dX8_clashes_3 (q := 6) rfl ?_
  refine v_if_eq h dX8_clashes_6 (q := 9) rfl (tgt := 13) (by decide) (fun c1 => absurd c1 (by decide)) (fun c1 => ?_)
  refine v_iconst h (v := nI 0) dX8_clashes_9 (q := 10) rfl (by decide +kernel) ?_
  refine v_goto h dX8_clashes_10 (tgt := 14) (by decide) ?_
  refine v_callV1 h (c_X8_isFine hfl hm) kX8_isFine tw929 tw14 (by assumption) (by decide) rfl rfl rfl (by simp [Value.category]) (by decide) (Nat.zero_le _) (Nat.zero_le _) rfl dX8_clashes_14 (q := 17) rfl ?_
  refine v_if_ne h dX8_clashes_17 (q := 20) rfl (tgt := 22) (by decide) (fun c2 => ?_) (fun c2 => absurd c2 (by decide))
  refine v_iload_n h (i := 1) dX8_clashes_22 (q := 23) rfl rfl rfl ?_
  refine v_if_ne h dX8_clashes_23 (q := 26) rfl (tgt := 30) (by decide) (fun c3 => ?_) (fun c3 => absurd c3 (nI_ne0 hpos (by omega)))
  refine v_aload_n h (i := 0) dX8_clashes_30 (q := 31) rfl rfl rfl ?_
  refine v_iload_n h (i := 1) dX8_clashes_31 (q := 32) rfl rfl rfl ?_
  refine v_callV1 h (c2_X8_joins hfl hm (show b < 8 by omega) hf8 (show pb_up sg M 0 (nI 0) (M + 5) b = nI f by rw [pb_up_neA (by omega)]; exact hf) hj) kX8_joins tw1040 tw27 (by assumption) (by decide) rfl rfl rfl (by simp [Value.category]) (by decide) (Nat.zero_le _) (Nat.zero_le _) rfl dX8_clashes_32 (q := 35) rfl ?_
  refine v_iret h hQ rfl rfl dX8_clashes_35 (Nat.zero_le _) (Nat.zero_le _) ⟨rfl, rfl, rfl, rfl, rfl⟩
set_option maxHeartbeats 400000 in
set_option maxRecDepth 100000 in
theorem c0_X8_clashes {l : Launch} (hfl : l.stackTraces = false) {sz : Nat} {sk : pb_Sk} {rf : pb_Rf} {sg : pb_Sg} {M : Nat} (hm : pb_md sk rf M) {n : Nat} (hn : sg M 8 = nI n) (hn8 : 1 ≤ n ∧ n ≤ 8) {b : Nat} (hb : b < n) (hz : b = 0) : pb_Met l mX8_clashes 6 0 0 [.ref M, .int (nI b)] sz sk rf sg (pb_is (some (.int (nI 0))) sz sk rf (pb_up sg M 0 (nI 0))) := by
  refine pb_start hfl (by decide +kernel) rfl (pb_c1 rfl) (Nat.le_of_ble_eq_true rfl) (fun F hF h hQ => ?_)
  subst hF
  show pv F 0 0 sz sk rf sg 0 [some (.ref M), some (.int (nI b))] []
  obtain ⟨hM0, hr1, hk1, hr2, hk2, hr3, hk3, hr4, hk4, hr5, hk5, hr6, hk6, hr7, hk7, hr8, hk8, hr9, hk9, hr10, hk10, hr11, hk11, hr12, hk12, hr13, hk13, hr14, hk14, hr15, hk15, hr16, hk16, hr17, hk17, hr18, hk18, hr19, hk19, hr20, hk20, hr21, hk21, hr22, hk22, hr23, hk23, hr24, hk24⟩ := id hm
  refine v_aload_n h (i := 0) dX8_clashes_0 (q := 1) rfl rfl rfl ?_
  refine v_aload_n h (i := 0) dX8_clashes_1 (q := 2) rfl rfl rfl ?_
  refine v_iload_n h (i := 1) dX8_clashes_2 (q := 3) rfl rfl rfl ?_
  refine v_callV1 h (c_X8_isBranch hfl hm hb hn hn8.2) kX8_isBranch tw925 tw13 (by assumption) (by decide) rfl rfl rfl (by simp [Value.category]) (by decide) (Nat.zero_le _) (Nat.zero_le _) rfl dX8_clashes_3 (q := 6) rfl ?_
  refine v_if_eq h dX8_clashes_6 (q := 9) rfl (tgt := 13) (by decide) (fun c1 => absurd c1 (by decide)) (fun c1 => ?_)
  refine v_iconst h (v := nI 0) dX8_clashes_9 (q := 10) rfl (by decide +kernel) ?_
  refine v_goto h dX8_clashes_10 (tgt := 14) (by decide) ?_
  refine v_callV1 h (c_X8_isFine hfl hm) kX8_isFine tw929 tw14 (by assumption) (by decide) rfl rfl rfl (by simp [Value.category]) (by decide) (Nat.zero_le _) (Nat.zero_le _) rfl dX8_clashes_14 (q := 17) rfl ?_
  refine v_if_ne h dX8_clashes_17 (q := 20) rfl (tgt := 22) (by decide) (fun c2 => ?_) (fun c2 => absurd c2 (by decide))
  refine v_iload_n h (i := 1) dX8_clashes_22 (q := 23) rfl rfl rfl ?_
  refine v_if_ne h dX8_clashes_23 (q := 26) rfl (tgt := 30) (by decide) (fun c3 => absurd (by rw [hz]; rfl) c3) (fun c3 => ?_)
  refine v_iconst h (v := nI 0) dX8_clashes_26 (q := 27) rfl (by decide +kernel) ?_
  refine v_goto h dX8_clashes_27 (tgt := 35) (by decide) ?_
  refine v_iret h hQ rfl rfl dX8_clashes_35 (Nat.zero_le _) (Nat.zero_le _) ⟨rfl, rfl, rfl, rfl, rfl⟩
set_option maxHeartbeats 400000 in
set_option maxRecDepth 100000 in
theorem x1_X8_clashes {l : Launch} (hfl : l.stackTraces = false) {sz : Nat} {sk : pb_Sk} {rf : pb_Rf} {sg : pb_Sg} {M : Nat} (hm : pb_md sk rf M) {n : Nat} (hn : sg M 8 = nI n) (hn8 : 1 ≤ n ∧ n ≤ 8) {x : Int32} (hx : ∀ b, b < n → ¬ x = nI b) : pb_Met l mX8_clashes 6 0 0 [.ref M, .int x] sz sk rf sg (pb_is (some (.int (nI 0))) sz sk rf (pb_up sg M 0 (nI 1))) := by
  refine pb_start hfl (by decide +kernel) rfl (pb_c1 rfl) (Nat.le_of_ble_eq_true rfl) (fun F hF h hQ => ?_)
  subst hF
  show pv F 0 0 sz sk rf sg 0 [some (.ref M), some (.int x)] []
  obtain ⟨hM0, hr1, hk1, hr2, hk2, hr3, hk3, hr4, hk4, hr5, hk5, hr6, hk6, hr7, hk7, hr8, hk8, hr9, hk9, hr10, hk10, hr11, hk11, hr12, hk12, hr13, hk13, hr14, hk14, hr15, hk15, hr16, hk16, hr17, hk17, hr18, hk18, hr19, hk19, hr20, hk20, hr21, hk21, hr22, hk22, hr23, hk23, hr24, hk24⟩ := id hm
  refine v_aload_n h (i := 0) dX8_clashes_0 (q := 1) rfl rfl rfl ?_
  refine v_aload_n h (i := 0) dX8_clashes_1 (q := 2) rfl rfl rfl ?_
  refine v_iload_n h (i := 1) dX8_clashes_2 (q := 3) rfl rfl rfl ?_
  refine v_callV1 h (x_X8_isBranch hfl hm hx hn hn8) kX8_isBranch tw925 tw13 (by assumption) (by decide) rfl rfl rfl (by simp [Value.category]) (by decide) (Nat.zero_le _) (Nat.zero_le _) rfl dX8_clashes_3 (q := 6) rfl ?_
  refine v_if_eq h dX8_clashes_6 (q := 9) rfl (tgt := 13) (by decide) (fun c1 => ?_) (fun c1 => absurd c1 (by decide))
  refine v_iconst h (v := nI 1) dX8_clashes_13 (q := 14) rfl (by decide +kernel) ?_
  refine v_callV1 h (x_X8_isFine hfl hm (by decide)) kX8_isFine tw929 tw14 (by assumption) (by decide) rfl rfl rfl (by simp [Value.category]) (by decide) (Nat.zero_le _) (Nat.zero_le _) rfl dX8_clashes_14 (q := 17) rfl ?_
  refine v_if_ne h dX8_clashes_17 (q := 20) rfl (tgt := 22) (by decide) (fun c2 => absurd c2 (by decide)) (fun c2 => ?_)
  refine v_iconst h (v := nI 0) dX8_clashes_20 (q := 21) rfl (by decide +kernel) ?_
  refine v_iret h hQ rfl rfl dX8_clashes_21 (Nat.zero_le _) (Nat.zero_le _) ⟨rfl, rfl, rfl, rfl, rfl⟩
def pb_mmg (T : pb_Sg) (M b f : Nat) : pb_Sg := pb_fillN (pb_mcN (pb_up (pb_mcN (pb_up (pb_mcN T M 16 f 16) (M + 13) f (nI 0)) M 16 b 16) (M + 13) b (nI 0)) M 16 (8 + b) 16) (M + 7) (16 * b) (-1) 16
def pb_mud (T : pb_Sg) (M b f : Nat) : pb_Sg := pb_fillN (pb_mcN (pb_up (pb_mcN T M 16 b 16) (M + 13) b (nI 0)) M f (8 + b) 16) (M + 7) (16 * b) (-1) 16
set_option maxHeartbeats 400000 in
set_option maxRecDepth 100000 in
theorem c_X8_merge {l : Launch} (hfl : l.stackTraces = false) {sz : Nat} {sk : pb_Sk} {rf : pb_Rf} {sg : pb_Sg} {M : Nat} (hm : pb_md sk rf M) {n : Nat} (hn : sg M 8 = nI n) (hn8 : 1 ≤ n ∧ n ≤ 8) {b f L : Nat} (hb : b < n) (hpos : 0 < b) (hf8 : f < 8) (hf : sg (M + 5) b = nI f) (hL : sg M 20 = nI L) (hL40 : L ≤ 40) {J : pb_Sg} (hJ : J = (pb_mjN sg M b f 16).1) (hw : pb_mw J M 16) {r : Int32 × pb_Sg} (hr : r = pb_mrs J M (pb_mto true f b) L) (hr0 : r.1 = 0) : pb_Met l mX8_merge 7 0 0 [.ref M, .int (nI b)] sz sk rf sg (pb_is (some (.int (nI (pb_cnt (fun t => !pb_msame (pb_up r.2 M 0 (nI 0)) M f 16 t) 16)))) sz sk rf (pb_mmg (pb_up r.2 M 0 (nI 0)) M b f)) := by
  refine pb_start hfl (by decide +kernel) rfl (pb_c1 rfl) (Nat.le_of_ble_eq_true rfl) (fun F hF h hQ => ?_)
  subst hF
  show pv F 0 0 sz sk rf sg 0 [some (.ref M), some (.int (nI b)), none, none, none] []
  obtain ⟨hM0, hr1, hk1, hr2, hk2, hr3, hk3, hr4, hk4, hr5, hk5, hr6, hk6, hr7, hk7, hr8, hk8, hr9, hk9, hr10, hk10, hr11, hk11, hr12, hk12, hr13, hk13, hr14, hk14, hr15, hk15, hr16, hk16, hr17, hk17, hr18, hk18, hr19, hk19, hr20, hk20, hr21, hk21, hr22, hk22, hr23, hk23, hr24, hk24⟩ := id hm
  refine v_aload_n h (i := 0) dX8_merge_0 (q := 1) rfl rfl rfl ?_
  refine v_iload_n h (i := 1) dX8_merge_1 (q := 2) rfl rfl rfl ?_
  refine v_callV1 h (c_X8_isBranch hfl hm hb hn hn8.2) kX8_isBranch tw925 tw13 (by assumption) (by decide) rfl rfl rfl (by simp [Value.category]) (by decide) (Nat.zero_le _) (Nat.zero_le _) rfl dX8_merge_2 (q := 5) rfl ?_
  refine v_istore_n h (i := 2) dX8_merge_5 (q := 6) rfl rfl (Nat.le_of_ble_eq_true rfl) rfl ?_
  refine v_iload_n h (i := 2) dX8_merge_6 (q := 7) rfl rfl rfl ?_
  refine v_if_eq h dX8_merge_7 (q := 10) rfl (tgt := 27) (by decide) (fun c1 => absurd c1 (by decide)) (fun c1 => ?_)
  refine v_iload_n h (i := 1) dX8_merge_10 (q := 11) rfl rfl rfl ?_
  refine v_if_le h dX8_merge_11 (q := 14) rfl (tgt := 27) (by decide) (fun c2 => absurd c2 (nI_nle hpos (by omega))) (fun c2 => ?_)
  refine v_aload_n h (i := 0) dX8_merge_14 (q := 15) rfl rfl rfl ?_
  refine v_iload_n h (i := 1) dX8_merge_15 (q := 16) rfl rfl rfl ?_
  refine v_iconst h (v := nI 1) dX8_merge_16 (q := 17) rfl (by decide +kernel) ?_
  refine v_callV1 h (c2_X8_reasonNow hfl hm (m := true) (show b < 8 by omega) hf8 hf hL hL40 hJ hw hr) kX8_reasonNow tw1070 tw32 (by assumption) (by decide) rfl rfl rfl (by simp [Value.category]) (by decide) (Nat.zero_le _) (Nat.zero_le _) rfl dX8_merge_17 (q := 20) rfl ?_
  refine v_if_ne h dX8_merge_20 (q := 23) rfl (tgt := 27) (by decide) (fun c3 => absurd hr0 c3) (fun c3 => ?_)
  refine v_iconst h (v := nI 1) dX8_merge_23 (q := 24) rfl (by decide +kernel) ?_
  refine v_goto h dX8_merge_24 (tgt := 28) (by decide) ?_
  refine v_istore_n h (i := 3) dX8_merge_28 (q := 29) rfl rfl (Nat.le_of_ble_eq_true rfl) rfl ?_
  refine v_aload_n h (i := 0) dX8_merge_29 (q := 30) rfl rfl rfl ?_
  refine v_iload_n h (i := 2) dX8_merge_30 (q := 31) rfl rfl rfl ?_
  refine v_if_ne h dX8_merge_31 (q := 34) rfl (tgt := 38) (by decide) (fun c4 => ?_) (fun c4 => absurd c4 (by decide))
  refine v_iload_n h (i := 3) dX8_merge_38 (q := 39) rfl rfl rfl ?_
  refine v_if_ne h dX8_merge_39 (q := 42) rfl (tgt := 46) (by decide) (fun c5 => ?_) (fun c5 => absurd c5 (by decide))
  refine v_iconst h (v := nI 0) dX8_merge_46 (q := 47) rfl (by decide +kernel) ?_
  refine v_callV1 h (c_X8_isFine hfl hm) kX8_isFine tw929 tw14 (by assumption) (by decide) rfl rfl rfl (by simp [Value.category]) (by decide) (Nat.zero_le _) (Nat.zero_le _) rfl dX8_merge_47 (q := 50) rfl ?_
  refine v_if_ne h dX8_merge_50 (q := 53) rfl (tgt := 55) (by decide) (fun c6 => ?_) (fun c6 => absurd c6 (by decide))
  refine v_aload_n h (i := 0) dX8_merge_55 (q := 56) rfl rfl rfl ?_
  refine v_aload_n h (i := 0) dX8_merge_56 (q := 57) rfl rfl rfl ?_
  refine v_getr h fl_X8_22 (by assumption) rfl (by assumption) dX8_merge_57 (q := 60) rfl ?_
  refine v_iload_n h (i := 1) dX8_merge_60 (q := 61) rfl rfl rfl ?_
  refine v_iald h (by assumption) rfl (by first | assumption | omega) (by decide) dX8_merge_61 (q := 62) rfl ?_
  refine v_eq (st' := [.int (nI f), .ref M]) (by rw [pb_up_neA (by omega), hr, pb_mrs_ne (by omega), hJ, pb_mjN_ne (by omega), hf]) ?_
  refine v_callV1 h (c_X8_becomes hfl hm hf8) kX8_becomes tw1121 tw42 (by assumption) (by decide) rfl rfl rfl (by simp [Value.category]) (by decide) (Nat.zero_le _) (Nat.zero_le _) rfl dX8_merge_62 (q := 65) rfl ?_
  refine v_istore h dX8_merge_65 (q := 67) rfl (Nat.le_of_ble_eq_true rfl) rfl ?_
  refine v_aload_n h (i := 0) dX8_merge_67 (q := 68) rfl rfl rfl ?_
  refine v_bipush h (v := nI 16) dX8_merge_68 (q := 70) rfl (by decide +kernel) ?_
  refine v_iload_n h (i := 1) dX8_merge_70 (q := 71) rfl rfl rfl ?_
  refine v_callV0 h (c_X8_copies hfl hm (show 16 < 17 by decide) (show b < 17 by omega)) kX8_copies tw1008 tw24 (by assumption) (by decide) rfl rfl rfl (by simp [Value.category]) (by decide) (Nat.zero_le _) (Nat.zero_le _) rfl dX8_merge_71 (q := 74) rfl ?_
  refine v_aload_n h (i := 0) dX8_merge_74 (q := 75) rfl rfl rfl ?_
  refine v_getr h fl_X8_50 (by assumption) rfl (by assumption) dX8_merge_75 (q := 78) rfl ?_
  refine v_iload_n h (i := 1) dX8_merge_78 (q := 79) rfl rfl rfl ?_
  refine v_iconst h (v := nI 0) dX8_merge_79 (q := 80) rfl (by decide +kernel) ?_
  refine v_iast h (by assumption) rfl (by first | assumption | omega) (by decide) dX8_merge_80 (q := 81) rfl ?_
  refine v_aload_n h (i := 0) dX8_merge_81 (q := 82) rfl rfl rfl ?_
  refine v_bipush h (v := nI 16) dX8_merge_82 (q := 84) rfl (by decide +kernel) ?_
  refine v_bipush h (v := nI 8) dX8_merge_84 (q := 86) rfl (by decide +kernel) ?_
  refine v_iload_n h (i := 1) dX8_merge_86 (q := 87) rfl rfl rfl ?_
  refine v_iadd h dX8_merge_87 (q := 88) rfl ?_
  refine v_eq (st' := [.int (nI (8 + b)), .int (nI 16), .ref M]) (by rw [nI_add]) ?_
  refine v_callV0 h (c_X8_copies hfl hm (show 16 < 17 by decide) (show 8 + b < 17 by omega)) kX8_copies tw1008 tw24 (by assumption) (by decide) rfl rfl rfl (by simp [Value.category]) (by decide) (Nat.zero_le _) (Nat.zero_le _) rfl dX8_merge_88 (q := 91) rfl ?_
  refine v_aload_n h (i := 0) dX8_merge_91 (q := 92) rfl rfl rfl ?_
  refine v_iload_n h (i := 1) dX8_merge_92 (q := 93) rfl rfl rfl ?_
  refine v_callV0 h (c_X8_forgets hfl hm (show b < 8 by omega)) kX8_forgets tw1016 tw26 (by assumption) (by decide) rfl rfl rfl (by simp [Value.category]) (by decide) (Nat.zero_le _) (Nat.zero_le _) rfl dX8_merge_93 (q := 96) rfl ?_
  refine v_iload h dX8_merge_96 (q := 98) rfl rfl ?_
  refine v_iret h hQ rfl rfl dX8_merge_98 (Nat.zero_le _) (Nat.zero_le _) ⟨rfl, rfl, rfl, rfl, rfl⟩
set_option maxHeartbeats 400000 in
set_option maxRecDepth 100000 in
theorem x3_X8_merge {l : Launch} (hfl : l.stackTraces = false) {sz : Nat} {sk : pb_Sk} {rf : pb_Rf} {sg : pb_Sg} {M : Nat} (hm : pb_md sk rf M) {n : Nat} (hn : sg M 8 = nI n) (hn8 : 1 ≤ n ∧ n ≤ 8) {b f L : Nat} (hb : b < n) (hpos : 0 < b) (hf8 : f < 8) (hf : sg (M + 5) b = nI f) (hL : sg M 20 = nI L) (hL40 : L ≤ 40) {J : pb_Sg} (hJ : J = (pb_mjN sg M b f 16).1) (hw : pb_mw J M 16) {r : Int32 × pb_Sg} (hr : r = pb_mrs J M (pb_mto true f b) L) (hr0 : ¬ r.1 = 0) : pb_Met l mX8_merge 7 0 0 [.ref M, .int (nI b)] sz sk rf sg (pb_is (some (.int (nI 0))) sz sk rf (pb_up r.2 M 0 (nI 2))) := by
  refine pb_start hfl (by decide +kernel) rfl (pb_c1 rfl) (Nat.le_of_ble_eq_true rfl) (fun F hF h hQ => ?_)
  subst hF
  show pv F 0 0 sz sk rf sg 0 [some (.ref M), some (.int (nI b)), none, none, none] []
  obtain ⟨hM0, hr1, hk1, hr2, hk2, hr3, hk3, hr4, hk4, hr5, hk5, hr6, hk6, hr7, hk7, hr8, hk8, hr9, hk9, hr10, hk10, hr11, hk11, hr12, hk12, hr13, hk13, hr14, hk14, hr15, hk15, hr16, hk16, hr17, hk17, hr18, hk18, hr19, hk19, hr20, hk20, hr21, hk21, hr22, hk22, hr23, hk23, hr24, hk24⟩ := id hm
  refine v_aload_n h (i := 0) dX8_merge_0 (q := 1) rfl rfl rfl ?_
  refine v_iload_n h (i := 1) dX8_merge_1 (q := 2) rfl rfl rfl ?_
  refine v_callV1 h (c_X8_isBranch hfl hm hb hn hn8.2) kX8_isBranch tw925 tw13 (by assumption) (by decide) rfl rfl rfl (by simp [Value.category]) (by decide) (Nat.zero_le _) (Nat.zero_le _) rfl dX8_merge_2 (q := 5) rfl ?_
  refine v_istore_n h (i := 2) dX8_merge_5 (q := 6) rfl rfl (Nat.le_of_ble_eq_true rfl) rfl ?_
  refine v_iload_n h (i := 2) dX8_merge_6 (q := 7) rfl rfl rfl ?_
  refine v_if_eq h dX8_merge_7 (q := 10) rfl (tgt := 27) (by decide) (fun c1 => absurd c1 (by decide)) (fun c1 => ?_)
  refine v_iload_n h (i := 1) dX8_merge_10 (q := 11) rfl rfl rfl ?_
  refine v_if_le h dX8_merge_11 (q := 14) rfl (tgt := 27) (by decide) (fun c2 => absurd c2 (nI_nle hpos (by omega))) (fun c2 => ?_)
  refine v_aload_n h (i := 0) dX8_merge_14 (q := 15) rfl rfl rfl ?_
  refine v_iload_n h (i := 1) dX8_merge_15 (q := 16) rfl rfl rfl ?_
  refine v_iconst h (v := nI 1) dX8_merge_16 (q := 17) rfl (by decide +kernel) ?_
  refine v_callV1 h (c2_X8_reasonNow hfl hm (m := true) (show b < 8 by omega) hf8 hf hL hL40 hJ hw hr) kX8_reasonNow tw1070 tw32 (by assumption) (by decide) rfl rfl rfl (by simp [Value.category]) (by decide) (Nat.zero_le _) (Nat.zero_le _) rfl dX8_merge_17 (q := 20) rfl ?_
  refine v_if_ne h dX8_merge_20 (q := 23) rfl (tgt := 27) (by decide) (fun c3 => ?_) (fun c3 => absurd c3 hr0)
  refine v_iconst h (v := nI 0) dX8_merge_27 (q := 28) rfl (by decide +kernel) ?_
  refine v_istore_n h (i := 3) dX8_merge_28 (q := 29) rfl rfl (Nat.le_of_ble_eq_true rfl) rfl ?_
  refine v_aload_n h (i := 0) dX8_merge_29 (q := 30) rfl rfl rfl ?_
  refine v_iload_n h (i := 2) dX8_merge_30 (q := 31) rfl rfl rfl ?_
  refine v_if_ne h dX8_merge_31 (q := 34) rfl (tgt := 38) (by decide) (fun c4 => ?_) (fun c4 => absurd c4 (by decide))
  refine v_iload_n h (i := 3) dX8_merge_38 (q := 39) rfl rfl rfl ?_
  refine v_if_ne h dX8_merge_39 (q := 42) rfl (tgt := 46) (by decide) (fun c5 => absurd c5 (by decide)) (fun c5 => ?_)
  refine v_iconst h (v := nI 2) dX8_merge_42 (q := 43) rfl (by decide +kernel) ?_
  refine v_goto h dX8_merge_43 (tgt := 47) (by decide) ?_
  refine v_callV1 h (x_X8_isFine hfl hm (by decide)) kX8_isFine tw929 tw14 (by assumption) (by decide) rfl rfl rfl (by simp [Value.category]) (by decide) (Nat.zero_le _) (Nat.zero_le _) rfl dX8_merge_47 (q := 50) rfl ?_
  refine v_if_ne h dX8_merge_50 (q := 53) rfl (tgt := 55) (by decide) (fun c6 => absurd c6 (by decide)) (fun c6 => ?_)
  refine v_iconst h (v := nI 0) dX8_merge_53 (q := 54) rfl (by decide +kernel) ?_
  refine v_iret h hQ rfl rfl dX8_merge_54 (Nat.zero_le _) (Nat.zero_le _) ⟨rfl, rfl, rfl, rfl, rfl⟩
set_option maxHeartbeats 400000 in
set_option maxRecDepth 100000 in
theorem x2_X8_merge {l : Launch} (hfl : l.stackTraces = false) {sz : Nat} {sk : pb_Sk} {rf : pb_Rf} {sg : pb_Sg} {M : Nat} (hm : pb_md sk rf M) {n : Nat} (hn : sg M 8 = nI n) (hn8 : 1 ≤ n ∧ n ≤ 8) {b : Nat} (hb : b < n) (hz : b = 0) : pb_Met l mX8_merge 7 0 0 [.ref M, .int (nI b)] sz sk rf sg (pb_is (some (.int (nI 0))) sz sk rf (pb_up sg M 0 (nI 2))) := by
  refine pb_start hfl (by decide +kernel) rfl (pb_c1 rfl) (Nat.le_of_ble_eq_true rfl) (fun F hF h hQ => ?_)
  subst hF
  show pv F 0 0 sz sk rf sg 0 [some (.ref M), some (.int (nI b)), none, none, none] []
  obtain ⟨hM0, hr1, hk1, hr2, hk2, hr3, hk3, hr4, hk4, hr5, hk5, hr6, hk6, hr7, hk7, hr8, hk8, hr9, hk9, hr10, hk10, hr11, hk11, hr12, hk12, hr13, hk13, hr14, hk14, hr15, hk15, hr16, hk16, hr17, hk17, hr18, hk18, hr19, hk19, hr20, hk20, hr21, hk21, hr22, hk22, hr23, hk23, hr24, hk24⟩ := id hm
  refine v_aload_n h (i := 0) dX8_merge_0 (q := 1) rfl rfl rfl ?_
  refine v_iload_n h (i := 1) dX8_merge_1 (q := 2) rfl rfl rfl ?_
  refine v_callV1 h (c_X8_isBranch hfl hm hb hn hn8.2) kX8_isBranch tw925 tw13 (by assumption) (by decide) rfl rfl rfl (by simp [Value.category]) (by decide) (Nat.zero_le _) (Nat.zero_le _) rfl dX8_merge_2 (q := 5) rfl ?_
  refine v_istore_n h (i := 2) dX8_merge_5 (q := 6) rfl rfl (Nat.le_of_ble_eq_true rfl) rfl ?_
  refine v_iload_n h (i := 2) dX8_merge_6 (q := 7) rfl rfl rfl ?_
  refine v_if_eq h dX8_merge_7 (q := 10) rfl (tgt := 27) (by decide) (fun c1 => absurd c1 (by decide)) (fun c1 => ?_)
  refine v_iload_n h (i := 1) dX8_merge_10 (q := 11) rfl rfl rfl ?_
  refine v_if_le h dX8_merge_11 (q := 14) rfl (tgt := 27) (by decide) (fun c2 => ?_) (fun c2 => absurd (show nI b ≤ 0 by rw [hz]; decide) c2)
  refine v_iconst h (v := nI 0) dX8_merge_27 (q := 28) rfl (by decide +kernel) ?_
  refine v_istore_n h (i := 3) dX8_merge_28 (q := 29) rfl rfl (Nat.le_of_ble_eq_true rfl) rfl ?_
  refine v_aload_n h (i := 0) dX8_merge_29 (q := 30) rfl rfl rfl ?_
  refine v_iload_n h (i := 2) dX8_merge_30 (q := 31) rfl rfl rfl ?_
  refine v_if_ne h dX8_merge_31 (q := 34) rfl (tgt := 38) (by decide) (fun c3 => ?_) (fun c3 => absurd c3 (by decide))
  refine v_iload_n h (i := 3) dX8_merge_38 (q := 39) rfl rfl rfl ?_
  refine v_if_ne h dX8_merge_39 (q := 42) rfl (tgt := 46) (by decide) (fun c4 => absurd c4 (by decide)) (fun c4 => ?_)
  refine v_iconst h (v := nI 2) dX8_merge_42 (q := 43) rfl (by decide +kernel) ?_
  refine v_goto h dX8_merge_43 (tgt := 47) (by decide) ?_
  refine v_callV1 h (x_X8_isFine hfl hm (by decide)) kX8_isFine tw929 tw14 (by assumption) (by decide) rfl rfl rfl (by simp [Value.category]) (by decide) (Nat.zero_le _) (Nat.zero_le _) rfl dX8_merge_47 (q := 50) rfl ?_
  refine v_if_ne h dX8_merge_50 (q := 53) rfl (tgt := 55) (by decide) (fun c5 => absurd c5 (by decide)) (fun c5 => ?_)
  refine v_iconst h (v := nI 0) dX8_merge_53 (q := 54) rfl (by decide +kernel) ?_
  refine v_iret h hQ rfl rfl dX8_merge_54 (Nat.zero_le _) (Nat.zero_le _) ⟨rfl, rfl, rfl, rfl, rfl⟩
set_option maxHeartbeats 400000 in
set_option maxRecDepth 100000 in
theorem x1_X8_merge {l : Launch} (hfl : l.stackTraces = false) {sz : Nat} {sk : pb_Sk} {rf : pb_Rf} {sg : pb_Sg} {M : Nat} (hm : pb_md sk rf M) {n : Nat} (hn : sg M 8 = nI n) (hn8 : 1 ≤ n ∧ n ≤ 8) {x : Int32} (hx : ∀ b, b < n → ¬ x = nI b) : pb_Met l mX8_merge 7 0 0 [.ref M, .int x] sz sk rf sg (pb_is (some (.int (nI 0))) sz sk rf (pb_up sg M 0 (nI 1))) := by
  refine pb_start hfl (by decide +kernel) rfl (pb_c1 rfl) (Nat.le_of_ble_eq_true rfl) (fun F hF h hQ => ?_)
  subst hF
  show pv F 0 0 sz sk rf sg 0 [some (.ref M), some (.int x), none, none, none] []
  obtain ⟨hM0, hr1, hk1, hr2, hk2, hr3, hk3, hr4, hk4, hr5, hk5, hr6, hk6, hr7, hk7, hr8, hk8, hr9, hk9, hr10, hk10, hr11, hk11, hr12, hk12, hr13, hk13, hr14, hk14, hr15, hk15, hr16, hk16, hr17, hk17, hr18, hk18, hr19, hk19, hr20, hk20, hr21, hk21, hr22, hk22, hr23, hk23, hr24, hk24⟩ := id hm
  refine v_aload_n h (i := 0) dX8_merge_0 (q := 1) rfl rfl rfl ?_
  refine v_iload_n h (i := 1) dX8_merge_1 (q := 2) rfl rfl rfl ?_
  refine v_callV1 h (x_X8_isBranch hfl hm hx hn hn8) kX8_isBranch tw925 tw13 (by assumption) (by decide) rfl rfl rfl (by simp [Value.category]) (by decide) (Nat.zero_le _) (Nat.zero_le _) rfl dX8_merge_2 (q := 5) rfl ?_
  refine v_istore_n h (i := 2) dX8_merge_5 (q := 6) rfl rfl (Nat.le_of_ble_eq_true rfl) rfl ?_
  refine v_iload_n h (i := 2) dX8_merge_6 (q := 7) rfl rfl rfl ?_
  refine v_if_eq h dX8_merge_7 (q := 10) rfl (tgt := 27) (by decide) (fun c1 => ?_) (fun c1 => absurd c1 (by decide))
  refine v_iconst h (v := nI 0) dX8_merge_27 (q := 28) rfl (by decide +kernel) ?_
  refine v_istore_n h (i := 3) dX8_merge_28 (q := 29) rfl rfl (Nat.le_of_ble_eq_true rfl) rfl ?_
  refine v_aload_n h (i := 0) dX8_merge_29 (q := 30) rfl rfl rfl ?_
  refine v_iload_n h (i := 2) dX8_merge_30 (q := 31) rfl rfl rfl ?_
  refine v_if_ne h dX8_merge_31 (q := 34) rfl (tgt := 38) (by decide) (fun c2 => absurd c2 (by decide)) (fun c2 => ?_)
  refine v_iconst h (v := nI 1) dX8_merge_34 (q := 35) rfl (by decide +kernel) ?_
  refine v_goto h dX8_merge_35 (tgt := 47) (by decide) ?_
  refine v_callV1 h (x_X8_isFine hfl hm (by decide)) kX8_isFine tw929 tw14 (by assumption) (by decide) rfl rfl rfl (by simp [Value.category]) (by decide) (Nat.zero_le _) (Nat.zero_le _) rfl dX8_merge_47 (q := 50) rfl ?_
  refine v_if_ne h dX8_merge_50 (q := 53) rfl (tgt := 55) (by decide) (fun c3 => absurd c3 (by decide)) (fun c3 => ?_)
  refine v_iconst h (v := nI 0) dX8_merge_53 (q := 54) rfl (by decide +kernel) ?_
  refine v_iret h hQ rfl rfl dX8_merge_54 (Nat.zero_le _) (Nat.zero_le _) ⟨rfl, rfl, rfl, rfl, rfl⟩
set_option maxHeartbeats 400000 in
set_option maxRecDepth 100000 in
theorem c_X8_update {l : Launch} (hfl : l.stackTraces = false) {sz : Nat} {sk : pb_Sk} {rf : pb_Rf} {sg : pb_Sg} {M : Nat} (hm : pb_md sk rf M) {n : Nat} (hn : sg M 8 = nI n) (hn8 : 1 ≤ n ∧ n ≤ 8) {b f L : Nat} (hb : b < n) (hpos : 0 < b) (hf8 : f < 8) (hf : sg (M + 5) b = nI f) (hL : sg M 20 = nI L) (hL40 : L ≤ 40) {J : pb_Sg} (hJ : J = (pb_mjN sg M b f 16).1) (hw : pb_mw J M 16) {r : Int32 × pb_Sg} (hr : r = pb_mrs J M (pb_mto false f b) L) (hr0 : r.1 = 0) : pb_Met l mX8_update 7 0 0 [.ref M, .int (nI b)] sz sk rf sg (pb_is (some (.int (nI (pb_cnt (fun t => !pb_msame (pb_up r.2 M 0 (nI 0)) M b 16 t) 16)))) sz sk rf (pb_mud (pb_up r.2 M 0 (nI 0)) M b f)) := by
  refine pb_start hfl (by decide +kernel) rfl (pb_c1 rfl) (Nat.le_of_ble_eq_true rfl) (fun F hF h hQ => ?_)
  subst hF
  show pv F 0 0 sz sk rf sg 0 [some (.ref M), some (.int (nI b)), none, none, none] []
  obtain ⟨hM0, hr1, hk1, hr2, hk2, hr3, hk3, hr4, hk4, hr5, hk5, hr6, hk6, hr7, hk7, hr8, hk8, hr9, hk9, hr10, hk10, hr11, hk11, hr12, hk12, hr13, hk13, hr14, hk14, hr15, hk15, hr16, hk16, hr17, hk17, hr18, hk18, hr19, hk19, hr20, hk20, hr21, hk21, hr22, hk22, hr23, hk23, hr24, hk24⟩ := id hm
  refine v_aload_n h (i := 0) dX8_update_0 (q := 1) rfl rfl rfl ?_
  refine v_iload_n h (i := 1) dX8_update_1 (q := 2) rfl rfl rfl ?_
  refine v_callV1 h (c_X8_isBranch hfl hm hb hn hn8.2) kX8_isBranch tw925 tw13 (by assumption) (by decide) rfl rfl rfl (by simp [Value.category]) (by decide) (Nat.zero_le _) (Nat.zero_le _) rfl dX8_update_2 (q := 5) rfl ?_
  refine v_istore_n h (i := 2) dX8_update_5 (q := 6) rfl rfl (Nat.le_of_ble_eq_true rfl) rfl ?_
  refine v_iload_n h (i := 2) dX8_update_6 (q := 7) rfl rfl rfl ?_
  refine v_if_eq h dX8_update_7 (q := 10) rfl (tgt := 27) (by decide) (fun c1 => absurd c1 (by decide)) (fun c1 => ?_)
  refine v_iload_n h (i := 1) dX8_update_10 (q := 11) rfl rfl rfl ?_
  refine v_if_le h dX8_update_11 (q := 14) rfl (tgt := 27) (by decide) (fun c2 => absurd c2 (nI_nle hpos (by omega))) (fun c2 => ?_)
  refine v_aload_n h (i := 0) dX8_update_14 (q := 15) rfl rfl rfl ?_
  refine v_iload_n h (i := 1) dX8_update_15 (q := 16) rfl rfl rfl ?_
  refine v_iconst h (v := nI 0) dX8_update_16 (q := 17) rfl (by decide +kernel) ?_
  refine v_callV1 h (c2_X8_reasonNow hfl hm (m := false) (show b < 8 by omega) hf8 hf hL hL40 hJ hw hr) kX8_reasonNow tw1070 tw32 (by assumption) (by decide) rfl rfl rfl (by simp [Value.category]) (by decide) (Nat.zero_le _) (Nat.zero_le _) rfl dX8_update_17 (q := 20) rfl ?_
  refine v_if_ne h dX8_update_20 (q := 23) rfl (tgt := 27) (by decide) (fun c3 => absurd hr0 c3) (fun c3 => ?_)
  refine v_iconst h (v := nI 1) dX8_update_23 (q := 24) rfl (by decide +kernel) ?_
  refine v_goto h dX8_update_24 (tgt := 28) (by decide) ?_
  refine v_istore_n h (i := 3) dX8_update_28 (q := 29) rfl rfl (Nat.le_of_ble_eq_true rfl) rfl ?_
  refine v_aload_n h (i := 0) dX8_update_29 (q := 30) rfl rfl rfl ?_
  refine v_iload_n h (i := 2) dX8_update_30 (q := 31) rfl rfl rfl ?_
  refine v_if_ne h dX8_update_31 (q := 34) rfl (tgt := 38) (by decide) (fun c4 => ?_) (fun c4 => absurd c4 (by decide))
  refine v_iload_n h (i := 3) dX8_update_38 (q := 39) rfl rfl rfl ?_
  refine v_if_ne h dX8_update_39 (q := 42) rfl (tgt := 46) (by decide) (fun c5 => ?_) (fun c5 => absurd c5 (by decide))
  refine v_iconst h (v := nI 0) dX8_update_46 (q := 47) rfl (by decide +kernel) ?_
  refine v_callV1 h (c_X8_isFine hfl hm) kX8_isFine tw929 tw14 (by assumption) (by decide) rfl rfl rfl (by simp [Value.category]) (by decide) (Nat.zero_le _) (Nat.zero_le _) rfl dX8_update_47 (q := 50) rfl ?_
  refine v_if_ne h dX8_update_50 (q := 53) rfl (tgt := 55) (by decide) (fun c6 => ?_) (fun c6 => absurd c6 (by decide))
  refine v_aload_n h (i := 0) dX8_update_55 (q := 56) rfl rfl rfl ?_
  refine v_iload_n h (i := 1) dX8_update_56 (q := 57) rfl rfl rfl ?_
  refine v_callV1 h (c_X8_becomes hfl hm (show b < 8 by omega)) kX8_becomes tw1121 tw42 (by assumption) (by decide) rfl rfl rfl (by simp [Value.category]) (by decide) (Nat.zero_le _) (Nat.zero_le _) rfl dX8_update_57 (q := 60) rfl ?_
  refine v_istore h dX8_update_60 (q := 62) rfl (Nat.le_of_ble_eq_true rfl) rfl ?_
  refine v_aload_n h (i := 0) dX8_update_62 (q := 63) rfl rfl rfl ?_
  refine v_aload_n h (i := 0) dX8_update_63 (q := 64) rfl rfl rfl ?_
  refine v_getr h fl_X8_22 (by assumption) rfl (by assumption) dX8_update_64 (q := 67) rfl ?_
  refine v_iload_n h (i := 1) dX8_update_67 (q := 68) rfl rfl rfl ?_
  refine v_iald h (by assumption) rfl (by first | assumption | omega) (by decide) dX8_update_68 (q := 69) rfl ?_
  refine v_eq (st' := [.int (nI f), .ref M]) (by rw [pb_up_neA (by omega), pb_mcN_ne (by omega), pb_up_neA (by omega), hr, pb_mrs_ne (by omega), hJ, pb_mjN_ne (by omega), hf]) ?_
  refine v_bipush h (v := nI 8) dX8_update_69 (q := 71) rfl (by decide +kernel) ?_
  refine v_iload_n h (i := 1) dX8_update_71 (q := 72) rfl rfl rfl ?_
  refine v_iadd h dX8_update_72 (q := 73) rfl ?_
  refine v_eq (st' := [.int (nI (8 + b)), .int (nI f), .ref M]) (by rw [nI_add]) ?_
  refine v_callV0 h (c_X8_copies hfl hm (show f < 17 by omega) (show 8 + b < 17 by omega)) kX8_copies tw1008 tw24 (by assumption) (by decide) rfl rfl rfl (by simp [Value.category]) (by decide) (Nat.zero_le _) (Nat.zero_le _) rfl dX8_update_73 (q := 76) rfl ?_
  refine v_aload_n h (i := 0) dX8_update_76 (q := 77) rfl rfl rfl ?_
  refine v_iload_n h (i := 1) dX8_update_77 (q := 78) rfl rfl rfl ?_
  refine v_callV0 h (c_X8_forgets hfl hm (show b < 8 by omega)) kX8_forgets tw1016 tw26 (by assumption) (by decide) rfl rfl rfl (by simp [Value.category]) (by decide) (Nat.zero_le _) (Nat.zero_le _) rfl dX8_update_78 (q := 81) rfl ?_
  refine v_iload h dX8_update_81 (q := 83) rfl rfl ?_
  refine v_iret h hQ rfl rfl dX8_update_83 (Nat.zero_le _) (Nat.zero_le _) ⟨rfl, rfl, rfl, rfl, rfl⟩
set_option maxHeartbeats 400000 in
set_option maxRecDepth 100000 in
theorem x3_X8_update {l : Launch} (hfl : l.stackTraces = false) {sz : Nat} {sk : pb_Sk} {rf : pb_Rf} {sg : pb_Sg} {M : Nat} (hm : pb_md sk rf M) {n : Nat} (hn : sg M 8 = nI n) (hn8 : 1 ≤ n ∧ n ≤ 8) {b f L : Nat} (hb : b < n) (hpos : 0 < b) (hf8 : f < 8) (hf : sg (M + 5) b = nI f) (hL : sg M 20 = nI L) (hL40 : L ≤ 40) {J : pb_Sg} (hJ : J = (pb_mjN sg M b f 16).1) (hw : pb_mw J M 16) {r : Int32 × pb_Sg} (hr : r = pb_mrs J M (pb_mto false f b) L) (hr0 : ¬ r.1 = 0) : pb_Met l mX8_update 7 0 0 [.ref M, .int (nI b)] sz sk rf sg (pb_is (some (.int (nI 0))) sz sk rf (pb_up r.2 M 0 (nI 2))) := by
  refine pb_start hfl (by decide +kernel) rfl (pb_c1 rfl) (Nat.le_of_ble_eq_true rfl) (fun F hF h hQ => ?_)
  subst hF
  show pv F 0 0 sz sk rf sg 0 [some (.ref M), some (.int (nI b)), none, none, none] []
  obtain ⟨hM0, hr1, hk1, hr2, hk2, hr3, hk3, hr4, hk4, hr5, hk5, hr6, hk6, hr7, hk7, hr8, hk8, hr9, hk9, hr10, hk10, hr11, hk11, hr12, hk12, hr13, hk13, hr14, hk14, hr15, hk15, hr16, hk16, hr17, hk17, hr18, hk18, hr19, hk19, hr20, hk20, hr21, hk21, hr22, hk22, hr23, hk23, hr24, hk24⟩ := id hm
  refine v_aload_n h (i := 0) dX8_update_0 (q := 1) rfl rfl rfl ?_
  refine v_iload_n h (i := 1) dX8_update_1 (q := 2) rfl rfl rfl ?_
  refine v_callV1 h (c_X8_isBranch hfl hm hb hn hn8.2) kX8_isBranch tw925 tw13 (by assumption) (by decide) rfl rfl rfl (by simp [Value.category]) (by decide) (Nat.zero_le _) (Nat.zero_le _) rfl dX8_update_2 (q := 5) rfl ?_
  refine v_istore_n h (i := 2) dX8_update_5 (q := 6) rfl rfl (Nat.le_of_ble_eq_true rfl) rfl ?_
  refine v_iload_n h (i := 2) dX8_update_6 (q := 7) rfl rfl rfl ?_
  refine v_if_eq h dX8_update_7 (q := 10) rfl (tgt := 27) (by decide) (fun c1 => absurd c1 (by decide)) (fun c1 => ?_)
  refine v_iload_n h (i := 1) dX8_update_10 (q := 11) rfl rfl rfl ?_
  refine v_if_le h dX8_update_11 (q := 14) rfl (tgt := 27) (by decide) (fun c2 => absurd c2 (nI_nle hpos (by omega))) (fun c2 => ?_)
  refine v_aload_n h (i := 0) dX8_update_14 (q := 15) rfl rfl rfl ?_
  refine v_iload_n h (i := 1) dX8_update_15 (q := 16) rfl rfl rfl ?_
  refine v_iconst h (v := nI 0) dX8_update_16 (q := 17) rfl (by decide +kernel) ?_
  refine v_callV1 h (c2_X8_reasonNow hfl hm (m := false) (show b < 8 by omega) hf8 hf hL hL40 hJ hw hr) kX8_reasonNow tw1070 tw32 (by assumption) (by decide) rfl rfl rfl (by simp [Value.category]) (by decide) (Nat.zero_le _) (Nat.zero_le _) rfl dX8_update_17 (q := 20) rfl ?_
  refine v_if_ne h dX8_update_20 (q := 23) rfl (tgt := 27) (by decide) (fun c3 => ?_) (fun c3 => absurd c3 hr0)
  refine v_iconst h (v := nI 0) dX8_update_27 (q := 28) rfl (by decide +kernel) ?_
  refine v_istore_n h (i := 3) dX8_update_28 (q := 29) rfl rfl (Nat.le_of_ble_eq_true rfl) rfl ?_
  refine v_aload_n h (i := 0) dX8_update_29 (q := 30) rfl rfl rfl ?_
  refine v_iload_n h (i := 2) dX8_update_30 (q := 31) rfl rfl rfl ?_
  refine v_if_ne h dX8_update_31 (q := 34) rfl (tgt := 38) (by decide) (fun c4 => ?_) (fun c4 => absurd c4 (by decide))
  refine v_iload_n h (i := 3) dX8_update_38 (q := 39) rfl rfl rfl ?_
  refine v_if_ne h dX8_update_39 (q := 42) rfl (tgt := 46) (by decide) (fun c5 => absurd c5 (by decide)) (fun c5 => ?_)
  refine v_iconst h (v := nI 2) dX8_update_42 (q := 43) rfl (by decide +kernel) ?_
  refine v_goto h dX8_update_43 (tgt := 47) (by decide) ?_
  refine v_callV1 h (x_X8_isFine hfl hm (by decide)) kX8_isFine tw929 tw14 (by assumption) (by decide) rfl rfl rfl (by simp [Value.category]) (by decide) (Nat.zero_le _) (Nat.zero_le _) rfl dX8_update_47 (q := 50) rfl ?_
  refine v_if_ne h dX8_update_50 (q := 53) rfl (tgt := 55) (by decide) (fun c6 => absurd c6 (by decide)) (fun c6 => ?_)
  refine v_iconst h (v := nI 0) dX8_update_53 (q := 54) rfl (by decide +kernel) ?_
  refine v_iret h hQ rfl rfl dX8_update_54 (Nat.zero_le _) (Nat.zero_le _) ⟨rfl, rfl, rfl, rfl, rfl⟩
set_option maxHeartbeats 400000 in
set_option maxRecDepth 100000 in
theorem x2_X8_update {l : Launch} (hfl : l.stackTraces = false) {sz : Nat} {sk : pb_Sk} {rf : pb_Rf} {sg : pb_Sg} {M : Nat} (hm : pb_md sk rf M) {n : Nat} (hn : sg M 8 = nI n) (hn8 : 1 ≤ n ∧ n ≤ 8) {b : Nat} (hb : b < n) (hz : b = 0) : pb_Met l mX8_update 7 0 0 [.ref M, .int (nI b)] sz sk rf sg (pb_is (some (.int (nI 0))) sz sk rf (pb_up sg M 0 (nI 2))) := by
  refine pb_start hfl (by decide +kernel) rfl (pb_c1 rfl) (Nat.le_of_ble_eq_true rfl) (fun F hF h hQ => ?_)
  subst hF
  show pv F 0 0 sz sk rf sg 0 [some (.ref M), some (.int (nI b)), none, none, none] []
  obtain ⟨hM0, hr1, hk1, hr2, hk2, hr3, hk3, hr4, hk4, hr5, hk5, hr6, hk6, hr7, hk7, hr8, hk8, hr9, hk9, hr10, hk10, hr11, hk11, hr12, hk12, hr13, hk13, hr14, hk14, hr15, hk15, hr16, hk16, hr17, hk17, hr18, hk18, hr19, hk19, hr20, hk20, hr21, hk21, hr22, hk22, hr23, hk23, hr24, hk24⟩ := id hm
  refine v_aload_n h (i := 0) dX8_update_0 (q := 1) rfl rfl rfl ?_
  refine v_iload_n h (i := 1) dX8_update_1 (q := 2) rfl rfl rfl ?_
  refine v_callV1 h (c_X8_isBranch hfl hm hb hn hn8.2) kX8_isBranch tw925 tw13 (by assumption) (by decide) rfl rfl rfl (by simp [Value.category]) (by decide) (Nat.zero_le _) (Nat.zero_le _) rfl dX8_update_2 (q := 5) rfl ?_
  refine v_istore_n h (i := 2) dX8_update_5 (q := 6) rfl rfl (Nat.le_of_ble_eq_true rfl) rfl ?_
  refine v_iload_n h (i := 2) dX8_update_6 (q := 7) rfl rfl rfl ?_
  refine v_if_eq h dX8_update_7 (q := 10) rfl (tgt := 27) (by decide) (fun c1 => absurd c1 (by decide)) (fun c1 => ?_)
  refine v_iload_n h (i := 1) dX8_update_10 (q := 11) rfl rfl rfl ?_
  refine v_if_le h dX8_update_11 (q := 14) rfl (tgt := 27) (by decide) (fun c2 => ?_) (fun c2 => absurd (show nI b ≤ 0 by rw [hz]; decide) c2)
  refine v_iconst h (v := nI 0) dX8_update_27 (q := 28) rfl (by decide +kernel) ?_
  refine v_istore_n h (i := 3) dX8_update_28 (q := 29) rfl rfl (Nat.le_of_ble_eq_true rfl) rfl ?_
  refine v_aload_n h (i := 0) dX8_update_29 (q := 30) rfl rfl rfl ?_
  refine v_iload_n h (i := 2) dX8_update_30 (q := 31) rfl rfl rfl ?_
  refine v_if_ne h dX8_update_31 (q := 34) rfl (tgt := 38) (by decide) (fun c3 => ?_) (fun c3 => absurd c3 (by decide))
  refine v_iload_n h (i := 3) dX8_update_38 (q := 39) rfl rfl rfl ?_
  refine v_if_ne h dX8_update_39 (q := 42) rfl (tgt := 46) (by decide) (fun c4 => absurd c4 (by decide)) (fun c4 => ?_)
  refine v_iconst h (v := nI 2) dX8_update_42 (q := 43) rfl (by decide +kernel) ?_
  refine v_goto h dX8_update_43 (tgt := 47) (by decide) ?_
  refine v_callV1 h (x_X8_isFine hfl hm (by decide)) kX8_isFine tw929 tw14 (by assumption) (by decide) rfl rfl rfl (by simp [Value.category]) (by decide) (Nat.zero_le _) (Nat.zero_le _) rfl dX8_update_47 (q := 50) rfl ?_
  refine v_if_ne h dX8_update_50 (q := 53) rfl (tgt := 55) (by decide) (fun c5 => absurd c5 (by decide)) (fun c5 => ?_)
  refine v_iconst h (v := nI 0) dX8_update_53 (q := 54) rfl (by decide +kernel) ?_
  refine v_iret h hQ rfl rfl dX8_update_54 (Nat.zero_le _) (Nat.zero_le _) ⟨rfl, rfl, rfl, rfl, rfl⟩
set_option maxHeartbeats 400000 in
set_option maxRecDepth 100000 in
theorem x1_X8_update {l : Launch} (hfl : l.stackTraces = false) {sz : Nat} {sk : pb_Sk} {rf : pb_Rf} {sg : pb_Sg} {M : Nat} (hm : pb_md sk rf M) {n : Nat} (hn : sg M 8 = nI n) (hn8 : 1 ≤ n ∧ n ≤ 8) {x : Int32} (hx : ∀ b, b < n → ¬ x = nI b) : pb_Met l mX8_update 7 0 0 [.ref M, .int x] sz sk rf sg (pb_is (some (.int (nI 0))) sz sk rf (pb_up sg M 0 (nI 1))) := by
  refine pb_start hfl (by decide +kernel) rfl (pb_c1 rfl) (Nat.le_of_ble_eq_true rfl) (fun F hF h hQ => ?_)
  subst hF
  show pv F 0 0 sz sk rf sg 0 [some (.ref M), some (.int x), none, none, none] []
  obtain ⟨hM0, hr1, hk1, hr2, hk2, hr3, hk3, hr4, hk4, hr5, hk5, hr6, hk6, hr7, hk7, hr8, hk8, hr9, hk9, hr10, hk10, hr11, hk11, hr12, hk12, hr13, hk13, hr14, hk14, hr15, hk15, hr16, hk16, hr17, hk17, hr18, hk18, hr19, hk19, hr20, hk20, hr21, hk21, hr22, hk22, hr23, hk23, hr24, hk24⟩ := id hm
  refine v_aload_n h (i := 0) dX8_update_0 (q := 1) rfl rfl rfl ?_
  refine v_iload_n h (i := 1) dX8_update_1 (q := 2) rfl rfl rfl ?_
  refine v_callV1 h (x_X8_isBranch hfl hm hx hn hn8) kX8_isBranch tw925 tw13 (by assumption) (by decide) rfl rfl rfl (by simp [Value.category]) (by decide) (Nat.zero_le _) (Nat.zero_le _) rfl dX8_update_2 (q := 5) rfl ?_
  refine v_istore_n h (i := 2) dX8_update_5 (q := 6) rfl rfl (Nat.le_of_ble_eq_true rfl) rfl ?_
  refine v_iload_n h (i := 2) dX8_update_6 (q := 7) rfl rfl rfl ?_
  refine v_if_eq h dX8_update_7 (q := 10) rfl (tgt := 27) (by decide) (fun c1 => ?_) (fun c1 => absurd c1 (by decide))
  refine v_iconst h (v := nI 0) dX8_update_27 (q := 28) rfl (by decide +kernel) ?_
  refine v_istore_n h (i := 3) dX8_update_28 (q := 29) rfl rfl (Nat.le_of_ble_eq_true rfl) rfl ?_
  refine v_aload_n h (i := 0) dX8_update_29 (q := 30) rfl rfl rfl ?_
  refine v_iload_n h (i := 2) dX8_update_30 (q := 31) rfl rfl rfl ?_
  refine v_if_ne h dX8_update_31 (q := 34) rfl (tgt := 38) (by decide) (fun c2 => absurd c2 (by decide)) (fun c2 => ?_)
  refine v_iconst h (v := nI 1) dX8_update_34 (q := 35) rfl (by decide +kernel) ?_
  refine v_goto h dX8_update_35 (tgt := 47) (by decide) ?_
  refine v_callV1 h (x_X8_isFine hfl hm (by decide)) kX8_isFine tw929 tw14 (by assumption) (by decide) rfl rfl rfl (by simp [Value.category]) (by decide) (Nat.zero_le _) (Nat.zero_le _) rfl dX8_update_47 (q := 50) rfl ?_
  refine v_if_ne h dX8_update_50 (q := 53) rfl (tgt := 55) (by decide) (fun c3 => absurd c3 (by decide)) (fun c3 => ?_)
  refine v_iconst h (v := nI 0) dX8_update_53 (q := 54) rfl (by decide +kernel) ?_
  refine v_iret h hQ rfl rfl dX8_update_54 (Nat.zero_le _) (Nat.zero_le _) ⟨rfl, rfl, rfl, rfl, rfl⟩
set_option maxHeartbeats 400000 in
set_option maxRecDepth 100000 in
theorem c_X8_firstDay {l : Launch} (hfl : l.stackTraces = false) {sz : Nat} {sk : pb_Sk} {rf : pb_Rf} {sg : pb_Sg} {M : Nat} (hm : pb_md sk rf M) {n : Nat} (hn : sg M 8 = nI n) (hn8 : 1 ≤ n ∧ n ≤ 8) {b : Nat} (hb : b < n) {t : Nat} (ht : t < 16) {L : Nat} (hL : sg M 20 = nI L) (hL40 : L ≤ 40) (hw : pb_mw sg M b) {u : pb_Sg × Int32} (hu : u = pb_mun (pb_up sg M 0 (nI 0)) M b b L) : pb_Met l mX8_firstDay 6 0 0 [.ref M, .int (nI b), .int (nI t)] sz sk rf sg (pb_is (some (.int (if pb_in u.2 t = true then -1 else u.1 (M + 21) t))) sz sk rf u.1) := by
  refine pb_start hfl (by decide +kernel) rfl (pb_c1 rfl) (Nat.le_of_ble_eq_true rfl) (fun F hF h hQ => ?_)
  subst hF
  show pv F 0 0 sz sk rf sg 0 [some (.ref M), some (.int (nI b)), some (.int (nI t)), none] []
  obtain ⟨hM0, hr1, hk1, hr2, hk2, hr3, hk3, hr4, hk4, hr5, hk5, hr6, hk6, hr7, hk7, hr8, hk8, hr9, hk9, hr10, hk10, hr11, hk11, hr12, hk12, hr13, hk13, hr14, hk14, hr15, hk15, hr16, hk16, hr17, hk17, hr18, hk18, hr19, hk19, hr20, hk20, hr21, hk21, hr22, hk22, hr23, hk23, hr24, hk24⟩ := id hm
  refine v_aload_n h (i := 0) dX8_firstDay_0 (q := 1) rfl rfl rfl ?_
  refine v_iload_n h (i := 1) dX8_firstDay_1 (q := 2) rfl rfl rfl ?_
  refine v_iload_n h (i := 2) dX8_firstDay_2 (q := 3) rfl rfl rfl ?_
  refine v_callV1 h (c_X8_asks hfl hm hn hn8 hb ht) kX8_asks tw984 tw22 (by assumption) (by decide) rfl rfl rfl (by simp [Value.category]) (by decide) (Nat.zero_le _) (Nat.zero_le _) rfl dX8_firstDay_3 (q := 6) rfl ?_
  refine v_if_ne h dX8_firstDay_6 (q := 9) rfl (tgt := 11) (by decide) (fun c1 => ?_) (fun c1 => absurd c1 (by decide))
  refine v_aload_n h (i := 0) dX8_firstDay_11 (q := 12) rfl rfl rfl ?_
  refine v_iload_n h (i := 1) dX8_firstDay_12 (q := 13) rfl rfl rfl ?_
  refine v_iload_n h (i := 1) dX8_firstDay_13 (q := 14) rfl rfl rfl ?_
  refine v_callV1 h (c2_X8_unplaced hfl hm (show b < 17 by omega) (show b < 8 by omega) (show pb_up sg M 0 (nI 0) M 20 = nI L by rw [pb_up_ne3 (by decide)]; exact hL) hL40 (hw.of (pb_up_neA (by omega)) (pb_up_neA (by omega))) hu) kX8_unplaced tw1082 tw35 (by assumption) (by decide) rfl rfl rfl (by simp [Value.category]) (by decide) (Nat.zero_le _) (Nat.zero_le _) rfl dX8_firstDay_14 (q := 17) rfl ?_
  refine v_istore_n h (i := 3) dX8_firstDay_17 (q := 18) rfl rfl (Nat.le_of_ble_eq_true rfl) rfl ?_
  refine v_iload_n h (i := 3) dX8_firstDay_18 (q := 19) rfl rfl rfl ?_
  refine v_iload_n h (i := 2) dX8_firstDay_19 (q := 20) rfl rfl rfl ?_
  refine v_ishr h dX8_firstDay_20 (q := 21) rfl ?_
  refine v_iconst h (v := nI 1) dX8_firstDay_21 (q := 22) rfl (by decide +kernel) ?_
  refine v_iand h dX8_firstDay_22 (q := 23) rfl ?_
  refine v_iconst h (v := nI 1) dX8_firstDay_23 (q := 24) rfl (by decide +kernel) ?_
  refine v_icmp_ne h dX8_firstDay_24 (q := 27) rfl (tgt := 31) (by decide) (fun c2 => ?_) (fun c2 => ?_)
  · skip
    have e9 : (if pb_in u.2 t = true then -1 else u.1 (M + 21) t) = u.1 (M + 21) t := if_neg (fun q9 => c2 ((pb_in_sh1 (by omega)).mpr q9))
    refine v_aload_n h (i := 0) dX8_firstDay_31 (q := 32) rfl rfl rfl ?_
    refine v_getr h fl_X8_74 (by assumption) rfl (by assumption) dX8_firstDay_32 (q := 35) rfl ?_
    refine v_iload_n h (i := 2) dX8_firstDay_35 (q := 36) rfl rfl rfl ?_
    refine v_iald h (by assumption) rfl (by first | assumption | omega) (by decide) dX8_firstDay_36 (q := 37) rfl ?_
    refine v_iret h hQ rfl rfl dX8_firstDay_37 (Nat.zero_le _) (Nat.zero_le _) ⟨by rw [e9], rfl, rfl, rfl, rfl⟩
  · skip
    have e9 : (if pb_in u.2 t = true then -1 else u.1 (M + 21) t) = -1 := if_pos ((pb_in_sh1 (by omega)).mp c2)
    refine v_iconst h (v := (-1)) dX8_firstDay_27 (q := 28) rfl (by decide +kernel) ?_
    refine v_goto h dX8_firstDay_28 (tgt := 37) (by decide) ?_
    refine v_iret h hQ rfl rfl dX8_firstDay_37 (Nat.zero_le _) (Nat.zero_le _) ⟨by rw [e9], rfl, rfl, rfl, rfl⟩
set_option maxHeartbeats 400000 in
set_option maxRecDepth 100000 in
theorem x1_X8_firstDay {l : Launch} (hfl : l.stackTraces = false) {sz : Nat} {sk : pb_Sk} {rf : pb_Rf} {sg : pb_Sg} {M : Nat} (hm : pb_md sk rf M) {n : Nat} (hn : sg M 8 = nI n) (hn8 : 1 ≤ n ∧ n ≤ 8) {x : Int32} (hx : ∀ b, b < n → ¬ x = nI b) {t : Int32} : pb_Met l mX8_firstDay 6 0 0 [.ref M, .int x, .int t] sz sk rf sg (pb_is (some (.int (nI 0))) sz sk rf (pb_up sg M 0 (nI 1))) := by
  refine pb_start hfl (by decide +kernel) rfl (pb_c1 rfl) (Nat.le_of_ble_eq_true rfl) (fun F hF h hQ => ?_)
  subst hF
  show pv F 0 0 sz sk rf sg 0 [some (.ref M), some (.int x), some (.int t), none] []
  obtain ⟨hM0, hr1, hk1, hr2, hk2, hr3, hk3, hr4, hk4, hr5, hk5, hr6, hk6, hr7, hk7, hr8, hk8, hr9, hk9, hr10, hk10, hr11, hk11, hr12, hk12, hr13, hk13, hr14, hk14, hr15, hk15, hr16, hk16, hr17, hk17, hr18, hk18, hr19, hk19, hr20, hk20, hr21, hk21, hr22, hk22, hr23, hk23, hr24, hk24⟩ := id hm
  refine v_aload_n h (i := 0) dX8_firstDay_0 (q := 1) rfl rfl rfl ?_
  refine v_iload_n h (i := 1) dX8_firstDay_1 (q := 2) rfl rfl rfl ?_
  refine v_iload_n h (i := 2) dX8_firstDay_2 (q := 3) rfl rfl rfl ?_
  refine v_callV1 h (x1_X8_asks hfl hm hn hn8 hx) kX8_asks tw984 tw22 (by assumption) (by decide) rfl rfl rfl (by simp [Value.category]) (by decide) (Nat.zero_le _) (Nat.zero_le _) rfl dX8_firstDay_3 (q := 6) rfl ?_
  refine v_if_ne h dX8_firstDay_6 (q := 9) rfl (tgt := 11) (by decide) (fun c1 => absurd c1 (by decide)) (fun c1 => ?_)
  refine v_iconst h (v := nI 0) dX8_firstDay_9 (q := 10) rfl (by decide +kernel) ?_
  refine v_iret h hQ rfl rfl dX8_firstDay_10 (Nat.zero_le _) (Nat.zero_le _) ⟨rfl, rfl, rfl, rfl, rfl⟩
set_option maxHeartbeats 400000 in
set_option maxRecDepth 100000 in
theorem x2_X8_firstDay {l : Launch} (hfl : l.stackTraces = false) {sz : Nat} {sk : pb_Sk} {rf : pb_Rf} {sg : pb_Sg} {M : Nat} (hm : pb_md sk rf M) {n : Nat} (hn : sg M 8 = nI n) (hn8 : 1 ≤ n ∧ n ≤ 8) {b : Nat} (hb : b < n) {t : Int32} (hbad : ¬ (nI 0 ≤ t ∧ t ≤ nI 15)) : pb_Met l mX8_firstDay 6 0 0 [.ref M, .int (nI b), .int t] sz sk rf sg (pb_is (some (.int (nI 0))) sz sk rf (pb_up sg M 0 (nI 2))) := by
  refine pb_start hfl (by decide +kernel) rfl (pb_c1 rfl) (Nat.le_of_ble_eq_true rfl) (fun F hF h hQ => ?_)
  subst hF
  show pv F 0 0 sz sk rf sg 0 [some (.ref M), some (.int (nI b)), some (.int t), none] []
  obtain ⟨hM0, hr1, hk1, hr2, hk2, hr3, hk3, hr4, hk4, hr5, hk5, hr6, hk6, hr7, hk7, hr8, hk8, hr9, hk9, hr10, hk10, hr11, hk11, hr12, hk12, hr13, hk13, hr14, hk14, hr15, hk15, hr16, hk16, hr17, hk17, hr18, hk18, hr19, hk19, hr20, hk20, hr21, hk21, hr22, hk22, hr23, hk23, hr24, hk24⟩ := id hm
  refine v_aload_n h (i := 0) dX8_firstDay_0 (q := 1) rfl rfl rfl ?_
  refine v_iload_n h (i := 1) dX8_firstDay_1 (q := 2) rfl rfl rfl ?_
  refine v_iload_n h (i := 2) dX8_firstDay_2 (q := 3) rfl rfl rfl ?_
  refine v_callV1 h (x2_X8_asks hfl hm hn hn8 hb hbad) kX8_asks tw984 tw22 (by assumption) (by decide) rfl rfl rfl (by simp [Value.category]) (by decide) (Nat.zero_le _) (Nat.zero_le _) rfl dX8_firstDay_3 (q := 6) rfl ?_
  refine v_if_ne h dX8_firstDay_6 (q := 9) rfl (tgt := 11) (by decide) (fun c1 => absurd c1 (by decide)) (fun c1 => ?_)
  refine v_iconst h (v := nI 0) dX8_firstDay_9 (q := 10) rfl (by decide +kernel) ?_
  refine v_iret h hQ rfl rfl dX8_firstDay_10 (Nat.zero_le _) (Nat.zero_le _) ⟨rfl, rfl, rfl, rfl, rfl⟩
set_option maxHeartbeats 400000 in
set_option maxRecDepth 100000 in
theorem c_X8_leftOut {l : Launch} (hfl : l.stackTraces = false) {sz : Nat} {sk : pb_Sk} {rf : pb_Rf} {sg : pb_Sg} {M : Nat} (hm : pb_md sk rf M) {n : Nat} (hn : sg M 8 = nI n) (hn8 : 1 ≤ n ∧ n ≤ 8) {b : Nat} (hb : b < n) {L : Nat} (hL : sg M 20 = nI L) (hL40 : L ≤ 40) (hw : pb_mw sg M b) {u : pb_Sg × Int32} (hu : u = pb_mun (pb_up sg M 0 (nI 0)) M b b L) : pb_Met l mX8_leftOut 6 0 0 [.ref M, .int (nI b)] sz sk rf sg (pb_is (some (.int u.2)) sz sk rf u.1) := by
  refine pb_start hfl (by decide +kernel) rfl (pb_c1 rfl) (Nat.le_of_ble_eq_true rfl) (fun F hF h hQ => ?_)
  subst hF
  show pv F 0 0 sz sk rf sg 0 [some (.ref M), some (.int (nI b))] []
  obtain ⟨hM0, hr1, hk1, hr2, hk2, hr3, hk3, hr4, hk4, hr5, hk5, hr6, hk6, hr7, hk7, hr8, hk8, hr9, hk9, hr10, hk10, hr11, hk11, hr12, hk12, hr13, hk13, hr14, hk14, hr15, hk15, hr16, hk16, hr17, hk17, hr18, hk18, hr19, hk19, hr20, hk20, hr21, hk21, hr22, hk22, hr23, hk23, hr24, hk24⟩ := id hm
  refine v_aload_n h (i := 0) dX8_leftOut_0 (q := 1) rfl rfl rfl ?_
  refine v_aload_n h (i := 0) dX8_leftOut_1 (q := 2) rfl rfl rfl ?_
  refine v_iload_n h (i := 1) dX8_leftOut_2 (q := 3) rfl rfl rfl ?_
  refine v_callV1 h (c_X8_isBranch hfl hm hb hn hn8.2) kX8_isBranch tw925 tw13 (by assumption) (by decide) rfl rfl rfl (by simp [Value.category]) (by decide) (Nat.zero_le _) (Nat.zero_le _) rfl dX8_leftOut_3 (q := 6) rfl ?_
  refine v_if_eq h dX8_leftOut_6 (q := 9) rfl (tgt := 13) (by decide) (fun c1 => absurd c1 (by decide)) (fun c1 => ?_)
  refine v_iconst h (v := nI 0) dX8_leftOut_9 (q := 10) rfl (by decide +kernel) ?_
  refine v_goto h dX8_leftOut_10 (tgt := 14) (by decide) ?_
  refine v_callV1 h (c_X8_isFine hfl hm) kX8_isFine tw929 tw14 (by assumption) (by decide) rfl rfl rfl (by simp [Value.category]) (by decide) (Nat.zero_le _) (Nat.zero_le _) rfl dX8_leftOut_14 (q := 17) rfl ?_
  refine v_if_eq h dX8_leftOut_17 (q := 20) rfl (tgt := 29) (by decide) (fun c2 => absurd c2 (by decide)) (fun c2 => ?_)
  refine v_aload_n h (i := 0) dX8_leftOut_20 (q := 21) rfl rfl rfl ?_
  refine v_iload_n h (i := 1) dX8_leftOut_21 (q := 22) rfl rfl rfl ?_
  refine v_iload_n h (i := 1) dX8_leftOut_22 (q := 23) rfl rfl rfl ?_
  refine v_callV1 h (c2_X8_unplaced hfl hm (show b < 17 by omega) (show b < 8 by omega) (show pb_up sg M 0 (nI 0) M 20 = nI L by rw [pb_up_ne3 (by decide)]; exact hL) hL40 (hw.of (pb_up_neA (by omega)) (pb_up_neA (by omega))) hu) kX8_unplaced tw1082 tw35 (by assumption) (by decide) rfl rfl rfl (by simp [Value.category]) (by decide) (Nat.zero_le _) (Nat.zero_le _) rfl dX8_leftOut_23 (q := 26) rfl ?_
  refine v_goto h dX8_leftOut_26 (tgt := 30) (by decide) ?_
  refine v_iret h hQ rfl rfl dX8_leftOut_30 (Nat.zero_le _) (Nat.zero_le _) ⟨rfl, rfl, rfl, rfl, rfl⟩
set_option maxHeartbeats 400000 in
set_option maxRecDepth 100000 in
theorem x1_X8_leftOut {l : Launch} (hfl : l.stackTraces = false) {sz : Nat} {sk : pb_Sk} {rf : pb_Rf} {sg : pb_Sg} {M : Nat} (hm : pb_md sk rf M) {n : Nat} (hn : sg M 8 = nI n) (hn8 : 1 ≤ n ∧ n ≤ 8) {x : Int32} (hx : ∀ b, b < n → ¬ x = nI b) : pb_Met l mX8_leftOut 6 0 0 [.ref M, .int x] sz sk rf sg (pb_is (some (.int (nI 0))) sz sk rf (pb_up sg M 0 (nI 1))) := by
  refine pb_start hfl (by decide +kernel) rfl (pb_c1 rfl) (Nat.le_of_ble_eq_true rfl) (fun F hF h hQ => ?_)
  subst hF
  show pv F 0 0 sz sk rf sg 0 [some (.ref M), some (.int x)] []
  obtain ⟨hM0, hr1, hk1, hr2, hk2, hr3, hk3, hr4, hk4, hr5, hk5, hr6, hk6, hr7, hk7, hr8, hk8, hr9, hk9, hr10, hk10, hr11, hk11, hr12, hk12, hr13, hk13, hr14, hk14, hr15, hk15, hr16, hk16, hr17, hk17, hr18, hk18, hr19, hk19, hr20, hk20, hr21, hk21, hr22, hk22, hr23, hk23, hr24, hk24⟩ := id hm
  refine v_aload_n h (i := 0) dX8_leftOut_0 (q := 1) rfl rfl rfl ?_
  refine v_aload_n h (i := 0) dX8_leftOut_1 (q := 2) rfl rfl rfl ?_
  refine v_iload_n h (i := 1) dX8_leftOut_2 (q := 3) rfl rfl rfl ?_
  refine v_callV1 h (x_X8_isBranch hfl hm hx hn hn8) kX8_isBranch tw925 tw13 (by assumption) (by decide) rfl rfl rfl (by simp [Value.category]) (by decide) (Nat.zero_le _) (Nat.zero_le _) rfl dX8_leftOut_3 (q := 6) rfl ?_
  refine v_if_eq h dX8_leftOut_6 (q := 9) rfl (tgt := 13) (by decide) (fun c1 => ?_) (fun c1 => absurd c1 (by decide))
  refine v_iconst h (v := nI 1) dX8_leftOut_13 (q := 14) rfl (by decide +kernel) ?_
  refine v_callV1 h (x_X8_isFine hfl hm (by decide)) kX8_isFine tw929 tw14 (by assumption) (by decide) rfl rfl rfl (by simp [Value.category]) (by decide) (Nat.zero_le _) (Nat.zero_le _) rfl dX8_leftOut_14 (q := 17) rfl ?_
  refine v_if_eq h dX8_leftOut_17 (q := 20) rfl (tgt := 29) (by decide) (fun c2 => ?_) (fun c2 => absurd c2 (by decide))
  refine v_iconst h (v := nI 0) dX8_leftOut_29 (q := 30) rfl (by decide +kernel) ?_
  refine v_iret h hQ rfl rfl dX8_leftOut_30 (Nat.zero_le _) (Nat.zero_le _) ⟨rfl, rfl, rfl, rfl, rfl⟩
set_option maxHeartbeats 400000 in
set_option maxRecDepth 100000 in
theorem c_X8_lastDay {l : Launch} (hfl : l.stackTraces = false) {sz : Nat} {sk : pb_Sk} {rf : pb_Rf} {sg : pb_Sg} {M : Nat} (hm : pb_md sk rf M) {n : Nat} (hn : sg M 8 = nI n) (hn8 : 1 ≤ n ∧ n ≤ 8) {b : Nat} (hb : b < n) {L : Nat} (hL : sg M 20 = nI L) (hL40 : L ≤ 40) (hw : pb_mw sg M b) {u : pb_Sg × Int32} (hu : u = pb_mun (pb_up sg M 0 (nI 0)) M b b L) : pb_Met l mX8_lastDay 6 0 0 [.ref M, .int (nI b)] sz sk rf sg (pb_is (some (.int (if u.2 = pb_set (fun t => pb_has (u.1 (M + 1)) (16 * b + t)) 16 then -1 else pb_mlast u.1 M b 16))) sz sk rf u.1) := by
  refine pb_start hfl (by decide +kernel) rfl (pb_c1 rfl) (Nat.le_of_ble_eq_true rfl) (fun F hF h hQ => ?_)
  subst hF
  show pv F 0 0 sz sk rf sg 0 [some (.ref M), some (.int (nI b)), none] []
  obtain ⟨hM0, hr1, hk1, hr2, hk2, hr3, hk3, hr4, hk4, hr5, hk5, hr6, hk6, hr7, hk7, hr8, hk8, hr9, hk9, hr10, hk10, hr11, hk11, hr12, hk12, hr13, hk13, hr14, hk14, hr15, hk15, hr16, hk16, hr17, hk17, hr18, hk18, hr19, hk19, hr20, hk20, hr21, hk21, hr22, hk22, hr23, hk23, hr24, hk24⟩ := id hm
  refine v_aload_n h (i := 0) dX8_lastDay_0 (q := 1) rfl rfl rfl ?_
  refine v_aload_n h (i := 0) dX8_lastDay_1 (q := 2) rfl rfl rfl ?_
  refine v_iload_n h (i := 1) dX8_lastDay_2 (q := 3) rfl rfl rfl ?_
  refine v_callV1 h (c_X8_isBranch hfl hm hb hn hn8.2) kX8_isBranch tw925 tw13 (by assumption) (by decide) rfl rfl rfl (by simp [Value.category]) (by decide) (Nat.zero_le _) (Nat.zero_le _) rfl dX8_lastDay_3 (q := 6) rfl ?_
  refine v_if_eq h dX8_lastDay_6 (q := 9) rfl (tgt := 13) (by decide) (fun c1 => absurd c1 (by decide)) (fun c1 => ?_)
  refine v_iconst h (v := nI 0) dX8_lastDay_9 (q := 10) rfl (by decide +kernel) ?_
  refine v_goto h dX8_lastDay_10 (tgt := 14) (by decide) ?_
  refine v_callV1 h (c_X8_isFine hfl hm) kX8_isFine tw929 tw14 (by assumption) (by decide) rfl rfl rfl (by simp [Value.category]) (by decide) (Nat.zero_le _) (Nat.zero_le _) rfl dX8_lastDay_14 (q := 17) rfl ?_
  refine v_if_ne h dX8_lastDay_17 (q := 20) rfl (tgt := 22) (by decide) (fun c2 => ?_) (fun c2 => absurd c2 (by decide))
  refine v_aload_n h (i := 0) dX8_lastDay_22 (q := 23) rfl rfl rfl ?_
  refine v_iload_n h (i := 1) dX8_lastDay_23 (q := 24) rfl rfl rfl ?_
  refine v_iload_n h (i := 1) dX8_lastDay_24 (q := 25) rfl rfl rfl ?_
  refine v_callV1 h (c2_X8_unplaced hfl hm (show b < 17 by omega) (show b < 8 by omega) (show pb_up sg M 0 (nI 0) M 20 = nI L by rw [pb_up_ne3 (by decide)]; exact hL) hL40 (hw.of (pb_up_neA (by omega)) (pb_up_neA (by omega))) hu) kX8_unplaced tw1082 tw35 (by assumption) (by decide) rfl rfl rfl (by simp [Value.category]) (by decide) (Nat.zero_le _) (Nat.zero_le _) rfl dX8_lastDay_25 (q := 28) rfl ?_
  refine v_istore_n h (i := 2) dX8_lastDay_28 (q := 29) rfl rfl (Nat.le_of_ble_eq_true rfl) rfl ?_
  refine v_iload_n h (i := 2) dX8_lastDay_29 (q := 30) rfl rfl rfl ?_
  refine v_aload_n h (i := 0) dX8_lastDay_30 (q := 31) rfl rfl rfl ?_
  refine v_iload_n h (i := 1) dX8_lastDay_31 (q := 32) rfl rfl rfl ?_
  refine v_callV1 h (c_X8_tasks0 hfl hm (show b < 17 by omega)) kX8_tasks0 tw976 tw21 (by assumption) (by decide) rfl rfl rfl (by simp [Value.category]) (by decide) (Nat.zero_le _) (Nat.zero_le _) rfl dX8_lastDay_32 (q := 35) rfl ?_
  refine v_icmp_ne h dX8_lastDay_35 (q := 38) rfl (tgt := 42) (by decide) (fun c3 => ?_) (fun c3 => ?_)
  · skip
    have e9 : (if u.2 = pb_set (fun t => pb_has (u.1 (M + 1)) (16 * b + t)) 16 then -1 else pb_mlast u.1 M b 16) = pb_mlast u.1 M b 16 := if_neg c3
    refine v_aload_n h (i := 0) dX8_lastDay_42 (q := 43) rfl rfl rfl ?_
    refine v_iload_n h (i := 1) dX8_lastDay_43 (q := 44) rfl rfl rfl ?_
    refine v_callV1 h (c_X8_last hfl hm (show b < 17 by omega)) kX8_last tw1175 tw43 (by assumption) (by decide) rfl rfl rfl (by simp [Value.category]) (by decide) (Nat.zero_le _) (Nat.zero_le _) rfl dX8_lastDay_44 (q := 47) rfl ?_
    refine v_iret h hQ rfl rfl dX8_lastDay_47 (Nat.zero_le _) (Nat.zero_le _) ⟨by rw [e9], rfl, rfl, rfl, rfl⟩
  · skip
    have e9 : (if u.2 = pb_set (fun t => pb_has (u.1 (M + 1)) (16 * b + t)) 16 then -1 else pb_mlast u.1 M b 16) = -1 := if_pos c3
    refine v_iconst h (v := (-1)) dX8_lastDay_38 (q := 39) rfl (by decide +kernel) ?_
    refine v_goto h dX8_lastDay_39 (tgt := 47) (by decide) ?_
    refine v_iret h hQ rfl rfl dX8_lastDay_47 (Nat.zero_le _) (Nat.zero_le _) ⟨by rw [e9], rfl, rfl, rfl, rfl⟩
set_option maxHeartbeats 400000 in
set_option maxRecDepth 100000 in
theorem x1_X8_lastDay {l : Launch} (hfl : l.stackTraces = false) {sz : Nat} {sk : pb_Sk} {rf : pb_Rf} {sg : pb_Sg} {M : Nat} (hm : pb_md sk rf M) {n : Nat} (hn : sg M 8 = nI n) (hn8 : 1 ≤ n ∧ n ≤ 8) {x : Int32} (hx : ∀ b, b < n → ¬ x = nI b) : pb_Met l mX8_lastDay 6 0 0 [.ref M, .int x] sz sk rf sg (pb_is (some (.int (nI 0))) sz sk rf (pb_up sg M 0 (nI 1))) := by
  refine pb_start hfl (by decide +kernel) rfl (pb_c1 rfl) (Nat.le_of_ble_eq_true rfl) (fun F hF h hQ => ?_)
  subst hF
  show pv F 0 0 sz sk rf sg 0 [some (.ref M), some (.int x), none] []
  obtain ⟨hM0, hr1, hk1, hr2, hk2, hr3, hk3, hr4, hk4, hr5, hk5, hr6, hk6, hr7, hk7, hr8, hk8, hr9, hk9, hr10, hk10, hr11, hk11, hr12, hk12, hr13, hk13, hr14, hk14, hr15, hk15, hr16, hk16, hr17, hk17, hr18, hk18, hr19, hk19, hr20, hk20, hr21, hk21, hr22, hk22, hr23, hk23, hr24, hk24⟩ := id hm
  refine v_aload_n h (i := 0) dX8_lastDay_0 (q := 1) rfl rfl rfl ?_
  refine v_aload_n h (i := 0) dX8_lastDay_1 (q := 2) rfl rfl rfl ?_
  refine v_iload_n h (i := 1) dX8_lastDay_2 (q := 3) rfl rfl rfl ?_
  refine v_callV1 h (x_X8_isBranch hfl hm hx hn hn8) kX8_isBranch tw925 tw13 (by assumption) (by decide) rfl rfl rfl (by simp [Value.category]) (by decide) (Nat.zero_le _) (Nat.zero_le _) rfl dX8_lastDay_3 (q := 6) rfl ?_
  refine v_if_eq h dX8_lastDay_6 (q := 9) rfl (tgt := 13) (by decide) (fun c1 => ?_) (fun c1 => absurd c1 (by decide))
  refine v_iconst h (v := nI 1) dX8_lastDay_13 (q := 14) rfl (by decide +kernel) ?_
  refine v_callV1 h (x_X8_isFine hfl hm (by decide)) kX8_isFine tw929 tw14 (by assumption) (by decide) rfl rfl rfl (by simp [Value.category]) (by decide) (Nat.zero_le _) (Nat.zero_le _) rfl dX8_lastDay_14 (q := 17) rfl ?_
  refine v_if_ne h dX8_lastDay_17 (q := 20) rfl (tgt := 22) (by decide) (fun c2 => absurd c2 (by decide)) (fun c2 => ?_)
  refine v_iconst h (v := nI 0) dX8_lastDay_20 (q := 21) rfl (by decide +kernel) ?_
  refine v_iret h hQ rfl rfl dX8_lastDay_21 (Nat.zero_le _) (Nat.zero_le _) ⟨rfl, rfl, rfl, rfl, rfl⟩
set_option maxHeartbeats 400000 in
set_option maxRecDepth 100000 in
theorem c_X8_taskOn {l : Launch} (hfl : l.stackTraces = false) {sz : Nat} {sk : pb_Sk} {rf : pb_Rf} {sg : pb_Sg} {M : Nat} (hm : pb_md sk rf M) {n : Nat} (hn : sg M 8 = nI n) (hn8 : 1 ≤ n ∧ n ≤ 8) {b : Nat} (hb : b < n) {c dy : Nat} (hc : c < 5) (hd : dy < 400) {L : Nat} (hL : sg M 20 = nI L) (hL40 : L ≤ 40) (hw : pb_mw sg M b) {u : pb_Sg × Int32} (hu : u = pb_mun (pb_up sg M 0 (nI 0)) M b b L) : pb_Met l mX8_taskOn 6 0 0 [.ref M, .int (nI b), .int (nI c), .int (nI dy)] sz sk rf sg (pb_is (some (.int (if u.2 < 0 then -1 else u.1 (M + 22) (400 * c + dy)))) sz sk rf u.1) := by
  refine pb_start hfl (by decide +kernel) rfl (pb_c1 rfl) (Nat.le_of_ble_eq_true rfl) (fun F hF h hQ => ?_)
  subst hF
  show pv F 0 0 sz sk rf sg 0 [some (.ref M), some (.int (nI b)), some (.int (nI c)), some (.int (nI dy)), none] []
  obtain ⟨hM0, hr1, hk1, hr2, hk2, hr3, hk3, hr4, hk4, hr5, hk5, hr6, hk6, hr7, hk7, hr8, hk8, hr9, hk9, hr10, hk10, hr11, hk11, hr12, hk12, hr13, hk13, hr14, hk14, hr15, hk15, hr16, hk16, hr17, hk17, hr18, hk18, hr19, hk19, hr20, hk20, hr21, hk21, hr22, hk22, hr23, hk23, hr24, hk24⟩ := id hm
  refine v_aload_n h (i := 0) dX8_taskOn_0 (q := 1) rfl rfl rfl ?_
  refine v_aload_n h (i := 0) dX8_taskOn_1 (q := 2) rfl rfl rfl ?_
  refine v_iload_n h (i := 1) dX8_taskOn_2 (q := 3) rfl rfl rfl ?_
  refine v_callV1 h (c_X8_isBranch hfl hm hb hn hn8.2) kX8_isBranch tw925 tw13 (by assumption) (by decide) rfl rfl rfl (by simp [Value.category]) (by decide) (Nat.zero_le _) (Nat.zero_le _) rfl dX8_taskOn_3 (q := 6) rfl ?_
  refine v_if_ne h dX8_taskOn_6 (q := 9) rfl (tgt := 13) (by decide) (fun c1 => ?_) (fun c1 => absurd c1 (by decide))
  refine v_iload_n h (i := 2) dX8_taskOn_13 (q := 14) rfl rfl rfl ?_
  refine v_callS1 h (c_X8_isCrew hfl hc) kX8_isCrew rfl tw1133 rfl rfl (by simp [Value.category]) (by decide) (Nat.zero_le _) (Nat.zero_le _) rfl dX8_taskOn_14 (q := 17) rfl ?_
  refine v_if_eq h dX8_taskOn_17 (q := 20) rfl (tgt := 27) (by decide) (fun c2 => absurd c2 (by decide)) (fun c2 => ?_)
  refine v_iload_n h (i := 3) dX8_taskOn_20 (q := 21) rfl rfl rfl ?_
  refine v_callS1 h (c_X8_isDay hfl hd) kX8_isDay rfl tw1140 rfl rfl (by simp [Value.category]) (by decide) (Nat.zero_le _) (Nat.zero_le _) rfl dX8_taskOn_21 (q := 24) rfl ?_
  refine v_if_ne h dX8_taskOn_24 (q := 27) rfl (tgt := 31) (by decide) (fun c3 => ?_) (fun c3 => absurd c3 (by decide))
  refine v_iconst h (v := nI 0) dX8_taskOn_31 (q := 32) rfl (by decide +kernel) ?_
  refine v_callV1 h (c_X8_isFine hfl hm) kX8_isFine tw929 tw14 (by assumption) (by decide) rfl rfl rfl (by simp [Value.category]) (by decide) (Nat.zero_le _) (Nat.zero_le _) rfl dX8_taskOn_32 (q := 35) rfl ?_
  refine v_if_ne h dX8_taskOn_35 (q := 38) rfl (tgt := 40) (by decide) (fun c4 => ?_) (fun c4 => absurd c4 (by decide))
  refine v_aload_n h (i := 0) dX8_taskOn_40 (q := 41) rfl rfl rfl ?_
  refine v_iload_n h (i := 1) dX8_taskOn_41 (q := 42) rfl rfl rfl ?_
  refine v_iload_n h (i := 1) dX8_taskOn_42 (q := 43) rfl rfl rfl ?_
  refine v_callV1 h (c2_X8_unplaced hfl hm (show b < 17 by omega) (show b < 8 by omega) (show pb_up sg M 0 (nI 0) M 20 = nI L by rw [pb_up_ne3 (by decide)]; exact hL) hL40 (hw.of (pb_up_neA (by omega)) (pb_up_neA (by omega))) hu) kX8_unplaced tw1082 tw35 (by assumption) (by decide) rfl rfl rfl (by simp [Value.category]) (by decide) (Nat.zero_le _) (Nat.zero_le _) rfl dX8_taskOn_43 (q := 46) rfl ?_
  refine v_istore h dX8_taskOn_46 (q := 48) rfl (Nat.le_of_ble_eq_true rfl) rfl ?_
  refine v_iload h dX8_taskOn_48 (q := 50) rfl rfl ?_
  refine v_if_ge h dX8_taskOn_50 (q := 53) rfl (tgt := 57) (by decide) (fun c5 => ?_) (fun c5 => ?_)
  · skip
    have e9 : (if u.2 < 0 then -1 else u.1 (M + 22) (400 * c + dy)) = u.1 (M + 22) (400 * c + dy) := if_neg (Int32.not_lt.mpr c5)
    refine v_aload_n h (i := 0) dX8_taskOn_57 (q := 58) rfl rfl rfl ?_
    refine v_getr h fl_X8_77 (by assumption) rfl (by assumption) dX8_taskOn_58 (q := 61) rfl ?_
    refine v_sipush h (v := nI 400) dX8_taskOn_61 (q := 64) rfl (by decide +kernel) ?_
    refine v_iload_n h (i := 2) dX8_taskOn_64 (q := 65) rfl rfl rfl ?_
    refine v_imul h dX8_taskOn_65 (q := 66) rfl ?_
    refine v_iload_n h (i := 3) dX8_taskOn_66 (q := 67) rfl rfl rfl ?_
    refine v_iadd h dX8_taskOn_67 (q := 68) rfl ?_
    refine v_iald h (by assumption) (show nI 400 * nI c + nI dy = nI (400 * c + dy) by rw [nI_mul, nI_add]) (by omega) (by decide) dX8_taskOn_68 (q := 69) rfl ?_
    refine v_iret h hQ rfl rfl dX8_taskOn_69 (Nat.zero_le _) (Nat.zero_le _) ⟨by rw [e9], rfl, rfl, rfl, rfl⟩
  · skip
    have e9 : (if u.2 < 0 then -1 else u.1 (M + 22) (400 * c + dy)) = -1 := if_pos (Int32.not_le.mp c5)
    refine v_iconst h (v := (-1)) dX8_taskOn_53 (q := 54) rfl (by decide +kernel) ?_
    refine v_goto h dX8_taskOn_54 (tgt := 69) (by decide) ?_
    refine v_iret h hQ rfl rfl dX8_taskOn_69 (Nat.zero_le _) (Nat.zero_le _) ⟨by rw [e9], rfl, rfl, rfl, rfl⟩
set_option maxHeartbeats 400000 in
set_option maxRecDepth 100000 in
theorem x1_X8_taskOn {l : Launch} (hfl : l.stackTraces = false) {sz : Nat} {sk : pb_Sk} {rf : pb_Rf} {sg : pb_Sg} {M : Nat} (hm : pb_md sk rf M) {n : Nat} (hn : sg M 8 = nI n) (hn8 : 1 ≤ n ∧ n ≤ 8) {x : Int32} (hx : ∀ b, b < n → ¬ x = nI b) {c dy : Int32} : pb_Met l mX8_taskOn 6 0 0 [.ref M, .int x, .int c, .int dy] sz sk rf sg (pb_is (some (.int (nI 0))) sz sk rf (pb_up sg M 0 (nI 1))) := by
  refine pb_start hfl (by decide +kernel) rfl (pb_c1 rfl) (Nat.le_of_ble_eq_true rfl) (fun F hF h hQ => ?_)
  subst hF
  show pv F 0 0 sz sk rf sg 0 [some (.ref M), some (.int x), some (.int c), some (.int dy), none] []
  obtain ⟨hM0, hr1, hk1, hr2, hk2, hr3, hk3, hr4, hk4, hr5, hk5, hr6, hk6, hr7, hk7, hr8, hk8, hr9, hk9, hr10, hk10, hr11, hk11, hr12, hk12, hr13, hk13, hr14, hk14, hr15, hk15, hr16, hk16, hr17, hk17, hr18, hk18, hr19, hk19, hr20, hk20, hr21, hk21, hr22, hk22, hr23, hk23, hr24, hk24⟩ := id hm
  refine v_aload_n h (i := 0) dX8_taskOn_0 (q := 1) rfl rfl rfl ?_
  refine v_aload_n h (i := 0) dX8_taskOn_1 (q := 2) rfl rfl rfl ?_
  refine v_iload_n h (i := 1) dX8_taskOn_2 (q := 3) rfl rfl rfl ?_
  refine v_callV1 h (x_X8_isBranch hfl hm hx hn hn8) kX8_isBranch tw925 tw13 (by assumption) (by decide) rfl rfl rfl (by simp [Value.category]) (by decide) (Nat.zero_le _) (Nat.zero_le _) rfl dX8_taskOn_3 (q := 6) rfl ?_
  refine v_if_ne h dX8_taskOn_6 (q := 9) rfl (tgt := 13) (by decide) (fun c1 => absurd c1 (by decide)) (fun c1 => ?_)
  refine v_iconst h (v := nI 1) dX8_taskOn_9 (q := 10) rfl (by decide +kernel) ?_
  refine v_goto h dX8_taskOn_10 (tgt := 32) (by decide) ?_
  refine v_callV1 h (x_X8_isFine hfl hm (by decide)) kX8_isFine tw929 tw14 (by assumption) (by decide) rfl rfl rfl (by simp [Value.category]) (by decide) (Nat.zero_le _) (Nat.zero_le _) rfl dX8_taskOn_32 (q := 35) rfl ?_
  refine v_if_ne h dX8_taskOn_35 (q := 38) rfl (tgt := 40) (by decide) (fun c2 => absurd c2 (by decide)) (fun c2 => ?_)
  refine v_iconst h (v := nI 0) dX8_taskOn_38 (q := 39) rfl (by decide +kernel) ?_
  refine v_iret h hQ rfl rfl dX8_taskOn_39 (Nat.zero_le _) (Nat.zero_le _) ⟨rfl, rfl, rfl, rfl, rfl⟩
set_option maxHeartbeats 400000 in
set_option maxRecDepth 100000 in
theorem x2_X8_taskOn {l : Launch} (hfl : l.stackTraces = false) {sz : Nat} {sk : pb_Sk} {rf : pb_Rf} {sg : pb_Sg} {M : Nat} (hm : pb_md sk rf M) {n : Nat} (hn : sg M 8 = nI n) (hn8 : 1 ≤ n ∧ n ≤ 8) {b : Nat} (hb : b < n) {c dy : Int32} (hbad : ¬ ((nI 0 ≤ c ∧ c ≤ nI 4) ∧ (nI 0 ≤ dy ∧ dy ≤ nI 399))) : pb_Met l mX8_taskOn 6 0 0 [.ref M, .int (nI b), .int c, .int dy] sz sk rf sg (pb_is (some (.int (nI 0))) sz sk rf (pb_up sg M 0 (nI 2))) := by
  refine pb_start hfl (by decide +kernel) rfl (pb_c1 rfl) (Nat.le_of_ble_eq_true rfl) (fun F hF h hQ => ?_)
  subst hF
  show pv F 0 0 sz sk rf sg 0 [some (.ref M), some (.int (nI b)), some (.int c), some (.int dy), none] []
  obtain ⟨hM0, hr1, hk1, hr2, hk2, hr3, hk3, hr4, hk4, hr5, hk5, hr6, hk6, hr7, hk7, hr8, hk8, hr9, hk9, hr10, hk10, hr11, hk11, hr12, hk12, hr13, hk13, hr14, hk14, hr15, hk15, hr16, hk16, hr17, hk17, hr18, hk18, hr19, hk19, hr20, hk20, hr21, hk21, hr22, hk22, hr23, hk23, hr24, hk24⟩ := id hm
  refine v_aload_n h (i := 0) dX8_taskOn_0 (q := 1) rfl rfl rfl ?_
  refine v_aload_n h (i := 0) dX8_taskOn_1 (q := 2) rfl rfl rfl ?_
  refine v_iload_n h (i := 1) dX8_taskOn_2 (q := 3) rfl rfl rfl ?_
  refine v_callV1 h (c_X8_isBranch hfl hm hb hn hn8.2) kX8_isBranch tw925 tw13 (by assumption) (by decide) rfl rfl rfl (by simp [Value.category]) (by decide) (Nat.zero_le _) (Nat.zero_le _) rfl dX8_taskOn_3 (q := 6) rfl ?_
  refine v_if_ne h dX8_taskOn_6 (q := 9) rfl (tgt := 13) (by decide) (fun c1 => ?_) (fun c1 => absurd c1 (by decide))
  refine v_iload_n h (i := 2) dX8_taskOn_13 (q := 14) rfl rfl rfl ?_
  by_cases hk1 : nI 0 ≤ c ∧ c ≤ nI 4
  · skip
    refine v_callS1 h (c2_X8_isCrew hfl hk1) kX8_isCrew rfl tw1133 rfl rfl (by simp [Value.category]) (by decide) (Nat.zero_le _) (Nat.zero_le _) rfl dX8_taskOn_14 (q := 17) rfl ?_
    refine v_if_eq h dX8_taskOn_17 (q := 20) rfl (tgt := 27) (by decide) (fun c2 => absurd c2 (by decide)) (fun c2 => ?_)
    refine v_iload_n h (i := 3) dX8_taskOn_20 (q := 21) rfl rfl rfl ?_
    by_cases hk2 : nI 0 ≤ dy ∧ dy ≤ nI 399
    · skip
      refine v_callS1 h (c2_X8_isDay hfl hk2) kX8_isDay rfl tw1140 rfl rfl (by simp [Value.category]) (by decide) (Nat.zero_le _) (Nat.zero_le _) rfl dX8_taskOn_21 (q := 24) rfl ?_
      refine v_if_ne h dX8_taskOn_24 (q := 27) rfl (tgt := 31) (by decide) (fun c3 => ?_) (fun c3 => absurd c3 (by decide))
      exact absurd ⟨hk1, hk2⟩ hbad
    · skip
      refine v_callS1 h (x_X8_isDay hfl hk2) kX8_isDay rfl tw1140 rfl rfl (by simp [Value.category]) (by decide) (Nat.zero_le _) (Nat.zero_le _) rfl dX8_taskOn_21 (q := 24) rfl ?_
      refine v_if_ne h dX8_taskOn_24 (q := 27) rfl (tgt := 31) (by decide) (fun c4 => absurd c4 (by decide)) (fun c4 => ?_)
      refine v_iconst h (v := nI 2) dX8_taskOn_27 (q := 28) rfl (by decide +kernel) ?_
      refine v_goto h dX8_taskOn_28 (tgt := 32) (by decide) ?_
      refine v_callV1 h (x_X8_isFine hfl hm (by decide)) kX8_isFine tw929 tw14 (by assumption) (by decide) rfl rfl rfl (by simp [Value.category]) (by decide) (Nat.zero_le _) (Nat.zero_le _) rfl dX8_taskOn_32 (q := 35) rfl ?_
      refine v_if_ne h dX8_taskOn_35 (q := 38) rfl (tgt := 40) (by decide) (fun c5 => absurd c5 (by decide)) (fun c5 => ?_)
      refine v_iconst h (v := nI 0) dX8_taskOn_38 (q := 39) rfl (by decide +kernel) ?_
      refine v_iret h hQ rfl rfl dX8_taskOn_39 (Nat.zero_le _) (Nat.zero_le _) ⟨rfl, rfl, rfl, rfl, rfl⟩
  · skip
    refine v_callS1 h (x_X8_isCrew hfl hk1) kX8_isCrew rfl tw1133 rfl rfl (by simp [Value.category]) (by decide) (Nat.zero_le _) (Nat.zero_le _) rfl dX8_taskOn_14 (q := 17) rfl ?_
    refine v_if_eq h dX8_taskOn_17 (q := 20) rfl (tgt := 27) (by decide) (fun c6 => ?_) (fun c6 => absurd c6 (by decide))
    refine v_iconst h (v := nI 2) dX8_taskOn_27 (q := 28) rfl (by decide +kernel) ?_
    refine v_goto h dX8_taskOn_28 (tgt := 32) (by decide) ?_
    refine v_callV1 h (x_X8_isFine hfl hm (by decide)) kX8_isFine tw929 tw14 (by assumption) (by decide) rfl rfl rfl (by simp [Value.category]) (by decide) (Nat.zero_le _) (Nat.zero_le _) rfl dX8_taskOn_32 (q := 35) rfl ?_
    refine v_if_ne h dX8_taskOn_35 (q := 38) rfl (tgt := 40) (by decide) (fun c7 => absurd c7 (by decide)) (fun c7 => ?_)
    refine v_iconst h (v := nI 0) dX8_taskOn_38 (q := 39) rfl (by decide +kernel) ?_
    refine v_iret h hQ rfl rfl dX8_taskOn_39 (Nat.zero_le _) (Nat.zero_le _) ⟨rfl, rfl, rfl, rfl, rfl⟩
