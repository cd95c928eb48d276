set_option maxHeartbeats 4000000 in
set_option maxRecDepth 100000 in
theorem c_X8_joins {l : Launch} (hfl : l.stackTraces = false) {sz : Nat} {sk : pb_Sk} {rf : pb_Rf} {sg : pb_Sg} {M : Nat} (hm : pb_md sk rf M) {b f : Nat} (hb : b < 8) (hf8 : f < 8) (hf : sg (M + 5) b = nI f) : pb_Met l mX8_joins 5 0 0 [.ref M, .int (nI b)] sz sk rf sg (pb_is (some (.int (pb_mjN sg M b f 16).2)) sz sk rf ((pb_mjN sg M b f 16).1)) := by
  refine pb_start hfl (by decide +kernel) rfl (pb_c1 rfl) (Nat.le_of_ble_eq_true rfl) (fun F hF h hQ => ?_)
  subst hF
  show pv F 0 0 sz sk rf sg 0 [some (.ref M), some (.int (nI b)), none, none, none] []
  obtain ⟨hM0, hr1, hk1, hr2, hk2, hr3, hk3, hr4, hk4, hr5, hk5, hr6, hk6, hr7, hk7, hr8, hk8, hr9, hk9, hr10, hk10, hr11, hk11, hr12, hk12, hr13, hk13, hr14, hk14, hr15, hk15, hr16, hk16, hr17, hk17, hr18, hk18, hr19, hk19, hr20, hk20, hr21, hk21, hr22, hk22, hr23, hk23, hr24, hk24⟩ := id hm
  refine v_iconst h (v := nI 0) dX8_joins_0 (q := 1) rfl (by decide +kernel) ?_
  refine v_istore_n h (i := 2) dX8_joins_1 (q := 2) rfl rfl (Nat.le_of_ble_eq_true rfl) rfl ?_
  refine v_aload_n h (i := 0) dX8_joins_2 (q := 3) rfl rfl rfl ?_
  refine v_iconst h (v := nI 0) dX8_joins_3 (q := 4) rfl (by decide +kernel) ?_
  refine v_puti h fl_X8_165 (by assumption) rfl rfl dX8_joins_4 (q := 7) rfl ?_
  refine v_iconst h (v := nI 0) dX8_joins_7 (q := 8) rfl (by decide +kernel) ?_
  refine v_istore_n h (i := 3) dX8_joins_8 (q := 9) rfl rfl (Nat.le_of_ble_eq_true rfl) rfl ?_
  have lp : ∀ (j i : Nat), i + j = 16 → pv F 0 0 sz sk rf (pb_mjN sg M b f i).1 9 [some (.ref M), some (.int (nI b)), some (.int (pb_mjN sg M b f i).2), some (.int (nI i)), none] [] := by
    intro j
    induction j with
    | zero =>
      intro i  hi
      obtain rfl : i = 16 := by omega
      refine v_iload_n h (i := 3) dX8_joins_9 (q := 10) rfl rfl rfl ?_
      refine v_bipush h (v := nI 16) dX8_joins_10 (q := 12) rfl (by decide +kernel) ?_
      refine v_icmp_ge h dX8_joins_12 (q := 15) rfl (tgt := 103) (by decide) (fun c1 => ?_) (fun c1 => pb_kle (Nat.le_refl _) (by decide) c1)
      refine v_iload_n h (i := 2) dX8_joins_103 (q := 104) rfl rfl rfl ?_
      refine v_iret h hQ rfl rfl dX8_joins_104 (Nat.zero_le _) (Nat.zero_le _) ⟨rfl, rfl, rfl, rfl, rfl⟩
    | succ j ih =>
      intro i  hi
      have hi2 : i < 16 := by omega
      refine v_iload_n h (i := 3) dX8_joins_9 (q := 10) rfl rfl rfl ?_
      refine v_bipush h (v := nI 16) dX8_joins_10 (q := 12) rfl (by decide +kernel) ?_
      refine v_icmp_ge h dX8_joins_12 (q := 15) rfl (tgt := 103) (by decide) (fun c2 => pb_kge hi2 (by decide) c2) (fun c2 => ?_)
      refine v_aload_n h (i := 0) dX8_joins_15 (q := 16) rfl rfl rfl ?_
      refine v_iload_n h (i := 1) dX8_joins_16 (q := 17) rfl rfl rfl ?_
      refine v_aload_n h (i := 0) dX8_joins_17 (q := 18) rfl rfl rfl ?_
      refine v_getr h fl_X8_22 (by assumption) rfl (by assumption) dX8_joins_18 (q := 21) rfl ?_
      refine v_iload_n h (i := 1) dX8_joins_21 (q := 22) rfl rfl rfl ?_
      refine v_iald h (by assumption) rfl (by first | assumption | omega) (by decide) dX8_joins_22 (q := 23) rfl ?_
      refine v_eq (st' := [.int (nI f), .int (nI b), .ref M]) (by rw [pb_mjN_ne (by omega), hf]) ?_
      refine v_bipush h (v := nI 8) dX8_joins_23 (q := 25) rfl (by decide +kernel) ?_
      refine v_iload_n h (i := 1) dX8_joins_25 (q := 26) rfl rfl rfl ?_
      refine v_iadd h dX8_joins_26 (q := 27) rfl ?_
      refine v_eq (st' := [.int (nI (8 + b)), .int (nI f), .int (nI b), .ref M]) (by rw [nI_add]) ?_
      refine v_iload_n h (i := 3) dX8_joins_27 (q := 28) rfl rfl rfl ?_
      refine v_callV1 h (c_X8_joinsTask hfl hm (by omega) (by omega) (by omega) hi2) kX8_joinsTask tw1044 tw28 (by assumption) (by decide) rfl rfl rfl (by simp [Value.category]) (by decide) (Nat.zero_le _) (Nat.zero_le _) rfl dX8_joins_28 (q := 31) rfl ?_
      refine v_if_eq h dX8_joins_31 (q := 34) rfl (tgt := 97) (by decide) (fun c3 => ?_) (fun c3 => ?_)
      · skip
        have e8 := pb_b_0.mp c3
        have e9 : pb_mjN sg M b f (i + 1) = ((pb_mjT (pb_mjN sg M b f i).1 M b f (8 + b) i).1, (pb_mjN sg M b f i).2) := if_neg (by rw [e8]; decide)
        refine v_iinc h dX8_joins_97 (q := 100) rfl rfl pb_inc rfl ?_
        refine v_goto h dX8_joins_100 (tgt := 9) (by decide) ?_
        have h9 := ih (i + 1) (by omega)
        rw [e9] at h9
        exact v_wk (by simp [pb_wk]) h9
      · skip
        have e8 := pb_ne_f (fun q => c3 (pb_b_0.mpr q))
        have e9 : pb_mjN sg M b f (i + 1) = (pb_mjC (pb_mjT (pb_mjN sg M b f i).1 M b f (8 + b) i).1 M b f i, (pb_mjN sg M b f i).2 ||| (nI 1 <<< (nI i &&& 31))) := if_pos e8
        refine v_aload_n h (i := 0) dX8_joins_34 (q := 35) rfl rfl rfl ?_
        refine v_getr h fl_X8_28 (by assumption) rfl (by assumption) dX8_joins_35 (q := 38) rfl ?_
        refine v_iload_n h (i := 1) dX8_joins_38 (q := 39) rfl rfl rfl ?_
        refine v_iload_n h (i := 3) dX8_joins_39 (q := 40) rfl rfl rfl ?_
        refine v_callS1 h (c_X8_at hfl ) kX8_at rfl tw937 rfl rfl (by simp [Value.category]) (by decide) (Nat.zero_le _) (Nat.zero_le _) rfl dX8_joins_40 (q := 43) rfl ?_
        refine v_iald h (by assumption) rfl (by first | assumption | omega) (by decide) dX8_joins_43 (q := 44) rfl ?_
        refine v_istore h dX8_joins_44 (q := 46) rfl (Nat.le_of_ble_eq_true rfl) rfl ?_
        refine v_iload_n h (i := 2) dX8_joins_46 (q := 47) rfl rfl rfl ?_
        refine v_iconst h (v := nI 1) dX8_joins_47 (q := 48) rfl (by decide +kernel) ?_
        refine v_iload_n h (i := 3) dX8_joins_48 (q := 49) rfl rfl rfl ?_
        refine v_ishl h dX8_joins_49 (q := 50) rfl ?_
        refine v_ior h dX8_joins_50 (q := 51) rfl ?_
        refine v_istore_n h (i := 2) dX8_joins_51 (q := 52) rfl rfl (Nat.le_of_ble_eq_true rfl) rfl ?_
        refine v_aload_n h (i := 0) dX8_joins_52 (q := 53) rfl rfl rfl ?_
        refine v_dup h dX8_joins_53 (q := 54) rfl rfl ?_
        refine v_geti h fl_X8_165 (by assumption) rfl dX8_joins_54 (q := 57) rfl ?_
        refine v_iload h dX8_joins_57 (q := 59) rfl rfl ?_
        refine v_iconst h (v := (-1)) dX8_joins_59 (q := 60) rfl (by decide +kernel) ?_
        refine v_icmp_ne h dX8_joins_60 (q := 63) rfl (tgt := 69) (by decide) (fun c4 => ?_) (fun c4 => ?_)
        · skip
          have ec : (if (pb_mjT (pb_mjN sg M b f i).1 M b f (8 + b) i).1 (M + 7) (16 * b + i) = -1 then (nI 1 <<< (nI i &&& 31)) else nI 0) = nI 0 := if_neg c4
          refine v_iconst h (v := nI 0) dX8_joins_69 (q := 70) rfl (by decide +kernel) ?_
          refine v_ior h dX8_joins_70 (q := 71) rfl ?_
          refine v_eq (st' := [.int ((pb_mjT (pb_mjN sg M b f i).1 M b f (8 + b) i).1 M 27 ||| (if (pb_mjT (pb_mjN sg M b f i).1 M b f (8 + b) i).1 (M + 7) (16 * b + i) = -1 then (nI 1 <<< (nI i &&& 31)) else nI 0)), .ref M]) (by rw [ec]) ?_
          refine v_puti h fl_X8_165 (by assumption) rfl rfl dX8_joins_71 (q := 74) rfl ?_
          refine v_aload_n h (i := 0) dX8_joins_74 (q := 75) rfl rfl rfl ?_
          refine v_iload h dX8_joins_75 (q := 77) rfl rfl ?_
          refine v_iconst h (v := nI 1) dX8_joins_77 (q := 78) rfl (by decide +kernel) ?_
          refine v_icmp_ne h dX8_joins_78 (q := 81) rfl (tgt := 90) (by decide) (fun c5 => ?_) (fun c5 => ?_)
          · skip
            have ed : (if (pb_mjT (pb_mjN sg M b f i).1 M b f (8 + b) i).1 (M + 7) (16 * b + i) = nI 1 then f else b) = b := if_neg c5
            refine v_iload_n h (i := 1) dX8_joins_90 (q := 91) rfl rfl rfl ?_
            refine v_bipush h (v := nI 16) dX8_joins_91 (q := 93) rfl (by decide +kernel) ?_
            refine v_iload_n h (i := 3) dX8_joins_93 (q := 94) rfl rfl rfl ?_
            refine v_callV0 h (c_X8_copiesTask hfl hm (by omega) (by decide) hi2) kX8_copiesTask tw1012 tw25 (by assumption) (by decide) rfl rfl rfl (by simp [Value.category]) (by decide) (Nat.zero_le _) (Nat.zero_le _) rfl dX8_joins_94 (q := 97) rfl ?_
            refine v_sg (sg' := pb_mjC (pb_mjT (pb_mjN sg M b f i).1 M b f (8 + b) i).1 M b f i) (by unfold pb_mjC; rw [ed]) ?_
            refine v_iinc h dX8_joins_97 (q := 100) rfl rfl pb_inc rfl ?_
            refine v_goto h dX8_joins_100 (tgt := 9) (by decide) ?_
            have h9 := ih (i + 1) (by omega)
            rw [e9] at h9
            exact v_wk (by simp [pb_wk]) h9
          · skip
            have ed : (if (pb_mjT (pb_mjN sg M b f i).1 M b f (8 + b) i).1 (M + 7) (16 * b + i) = nI 1 then f else b) = f := if_pos c5
            refine v_aload_n h (i := 0) dX8_joins_81 (q := 82) rfl rfl rfl ?_
            refine v_getr h fl_X8_22 (by assumption) rfl (by assumption) dX8_joins_82 (q := 85) rfl ?_
            refine v_iload_n h (i := 1) dX8_joins_85 (q := 86) rfl rfl rfl ?_
            refine v_iald h (by assumption) rfl (by first | assumption | omega) (by decide) dX8_joins_86 (q := 87) rfl ?_
            refine v_eq (st' := [.int (nI f), .ref M]) (by rw [pb_up_neA (by omega), pb_mjT_ne (by omega), pb_mjN_ne (by omega), hf]) ?_
            refine v_goto h dX8_joins_87 (tgt := 91) (by decide) ?_
            refine v_bipush h (v := nI 16) dX8_joins_91 (q := 93) rfl (by decide +kernel) ?_
            refine v_iload_n h (i := 3) dX8_joins_93 (q := 94) rfl rfl rfl ?_
            refine v_callV0 h (c_X8_copiesTask hfl hm (by omega) (by decide) hi2) kX8_copiesTask tw1012 tw25 (by assumption) (by decide) rfl rfl rfl (by simp [Value.category]) (by decide) (Nat.zero_le _) (Nat.zero_le _) rfl dX8_joins_94 (q := 97) rfl ?_
            refine v_sg (sg' := pb_mjC (pb_mjT (pb_mjN sg M b f i).1 M b f (8 + b) i).1 M b f i) (by unfold pb_mjC; rw [ed]) ?_
            refine v_iinc h dX8_joins_97 (q := 100) rfl rfl pb_inc rfl ?_
            refine v_goto h dX8_joins_100 (tgt := 9) (by decide) ?_
            have h9 := ih (i + 1) (by omega)
            rw [e9] at h9
            exact v_wk (by simp [pb_wk]) h9
        · skip
          have ec : (if (pb_mjT (pb_mjN sg M b f i).1 M b f (8 + b) i).1 (M + 7) (16 * b + i) = -1 then (nI 1 <<< (nI i &&& 31)) else nI 0) = (nI 1 <<< (nI i &&& 31)) := if_pos c4
          refine v_iconst h (v := nI 1) dX8_joins_63 (q := 64) rfl (by decide +kernel) ?_
          refine v_iload_n h (i := 3) dX8_joins_64 (q := 65) rfl rfl rfl ?_
          refine v_ishl h dX8_joins_65 (q := 66) rfl ?_
          refine v_goto h dX8_joins_66 (tgt := 70) (by decide) ?_
          refine v_ior h dX8_joins_70 (q := 71) rfl ?_
          refine v_eq (st' := [.int ((pb_mjT (pb_mjN sg M b f i).1 M b f (8 + b) i).1 M 27 ||| (if (pb_mjT (pb_mjN sg M b f i).1 M b f (8 + b) i).1 (M + 7) (16 * b + i) = -1 then (nI 1 <<< (nI i &&& 31)) else nI 0)), .ref M]) (by rw [ec]) ?_
          refine v_puti h fl_X8_165 (by assumption) rfl rfl dX8_joins_71 (q := 74) rfl ?_
          refine v_aload_n h (i := 0) dX8_joins_74 (q := 75) rfl rfl rfl ?_
          refine v_iload h dX8_joins_75 (q := 77) rfl rfl ?_
          refine v_iconst h (v := nI 1) dX8_joins_77 (q := 78) rfl (by decide +kernel) ?_
          refine v_icmp_ne h dX8_joins_78 (q := 81) rfl (tgt := 90) (by decide) (fun c6 => ?_) (fun c6 => ?_)
          · skip
            have ed : (if (pb_mjT (pb_mjN sg M b f i).1 M b f (8 + b) i).1 (M + 7) (16 * b + i) = nI 1 then f else b) = b := if_neg c6
            refine v_iload_n h (i := 1) dX8_joins_90 (q := 91) rfl rfl rfl ?_
            refine v_bipush h (v := nI 16) dX8_joins_91 (q := 93) rfl (by decide +kernel) ?_
            refine v_iload_n h (i := 3) dX8_joins_93 (q := 94) rfl rfl rfl ?_
            refine v_callV0 h (c_X8_copiesTask hfl hm (by omega) (by decide) hi2) kX8_copiesTask tw1012 tw25 (by assumption) (by decide) rfl rfl rfl (by simp [Value.category]) (by decide) (Nat.zero_le _) (Nat.zero_le _) rfl dX8_joins_94 (q := 97) rfl ?_
            refine v_sg (sg' := pb_mjC (pb_mjT (pb_mjN sg M b f i).1 M b f (8 + b) i).1 M b f i) (by unfold pb_mjC; rw [ed]) ?_
            refine v_iinc h dX8_joins_97 (q := 100) rfl rfl pb_inc rfl ?_
            refine v_goto h dX8_joins_100 (tgt := 9) (by decide) ?_
            have h9 := ih (i + 1) (by omega)
            rw [e9] at h9
            exact v_wk (by simp [pb_wk]) h9
          · skip
            have ed : (if (pb_mjT (pb_mjN sg M b f i).1 M b f (8 + b) i).1 (M + 7) (16 * b + i) = nI 1 then f else b) = f := if_pos c6
            refine v_aload_n h (i := 0) dX8_joins_81 (q := 82) rfl rfl rfl ?_
            refine v_getr h fl_X8_22 (by assumption) rfl (by assumption) dX8_joins_82 (q := 85) rfl ?_
            refine v_iload_n h (i := 1) dX8_joins_85 (q := 86) rfl rfl rfl ?_
            refine v_iald h (by assumption) rfl (by first | assumption | omega) (by decide) dX8_joins_86 (q := 87) rfl ?_
            refine v_eq (st' := [.int (nI f), .ref M]) (by rw [pb_up_neA (by omega), pb_mjT_ne (by omega), pb_mjN_ne (by omega), hf]) ?_
            refine v_goto h dX8_joins_87 (tgt := 91) (by decide) ?_
            refine v_bipush h (v := nI 16) dX8_joins_91 (q := 93) rfl (by decide +kernel) ?_
            refine v_iload_n h (i := 3) dX8_joins_93 (q := 94) rfl rfl rfl ?_
            refine v_callV0 h (c_X8_copiesTask hfl hm (by omega) (by decide) hi2) kX8_copiesTask tw1012 tw25 (by assumption) (by decide) rfl rfl rfl (by simp [Value.category]) (by decide) (Nat.zero_le _) (Nat.zero_le _) rfl dX8_joins_94 (q := 97) rfl ?_
            refine v_sg (sg' := pb_mjC (pb_mjT (pb_mjN sg M b f i).1 M b f (8 + b) i).1 M b f i) (by unfold pb_mjC; rw [ed]) ?_
            refine v_iinc h dX8_joins_97 (q := 100) rfl rfl pb_inc rfl ?_
            refine v_goto h dX8_joins_100 (tgt := 9) (by decide) ?_
            have h9 := ih (i + 1) (by omega)
            rw [e9] at h9
            exact v_wk (by simp [pb_wk]) h9
  exact lp 16 0 (by omega)
def pb_mmis (sg : pb_Sg) (M t : Nat) : Bool := !decide ((sg (M + 4) (16 * 16 + t) &&& (pb_set (fun t => pb_has (sg (M + 1)) (16 * 16 + t)) 16 ^^^ (-1))) = 0)
set_option maxHeartbeats 4000000 in
set_option maxRecDepth 100000 in
theorem c_X8_missing {l : Launch} (hfl : l.stackTraces = false) {sz : Nat} {sk : pb_Sk} {rf : pb_Rf} {sg : pb_Sg} {M : Nat} (hm : pb_md sk rf M) : pb_Met l mX8_missing 4 0 0 [.ref M] sz sk rf sg (pb_is (some (.int (pb_set (pb_mmis sg M) 16))) sz sk rf sg) := by
  refine pb_start hfl (by decide +kernel) rfl (pb_c1 rfl) (Nat.le_of_ble_eq_true rfl) (fun F hF h hQ => ?_)
  subst hF
  show pv F 0 0 sz sk rf sg 0 [some (.ref M), none, none, none] []
  obtain ⟨hM0, hr1, hk1, hr2, hk2, hr3, hk3, hr4, hk4, hr5, hk5, hr6, hk6, hr7, hk7, hr8, hk8, hr9, hk9, hr10, hk10, hr11, hk11, hr12, hk12, hr13, hk13, hr14, hk14, hr15, hk15, hr16, hk16, hr17, hk17, hr18, hk18, hr19, hk19, hr20, hk20, hr21, hk21, hr22, hk22, hr23, hk23, hr24, hk24⟩ := id hm
  refine v_aload_n h (i := 0) dX8_missing_0 (q := 1) rfl rfl rfl ?_
  refine v_bipush h (v := nI 16) dX8_missing_1 (q := 3) rfl (by decide +kernel) ?_
  refine v_callV1 h (c_X8_tasks0 hfl hm (show 16 < 17 by decide)) kX8_tasks0 tw976 tw21 (by assumption) (by decide) rfl rfl rfl (by simp [Value.category]) (by decide) (Nat.zero_le _) (Nat.zero_le _) rfl dX8_missing_3 (q := 6) rfl ?_
  refine v_istore_n h (i := 1) dX8_missing_6 (q := 7) rfl rfl (Nat.le_of_ble_eq_true rfl) rfl ?_
  refine v_iconst h (v := nI 0) dX8_missing_7 (q := 8) rfl (by decide +kernel) ?_
  refine v_istore_n h (i := 2) dX8_missing_8 (q := 9) rfl rfl (Nat.le_of_ble_eq_true rfl) rfl ?_
  refine v_iconst h (v := nI 0) dX8_missing_9 (q := 10) rfl (by decide +kernel) ?_
  refine v_istore_n h (i := 3) dX8_missing_10 (q := 11) rfl rfl (Nat.le_of_ble_eq_true rfl) rfl ?_
  have lp : ∀ (j i : Nat), i + j = 16 → pv F 0 0 sz sk rf sg 11 [some (.ref M), some (.int (pb_set (fun t => pb_has (sg (M + 1)) (16 * 16 + t)) 16)), some (.int (pb_set (pb_mmis sg M) i)), some (.int (nI i))] [] := by
    intro j
    induction j with
    | zero =>
      intro i  hi
      obtain rfl : i = 16 := by omega
      refine v_iload_n h (i := 3) dX8_missing_11 (q := 12) rfl rfl rfl ?_
      refine v_bipush h (v := nI 16) dX8_missing_12 (q := 14) rfl (by decide +kernel) ?_
      refine v_icmp_ge h dX8_missing_14 (q := 17) rfl (tgt := 51) (by decide) (fun c1 => ?_) (fun c1 => pb_kle (Nat.le_refl _) (by decide) c1)
      refine v_iload_n h (i := 2) dX8_missing_51 (q := 52) rfl rfl rfl ?_
      refine v_iret h hQ rfl rfl dX8_missing_52 (Nat.zero_le _) (Nat.zero_le _) ⟨rfl, rfl, rfl, rfl, rfl⟩
    | succ j ih =>
      intro i  hi
      have hi2 : i < 16 := by omega
      refine v_iload_n h (i := 3) dX8_missing_11 (q := 12) rfl rfl rfl ?_
      refine v_bipush h (v := nI 16) dX8_missing_12 (q := 14) rfl (by decide +kernel) ?_
      refine v_icmp_ge h dX8_missing_14 (q := 17) rfl (tgt := 51) (by decide) (fun c2 => pb_kge hi2 (by decide) c2) (fun c2 => ?_)
      refine v_iload_n h (i := 2) dX8_missing_17 (q := 18) rfl rfl rfl ?_
      refine v_aload_n h (i := 0) dX8_missing_18 (q := 19) rfl rfl rfl ?_
      refine v_getr h fl_X8_19 (by assumption) rfl (by assumption) dX8_missing_19 (q := 22) rfl ?_
      refine v_bipush h (v := nI 16) dX8_missing_22 (q := 24) rfl (by decide +kernel) ?_
      refine v_iload_n h (i := 3) dX8_missing_24 (q := 25) rfl rfl rfl ?_
      refine v_callS1 h (c_X8_at hfl ) kX8_at rfl tw937 rfl rfl (by simp [Value.category]) (by decide) (Nat.zero_le _) (Nat.zero_le _) rfl dX8_missing_25 (q := 28) rfl ?_
      refine v_iald h (by assumption) rfl (by first | assumption | omega) (by decide) dX8_missing_28 (q := 29) rfl ?_
      refine v_iload_n h (i := 1) dX8_missing_29 (q := 30) rfl rfl rfl ?_
      refine v_iconst h (v := (-1)) dX8_missing_30 (q := 31) rfl (by decide +kernel) ?_
      refine v_ixor h dX8_missing_31 (q := 32) rfl ?_
      refine v_iand h dX8_missing_32 (q := 33) rfl ?_
      refine v_if_eq h dX8_missing_33 (q := 36) rfl (tgt := 42) (by decide) (fun c3 => ?_) (fun c3 => ?_)
      · skip
        have e8 : pb_mmis sg M i = false := by unfold pb_mmis; rw [decide_eq_true c3]; rfl
        have e9 := pb_set_f (c := (pb_mmis sg M)) (n := i) e8
        rw [← pb_or0 (pb_set (pb_mmis sg M) i)] at e9
        refine v_iconst h (v := nI 0) dX8_missing_42 (q := 43) rfl (by decide +kernel) ?_
        refine v_ior h dX8_missing_43 (q := 44) rfl ?_
        refine v_istore_n h (i := 2) dX8_missing_44 (q := 45) rfl rfl (Nat.le_of_ble_eq_true rfl) rfl ?_
        refine v_iinc h dX8_missing_45 (q := 48) rfl rfl pb_inc rfl ?_
        refine v_goto h dX8_missing_48 (tgt := 11) (by decide) ?_
        have h9 := ih (i + 1) (by omega)
        rw [e9] at h9
        exact h9
      · skip
        have e8 : pb_mmis sg M i = true := by unfold pb_mmis; rw [decide_eq_false c3]; rfl
        have e9 := pb_set_t (c := (pb_mmis sg M)) (n := i) e8
        refine v_iconst h (v := nI 1) dX8_missing_36 (q := 37) rfl (by decide +kernel) ?_
        refine v_iload_n h (i := 3) dX8_missing_37 (q := 38) rfl rfl rfl ?_
        refine v_ishl h dX8_missing_38 (q := 39) rfl ?_
        refine v_goto h dX8_missing_39 (tgt := 43) (by decide) ?_
        refine v_ior h dX8_missing_43 (q := 44) rfl ?_
        refine v_istore_n h (i := 2) dX8_missing_44 (q := 45) rfl rfl (Nat.le_of_ble_eq_true rfl) rfl ?_
        refine v_iinc h dX8_missing_45 (q := 48) rfl rfl pb_inc rfl ?_
        refine v_goto h dX8_missing_48 (tgt := 11) (by decide) ?_
        have h9 := ih (i + 1) (by omega)
        rw [e9] at h9
        exact h9
  exact lp 16 0 (by omega)
theorem pb_and_bit {x : Int32} {t : Nat} (ht : t < 32) : x &&& (nI 1 <<< (nI t &&& 31)) = if pb_in x t = true then nI 1 <<< (nI t &&& 31) else nI 0 := by
  apply pb_in_ext
  intro j hj
  rw [pb_in_and, pb_in_bit ht hj]
  by_cases e : j = t
  · subst e
    cases h : pb_in x j
    · rw [if_neg (by decide), pb_in_0]; rfl
    · rw [if_pos rfl, pb_in_bit ht hj]; simp
  · cases h : pb_in x t
    · rw [if_neg (by decide), pb_in_0]; simp [e]
    · rw [if_pos rfl, pb_in_bit ht hj]; simp [e]
theorem pb_set_or {c : Nat → Bool} {x : Int32} {n : Nat} (hn : n < 32) (h : pb_in x n = c n) : pb_set c n ||| (x &&& (nI 1 <<< (nI n &&& 31))) = pb_set c (n + 1) := by
  rw [pb_and_bit hn]
  cases e : c n
  · rw [pb_set_f e, if_neg (by rw [h, e]; decide), pb_or0]
  · rw [pb_set_t e, if_pos (by rw [h, e])]
set_option maxHeartbeats 4000000 in
set_option maxRecDepth 100000 in
theorem c_X8_rings {l : Launch} (hfl : l.stackTraces = false) {sz : Nat} {sk : pb_Sk} {rf : pb_Rf} {sg : pb_Sg} {M : Nat} (hm : pb_md sk rf M) : pb_Met l mX8_rings 3 0 0 [.ref M] sz sk rf sg (pb_is (some (.int (pb_set (fun t => pb_in (pb_mall (fun t => sg (M + 4) (16 * 16 + t)) t) t) 16))) sz sk rf sg) := by
  refine pb_start hfl (by decide +kernel) rfl (pb_c1 rfl) (Nat.le_of_ble_eq_true rfl) (fun F hF h hQ => ?_)
  subst hF
  show pv F 0 0 sz sk rf sg 0 [some (.ref M), none, none] []
  obtain ⟨hM0, hr1, hk1, hr2, hk2, hr3, hk3, hr4, hk4, hr5, hk5, hr6, hk6, hr7, hk7, hr8, hk8, hr9, hk9, hr10, hk10, hr11, hk11, hr12, hk12, hr13, hk13, hr14, hk14, hr15, hk15, hr16, hk16, hr17, hk17, hr18, hk18, hr19, hk19, hr20, hk20, hr21, hk21, hr22, hk22, hr23, hk23, hr24, hk24⟩ := id hm
  refine v_iconst h (v := nI 0) dX8_rings_0 (q := 1) rfl (by decide +kernel) ?_
  refine v_istore_n h (i := 1) dX8_rings_1 (q := 2) rfl rfl (Nat.le_of_ble_eq_true rfl) rfl ?_
  refine v_iconst h (v := nI 0) dX8_rings_2 (q := 3) rfl (by decide +kernel) ?_
  refine v_istore_n h (i := 2) dX8_rings_3 (q := 4) rfl rfl (Nat.le_of_ble_eq_true rfl) rfl ?_
  have lp : ∀ (j i : Nat), i + j = 16 → pv F 0 0 sz sk rf sg 4 [some (.ref M), some (.int (pb_set (fun t => pb_in (pb_mall (fun t => sg (M + 4) (16 * 16 + t)) t) t) i)), some (.int (nI i))] [] := by
    intro j
    induction j with
    | zero =>
      intro i  hi
      obtain rfl : i = 16 := by omega
      refine v_iload_n h (i := 2) dX8_rings_4 (q := 5) rfl rfl rfl ?_
      refine v_bipush h (v := nI 16) dX8_rings_5 (q := 7) rfl (by decide +kernel) ?_
      refine v_icmp_ge h dX8_rings_7 (q := 10) rfl (tgt := 30) (by decide) (fun c1 => ?_) (fun c1 => pb_kle (Nat.le_refl _) (by decide) c1)
      refine v_iload_n h (i := 1) dX8_rings_30 (q := 31) rfl rfl rfl ?_
      refine v_iret h hQ rfl rfl dX8_rings_31 (Nat.zero_le _) (Nat.zero_le _) ⟨rfl, rfl, rfl, rfl, rfl⟩
    | succ j ih =>
      intro i  hi
      have hi2 : i < 16 := by omega
      refine v_iload_n h (i := 2) dX8_rings_4 (q := 5) rfl rfl rfl ?_
      refine v_bipush h (v := nI 16) dX8_rings_5 (q := 7) rfl (by decide +kernel) ?_
      refine v_icmp_ge h dX8_rings_7 (q := 10) rfl (tgt := 30) (by decide) (fun c2 => pb_kge hi2 (by decide) c2) (fun c2 => ?_)
      refine v_iload_n h (i := 1) dX8_rings_10 (q := 11) rfl rfl rfl ?_
      refine v_aload_n h (i := 0) dX8_rings_11 (q := 12) rfl rfl rfl ?_
      refine v_bipush h (v := nI 16) dX8_rings_12 (q := 14) rfl (by decide +kernel) ?_
      refine v_iload_n h (i := 2) dX8_rings_14 (q := 15) rfl rfl rfl ?_
      refine v_callV1 h (c_X8_allNeeds hfl hm (show 16 < 17 by decide) hi2) kX8_allNeeds tw964 tw20 (by assumption) (by decide) rfl rfl rfl (by simp [Value.category]) (by decide) (Nat.zero_le _) (Nat.zero_le _) rfl dX8_rings_15 (q := 18) rfl ?_
      refine v_iconst h (v := nI 1) dX8_rings_18 (q := 19) rfl (by decide +kernel) ?_
      refine v_iload_n h (i := 2) dX8_rings_19 (q := 20) rfl rfl rfl ?_
      refine v_ishl h dX8_rings_20 (q := 21) rfl ?_
      refine v_iand h dX8_rings_21 (q := 22) rfl ?_
      refine v_ior h dX8_rings_22 (q := 23) rfl ?_
      refine v_eq (st' := [.int (pb_set (fun t => pb_in (pb_mall (fun t => sg (M + 4) (16 * 16 + t)) t) t) (i + 1))]) (by rw [← pb_set_or (c := (fun t => pb_in (pb_mall (fun t => sg (M + 4) (16 * 16 + t)) t) t)) (show i < 32 by omega) rfl]) ?_
      refine v_istore_n h (i := 1) dX8_rings_23 (q := 24) rfl rfl (Nat.le_of_ble_eq_true rfl) rfl ?_
      refine v_iinc h dX8_rings_24 (q := 27) rfl rfl pb_inc rfl ?_
      refine v_goto h dX8_rings_27 (tgt := 4) (by decide) ?_
      exact ih (i + 1) (by omega)
  exact lp 16 0 (by omega)
set_option maxHeartbeats 4000000 in
set_option maxRecDepth 100000 in
theorem c_X8_becomes {l : Launch} (hfl : l.stackTraces = false) {sz : Nat} {sk : pb_Sk} {rf : pb_Rf} {sg : pb_Sg} {M : Nat} (hm : pb_md sk rf M) {q : Nat} (hq : q < 8) : pb_Met l mX8_becomes 5 0 0 [.ref M, .int (nI q)] sz sk rf sg (pb_is (some (.int (nI (pb_cnt (fun t => !pb_msame sg M q 16 t) 16)))) sz sk rf (pb_up (pb_mcN sg M 16 q 16) (M + 13) q (nI 0))) := by
  refine pb_start hfl (by decide +kernel) rfl (pb_c1 rfl) (Nat.le_of_ble_eq_true rfl) (fun F hF h hQ => ?_)
  subst hF
  show pv F 0 0 sz sk rf sg 0 [some (.ref M), some (.int (nI q)), none, none] []
  obtain ⟨hM0, hr1, hk1, hr2, hk2, hr3, hk3, hr4, hk4, hr5, hk5, hr6, hk6, hr7, hk7, hr8, hk8, hr9, hk9, hr10, hk10, hr11, hk11, hr12, hk12, hr13, hk13, hr14, hk14, hr15, hk15, hr16, hk16, hr17, hk17, hr18, hk18, hr19, hk19, hr20, hk20, hr21, hk21, hr22, hk22, hr23, hk23, hr24, hk24⟩ := id hm
  refine v_iconst h (v := nI 0) dX8_becomes_0 (q := 1) rfl (by decide +kernel) ?_
  refine v_istore_n h (i := 2) dX8_becomes_1 (q := 2) rfl rfl (Nat.le_of_ble_eq_true rfl) rfl ?_
  refine v_iconst h (v := nI 0) dX8_becomes_2 (q := 3) rfl (by decide +kernel) ?_
  refine v_istore_n h (i := 3) dX8_becomes_3 (q := 4) rfl rfl (Nat.le_of_ble_eq_true rfl) rfl ?_
  have lp : ∀ (j i : Nat), i + j = 16 → pv F 0 0 sz sk rf sg 4 [some (.ref M), some (.int (nI q)), some (.int (nI (pb_cnt (fun t => !pb_msame sg M q 16 t) i))), some (.int (nI i))] [] := by
    intro j
    induction j with
    | zero =>
      intro i  hi
      obtain rfl : i = 16 := by omega
      refine v_iload_n h (i := 3) dX8_becomes_4 (q := 5) rfl rfl rfl ?_
      refine v_bipush h (v := nI 16) dX8_becomes_5 (q := 7) rfl (by decide +kernel) ?_
      refine v_icmp_ge h dX8_becomes_7 (q := 10) rfl (tgt := 35) (by decide) (fun c1 => ?_) (fun c1 => pb_kle (Nat.le_refl _) (by decide) c1)
      refine v_aload_n h (i := 0) dX8_becomes_35 (q := 36) rfl rfl rfl ?_
      refine v_bipush h (v := nI 16) dX8_becomes_36 (q := 38) rfl (by decide +kernel) ?_
      refine v_iload_n h (i := 1) dX8_becomes_38 (q := 39) rfl rfl rfl ?_
      refine v_callV0 h (c_X8_copies hfl hm (by omega) (by omega)) kX8_copies tw1008 tw24 (by assumption) (by decide) rfl rfl rfl (by simp [Value.category]) (by decide) (Nat.zero_le _) (Nat.zero_le _) rfl dX8_becomes_39 (q := 42) rfl ?_
      refine v_aload_n h (i := 0) dX8_becomes_42 (q := 43) rfl rfl rfl ?_
      refine v_getr h fl_X8_50 (by assumption) rfl (by assumption) dX8_becomes_43 (q := 46) rfl ?_
      refine v_iload_n h (i := 1) dX8_becomes_46 (q := 47) rfl rfl rfl ?_
      refine v_iconst h (v := nI 0) dX8_becomes_47 (q := 48) rfl (by decide +kernel) ?_
      refine v_iast h (by assumption) rfl (by first | assumption | omega) (by decide) dX8_becomes_48 (q := 49) rfl ?_
      refine v_iload_n h (i := 2) dX8_becomes_49 (q := 50) rfl rfl rfl ?_
      refine v_iret h hQ rfl rfl dX8_becomes_50 (Nat.zero_le _) (Nat.zero_le _) ⟨rfl, rfl, rfl, rfl, rfl⟩
    | succ j ih =>
      intro i  hi
      have hi2 : i < 16 := by omega
      refine v_iload_n h (i := 3) dX8_becomes_4 (q := 5) rfl rfl rfl ?_
      refine v_bipush h (v := nI 16) dX8_becomes_5 (q := 7) rfl (by decide +kernel) ?_
      refine v_icmp_ge h dX8_becomes_7 (q := 10) rfl (tgt := 35) (by decide) (fun c2 => pb_kge hi2 (by decide) c2) (fun c2 => ?_)
      refine v_iload_n h (i := 2) dX8_becomes_10 (q := 11) rfl rfl rfl ?_
      refine v_aload_n h (i := 0) dX8_becomes_11 (q := 12) rfl rfl rfl ?_
      refine v_iload_n h (i := 1) dX8_becomes_12 (q := 13) rfl rfl rfl ?_
      refine v_bipush h (v := nI 16) dX8_becomes_13 (q := 15) rfl (by decide +kernel) ?_
      refine v_iload_n h (i := 3) dX8_becomes_15 (q := 16) rfl rfl rfl ?_
      refine v_callV1 h (c_X8_isSame hfl hm (by omega) (by omega) hi2) kX8_isSame tw1048 tw29 (by assumption) (by decide) rfl rfl rfl (by simp [Value.category]) (by decide) (Nat.zero_le _) (Nat.zero_le _) rfl dX8_becomes_16 (q := 19) rfl ?_
      refine v_if_eq h dX8_becomes_19 (q := 22) rfl (tgt := 26) (by decide) (fun c3 => ?_) (fun c3 => ?_)
      · skip
        have e8 := pb_b_0.mp c3
        have e9 : nI (pb_cnt (fun t => !pb_msame sg M q 16 t) (i + 1)) = nI (pb_cnt (fun t => !pb_msame sg M q 16 t) i) + nI 1 := by rw [nI_add]; exact congrArg nI (if_pos (by simp only [e8]; rfl))
        refine v_iconst h (v := nI 1) dX8_becomes_26 (q := 27) rfl (by decide +kernel) ?_
        refine v_iadd h dX8_becomes_27 (q := 28) rfl ?_
        refine v_istore_n h (i := 2) dX8_becomes_28 (q := 29) rfl rfl (Nat.le_of_ble_eq_true rfl) rfl ?_
        refine v_iinc h dX8_becomes_29 (q := 32) rfl rfl pb_inc rfl ?_
        refine v_goto h dX8_becomes_32 (tgt := 4) (by decide) ?_
        have h9 := ih (i + 1) (by omega)
        rw [e9] at h9
        exact h9
      · skip
        have e8 := pb_ne_f (fun q => c3 (pb_b_0.mpr q))
        have e9 : nI (pb_cnt (fun t => !pb_msame sg M q 16 t) (i + 1)) = nI (pb_cnt (fun t => !pb_msame sg M q 16 t) i) + nI 0 := by rw [nI_add]; exact congrArg nI (if_neg (by simp only [e8]; decide))
        refine v_iconst h (v := nI 0) dX8_becomes_22 (q := 23) rfl (by decide +kernel) ?_
        refine v_goto h dX8_becomes_23 (tgt := 27) (by decide) ?_
        refine v_iadd h dX8_becomes_27 (q := 28) rfl ?_
        refine v_istore_n h (i := 2) dX8_becomes_28 (q := 29) rfl rfl (Nat.le_of_ble_eq_true rfl) rfl ?_
        refine v_iinc h dX8_becomes_29 (q := 32) rfl rfl pb_inc rfl ?_
        refine v_goto h dX8_becomes_32 (tgt := 4) (by decide) ?_
        have h9 := ih (i + 1) (by omega)
        rw [e9] at h9
        exact h9
  exact lp 16 0 (by omega)
def pb_mh (sg : pb_Sg) (M c : Nat) (x : Int32) : Nat → Int32
  | 0 => sg (M + 14) c
  | n + 1 => if sg (M + 15) n = nI c ∧ sg (M + 17) n ≤ x ∧ x ≤ sg (M + 18) n then sg (M + 16) n else pb_mh sg M c x n
set_option maxHeartbeats 4000000 in
set_option maxRecDepth 100000 in
theorem c_X8_holds {l : Launch} (hfl : l.stackTraces = false) {sz : Nat} {sk : pb_Sk} {rf : pb_Rf} {sg : pb_Sg} {M : Nat} (hm : pb_md sk rf M) {c dy L : Nat} (hc : c < 5) (hL : sg M 20 = nI L) (hL40 : L ≤ 40) : pb_Met l mX8_holds 2 0 0 [.ref M, .int (nI c), .int (nI dy)] sz sk rf sg (pb_is (some (.int (pb_mh sg M c (nI dy) L))) sz sk rf sg) := by
  refine pb_start hfl (by decide +kernel) rfl (pb_c1 rfl) (Nat.le_of_ble_eq_true rfl) (fun F hF h hQ => ?_)
  subst hF
  show pv F 0 0 sz sk rf sg 0 [some (.ref M), some (.int (nI c)), some (.int (nI dy)), none, none] []
  obtain ⟨hM0, hr1, hk1, hr2, hk2, hr3, hk3, hr4, hk4, hr5, hk5, hr6, hk6, hr7, hk7, hr8, hk8, hr9, hk9, hr10, hk10, hr11, hk11, hr12, hk12, hr13, hk13, hr14, hk14, hr15, hk15, hr16, hk16, hr17, hk17, hr18, hk18, hr19, hk19, hr20, hk20, hr21, hk21, hr22, hk22, hr23, hk23, hr24, hk24⟩ := id hm
  refine v_aload_n h (i := 0) dX8_holds_0 (q := 1) rfl rfl rfl ?_
  refine v_getr h fl_X8_53 (by assumption) rfl (by assumption) dX8_holds_1 (q := 4) rfl ?_
  refine v_iload_n h (i := 1) dX8_holds_4 (q := 5) rfl rfl rfl ?_
  refine v_iald h (by assumption) rfl (by first | assumption | omega) (by decide) dX8_holds_5 (q := 6) rfl ?_
  refine v_istore_n h (i := 3) dX8_holds_6 (q := 7) rfl rfl (Nat.le_of_ble_eq_true rfl) rfl ?_
  refine v_iconst h (v := nI 0) dX8_holds_7 (q := 8) rfl (by decide +kernel) ?_
  refine v_istore h dX8_holds_8 (q := 10) rfl (Nat.le_of_ble_eq_true rfl) rfl ?_
  have lp : ∀ (j i : Nat), i + j = L → pv F 0 0 sz sk rf sg 10 [some (.ref M), some (.int (nI c)), some (.int (nI dy)), some (.int (pb_mh sg M c (nI dy) i)), some (.int (nI i))] [] := by
    intro j
    induction j with
    | zero =>
      intro i  hi
      obtain rfl : i = L := by omega
      refine v_iload h dX8_holds_10 (q := 12) rfl rfl ?_
      refine v_aload_n h (i := 0) dX8_holds_12 (q := 13) rfl rfl rfl ?_
      refine v_geti h fl_X8_203 (by assumption) rfl dX8_holds_13 (q := 16) rfl ?_
      refine v_eq (st' := [.int (nI i), .int (nI i)]) (by rw [hL]) ?_
      refine v_icmp_ge h dX8_holds_16 (q := 19) rfl (tgt := 69) (by decide) (fun c1 => ?_) (fun c1 => pb_kle (Nat.le_refl _) (by omega) c1)
      refine v_iload_n h (i := 3) dX8_holds_69 (q := 70) rfl rfl rfl ?_
      refine v_iret h hQ rfl rfl dX8_holds_70 (Nat.zero_le _) (Nat.zero_le _) ⟨rfl, rfl, rfl, rfl, rfl⟩
    | succ j ih =>
      intro i  hi
      have hi2 : i < L := by omega
      refine v_iload h dX8_holds_10 (q := 12) rfl rfl ?_
      refine v_aload_n h (i := 0) dX8_holds_12 (q := 13) rfl rfl rfl ?_
      refine v_geti h fl_X8_203 (by assumption) rfl dX8_holds_13 (q := 16) rfl ?_
      refine v_eq (st' := [.int (nI L), .int (nI i)]) (by rw [hL]) ?_
      refine v_icmp_ge h dX8_holds_16 (q := 19) rfl (tgt := 69) (by decide) (fun c2 => pb_kge hi2 (by omega) c2) (fun c2 => ?_)
      refine v_aload_n h (i := 0) dX8_holds_19 (q := 20) rfl rfl rfl ?_
      refine v_getr h fl_X8_56 (by assumption) rfl (by assumption) dX8_holds_20 (q := 23) rfl ?_
      refine v_iload h dX8_holds_23 (q := 25) rfl rfl ?_
      refine v_iald h (by assumption) rfl (by first | assumption | omega) (by decide) dX8_holds_25 (q := 26) rfl ?_
      refine v_iload_n h (i := 1) dX8_holds_26 (q := 27) rfl rfl rfl ?_
      refine v_icmp_ne h dX8_holds_27 (q := 30) rfl (tgt := 61) (by decide) (fun c7 => ?_) (fun c7 => ?_)
      · skip
        have e9 : pb_mh sg M c (nI dy) (i + 1) = (pb_mh sg M c (nI dy) i) := if_neg (fun q => c7 q.1)
        refine v_iload_n h (i := 3) dX8_holds_61 (q := 62) rfl rfl rfl ?_
        refine v_istore_n h (i := 3) dX8_holds_62 (q := 63) rfl rfl (Nat.le_of_ble_eq_true rfl) rfl ?_
        refine v_iinc h dX8_holds_63 (q := 66) rfl rfl pb_inc rfl ?_
        refine v_goto h dX8_holds_66 (tgt := 10) (by decide) ?_
        have h9 := ih (i + 1) (by omega)
        rw [e9] at h9
        exact h9
      · skip
        refine v_iload_n h (i := 2) dX8_holds_30 (q := 31) rfl rfl rfl ?_
        refine v_aload_n h (i := 0) dX8_holds_31 (q := 32) rfl rfl rfl ?_
        refine v_getr h fl_X8_62 (by assumption) rfl (by assumption) dX8_holds_32 (q := 35) rfl ?_
        refine v_iload h dX8_holds_35 (q := 37) rfl rfl ?_
        refine v_iald h (by assumption) rfl (by first | assumption | omega) (by decide) dX8_holds_37 (q := 38) rfl ?_
        refine v_aload_n h (i := 0) dX8_holds_38 (q := 39) rfl rfl rfl ?_
        refine v_getr h fl_X8_65 (by assumption) rfl (by assumption) dX8_holds_39 (q := 42) rfl ?_
        refine v_iload h dX8_holds_42 (q := 44) rfl rfl ?_
        refine v_iald h (by assumption) rfl (by first | assumption | omega) (by decide) dX8_holds_44 (q := 45) rfl ?_
        by_cases hk : sg (M + 17) i ≤ nI dy ∧ nI dy ≤ sg (M + 18) i
        · skip
          refine v_callS1 h (c_X8_isIn hfl hk) kX8_isIn rfl tw922 rfl rfl (by simp [Value.category]) (by decide) (Nat.zero_le _) (Nat.zero_le _) rfl dX8_holds_45 (q := 48) rfl ?_
          refine v_if_eq h dX8_holds_48 (q := 51) rfl (tgt := 61) (by decide) (fun c4 => absurd c4 (by decide)) (fun c4 => ?_)
          have e9 : pb_mh sg M c (nI dy) (i + 1) = sg (M + 16) i := if_pos ⟨c7, hk⟩
          refine v_aload_n h (i := 0) dX8_holds_51 (q := 52) rfl rfl rfl ?_
          refine v_getr h fl_X8_59 (by assumption) rfl (by assumption) dX8_holds_52 (q := 55) rfl ?_
          refine v_iload h dX8_holds_55 (q := 57) rfl rfl ?_
          refine v_iald h (by assumption) rfl (by first | assumption | omega) (by decide) dX8_holds_57 (q := 58) rfl ?_
          refine v_goto h dX8_holds_58 (tgt := 62) (by decide) ?_
          refine v_istore_n h (i := 3) dX8_holds_62 (q := 63) rfl rfl (Nat.le_of_ble_eq_true rfl) rfl ?_
          refine v_iinc h dX8_holds_63 (q := 66) rfl rfl pb_inc rfl ?_
          refine v_goto h dX8_holds_66 (tgt := 10) (by decide) ?_
          have h9 := ih (i + 1) (by omega)
          rw [e9] at h9
          exact h9
        · skip
          refine v_callS1 h (x_X8_isIn hfl hk) kX8_isIn rfl tw922 rfl rfl (by simp [Value.category]) (by decide) (Nat.zero_le _) (Nat.zero_le _) rfl dX8_holds_45 (q := 48) rfl ?_
          refine v_if_eq h dX8_holds_48 (q := 51) rfl (tgt := 61) (by decide) (fun c5 => ?_) (fun c5 => absurd c5 (by decide))
          have e9 : pb_mh sg M c (nI dy) (i + 1) = (pb_mh sg M c (nI dy) i) := if_neg (fun q => hk q.2)
          refine v_iload_n h (i := 3) dX8_holds_61 (q := 62) rfl rfl rfl ?_
          refine v_istore_n h (i := 3) dX8_holds_62 (q := 63) rfl rfl (Nat.le_of_ble_eq_true rfl) rfl ?_
          refine v_iinc h dX8_holds_63 (q := 66) rfl rfl pb_inc rfl ?_
          refine v_goto h dX8_holds_66 (tgt := 10) (by decide) ?_
          have h9 := ih (i + 1) (by omega)
          rw [e9] at h9
          exact h9
  exact lp L 0 (by omega)
