theorem pb_mw.of {sg sg' : pb_Sg} {M q : Nat} (h : pb_mw sg M q) (h1 : sg' (M + 1) = sg (M + 1)) (h2 : sg' (M + 2) = sg (M + 2)) : pb_mw sg' M q := fun t ht => by
  rw [h1, h2]; exact h t ht
theorem pb_mul_ne {M q x : Nat} (h1 : x ≠ M + 21) (h2 : x ≠ M + 22) : ∀ (n : Nat) (S : pb_Sg) (U O : Int32), (pb_mul M q n S U O).1 x = S x := by
  intro n
  induction n with
  | zero => intro S U O; rfl
  | succ n ih =>
    intro S U O
    unfold pb_mul
    split
    · rfl
    · split
      · exact ih _ _ _
      · exact (ih _ _ _).trans (pb_mpl_ne h1 h2)
theorem pb_mun_ne {sg : pb_Sg} {M q b L x : Nat} (h : x < M + 19 ∨ M + 23 < x) : (pb_mun sg M q b L).1 x = sg x := (pb_mul_ne (by omega) (by omega) _ _ _ _).trans (pb_mS0_ne h)
theorem pb_mct_M {sg : pb_Sg} {M f o t : Nat} : pb_mct sg M f o t M = sg M := pb_mct_ne (by omega)
theorem pb_mjN_M {sg : pb_Sg} {M b f j : Nat} (hj : j ≠ 27) (n : Nat) : (pb_mjN sg M b f n).1 M j = sg M j := by
  induction n with
  | zero => exact pb_up_ne3 hj
  | succ n ih =>
    unfold pb_mjN
    split
    · show pb_mjC _ _ _ _ _ M j = _
      unfold pb_mjC
      rw [pb_mct_M, pb_up_ne3 hj, pb_mjT_ne (by omega), ih]
    · show (pb_mjT _ _ _ _ _ _).1 M j = _
      rw [pb_mjT_ne (by omega), ih]
def pb_mrg (J : pb_Sg) (M : Nat) : Int32 := pb_set (fun t => pb_in (pb_mall (fun t => J (M + 4) (16 * 16 + t)) t) t) 16
def pb_mco (J : pb_Sg) (M q : Nat) : Int32 := pb_sum (fun t => J (M + 1) (16 * q + t) * J (M + 3) (16 * q + t)) 16
def pb_mto (m : Bool) (f b : Nat) : Nat := if m = true then f else b
/-- the reason, and the memory behind it; J is the memory behind joining -/
def pb_mrs (J : pb_Sg) (M to L : Nat) : Int32 × pb_Sg := if ¬ J M 27 = 0 then (nI 1, J) else if ¬ pb_set (pb_mmis J M) 16 = 0 then (nI 2, J) else if ¬ pb_mrg J M = 0 then (nI 3, J) else if J (M + 6) to < pb_mco J M 16 then (nI 4, J) else if ¬ (pb_mun J M 16 to L).2 = 0 then (nI 5, (pb_mun J M 16 to L).1) else (nI 0, (pb_mun J M 16 to L).1)
theorem pb_mrs_ne {J : pb_Sg} {M to L x : Nat} (h : x < M + 19 ∨ M + 23 < x) : (pb_mrs J M to L).2 x = J x := by
  unfold pb_mrs
  split
  · rfl
  split
  · rfl
  split
  · rfl
  split
  · rfl
  split
  · exact pb_mun_ne h
  · exact pb_mun_ne h
def pb_mrt (r : Int32 × pb_Sg) (M to L : Nat) : Int32 × pb_Sg := if r.1 = nI 1 then (pb_low (r.2 M 27) 16, r.2) else if r.1 = nI 2 then (pb_low (pb_set (pb_mmis r.2 M) 16) 16, r.2) else if r.1 = nI 3 then (pb_low (pb_mrg r.2 M) 16, r.2) else if r.1 = nI 5 then (pb_low (pb_mun r.2 M 16 to L).2 16, (pb_mun r.2 M 16 to L).1) else (-1, r.2)
set_option maxHeartbeats 400000 in
set_option maxRecDepth 100000 in
theorem c_X8_reasonNow {l : Launch} (hfl : l.stackTraces = false) {sz : Nat} {sk : pb_Sk} {rf : pb_Rf} {sg : pb_Sg} {M : Nat} (hm : pb_md sk rf M) {b f L : Nat} (hb : b < 8) (hf8 : f < 8) (hf : sg (M + 5) b = nI f) (hL : sg M 20 = nI L) (hL40 : L ≤ 40) {m : Bool} (hw : pb_mw (pb_mjN sg M b f 16).1 M 16) : pb_Met l mX8_reasonNow 6 0 0 [.ref M, .int (nI b), .int (pb_b m)] sz sk rf sg (pb_is (some (.int (pb_mrs (pb_mjN sg M b f 16).1 M (pb_mto m f b) L).1)) sz sk rf ((pb_mrs (pb_mjN sg M b f 16).1 M (pb_mto m f b) L).2)) := by
  refine pb_start hfl (by decide +kernel) rfl (pb_c1 rfl) (Nat.le_of_ble_eq_true rfl) (fun F hF h hQ => ?_)
  subst hF
  show pv F 0 0 sz sk rf sg 0 [some (.ref M), some (.int (nI b)), some (.int (pb_b m)), none] []
  obtain ⟨hM0, hr1, hk1, hr2, hk2, hr3, hk3, hr4, hk4, hr5, hk5, hr6, hk6, hr7, hk7, hr8, hk8, hr9, hk9, hr10, hk10, hr11, hk11, hr12, hk12, hr13, hk13, hr14, hk14, hr15, hk15, hr16, hk16, hr17, hk17, hr18, hk18, hr19, hk19, hr20, hk20, hr21, hk21, hr22, hk22, hr23, hk23, hr24, hk24⟩ := id hm
  refine v_iload_n h (i := 2) dX8_reasonNow_0 (q := 1) rfl rfl rfl ?_
  refine v_if_eq h dX8_reasonNow_1 (q := 4) rfl (tgt := 13) (by decide) (fun c1 => ?_) (fun c1 => ?_)
  · skip
    have e6 := pb_b_0.mp c1
    have e7 : pb_mto m f b = b := if_neg (by rw [e6]; decide)
    refine v_iload_n h (i := 1) dX8_reasonNow_13 (q := 14) rfl rfl rfl ?_
    refine v_eq (st' := [.int (nI (pb_mto m f b))]) (by rw [e7]) ?_
    refine v_istore_n h (i := 3) dX8_reasonNow_14 (q := 15) rfl rfl (Nat.le_of_ble_eq_true rfl) rfl ?_
    have hto : pb_mto m f b < 8 := by rw [e7]; assumption
    refine v_aload_n h (i := 0) dX8_reasonNow_15 (q := 16) rfl rfl rfl ?_
    refine v_iload_n h (i := 1) dX8_reasonNow_16 (q := 17) rfl rfl rfl ?_
    refine v_callV1 h (c_X8_joins hfl hm hb hf8 hf) kX8_joins tw1040 tw27 (by assumption) (by decide) rfl rfl rfl (by simp [Value.category]) (by decide) (Nat.zero_le _) (Nat.zero_le _) rfl dX8_reasonNow_17 (q := 20) rfl ?_
    have hJL : (pb_mjN sg M b f 16).1 M 20 = nI L := (pb_mjN_M (by decide) 16).trans hL
    obtain ⟨J9, hJ9⟩ : ∃ J9, J9 = (pb_mjN sg M b f 16).1 := ⟨_, rfl⟩
    rw [← hJ9] at hw hQ hJL ⊢
    refine v_pop h dX8_reasonNow_20 (q := 21) rfl rfl ?_
    refine v_aload_n h (i := 0) dX8_reasonNow_21 (q := 22) rfl rfl rfl ?_
    refine v_geti h fl_X8_165 (by assumption) rfl dX8_reasonNow_22 (q := 25) rfl ?_
    refine v_if_ne h dX8_reasonNow_25 (q := 28) rfl (tgt := 35) (by decide) (fun c1 => ?_) (fun c1 => ?_)
    · skip
      refine v_aload_n h (i := 0) dX8_reasonNow_35 (q := 36) rfl rfl rfl ?_
      refine v_geti h fl_X8_165 (by assumption) rfl dX8_reasonNow_36 (q := 39) rfl ?_
      refine v_if_eq h dX8_reasonNow_39 (q := 42) rfl (tgt := 46) (by decide) (fun c3 => absurd c3 c1) (fun c3 => ?_)
      have e9 : pb_mrs J9 M (pb_mto m f b) L = (nI 1, J9) := by unfold pb_mrs; rw [if_pos c1]
      refine v_iconst h (v := nI 1) dX8_reasonNow_42 (q := 43) rfl (by decide +kernel) ?_
      refine v_goto h dX8_reasonNow_43 (tgt := 47) (by decide) ?_
      refine v_iret h hQ rfl rfl dX8_reasonNow_47 (Nat.zero_le _) (Nat.zero_le _) ⟨by rw [e9], rfl, rfl, rfl, by rw [e9]⟩
    · skip
      refine v_aload_n h (i := 0) dX8_reasonNow_28 (q := 29) rfl rfl rfl ?_
      refine v_callV1 h (c_X8_missing hfl hm) kX8_missing tw1074 tw33 (by assumption) (by decide) rfl rfl rfl (by simp [Value.category]) (by decide) (Nat.zero_le _) (Nat.zero_le _) rfl dX8_reasonNow_29 (q := 32) rfl ?_
      refine v_if_eq h dX8_reasonNow_32 (q := 35) rfl (tgt := 48) (by decide) (fun c2 => ?_) (fun c2 => ?_)
      · skip
        refine v_aload_n h (i := 0) dX8_reasonNow_48 (q := 49) rfl rfl rfl ?_
        refine v_callV1 h (c_X8_rings hfl hm) kX8_rings tw1078 tw34 (by assumption) (by decide) rfl rfl rfl (by simp [Value.category]) (by decide) (Nat.zero_le _) (Nat.zero_le _) rfl dX8_reasonNow_49 (q := 52) rfl ?_
        refine v_eq (st' := [.int (pb_mrg J9 M)]) rfl ?_
        refine v_if_eq h dX8_reasonNow_52 (q := 55) rfl (tgt := 57) (by decide) (fun c3 => ?_) (fun c3 => ?_)
        · skip
          refine v_aload_n h (i := 0) dX8_reasonNow_57 (q := 58) rfl rfl rfl ?_
          refine v_bipush h (v := nI 16) dX8_reasonNow_58 (q := 60) rfl (by decide +kernel) ?_
          refine v_callV1 h (c_X8_cost0 hfl hm (show 16 < 17 by decide)) kX8_cost0 tw1000 tw23 (by assumption) (by decide) rfl rfl rfl (by simp [Value.category]) (by decide) (Nat.zero_le _) (Nat.zero_le _) rfl dX8_reasonNow_60 (q := 63) rfl ?_
          refine v_eq (st' := [.int (pb_mco J9 M 16)]) rfl ?_
          refine v_aload_n h (i := 0) dX8_reasonNow_63 (q := 64) rfl rfl rfl ?_
          refine v_getr h fl_X8_25 (by assumption) rfl (by assumption) dX8_reasonNow_64 (q := 67) rfl ?_
          refine v_iload_n h (i := 3) dX8_reasonNow_67 (q := 68) rfl rfl rfl ?_
          refine v_iald h (by assumption) rfl (by first | assumption | omega) (by decide) dX8_reasonNow_68 (q := 69) rfl ?_
          refine v_icmp_le h dX8_reasonNow_69 (q := 72) rfl (tgt := 76) (by decide) (fun c4 => ?_) (fun c4 => ?_)
          · skip
            refine v_aload_n h (i := 0) dX8_reasonNow_76 (q := 77) rfl rfl rfl ?_
            refine v_bipush h (v := nI 16) dX8_reasonNow_77 (q := 79) rfl (by decide +kernel) ?_
            refine v_iload_n h (i := 3) dX8_reasonNow_79 (q := 80) rfl rfl rfl ?_
            refine v_callV1 h (c_X8_unplaced hfl hm (show 16 < 17 by decide) hto hJL hL40 hw) kX8_unplaced tw1082 tw35 (by assumption) (by decide) rfl rfl rfl (by simp [Value.category]) (by decide) (Nat.zero_le _) (Nat.zero_le _) rfl dX8_reasonNow_80 (q := 83) rfl ?_
            refine v_if_eq h dX8_reasonNow_83 (q := 86) rfl (tgt := 90) (by decide) (fun c5 => ?_) (fun c5 => ?_)
            · skip
              have e9 : pb_mrs J9 M (pb_mto m f b) L = (nI 0, (pb_mun J9 M 16 (pb_mto m f b) L).1) := by unfold pb_mrs; rw [if_neg (fun q9 => q9 c1), if_neg (fun q9 => q9 c2), if_neg (fun q9 => q9 c3), if_neg (Int32.not_lt.mpr c4), if_neg (fun q9 => q9 c5)]
              refine v_iconst h (v := nI 0) dX8_reasonNow_90 (q := 91) rfl (by decide +kernel) ?_
              refine v_iret h hQ rfl rfl dX8_reasonNow_91 (Nat.zero_le _) (Nat.zero_le _) ⟨by rw [e9], rfl, rfl, rfl, by rw [e9]⟩
            · skip
              have e9 : pb_mrs J9 M (pb_mto m f b) L = (nI 5, (pb_mun J9 M 16 (pb_mto m f b) L).1) := by unfold pb_mrs; rw [if_neg (fun q9 => q9 c1), if_neg (fun q9 => q9 c2), if_neg (fun q9 => q9 c3), if_neg (Int32.not_lt.mpr c4), if_pos c5]
              refine v_iconst h (v := nI 5) dX8_reasonNow_86 (q := 87) rfl (by decide +kernel) ?_
              refine v_goto h dX8_reasonNow_87 (tgt := 91) (by decide) ?_
              refine v_iret h hQ rfl rfl dX8_reasonNow_91 (Nat.zero_le _) (Nat.zero_le _) ⟨by rw [e9], rfl, rfl, rfl, by rw [e9]⟩
          · skip
            have e9 : pb_mrs J9 M (pb_mto m f b) L = (nI 4, J9) := by unfold pb_mrs; rw [if_neg (fun q9 => q9 c1), if_neg (fun q9 => q9 c2), if_neg (fun q9 => q9 c3), if_pos (Int32.not_le.mp c4)]
            refine v_iconst h (v := nI 4) dX8_reasonNow_72 (q := 73) rfl (by decide +kernel) ?_
            refine v_goto h dX8_reasonNow_73 (tgt := 91) (by decide) ?_
            refine v_iret h hQ rfl rfl dX8_reasonNow_91 (Nat.zero_le _) (Nat.zero_le _) ⟨by rw [e9], rfl, rfl, rfl, by rw [e9]⟩
        · skip
          have e9 : pb_mrs J9 M (pb_mto m f b) L = (nI 3, J9) := by unfold pb_mrs; rw [if_neg (fun q9 => q9 c1), if_neg (fun q9 => q9 c2), if_pos c3]
          refine v_iconst h (v := nI 3) dX8_reasonNow_55 (q := 56) rfl (by decide +kernel) ?_
          refine v_iret h hQ rfl rfl dX8_reasonNow_56 (Nat.zero_le _) (Nat.zero_le _) ⟨by rw [e9], rfl, rfl, rfl, by rw [e9]⟩
      · skip
        have e9 : pb_mrs J9 M (pb_mto m f b) L = (nI 2, J9) := by unfold pb_mrs; rw [if_neg (fun q9 => q9 c1), if_pos c2]
        refine v_aload_n h (i := 0) dX8_reasonNow_35 (q := 36) rfl rfl rfl ?_
        refine v_geti h fl_X8_165 (by assumption) rfl dX8_reasonNow_36 (q := 39) rfl ?_
        refine v_if_eq h dX8_reasonNow_39 (q := 42) rfl (tgt := 46) (by decide) (fun c8 => ?_) (fun c8 => absurd c1 c8)
        refine v_iconst h (v := nI 2) dX8_reasonNow_46 (q := 47) rfl (by decide +kernel) ?_
        refine v_iret h hQ rfl rfl dX8_reasonNow_47 (Nat.zero_le _) (Nat.zero_le _) ⟨by rw [e9], rfl, rfl, rfl, by rw [e9]⟩
  · skip
    have e6 := pb_ne_f (fun q => c1 (pb_b_0.mpr q))
    have e7 : pb_mto m f b = f := if_pos e6
    refine v_aload_n h (i := 0) dX8_reasonNow_4 (q := 5) rfl rfl rfl ?_
    refine v_getr h fl_X8_22 (by assumption) rfl (by assumption) dX8_reasonNow_5 (q := 8) rfl ?_
    refine v_iload_n h (i := 1) dX8_reasonNow_8 (q := 9) rfl rfl rfl ?_
    refine v_iald h (by assumption) rfl (by first | assumption | omega) (by decide) dX8_reasonNow_9 (q := 10) rfl ?_
    refine v_eq (st' := [.int (nI f)]) (by rw [hf]) ?_
    refine v_goto h dX8_reasonNow_10 (tgt := 14) (by decide) ?_
    refine v_eq (st' := [.int (nI (pb_mto m f b))]) (by rw [e7]) ?_
    refine v_istore_n h (i := 3) dX8_reasonNow_14 (q := 15) rfl rfl (Nat.le_of_ble_eq_true rfl) rfl ?_
    have hto : pb_mto m f b < 8 := by rw [e7]; assumption
    refine v_aload_n h (i := 0) dX8_reasonNow_15 (q := 16) rfl rfl rfl ?_
    refine v_iload_n h (i := 1) dX8_reasonNow_16 (q := 17) rfl rfl rfl ?_
    refine v_callV1 h (c_X8_joins hfl hm hb hf8 hf) kX8_joins tw1040 tw27 (by assumption) (by decide) rfl rfl rfl (by simp [Value.category]) (by decide) (Nat.zero_le _) (Nat.zero_le _) rfl dX8_reasonNow_17 (q := 20) rfl ?_
    have hJL : (pb_mjN sg M b f 16).1 M 20 = nI L := (pb_mjN_M (by decide) 16).trans hL
    obtain ⟨J9, hJ9⟩ : ∃ J9, J9 = (pb_mjN sg M b f 16).1 := ⟨_, rfl⟩
    rw [← hJ9] at hw hQ hJL ⊢
    refine v_pop h dX8_reasonNow_20 (q := 21) rfl rfl ?_
    refine v_aload_n h (i := 0) dX8_reasonNow_21 (q := 22) rfl rfl rfl ?_
    refine v_geti h fl_X8_165 (by assumption) rfl dX8_reasonNow_22 (q := 25) rfl ?_
    refine v_if_ne h dX8_reasonNow_25 (q := 28) rfl (tgt := 35) (by decide) (fun c1 => ?_) (fun c1 => ?_)
    · skip
      refine v_aload_n h (i := 0) dX8_reasonNow_35 (q := 36) rfl rfl rfl ?_
      refine v_geti h fl_X8_165 (by assumption) rfl dX8_reasonNow_36 (q := 39) rfl ?_
      refine v_if_eq h dX8_reasonNow_39 (q := 42) rfl (tgt := 46) (by decide) (fun c10 => absurd c10 c1) (fun c10 => ?_)
      have e9 : pb_mrs J9 M (pb_mto m f b) L = (nI 1, J9) := by unfold pb_mrs; rw [if_pos c1]
      refine v_iconst h (v := nI 1) dX8_reasonNow_42 (q := 43) rfl (by decide +kernel) ?_
      refine v_goto h dX8_reasonNow_43 (tgt := 47) (by decide) ?_
      refine v_iret h hQ rfl rfl dX8_reasonNow_47 (Nat.zero_le _) (Nat.zero_le _) ⟨by rw [e9], rfl, rfl, rfl, by rw [e9]⟩
    · skip
      refine v_aload_n h (i := 0) dX8_reasonNow_28 (q := 29) rfl rfl rfl ?_
      refine v_callV1 h (c_X8_missing hfl hm) kX8_missing tw1074 tw33 (by assumption) (by decide) rfl rfl rfl (by simp [Value.category]) (by decide) (Nat.zero_le _) (Nat.zero_le _) rfl dX8_reasonNow_29 (q := 32) rfl ?_
      refine v_if_eq h dX8_reasonNow_32 (q := 35) rfl (tgt := 48) (by decide) (fun c2 => ?_) (fun c2 => ?_)
      · skip
        refine v_aload_n h (i := 0) dX8_reasonNow_48 (q := 49) rfl rfl rfl ?_
        refine v_callV1 h (c_X8_rings hfl hm) kX8_rings tw1078 tw34 (by assumption) (by decide) rfl rfl rfl (by simp [Value.category]) (by decide) (Nat.zero_le _) (Nat.zero_le _) rfl dX8_reasonNow_49 (q := 52) rfl ?_
        refine v_eq (st' := [.int (pb_mrg J9 M)]) rfl ?_
        refine v_if_eq h dX8_reasonNow_52 (q := 55) rfl (tgt := 57) (by decide) (fun c3 => ?_) (fun c3 => ?_)
        · skip
          refine v_aload_n h (i := 0) dX8_reasonNow_57 (q := 58) rfl rfl rfl ?_
          refine v_bipush h (v := nI 16) dX8_reasonNow_58 (q := 60) rfl (by decide +kernel) ?_
          refine v_callV1 h (c_X8_cost0 hfl hm (show 16 < 17 by decide)) kX8_cost0 tw1000 tw23 (by assumption) (by decide) rfl rfl rfl (by simp [Value.category]) (by decide) (Nat.zero_le _) (Nat.zero_le _) rfl dX8_reasonNow_60 (q := 63) rfl ?_
          refine v_eq (st' := [.int (pb_mco J9 M 16)]) rfl ?_
          refine v_aload_n h (i := 0) dX8_reasonNow_63 (q := 64) rfl rfl rfl ?_
          refine v_getr h fl_X8_25 (by assumption) rfl (by assumption) dX8_reasonNow_64 (q := 67) rfl ?_
          refine v_iload_n h (i := 3) dX8_reasonNow_67 (q := 68) rfl rfl rfl ?_
          refine v_iald h (by assumption) rfl (by first | assumption | omega) (by decide) dX8_reasonNow_68 (q := 69) rfl ?_
          refine v_icmp_le h dX8_reasonNow_69 (q := 72) rfl (tgt := 76) (by decide) (fun c4 => ?_) (fun c4 => ?_)
          · skip
            refine v_aload_n h (i := 0) dX8_reasonNow_76 (q := 77) rfl rfl rfl ?_
            refine v_bipush h (v := nI 16) dX8_reasonNow_77 (q := 79) rfl (by decide +kernel) ?_
            refine v_iload_n h (i := 3) dX8_reasonNow_79 (q := 80) rfl rfl rfl ?_
            refine v_callV1 h (c_X8_unplaced hfl hm (show 16 < 17 by decide) hto hJL hL40 hw) kX8_unplaced tw1082 tw35 (by assumption) (by decide) rfl rfl rfl (by simp [Value.category]) (by decide) (Nat.zero_le _) (Nat.zero_le _) rfl dX8_reasonNow_80 (q := 83) rfl ?_
            refine v_if_eq h dX8_reasonNow_83 (q := 86) rfl (tgt := 90) (by decide) (fun c5 => ?_) (fun c5 => ?_)
            · skip
              have e9 : pb_mrs J9 M (pb_mto m f b) L = (nI 0, (pb_mun J9 M 16 (pb_mto m f b) L).1) := by unfold pb_mrs; rw [if_neg (fun q9 => q9 c1), if_neg (fun q9 => q9 c2), if_neg (fun q9 => q9 c3), if_neg (Int32.not_lt.mpr c4), if_neg (fun q9 => q9 c5)]
              refine v_iconst h (v := nI 0) dX8_reasonNow_90 (q := 91) rfl (by decide +kernel) ?_
              refine v_iret h hQ rfl rfl dX8_reasonNow_91 (Nat.zero_le _) (Nat.zero_le _) ⟨by rw [e9], rfl, rfl, rfl, by rw [e9]⟩
            · skip
              have e9 : pb_mrs J9 M (pb_mto m f b) L = (nI 5, (pb_mun J9 M 16 (pb_mto m f b) L).1) := by unfold pb_mrs; rw [if_neg (fun q9 => q9 c1), if_neg (fun q9 => q9 c2), if_neg (fun q9 => q9 c3), if_neg (Int32.not_lt.mpr c4), if_pos c5]
              refine v_iconst h (v := nI 5) dX8_reasonNow_86 (q := 87) rfl (by decide +kernel) ?_
              refine v_goto h dX8_reasonNow_87 (tgt := 91) (by decide) ?_
              refine v_iret h hQ rfl rfl dX8_reasonNow_91 (Nat.zero_le _) (Nat.zero_le _) ⟨by rw [e9], rfl, rfl, rfl, by rw [e9]⟩
          · skip
            have e9 : pb_mrs J9 M (pb_mto m f b) L = (nI 4, J9) := by unfold pb_mrs; rw [if_neg (fun q9 => q9 c1), if_neg (fun q9 => q9 c2), if_neg (fun q9 => q9 c3), if_pos (Int32.not_le.mp c4)]
            refine v_iconst h (v := nI 4) dX8_reasonNow_72 (q := 73) rfl (by decide +kernel) ?_
            refine v_goto h dX8_reasonNow_73 (tgt := 91) (by decide) ?_
            refine v_iret h hQ rfl rfl dX8_reasonNow_91 (Nat.zero_le _) (Nat.zero_le _) ⟨by rw [e9], rfl, rfl, rfl, by rw [e9]⟩
        · skip
          have e9 : pb_mrs J9 M (pb_mto m f b) L = (nI 3, J9) := by unfold pb_mrs; rw [if_neg (fun q9 => q9 c1), if_neg (fun q9 => q9 c2), if_pos c3]
          refine v_iconst h (v := nI 3) dX8_reasonNow_55 (q := 56) rfl (by decide +kernel) ?_
          refine v_iret h hQ rfl rfl dX8_reasonNow_56 (Nat.zero_le _) (Nat.zero_le _) ⟨by rw [e9], rfl, rfl, rfl, by rw [e9]⟩
      · skip
        have e9 : pb_mrs J9 M (pb_mto m f b) L = (nI 2, J9) := by unfold pb_mrs; rw [if_neg (fun q9 => q9 c1), if_pos c2]
        refine v_aload_n h (i := 0) dX8_reasonNow_35 (q := 36) rfl rfl rfl ?_
        refine v_geti h fl_X8_165 (by assumption) rfl dX8_reasonNow_36 (q := 39) rfl ?_
        refine v_if_eq h dX8_reasonNow_39 (q := 42) rfl (tgt := 46) (by decide) (fun c15 => ?_) (fun c15 => absurd c1 c15)
        refine v_iconst h (v := nI 2) dX8_reasonNow_46 (q := 47) rfl (by decide +kernel) ?_
        refine v_iret h hQ rfl rfl dX8_reasonNow_47 (Nat.zero_le _) (Nat.zero_le _) ⟨by rw [e9], rfl, rfl, rfl, by rw [e9]⟩
set_option maxRecDepth 100000 in
theorem c2_X8_joins {l : Launch} (hfl : l.stackTraces = false) {sz : Nat} {sk : pb_Sk} {rf : pb_Rf} {sg : pb_Sg} {M : Nat} (hm : pb_md sk rf M) {b f : Nat} (hb : b < 8) (hf8 : f < 8) (hf : sg (M + 5) b = nI f) {j : pb_Sg × Int32} (hj : j = pb_mjN sg M b f 16) : pb_Met l mX8_joins 5 0 0 [.ref M, .int (nI b)] sz sk rf sg (pb_is (some (.int j.2)) sz sk rf j.1) := by
  rw [hj]
  exact c_X8_joins hfl hm hb hf8 hf
set_option maxRecDepth 100000 in
theorem c2_X8_unplaced {l : Launch} (hfl : l.stackTraces = false) {sz : Nat} {sk : pb_Sk} {rf : pb_Rf} {sg : pb_Sg} {M : Nat} (hm : pb_md sk rf M) {q b L : Nat} (hq : q < 17) (hb : b < 8) (hL : sg M 20 = nI L) (hL40 : L ≤ 40) (hw : pb_mw sg M q) {u : pb_Sg × Int32} (hu : u = pb_mun sg M q b L) : pb_Met l mX8_unplaced 4 0 0 [.ref M, .int (nI q), .int (nI b)] sz sk rf sg (pb_is (some (.int u.2)) sz sk rf u.1) := by
  subst hu
  exact c_X8_unplaced hfl hm hq hb hL hL40 hw
set_option maxRecDepth 100000 in
theorem c2_X8_reasonNow {l : Launch} (hfl : l.stackTraces = false) {sz : Nat} {sk : pb_Sk} {rf : pb_Rf} {sg : pb_Sg} {M : Nat} (hm : pb_md sk rf M) {b f L : Nat} (hb : b < 8) (hf8 : f < 8) (hf : sg (M + 5) b = nI f) (hL : sg M 20 = nI L) (hL40 : L ≤ 40) {m : Bool} {J : pb_Sg} (hJ : J = (pb_mjN sg M b f 16).1) (hw : pb_mw J M 16) {r : Int32 × pb_Sg} (hr : r = pb_mrs J M (pb_mto m f b) L) : pb_Met l mX8_reasonNow 6 0 0 [.ref M, .int (nI b), .int (pb_b m)] sz sk rf sg (pb_is (some (.int r.1)) sz sk rf r.2) := by
  rw [hJ] at hw hr
  rw [hr]
  exact c_X8_reasonNow hfl hm hb hf8 hf hL hL40 hw
