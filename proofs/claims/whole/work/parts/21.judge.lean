set_option maxHeartbeats 4000000 in
set_option maxRecDepth 100000 in
theorem c_X7_placeByRule {l : Launch} (hfl : l.stackTraces = false) {sz : Nat} {sk : pb_Sk} {rf : pb_Rf} {sg : pb_Sg} {X n : Nat} {B par : Nat → Nat} (hX : pb_sys sk rf X B par n) {p g : Nat} (hp : pb_plan sk rf p) (hg : sk g = (6, 0)) (ha : pb_apX X p) (hwf : pb_wf sg p) : pb_Met l mX7_placeByRule 5 0 0 [.ref X, .ref p, .ref g] sz sk rf sg (pb_is none sz sk rf (pb_pbr sg X p g)) := by
  refine pb_start hfl (by decide +kernel) rfl (pb_c1 rfl) (Nat.le_of_ble_eq_true rfl) (fun F hF h hQ => ?_)
  subst hF
  show pv F 0 0 sz sk rf sg 0 [some (.ref X), some (.ref p), some (.ref g)] []
  obtain ⟨hX0, hX1, hX2, hX3, hX4, hX5, hX6, hXc, hXj, hXw, hXs, hXn, hXb, hXe, hXr, hXp⟩ := id hX
  obtain ⟨hw0, hw1, hw2, hw3, hw4⟩ := id hXw
  have hs0 := hXs.1
  refine v_aload_n h (i := 0) dX7_placeByRule_0 (q := 1) rfl rfl rfl ?_
  refine v_getr h fl_X7_39 (by assumption) rfl (by assumption) dX7_placeByRule_1 (q := 4) rfl ?_
  refine v_aload_n h (i := 1) dX7_placeByRule_4 (q := 5) rfl rfl rfl ?_
  refine v_callV0 h (c_X6_measure hfl hXw hp) kX6_measure tw609 tw611 (by assumption) (by decide) rfl rfl rfl (by simp [Value.category]) (by decide) (Nat.zero_le _) (Nat.zero_le _) rfl dX7_placeByRule_5 (q := 8) rfl ?_
  refine v_aload_n h (i := 0) dX7_placeByRule_8 (q := 9) rfl rfl rfl ?_
  refine v_getr h fl_X7_46 (by assumption) rfl (by assumption) dX7_placeByRule_9 (q := 12) rfl ?_
  refine v_aload_n h (i := 0) dX7_placeByRule_12 (q := 13) rfl rfl rfl ?_
  refine v_getr h fl_X7_25 (by assumption) rfl (by assumption) dX7_placeByRule_13 (q := 16) rfl ?_
  refine v_aload_n h (i := 2) dX7_placeByRule_16 (q := 17) rfl rfl rfl ?_
  refine v_geti h fl_X7_161 (by assumption) rfl dX7_placeByRule_17 (q := 20) rfl ?_
  refine v_callV0 h (c_X5_start hfl hXs hXc) kX5_start tw621 tw623 (by assumption) (by decide) rfl rfl rfl (by simp [Value.category]) (by decide) (Nat.zero_le _) (Nat.zero_le _) rfl dX7_placeByRule_20 (q := 23) rfl ?_
  refine v_sg (sg' := pb_pb2 sg X p g) rfl ?_
  refine v_aload_n h (i := 0) dX7_placeByRule_23 (q := 24) rfl rfl rfl ?_
  refine v_getr h fl_X7_46 (by assumption) rfl (by assumption) dX7_placeByRule_24 (q := 27) rfl ?_
  refine v_aload_n h (i := 1) dX7_placeByRule_27 (q := 28) rfl rfl rfl ?_
  refine v_aload_n h (i := 0) dX7_placeByRule_28 (q := 29) rfl rfl rfl ?_
  refine v_getr h fl_X7_39 (by assumption) rfl (by assumption) dX7_placeByRule_29 (q := 32) rfl ?_
  refine v_getr h fl_X7_222 (by assumption) rfl (by assumption) dX7_placeByRule_32 (q := 35) rfl ?_
  refine v_callV0 h (c_X5_placeByTails hfl hXs hp hw3 ha.ap (pb_si_pb2 ha hwf)) kX5_placeByTails tw632 tw634 (by assumption) (by decide) rfl rfl rfl (by simp [Value.category]) (by decide) (Nat.zero_le _) (Nat.zero_le _) rfl dX7_placeByRule_35 (q := 38) rfl ?_
  refine v_vret h hQ rfl dX7_placeByRule_38 (Nat.zero_le _) (Nat.zero_le _) ⟨rfl, rfl, rfl, rfl, rfl⟩
set_option maxHeartbeats 4000000 in
set_option maxRecDepth 100000 in
theorem c_X7_judge {l : Launch} (hfl : l.stackTraces = false) {sz : Nat} {sk : pb_Sk} {rf : pb_Rf} {sg : pb_Sg} {X n : Nat} {B par : Nat → Nat} (hX : pb_sys sk rf X B par n) {b f g : Nat} (hb : pb_br sk rf b) (hf : pb_br sk rf f) (hg : sk g = (6, 0)) (hwf : pb_wf (pb_jnN sg (X + 28) b f 16) (X + 29)) : pb_Met l mX7_judge 6 0 0 [.ref X, .ref b, .ref f, .ref g] sz sk rf sg (pb_is (some (.int (pb_jdg sg X b f g).1)) sz sk rf ((pb_jdg sg X b f g).2)) := by
  refine pb_start hfl (by decide +kernel) rfl (pb_c1 rfl) (Nat.le_of_ble_eq_true rfl) (fun F hF h hQ => ?_)
  subst hF
  show pv F 0 0 sz sk rf sg 0 [some (.ref X), some (.ref b), some (.ref f), some (.ref g), none] []
  obtain ⟨hX0, hX1, hX2, hX3, hX4, hX5, hX6, hXc, hXj, hXw, hXs, hXn, hXb, hXe, hXr, hXp⟩ := id hX
  obtain ⟨hj0, hj1, hj2⟩ := id hXj
  have hs0 := hXs.1
  have hjp : sk (X + 28 + 1) = (10, 0) := hj2.1
  refine v_aload_n h (i := 0) dX7_judge_0 (q := 1) rfl rfl rfl ?_
  refine v_getr h fl_X7_32 (by assumption) rfl (by assumption) dX7_judge_1 (q := 4) rfl ?_
  refine v_aload_n h (i := 1) dX7_judge_4 (q := 5) rfl rfl rfl ?_
  refine v_aload_n h (i := 2) dX7_judge_5 (q := 6) rfl rfl rfl ?_
  refine v_callV0 h (c_X3_join hfl hXj hb hf) kX3_join tw557 tw559 (by assumption) (by decide) rfl rfl rfl (by simp [Value.category]) (by decide) (Nat.zero_le _) (Nat.zero_le _) rfl dX7_judge_6 (q := 9) rfl ?_
  refine v_aload_n h (i := 0) dX7_judge_9 (q := 10) rfl rfl rfl ?_
  refine v_getr h fl_X7_32 (by assumption) rfl (by assumption) dX7_judge_10 (q := 13) rfl ?_
  refine v_getr h fl_X7_193 (by assumption) rfl (by assumption) dX7_judge_13 (q := 16) rfl ?_
  refine v_astore h dX7_judge_16 (q := 18) rfl (Nat.le_of_ble_eq_true rfl) rfl ?_
  refine v_aload_n h (i := 0) dX7_judge_18 (q := 19) rfl rfl rfl ?_
  refine v_aload_n h (i := 0) dX7_judge_19 (q := 20) rfl rfl rfl ?_
  refine v_getr h fl_X7_32 (by assumption) rfl (by assumption) dX7_judge_20 (q := 23) rfl ?_
  refine v_geti h fl_X7_278 (by assumption) rfl dX7_judge_23 (q := 26) rfl ?_
  refine v_puti h fl_X7_50 (by assumption) rfl rfl dX7_judge_26 (q := 29) rfl ?_
  refine v_sg (sg' := pb_jd1 sg X b f) rfl ?_
  refine v_aload_n h (i := 0) dX7_judge_29 (q := 30) rfl rfl rfl ?_
  refine v_geti h fl_X7_50 (by assumption) rfl dX7_judge_30 (q := 33) rfl ?_
  refine v_if_eq h dX7_judge_33 (q := 36) rfl (tgt := 38) (by decide) (fun c1 => ?_) (fun c1 => ?_)
  · skip
    refine v_aload_n h (i := 0) dX7_judge_38 (q := 39) rfl rfl rfl ?_
    refine v_aload h dX7_judge_39 (q := 41) rfl rfl ?_
    refine v_callV1 h (c_X4_lacking hfl hj2) kX4_lacking tw595 tw597 (by assumption) (by decide) rfl rfl rfl (by simp [Value.category]) (by decide) (Nat.zero_le _) (Nat.zero_le _) rfl dX7_judge_41 (q := 44) rfl ?_
    refine v_puti h fl_X7_50 (by assumption) rfl rfl dX7_judge_44 (q := 47) rfl ?_
    refine v_sg (sg' := pb_jd2 sg X b f) rfl ?_
    refine v_aload_n h (i := 0) dX7_judge_47 (q := 48) rfl rfl rfl ?_
    refine v_geti h fl_X7_50 (by assumption) rfl dX7_judge_48 (q := 51) rfl ?_
    refine v_if_eq h dX7_judge_51 (q := 54) rfl (tgt := 56) (by decide) (fun c2 => ?_) (fun c2 => ?_)
    · skip
      refine v_aload_n h (i := 0) dX7_judge_56 (q := 57) rfl rfl rfl ?_
      refine v_aload h dX7_judge_57 (q := 59) rfl rfl ?_
      refine v_callV1 h (c_X4_ringed hfl hj2) kX4_ringed tw600 tw602 (by assumption) (by decide) rfl rfl rfl (by simp [Value.category]) (by decide) (Nat.zero_le _) (Nat.zero_le _) rfl dX7_judge_59 (q := 62) rfl ?_
      refine v_puti h fl_X7_50 (by assumption) rfl rfl dX7_judge_62 (q := 65) rfl ?_
      refine v_sg (sg' := pb_jd3 sg X b f) rfl ?_
      refine v_aload_n h (i := 0) dX7_judge_65 (q := 66) rfl rfl rfl ?_
      refine v_geti h fl_X7_50 (by assumption) rfl dX7_judge_66 (q := 69) rfl ?_
      refine v_if_eq h dX7_judge_69 (q := 72) rfl (tgt := 74) (by decide) (fun c3 => ?_) (fun c3 => ?_)
      · skip
        refine v_aload h dX7_judge_74 (q := 76) rfl rfl ?_
        refine v_callV1 h (c_X4_totalCost hfl hj2) kX4_totalCost tw503 tw505 (by assumption) (by decide) rfl rfl rfl (by simp [Value.category]) (by decide) (Nat.zero_le _) (Nat.zero_le _) rfl dX7_judge_76 (q := 79) rfl ?_
        refine v_aload_n h (i := 3) dX7_judge_79 (q := 80) rfl rfl rfl ?_
        refine v_geti h fl_X7_165 (by assumption) rfl dX7_judge_80 (q := 83) rfl ?_
        refine v_icmp_le h dX7_judge_83 (q := 86) rfl (tgt := 88) (by decide) (fun c4 => ?_) (fun c4 => ?_)
        · skip
          refine v_aload_n h (i := 0) dX7_judge_88 (q := 89) rfl rfl rfl ?_
          refine v_aload h dX7_judge_89 (q := 91) rfl rfl ?_
          refine v_aload_n h (i := 3) dX7_judge_91 (q := 92) rfl rfl rfl ?_
          refine v_callV0 h (c_X7_placeByRule hfl hX (p := X + 29) (g := g) hj2 hg (Or.inl (by omega)) (pb_wf_jd3 hwf)) kX7_placeByRule tw605 tw4 (by assumption) (by decide) rfl rfl rfl (by simp [Value.category]) (by decide) (Nat.zero_le _) (Nat.zero_le _) rfl dX7_judge_92 (q := 95) rfl ?_
          refine v_sg (sg' := pb_jd4 sg X b f g) rfl ?_
          refine v_aload_n h (i := 0) dX7_judge_95 (q := 96) rfl rfl rfl ?_
          refine v_aload h dX7_judge_96 (q := 98) rfl rfl ?_
          refine v_callV1 h (c_X4_present hfl hj2) kX4_present tw470 tw472 (by assumption) (by decide) rfl rfl rfl (by simp [Value.category]) (by decide) (Nat.zero_le _) (Nat.zero_le _) rfl dX7_judge_98 (q := 101) rfl ?_
          refine v_aload_n h (i := 0) dX7_judge_101 (q := 102) rfl rfl rfl ?_
          refine v_getr h fl_X7_46 (by assumption) rfl (by assumption) dX7_judge_102 (q := 105) rfl ?_
          refine v_geti h fl_X7_238 (by assumption) rfl dX7_judge_105 (q := 108) rfl ?_
          refine v_iconst h (v := (-1)) dX7_judge_108 (q := 109) rfl (by decide +kernel) ?_
          refine v_ixor h dX7_judge_109 (q := 110) rfl ?_
          refine v_iand h dX7_judge_110 (q := 111) rfl ?_
          refine v_puti h fl_X7_50 (by assumption) rfl rfl dX7_judge_111 (q := 114) rfl ?_
          refine v_sg (sg' := pb_jd5 sg X b f g) rfl ?_
          refine v_aload_n h (i := 0) dX7_judge_114 (q := 115) rfl rfl rfl ?_
          refine v_geti h fl_X7_50 (by assumption) rfl dX7_judge_115 (q := 118) rfl ?_
          refine v_if_eq h dX7_judge_118 (q := 121) rfl (tgt := 125) (by decide) (fun c5 => ?_) (fun c5 => ?_)
          · skip
            have e9 : pb_jdg sg X b f g = (nI 0, pb_jd5 sg X b f g) := by unfold pb_jdg; rw [if_neg (fun q => q c1), if_neg (fun q => q c2), if_neg (fun q => q c3), if_neg (Int32.not_lt.mpr c4), if_neg (fun q => q c5)]
            refine v_iconst h (v := nI 0) dX7_judge_125 (q := 126) rfl (by decide +kernel) ?_
            refine v_iret h hQ rfl rfl dX7_judge_126 (Nat.zero_le _) (Nat.zero_le _) ⟨by rw [e9], rfl, rfl, rfl, by rw [e9]⟩
          · skip
            have e9 : pb_jdg sg X b f g = (nI 5, pb_jd5 sg X b f g) := by unfold pb_jdg; rw [if_neg (fun q => q c1), if_neg (fun q => q c2), if_neg (fun q => q c3), if_neg (Int32.not_lt.mpr c4), if_pos c5]
            refine v_iconst h (v := nI 5) dX7_judge_121 (q := 122) rfl (by decide +kernel) ?_
            refine v_goto h dX7_judge_122 (tgt := 126) (by decide) ?_
            refine v_iret h hQ rfl rfl dX7_judge_126 (Nat.zero_le _) (Nat.zero_le _) ⟨by rw [e9], rfl, rfl, rfl, by rw [e9]⟩
        · skip
          have e9 : pb_jdg sg X b f g = (nI 4, pb_jd3 sg X b f) := by unfold pb_jdg; rw [if_neg (fun q => q c1), if_neg (fun q => q c2), if_neg (fun q => q c3), if_pos (Int32.not_le.mp c4)]
          refine v_iconst h (v := nI 4) dX7_judge_86 (q := 87) rfl (by decide +kernel) ?_
          refine v_iret h hQ rfl rfl dX7_judge_87 (Nat.zero_le _) (Nat.zero_le _) ⟨by rw [e9], rfl, rfl, rfl, by rw [e9]⟩
      · skip
        have e9 : pb_jdg sg X b f g = (nI 3, pb_jd3 sg X b f) := by unfold pb_jdg; rw [if_neg (fun q => q c1), if_neg (fun q => q c2), if_pos c3]
        refine v_iconst h (v := nI 3) dX7_judge_72 (q := 73) rfl (by decide +kernel) ?_
        refine v_iret h hQ rfl rfl dX7_judge_73 (Nat.zero_le _) (Nat.zero_le _) ⟨by rw [e9], rfl, rfl, rfl, by rw [e9]⟩
    · skip
      have e9 : pb_jdg sg X b f g = (nI 2, pb_jd2 sg X b f) := by unfold pb_jdg; rw [if_neg (fun q => q c1), if_pos c2]
      refine v_iconst h (v := nI 2) dX7_judge_54 (q := 55) rfl (by decide +kernel) ?_
      refine v_iret h hQ rfl rfl dX7_judge_55 (Nat.zero_le _) (Nat.zero_le _) ⟨by rw [e9], rfl, rfl, rfl, by rw [e9]⟩
  · skip
    have e9 : pb_jdg sg X b f g = (nI 1, pb_jd1 sg X b f) := if_pos c1
    refine v_iconst h (v := nI 1) dX7_judge_36 (q := 37) rfl (by decide +kernel) ?_
    refine v_iret h hQ rfl rfl dX7_judge_37 (Nat.zero_le _) (Nat.zero_le _) ⟨by rw [e9], rfl, rfl, rfl, by rw [e9]⟩
set_option maxHeartbeats 4000000 in
set_option maxRecDepth 100000 in
theorem c_X7_parentOf {l : Launch} (hfl : l.stackTraces = false) {sz : Nat} {sk : pb_Sk} {rf : pb_Rf} {sg : pb_Sg} {b f : Nat} (hb : sk b = (6, 0)) (hf : rf b 1 = some f) : pb_Met l mX7_parentOf 6 0 0 [.ref b] sz sk rf sg (pb_is (some (.ref f)) sz sk rf sg) := by
  refine pb_start hfl (by decide +kernel) rfl (pb_c1 rfl) (Nat.le_of_ble_eq_true rfl) (fun F hF h hQ => ?_)
  subst hF
  show pv F 0 0 sz sk rf sg 0 [some (.ref b), none] []
  refine v_aload_n h (i := 0) dX7_parentOf_0 (q := 1) rfl rfl rfl ?_
  refine v_getr h fl_X7_157 (by assumption) rfl (by assumption) dX7_parentOf_1 (q := 4) rfl ?_
  refine v_astore_n h (i := 1) dX7_parentOf_4 (q := 5) rfl rfl (Nat.le_of_ble_eq_true rfl) rfl ?_
  refine v_aload_n h (i := 1) dX7_parentOf_5 (q := 6) rfl rfl rfl ?_
  refine v_ifnonnull h dX7_parentOf_6 (tgt := 19) (by decide) ?_
  refine v_aload_n h (i := 1) dX7_parentOf_19 (q := 20) rfl rfl rfl ?_
  refine v_aret h hQ rfl dX7_parentOf_20 (Nat.zero_le _) (Nat.zero_le _) ⟨rfl, rfl, rfl, rfl, rfl⟩
set_option maxHeartbeats 4000000 in
set_option maxRecDepth 100000 in
theorem x_X7_parentOf {l : Launch} (hfl : l.stackTraces = false) {sz : Nat} {sk : pb_Sk} {rf : pb_Rf} {sg : pb_Sg} {b : Nat} (hb : sk b = (6, 0)) (hf : rf b 1 = none) : pb_Met l mX7_parentOf 6 1 6 [.ref b] sz sk rf sg (pb_thr "java/lang/IllegalStateException" sz sk rf sg) := by
  refine pb_start hfl (by decide +kernel) rfl (pb_c1 rfl) (Nat.le_of_ble_eq_true rfl) (fun F hF h hQ => ?_)
  subst hF
  show pv F 0 0 sz sk rf sg 0 [some (.ref b), none] []
  refine v_aload_n h (i := 0) dX7_parentOf_0 (q := 1) rfl rfl rfl ?_
  refine v_getn h fl_X7_157 (by assumption) rfl (by assumption) dX7_parentOf_1 (q := 4) rfl ?_
  refine v_astore_nN h (i := 1) dX7_parentOf_4 (q := 5) rfl rfl (Nat.le_of_ble_eq_true rfl) rfl ?_
  refine v_aload_nN h (i := 1) dX7_parentOf_5 (q := 6) rfl rfl rfl ?_
  refine v_ifnonnullN h dX7_parentOf_6 (q := 9) rfl ?_
  refine v_throw h hQ rfl (th_X7_93) (is := 168) (text := "the branch 0 has no parent") (by decide +kernel) rfl dX7_parentOf_9 dX7_parentOf_12 dX7_parentOf_13 dX7_parentOf_15 dX7_parentOf_18 (by decide) (by decide) (by decide) (by decide) (fun sz9 hsz9 => ⟨rfl, hsz9, rfl, rfl, rfl⟩)
set_option maxHeartbeats 4000000 in
set_option maxRecDepth 100000 in
theorem c_X7_clashes {l : Launch} (hfl : l.stackTraces = false) {sz : Nat} {sk : pb_Sk} {rf : pb_Rf} {sg : pb_Sg} {X n : Nat} {B par : Nat → Nat} (hX : pb_sys sk rf X B par n) {b : Nat} (hb : b < n) (hpos : 0 < b) : pb_Met l mX7_clashes 7 0 0 [.ref X, .int (nI b)] sz sk rf sg (pb_is (some (.int (pb_jnN sg (X + 28) (B b) (B (par b)) 16 (X + 28) 1))) sz sk rf (pb_jnN sg (X + 28) (B b) (B (par b)) 16)) := by
  refine pb_start hfl (by decide +kernel) rfl (pb_c1 rfl) (Nat.le_of_ble_eq_true rfl) (fun F hF h hQ => ?_)
  subst hF
  show pv F 0 0 sz sk rf sg 0 [some (.ref X), some (.int (nI b)), none, none] []
  obtain ⟨hX0, hX1, hX2, hX3, hX4, hX5, hX6, hXc, hXj, hXw, hXs, hXn, hXb, hXe, hXr, hXp⟩ := id hX
  obtain ⟨hb0, hb1, hb2, hb3, hb4, hb5, hb6, hb7, hb8⟩ := id (hXb b hb).2
  obtain ⟨hf, hpl⟩ := hXp b hpos hb
  obtain ⟨hf0, hf1, hf2, hf3, hf4, hf5, hf6, hf7, hf8⟩ := id (hXb (par b) (by omega)).2
  obtain ⟨hj0, hj1, hj2⟩ := id hXj
  refine v_aload_n h (i := 0) dX7_clashes_0 (q := 1) rfl rfl rfl ?_
  refine v_iload_n h (i := 1) dX7_clashes_1 (q := 2) rfl rfl rfl ?_
  refine v_callV1 h (c_X7_branchAt hfl hX hb) kX7_branchAt tw292 tw0 (by assumption) (by decide) rfl rfl rfl (by simp [Value.category]) (by decide) (Nat.zero_le _) (Nat.zero_le _) rfl dX7_clashes_2 (q := 5) rfl ?_
  refine v_astore_n h (i := 2) dX7_clashes_5 (q := 6) rfl rfl (Nat.le_of_ble_eq_true rfl) rfl ?_
  refine v_aload_n h (i := 2) dX7_clashes_6 (q := 7) rfl rfl rfl ?_
  refine v_getr h fl_X7_157 (by assumption) rfl (by assumption) dX7_clashes_7 (q := 10) rfl ?_
  refine v_astore_n h (i := 3) dX7_clashes_10 (q := 11) rfl rfl (Nat.le_of_ble_eq_true rfl) rfl ?_
  refine v_aload_n h (i := 3) dX7_clashes_11 (q := 12) rfl rfl rfl ?_
  refine v_ifnonnull h dX7_clashes_12 (tgt := 17) (by decide) ?_
  refine v_aload_n h (i := 0) dX7_clashes_17 (q := 18) rfl rfl rfl ?_
  refine v_getr h fl_X7_32 (by assumption) rfl (by assumption) dX7_clashes_18 (q := 21) rfl ?_
  refine v_aload_n h (i := 2) dX7_clashes_21 (q := 22) rfl rfl rfl ?_
  refine v_aload_n h (i := 3) dX7_clashes_22 (q := 23) rfl rfl rfl ?_
  refine v_callV0 h (c_X3_join hfl hXj (hXb b hb).2 (hXb (par b) (by omega)).2) kX3_join tw557 tw559 (by assumption) (by decide) rfl rfl rfl (by simp [Value.category]) (by decide) (Nat.zero_le _) (Nat.zero_le _) rfl dX7_clashes_23 (q := 26) rfl ?_
  refine v_aload_n h (i := 0) dX7_clashes_26 (q := 27) rfl rfl rfl ?_
  refine v_getr h fl_X7_32 (by assumption) rfl (by assumption) dX7_clashes_27 (q := 30) rfl ?_
  refine v_geti h fl_X7_177 (by assumption) rfl dX7_clashes_30 (q := 33) rfl ?_
  refine v_iret h hQ rfl rfl dX7_clashes_33 (Nat.zero_le _) (Nat.zero_le _) ⟨rfl, rfl, rfl, rfl, rfl⟩
set_option maxHeartbeats 4000000 in
set_option maxRecDepth 100000 in
theorem c0_X7_clashes {l : Launch} (hfl : l.stackTraces = false) {sz : Nat} {sk : pb_Sk} {rf : pb_Rf} {sg : pb_Sg} {X n : Nat} {B par : Nat → Nat} (hX : pb_sys sk rf X B par n) {b : Nat} (hb : b < n) (hz : b = 0) : pb_Met l mX7_clashes 7 0 0 [.ref X, .int (nI b)] sz sk rf sg (pb_is (some (.int (nI 0))) sz sk rf sg) := by
  refine pb_start hfl (by decide +kernel) rfl (pb_c1 rfl) (Nat.le_of_ble_eq_true rfl) (fun F hF h hQ => ?_)
  subst hF
  show pv F 0 0 sz sk rf sg 0 [some (.ref X), some (.int (nI b)), none, none] []
  obtain ⟨hX0, hX1, hX2, hX3, hX4, hX5, hX6, hXc, hXj, hXw, hXs, hXn, hXb, hXe, hXr, hXp⟩ := id hX
  obtain ⟨hb0, hb1, hb2, hb3, hb4, hb5, hb6, hb7, hb8⟩ := id (hXb b hb).2
  have hf : rf (B b) 1 = none := by rw [hz]; exact hXr
  refine v_aload_n h (i := 0) dX7_clashes_0 (q := 1) rfl rfl rfl ?_
  refine v_iload_n h (i := 1) dX7_clashes_1 (q := 2) rfl rfl rfl ?_
  refine v_callV1 h (c_X7_branchAt hfl hX hb) kX7_branchAt tw292 tw0 (by assumption) (by decide) rfl rfl rfl (by simp [Value.category]) (by decide) (Nat.zero_le _) (Nat.zero_le _) rfl dX7_clashes_2 (q := 5) rfl ?_
  refine v_astore_n h (i := 2) dX7_clashes_5 (q := 6) rfl rfl (Nat.le_of_ble_eq_true rfl) rfl ?_
  refine v_aload_n h (i := 2) dX7_clashes_6 (q := 7) rfl rfl rfl ?_
  refine v_getn h fl_X7_157 (by assumption) rfl (by assumption) dX7_clashes_7 (q := 10) rfl ?_
  refine v_astore_nN h (i := 3) dX7_clashes_10 (q := 11) rfl rfl (Nat.le_of_ble_eq_true rfl) rfl ?_
  refine v_aload_nN h (i := 3) dX7_clashes_11 (q := 12) rfl rfl rfl ?_
  refine v_ifnonnullN h dX7_clashes_12 (q := 15) rfl ?_
  refine v_iconst h (v := nI 0) dX7_clashes_15 (q := 16) rfl (by decide +kernel) ?_
  refine v_iret h hQ rfl rfl dX7_clashes_16 (Nat.zero_le _) (Nat.zero_le _) ⟨rfl, rfl, rfl, rfl, rfl⟩
set_option maxHeartbeats 4000000 in
set_option maxRecDepth 100000 in
theorem x1_X7_clashes {l : Launch} (hfl : l.stackTraces = false) {sz : Nat} {sk : pb_Sk} {rf : pb_Rf} {sg : pb_Sg} {X n : Nat} {B par : Nat → Nat} (hX : pb_sys sk rf X B par n) {x : Int32} (hx : ∀ b, b < n → ¬ x = nI b) : pb_Met l mX7_clashes 7 1 6 [.ref X, .int x] sz sk rf sg (pb_thr "java/lang/IndexOutOfBoundsException" sz sk rf sg) := by
  refine pb_start hfl (by decide +kernel) rfl (pb_c1 rfl) (Nat.le_of_ble_eq_true rfl) (fun F hF h hQ => ?_)
  subst hF
  show pv F 0 0 sz sk rf sg 0 [some (.ref X), some (.int x), none, none] []
  obtain ⟨hX0, hX1, hX2, hX3, hX4, hX5, hX6, hXc, hXj, hXw, hXs, hXn, hXb, hXe, hXr, hXp⟩ := id hX
  refine v_aload_n h (i := 0) dX7_clashes_0 (q := 1) rfl rfl rfl ?_
  refine v_iload_n h (i := 1) dX7_clashes_1 (q := 2) rfl rfl rfl ?_
  refine v_callVx h (x_X7_branchAt hfl hX hx) kX7_branchAt tw292 tw0 (by assumption) (by decide) rfl rfl rfl (by simp [Value.category]) (by decide) (by decide) (by decide) rfl dX7_clashes_2 (q := 5) rfl ?_
  intro sz9 hsz9
  exact v_out h hQ rfl (by decide) (by decide) ⟨rfl, hsz9, rfl, rfl, rfl⟩
set_option maxHeartbeats 4000000 in
set_option maxRecDepth 100000 in
theorem c_X7_reason {l : Launch} (hfl : l.stackTraces = false) {sz : Nat} {sk : pb_Sk} {rf : pb_Rf} {sg : pb_Sg} {X n : Nat} {B par : Nat → Nat} (hX : pb_sys sk rf X B par n) {b : Nat} (hb : b < n) (hpos : 0 < b) {m : Bool} (hwf : pb_wf (pb_jnN sg (X + 28) (B b) (B (par b)) 16) (X + 29)) : pb_Met l mX7_reason 7 0 0 [.ref X, .int (nI b), .int (pb_b m)] sz sk rf sg (pb_is (some (.int ((pb_jdg sg X (B b) (B (par b)) (if m = true then B (par b) else B b)).1))) sz sk rf ((pb_jdg sg X (B b) (B (par b)) (if m = true then B (par b) else B b)).2)) := by
  refine pb_start hfl (by decide +kernel) rfl (pb_c1 rfl) (Nat.le_of_ble_eq_true rfl) (fun F hF h hQ => ?_)
  subst hF
  show pv F 0 0 sz sk rf sg 0 [some (.ref X), some (.int (nI b)), some (.int (pb_b m)), none, none] []
  obtain ⟨hX0, hX1, hX2, hX3, hX4, hX5, hX6, hXc, hXj, hXw, hXs, hXn, hXb, hXe, hXr, hXp⟩ := id hX
  obtain ⟨hb0, hb1, hb2, hb3, hb4, hb5, hb6, hb7, hb8⟩ := id (hXb b hb).2
  obtain ⟨hf, hpl⟩ := hXp b hpos hb
  obtain ⟨hf0, hf1, hf2, hf3, hf4, hf5, hf6, hf7, hf8⟩ := id (hXb (par b) (by omega)).2
  refine v_aload_n h (i := 0) dX7_reason_0 (q := 1) rfl rfl rfl ?_
  refine v_iload_n h (i := 1) dX7_reason_1 (q := 2) rfl rfl rfl ?_
  refine v_callV1 h (c_X7_branchAt hfl hX hb) kX7_branchAt tw292 tw0 (by assumption) (by decide) rfl rfl rfl (by simp [Value.category]) (by decide) (Nat.zero_le _) (Nat.zero_le _) rfl dX7_reason_2 (q := 5) rfl ?_
  refine v_astore_n h (i := 3) dX7_reason_5 (q := 6) rfl rfl (Nat.le_of_ble_eq_true rfl) rfl ?_
  refine v_aload_n h (i := 3) dX7_reason_6 (q := 7) rfl rfl rfl ?_
  refine v_callS1 h (c_X7_parentOf hfl hb0 hf) kX7_parentOf rfl tw588 rfl rfl (by simp [Value.category]) (by decide) (Nat.zero_le _) (Nat.zero_le _) rfl dX7_reason_7 (q := 10) rfl ?_
  refine v_astore h dX7_reason_10 (q := 12) rfl (Nat.le_of_ble_eq_true rfl) rfl ?_
  refine v_aload_n h (i := 0) dX7_reason_12 (q := 13) rfl rfl rfl ?_
  refine v_aload_n h (i := 3) dX7_reason_13 (q := 14) rfl rfl rfl ?_
  refine v_aload h dX7_reason_14 (q := 16) rfl rfl ?_
  refine v_iload_n h (i := 2) dX7_reason_16 (q := 17) rfl rfl rfl ?_
  refine v_if_eq h dX7_reason_17 (q := 20) rfl (tgt := 25) (by decide) (fun c1 => ?_) (fun c1 => ?_)
  · skip
    have e6 := pb_b_0.mp c1
    have e7 : (if m = true then B (par b) else B b) = B b := if_neg (by rw [e6]; decide)
    have hgx := hb0
    refine v_aload_n h (i := 3) dX7_reason_25 (q := 26) rfl rfl rfl ?_
    refine v_callV1 h (c_X7_judge hfl hX (hXb b hb).2 (hXb (par b) (by omega)).2 hgx hwf) kX7_judge tw591 tw3 (by assumption) (by decide) rfl rfl rfl (by simp [Value.category]) (by decide) (Nat.zero_le _) (Nat.zero_le _) rfl dX7_reason_26 (q := 29) rfl ?_
    refine v_iret h hQ rfl rfl dX7_reason_29 (Nat.zero_le _) (Nat.zero_le _) ⟨by rw [e7], rfl, rfl, rfl, by rw [e7]⟩
  · skip
    have e6 := pb_ne_f (fun q => c1 (pb_b_0.mpr q))
    have e7 : (if m = true then B (par b) else B b) = B (par b) := if_pos e6
    have hgx := hf0
    refine v_aload h dX7_reason_20 (q := 22) rfl rfl ?_
    refine v_goto h dX7_reason_22 (tgt := 26) (by decide) ?_
    refine v_callV1 h (c_X7_judge hfl hX (hXb b hb).2 (hXb (par b) (by omega)).2 hgx hwf) kX7_judge tw591 tw3 (by assumption) (by decide) rfl rfl rfl (by simp [Value.category]) (by decide) (Nat.zero_le _) (Nat.zero_le _) rfl dX7_reason_26 (q := 29) rfl ?_
    refine v_iret h hQ rfl rfl dX7_reason_29 (Nat.zero_le _) (Nat.zero_le _) ⟨by rw [e7], rfl, rfl, rfl, by rw [e7]⟩
set_option maxHeartbeats 4000000 in
set_option maxRecDepth 100000 in
theorem x2_X7_reason {l : Launch} (hfl : l.stackTraces = false) {sz : Nat} {sk : pb_Sk} {rf : pb_Rf} {sg : pb_Sg} {X n : Nat} {B par : Nat → Nat} (hX : pb_sys sk rf X B par n) {b : Nat} (hb : b < n) (hz : b = 0) {y : Int32} : pb_Met l mX7_reason 8 1 6 [.ref X, .int (nI b), .int y] sz sk rf sg (pb_thr "java/lang/IllegalStateException" sz sk rf sg) := by
  refine pb_start hfl (by decide +kernel) rfl (pb_c1 rfl) (Nat.le_of_ble_eq_true rfl) (fun F hF h hQ => ?_)
  subst hF
  show pv F 0 0 sz sk rf sg 0 [some (.ref X), some (.int (nI b)), some (.int y), none, none] []
  obtain ⟨hX0, hX1, hX2, hX3, hX4, hX5, hX6, hXc, hXj, hXw, hXs, hXn, hXb, hXe, hXr, hXp⟩ := id hX
  obtain ⟨hb0, hb1, hb2, hb3, hb4, hb5, hb6, hb7, hb8⟩ := id (hXb b hb).2
  have hf : rf (B b) 1 = none := by rw [hz]; exact hXr
  refine v_aload_n h (i := 0) dX7_reason_0 (q := 1) rfl rfl rfl ?_
  refine v_iload_n h (i := 1) dX7_reason_1 (q := 2) rfl rfl rfl ?_
  refine v_callV1 h (c_X7_branchAt hfl hX hb) kX7_branchAt tw292 tw0 (by assumption) (by decide) rfl rfl rfl (by simp [Value.category]) (by decide) (Nat.zero_le _) (Nat.zero_le _) rfl dX7_reason_2 (q := 5) rfl ?_
  refine v_astore_n h (i := 3) dX7_reason_5 (q := 6) rfl rfl (Nat.le_of_ble_eq_true rfl) rfl ?_
  refine v_aload_n h (i := 3) dX7_reason_6 (q := 7) rfl rfl rfl ?_
  refine v_callSx h (x_X7_parentOf hfl hb0 hf) kX7_parentOf rfl tw588 rfl rfl (by simp [Value.category]) (by decide) (by decide) (by decide) rfl dX7_reason_7 (q := 10) rfl ?_
  intro sz9 hsz9
  exact v_out h hQ rfl (by decide) (by decide) ⟨rfl, hsz9, rfl, rfl, rfl⟩
set_option maxHeartbeats 4000000 in
set_option maxRecDepth 100000 in
theorem x1_X7_reason {l : Launch} (hfl : l.stackTraces = false) {sz : Nat} {sk : pb_Sk} {rf : pb_Rf} {sg : pb_Sg} {X n : Nat} {B par : Nat → Nat} (hX : pb_sys sk rf X B par n) {x : Int32} (hx : ∀ b, b < n → ¬ x = nI b) {y : Int32} : pb_Met l mX7_reason 7 1 6 [.ref X, .int x, .int y] sz sk rf sg (pb_thr "java/lang/IndexOutOfBoundsException" sz sk rf sg) := by
  refine pb_start hfl (by decide +kernel) rfl (pb_c1 rfl) (Nat.le_of_ble_eq_true rfl) (fun F hF h hQ => ?_)
  subst hF
  show pv F 0 0 sz sk rf sg 0 [some (.ref X), some (.int x), some (.int y), none, none] []
  obtain ⟨hX0, hX1, hX2, hX3, hX4, hX5, hX6, hXc, hXj, hXw, hXs, hXn, hXb, hXe, hXr, hXp⟩ := id hX
  refine v_aload_n h (i := 0) dX7_reason_0 (q := 1) rfl rfl rfl ?_
  refine v_iload_n h (i := 1) dX7_reason_1 (q := 2) rfl rfl rfl ?_
  refine v_callVx h (x_X7_branchAt hfl hX hx) kX7_branchAt tw292 tw0 (by assumption) (by decide) rfl rfl rfl (by simp [Value.category]) (by decide) (by decide) (by decide) rfl dX7_reason_2 (q := 5) rfl ?_
  intro sz9 hsz9
  exact v_out h hQ rfl (by decide) (by decide) ⟨rfl, hsz9, rfl, rfl, rfl⟩
set_option maxHeartbeats 4000000 in
set_option maxRecDepth 100000 in
theorem c_X7_reasonTask {l : Launch} (hfl : l.stackTraces = false) {sz : Nat} {sk : pb_Sk} {rf : pb_Rf} {sg : pb_Sg} {X n : Nat} {B par : Nat → Nat} (hX : pb_sys sk rf X B par n) {b : Nat} (hb : b < n) (hpos : 0 < b) {m : Bool} (hwf : pb_wf (pb_jnN sg (X + 28) (B b) (B (par b)) 16) (X + 29)) : pb_Met l mX7_reasonTask 7 0 0 [.ref X, .int (nI b), .int (pb_b m)] sz sk rf sg (pb_is (some (.int (pb_low ((pb_jdg sg X (B b) (B (par b)) (if m = true then B (par b) else B b)).2 X 6) 16))) sz sk rf ((pb_jdg sg X (B b) (B (par b)) (if m = true then B (par b) else B b)).2)) := by
  refine pb_start hfl (by decide +kernel) rfl (pb_c1 rfl) (Nat.le_of_ble_eq_true rfl) (fun F hF h hQ => ?_)
  subst hF
  show pv F 0 0 sz sk rf sg 0 [some (.ref X), some (.int (nI b)), some (.int (pb_b m)), none, none] []
  obtain ⟨hX0, hX1, hX2, hX3, hX4, hX5, hX6, hXc, hXj, hXw, hXs, hXn, hXb, hXe, hXr, hXp⟩ := id hX
  obtain ⟨hb0, hb1, hb2, hb3, hb4, hb5, hb6, hb7, hb8⟩ := id (hXb b hb).2
  obtain ⟨hf, hpl⟩ := hXp b hpos hb
  obtain ⟨hf0, hf1, hf2, hf3, hf4, hf5, hf6, hf7, hf8⟩ := id (hXb (par b) (by omega)).2
  refine v_aload_n h (i := 0) dX7_reasonTask_0 (q := 1) rfl rfl rfl ?_
  refine v_iload_n h (i := 1) dX7_reasonTask_1 (q := 2) rfl rfl rfl ?_
  refine v_callV1 h (c_X7_branchAt hfl hX hb) kX7_branchAt tw292 tw0 (by assumption) (by decide) rfl rfl rfl (by simp [Value.category]) (by decide) (Nat.zero_le _) (Nat.zero_le _) rfl dX7_reasonTask_2 (q := 5) rfl ?_
  refine v_astore_n h (i := 3) dX7_reasonTask_5 (q := 6) rfl rfl (Nat.le_of_ble_eq_true rfl) rfl ?_
  refine v_aload_n h (i := 3) dX7_reasonTask_6 (q := 7) rfl rfl rfl ?_
  refine v_callS1 h (c_X7_parentOf hfl hb0 hf) kX7_parentOf rfl tw588 rfl rfl (by simp [Value.category]) (by decide) (Nat.zero_le _) (Nat.zero_le _) rfl dX7_reasonTask_7 (q := 10) rfl ?_
  refine v_astore h dX7_reasonTask_10 (q := 12) rfl (Nat.le_of_ble_eq_true rfl) rfl ?_
  refine v_aload_n h (i := 0) dX7_reasonTask_12 (q := 13) rfl rfl rfl ?_
  refine v_aload_n h (i := 3) dX7_reasonTask_13 (q := 14) rfl rfl rfl ?_
  refine v_aload h dX7_reasonTask_14 (q := 16) rfl rfl ?_
  refine v_iload_n h (i := 2) dX7_reasonTask_16 (q := 17) rfl rfl rfl ?_
  refine v_if_eq h dX7_reasonTask_17 (q := 20) rfl (tgt := 25) (by decide) (fun c1 => ?_) (fun c1 => ?_)
  · skip
    have e6 := pb_b_0.mp c1
    have e7 : (if m = true then B (par b) else B b) = B b := if_neg (by rw [e6]; decide)
    have hgx := hb0
    refine v_aload_n h (i := 3) dX7_reasonTask_25 (q := 26) rfl rfl rfl ?_
    refine v_callV1 h (c_X7_judge hfl hX (hXb b hb).2 (hXb (par b) (by omega)).2 hgx hwf) kX7_judge tw591 tw3 (by assumption) (by decide) rfl rfl rfl (by simp [Value.category]) (by decide) (Nat.zero_le _) (Nat.zero_le _) rfl dX7_reasonTask_26 (q := 29) rfl ?_
    refine v_pop h dX7_reasonTask_29 (q := 30) rfl rfl ?_
    refine v_aload_n h (i := 0) dX7_reasonTask_30 (q := 31) rfl rfl rfl ?_
    refine v_geti h fl_X7_50 (by assumption) rfl dX7_reasonTask_31 (q := 34) rfl ?_
    refine v_callS1 h (c_X7_lowest hfl) kX7_lowest rfl tw670 rfl rfl (by simp [Value.category]) (by decide) (Nat.zero_le _) (Nat.zero_le _) rfl dX7_reasonTask_34 (q := 37) rfl ?_
    refine v_iret h hQ rfl rfl dX7_reasonTask_37 (Nat.zero_le _) (Nat.zero_le _) ⟨by rw [e7], rfl, rfl, rfl, by rw [e7]⟩
  · skip
    have e6 := pb_ne_f (fun q => c1 (pb_b_0.mpr q))
    have e7 : (if m = true then B (par b) else B b) = B (par b) := if_pos e6
    have hgx := hf0
    refine v_aload h dX7_reasonTask_20 (q := 22) rfl rfl ?_
    refine v_goto h dX7_reasonTask_22 (tgt := 26) (by decide) ?_
    refine v_callV1 h (c_X7_judge hfl hX (hXb b hb).2 (hXb (par b) (by omega)).2 hgx hwf) kX7_judge tw591 tw3 (by assumption) (by decide) rfl rfl rfl (by simp [Value.category]) (by decide) (Nat.zero_le _) (Nat.zero_le _) rfl dX7_reasonTask_26 (q := 29) rfl ?_
    refine v_pop h dX7_reasonTask_29 (q := 30) rfl rfl ?_
    refine v_aload_n h (i := 0) dX7_reasonTask_30 (q := 31) rfl rfl rfl ?_
    refine v_geti h fl_X7_50 (by assumption) rfl dX7_reasonTask_31 (q := 34) rfl ?_
    refine v_callS1 h (c_X7_lowest hfl) kX7_lowest rfl tw670 rfl rfl (by simp [Value.category]) (by decide) (Nat.zero_le _) (Nat.zero_le _) rfl dX7_reasonTask_34 (q := 37) rfl ?_
    refine v_iret h hQ rfl rfl dX7_reasonTask_37 (Nat.zero_le _) (Nat.zero_le _) ⟨by rw [e7], rfl, rfl, rfl, by rw [e7]⟩
set_option maxHeartbeats 4000000 in
set_option maxRecDepth 100000 in
theorem x2_X7_reasonTask {l : Launch} (hfl : l.stackTraces = false) {sz : Nat} {sk : pb_Sk} {rf : pb_Rf} {sg : pb_Sg} {X n : Nat} {B par : Nat → Nat} (hX : pb_sys sk rf X B par n) {b : Nat} (hb : b < n) (hz : b = 0) {y : Int32} : pb_Met l mX7_reasonTask 8 1 6 [.ref X, .int (nI b), .int y] sz sk rf sg (pb_thr "java/lang/IllegalStateException" sz sk rf sg) := by
  refine pb_start hfl (by decide +kernel) rfl (pb_c1 rfl) (Nat.le_of_ble_eq_true rfl) (fun F hF h hQ => ?_)
  subst hF
  show pv F 0 0 sz sk rf sg 0 [some (.ref X), some (.int (nI b)), some (.int y), none, none] []
  obtain ⟨hX0, hX1, hX2, hX3, hX4, hX5, hX6, hXc, hXj, hXw, hXs, hXn, hXb, hXe, hXr, hXp⟩ := id hX
  obtain ⟨hb0, hb1, hb2, hb3, hb4, hb5, hb6, hb7, hb8⟩ := id (hXb b hb).2
  have hf : rf (B b) 1 = none := by rw [hz]; exact hXr
  refine v_aload_n h (i := 0) dX7_reasonTask_0 (q := 1) rfl rfl rfl ?_
  refine v_iload_n h (i := 1) dX7_reasonTask_1 (q := 2) rfl rfl rfl ?_
  refine v_callV1 h (c_X7_branchAt hfl hX hb) kX7_branchAt tw292 tw0 (by assumption) (by decide) rfl rfl rfl (by simp [Value.category]) (by decide) (Nat.zero_le _) (Nat.zero_le _) rfl dX7_reasonTask_2 (q := 5) rfl ?_
  refine v_astore_n h (i := 3) dX7_reasonTask_5 (q := 6) rfl rfl (Nat.le_of_ble_eq_true rfl) rfl ?_
  refine v_aload_n h (i := 3) dX7_reasonTask_6 (q := 7) rfl rfl rfl ?_
  refine v_callSx h (x_X7_parentOf hfl hb0 hf) kX7_parentOf rfl tw588 rfl rfl (by simp [Value.category]) (by decide) (by decide) (by decide) rfl dX7_reasonTask_7 (q := 10) rfl ?_
  intro sz9 hsz9
  exact v_out h hQ rfl (by decide) (by decide) ⟨rfl, hsz9, rfl, rfl, rfl⟩
set_option maxHeartbeats 4000000 in
set_option maxRecDepth 100000 in
theorem x1_X7_reasonTask {l : Launch} (hfl : l.stackTraces = false) {sz : Nat} {sk : pb_Sk} {rf : pb_Rf} {sg : pb_Sg} {X n : Nat} {B par : Nat → Nat} (hX : pb_sys sk rf X B par n) {x : Int32} (hx : ∀ b, b < n → ¬ x = nI b) {y : Int32} : pb_Met l mX7_reasonTask 7 1 6 [.ref X, .int x, .int y] sz sk rf sg (pb_thr "java/lang/IndexOutOfBoundsException" sz sk rf sg) := by
  refine pb_start hfl (by decide +kernel) rfl (pb_c1 rfl) (Nat.le_of_ble_eq_true rfl) (fun F hF h hQ => ?_)
  subst hF
  show pv F 0 0 sz sk rf sg 0 [some (.ref X), some (.int x), some (.int y), none, none] []
  obtain ⟨hX0, hX1, hX2, hX3, hX4, hX5, hX6, hXc, hXj, hXw, hXs, hXn, hXb, hXe, hXr, hXp⟩ := id hX
  refine v_aload_n h (i := 0) dX7_reasonTask_0 (q := 1) rfl rfl rfl ?_
  refine v_iload_n h (i := 1) dX7_reasonTask_1 (q := 2) rfl rfl rfl ?_
  refine v_callVx h (x_X7_branchAt hfl hX hx) kX7_branchAt tw292 tw0 (by assumption) (by decide) rfl rfl rfl (by simp [Value.category]) (by decide) (by decide) (by decide) rfl dX7_reasonTask_2 (q := 5) rfl ?_
  intro sz9 hsz9
  exact v_out h hQ rfl (by decide) (by decide) ⟨rfl, hsz9, rfl, rfl, rfl⟩
set_option maxHeartbeats 4000000 in
set_option maxRecDepth 100000 in
theorem c_X7_merge {l : Launch} (hfl : l.stackTraces = false) {sz : Nat} {sk : pb_Sk} {rf : pb_Rf} {sg : pb_Sg} {X n : Nat} {B par : Nat → Nat} (hX : pb_sys sk rf X B par n) {b : Nat} (hb : b < n) (hpos : 0 < b) (hwf : pb_wf (pb_jnN sg (X + 28) (B b) (B (par b)) 16) (X + 29)) (hr : (pb_jdg sg X (B b) (B (par b)) (B (par b))).1 = 0) : pb_Met l mX7_merge 7 0 0 [.ref X, .int (nI b)] sz sk rf sg (pb_is (some (.int (nI (pb_cnt (fun t => !pb_same (pb_jdg sg X (B b) (B (par b)) (B (par b))).2 (B (par b) + 1) (X + 29) t) 16)))) sz sk rf (pb_mg (pb_jdg sg X (B b) (B (par b)) (B (par b))).2 X (B b) (B (par b)))) := by
  refine pb_start hfl (by decide +kernel) rfl (pb_c1 rfl) (Nat.le_of_ble_eq_true rfl) (fun F hF h hQ => ?_)
  subst hF
  show pv F 0 0 sz sk rf sg 0 [some (.ref X), some (.int (nI b)), none, none, none] []
  obtain ⟨hX0, hX1, hX2, hX3, hX4, hX5, hX6, hXc, hXj, hXw, hXs, hXn, hXb, hXe, hXr, hXp⟩ := id hX
  obtain ⟨hb0, hb1, hb2, hb3, hb4, hb5, hb6, hb7, hb8⟩ := id (hXb b hb).2
  obtain ⟨hf, hpl⟩ := hXp b hpos hb
  obtain ⟨hf0, hf1, hf2, hf3, hf4, hf5, hf6, hf7, hf8⟩ := id (hXb (par b) (by omega)).2
  obtain ⟨hj0, hj1, hj2⟩ := id hXj
  have hbp : sk (B b + 1) = (10, 0) := hb5.1
  have hfp : sk (B (par b) + 1) = (10, 0) := hf5.1
  have hfh : sk (B (par b) + 11) = (8, 0) := hf7.1
  refine v_aload_n h (i := 0) dX7_merge_0 (q := 1) rfl rfl rfl ?_
  refine v_iload_n h (i := 1) dX7_merge_1 (q := 2) rfl rfl rfl ?_
  refine v_callV1 h (c_X7_branchAt hfl hX hb) kX7_branchAt tw292 tw0 (by assumption) (by decide) rfl rfl rfl (by simp [Value.category]) (by decide) (Nat.zero_le _) (Nat.zero_le _) rfl dX7_merge_2 (q := 5) rfl ?_
  refine v_astore_n h (i := 2) dX7_merge_5 (q := 6) rfl rfl (Nat.le_of_ble_eq_true rfl) rfl ?_
  refine v_aload_n h (i := 2) dX7_merge_6 (q := 7) rfl rfl rfl ?_
  refine v_callS1 h (c_X7_parentOf hfl hb0 hf) kX7_parentOf rfl tw588 rfl rfl (by simp [Value.category]) (by decide) (Nat.zero_le _) (Nat.zero_le _) rfl dX7_merge_7 (q := 10) rfl ?_
  refine v_astore_n h (i := 3) dX7_merge_10 (q := 11) rfl rfl (Nat.le_of_ble_eq_true rfl) rfl ?_
  refine v_aload_n h (i := 0) dX7_merge_11 (q := 12) rfl rfl rfl ?_
  refine v_aload_n h (i := 2) dX7_merge_12 (q := 13) rfl rfl rfl ?_
  refine v_aload_n h (i := 3) dX7_merge_13 (q := 14) rfl rfl rfl ?_
  refine v_aload_n h (i := 3) dX7_merge_14 (q := 15) rfl rfl rfl ?_
  refine v_callV1 h (c_X7_judge hfl hX (hXb b hb).2 (hXb (par b) (by omega)).2 hf0 hwf) kX7_judge tw591 tw3 (by assumption) (by decide) rfl rfl rfl (by simp [Value.category]) (by decide) (Nat.zero_le _) (Nat.zero_le _) rfl dX7_merge_15 (q := 18) rfl ?_
  refine v_if_eq h dX7_merge_18 (q := 21) rfl (tgt := 31) (by decide) (fun c1 => ?_) (fun c1 => absurd hr c1)
  refine v_aload_n h (i := 3) dX7_merge_31 (q := 32) rfl rfl rfl ?_
  refine v_getr h fl_X7_65 (by assumption) rfl (by assumption) dX7_merge_32 (q := 35) rfl ?_
  refine v_aload_n h (i := 0) dX7_merge_35 (q := 36) rfl rfl rfl ?_
  refine v_getr h fl_X7_32 (by assumption) rfl (by assumption) dX7_merge_36 (q := 39) rfl ?_
  refine v_getr h fl_X7_193 (by assumption) rfl (by assumption) dX7_merge_39 (q := 42) rfl ?_
  refine v_callV1 h (c_X4_countOthers hfl hf5 hj2) kX4_countOthers tw681 tw683 (by assumption) (by decide) rfl rfl rfl (by simp [Value.category]) (by decide) (Nat.zero_le _) (Nat.zero_le _) rfl dX7_merge_42 (q := 45) rfl ?_
  refine v_istore h dX7_merge_45 (q := 47) rfl (Nat.le_of_ble_eq_true rfl) rfl ?_
  refine v_aload_n h (i := 3) dX7_merge_47 (q := 48) rfl rfl rfl ?_
  refine v_getr h fl_X7_65 (by assumption) rfl (by assumption) dX7_merge_48 (q := 51) rfl ?_
  refine v_aload_n h (i := 0) dX7_merge_51 (q := 52) rfl rfl rfl ?_
  refine v_getr h fl_X7_32 (by assumption) rfl (by assumption) dX7_merge_52 (q := 55) rfl ?_
  refine v_getr h fl_X7_193 (by assumption) rfl (by assumption) dX7_merge_55 (q := 58) rfl ?_
  refine v_callV0 h (c_X4_copyFrom hfl hf5 hj2) kX4_copyFrom tw515 tw517 (by assumption) (by decide) rfl rfl rfl (by simp [Value.category]) (by decide) (Nat.zero_le _) (Nat.zero_le _) rfl dX7_merge_58 (q := 61) rfl ?_
  refine v_aload_n h (i := 3) dX7_merge_61 (q := 62) rfl rfl rfl ?_
  refine v_getr h fl_X7_79 (by assumption) rfl (by assumption) dX7_merge_62 (q := 65) rfl ?_
  refine v_callV0 h (c_X2_forget hfl hf7) kX2_forget tw523 tw525 (by assumption) (by decide) rfl rfl rfl (by simp [Value.category]) (by decide) (Nat.zero_le _) (Nat.zero_le _) rfl dX7_merge_65 (q := 68) rfl ?_
  refine v_aload_n h (i := 2) dX7_merge_68 (q := 69) rfl rfl rfl ?_
  refine v_getr h fl_X7_65 (by assumption) rfl (by assumption) dX7_merge_69 (q := 72) rfl ?_
  refine v_aload_n h (i := 0) dX7_merge_72 (q := 73) rfl rfl rfl ?_
  refine v_getr h fl_X7_32 (by assumption) rfl (by assumption) dX7_merge_73 (q := 76) rfl ?_
  refine v_getr h fl_X7_193 (by assumption) rfl (by assumption) dX7_merge_76 (q := 79) rfl ?_
  refine v_callV0 h (c_X4_copyFrom hfl hb5 hj2) kX4_copyFrom tw515 tw517 (by assumption) (by decide) rfl rfl rfl (by simp [Value.category]) (by decide) (Nat.zero_le _) (Nat.zero_le _) rfl dX7_merge_79 (q := 82) rfl ?_
  refine v_aload_n h (i := 2) dX7_merge_82 (q := 83) rfl rfl rfl ?_
  refine v_aload_n h (i := 0) dX7_merge_83 (q := 84) rfl rfl rfl ?_
  refine v_getr h fl_X7_32 (by assumption) rfl (by assumption) dX7_merge_84 (q := 87) rfl ?_
  refine v_getr h fl_X7_193 (by assumption) rfl (by assumption) dX7_merge_87 (q := 90) rfl ?_
  refine v_callV0 h (c_X0_startFrom hfl (hXb b hb).2 hj2) kX0_startFrom tw686 tw688 (by assumption) (by decide) rfl rfl rfl (by simp [Value.category]) (by decide) (Nat.zero_le _) (Nat.zero_le _) rfl dX7_merge_90 (q := 93) rfl ?_
  refine v_iload h dX7_merge_93 (q := 95) rfl rfl ?_
  refine v_iret h hQ rfl rfl dX7_merge_95 (Nat.zero_le _) (Nat.zero_le _) ⟨rfl, rfl, rfl, rfl, rfl⟩
set_option maxHeartbeats 4000000 in
set_option maxRecDepth 100000 in
theorem x3_X7_merge {l : Launch} (hfl : l.stackTraces = false) {sz : Nat} {sk : pb_Sk} {rf : pb_Rf} {sg : pb_Sg} {X n : Nat} {B par : Nat → Nat} (hX : pb_sys sk rf X B par n) {b : Nat} (hb : b < n) (hpos : 0 < b) (hwf : pb_wf (pb_jnN sg (X + 28) (B b) (B (par b)) 16) (X + 29)) (hr : ¬ (pb_jdg sg X (B b) (B (par b)) (B (par b))).1 = 0) : pb_Met l mX7_merge 8 1 6 [.ref X, .int (nI b)] sz sk rf sg (pb_thr "java/lang/IllegalStateException" sz sk rf (pb_jdg sg X (B b) (B (par b)) (B (par b))).2) := by
  refine pb_start hfl (by decide +kernel) rfl (pb_c1 rfl) (Nat.le_of_ble_eq_true rfl) (fun F hF h hQ => ?_)
  subst hF
  show pv F 0 0 sz sk rf sg 0 [some (.ref X), some (.int (nI b)), none, none, none] []
  obtain ⟨hX0, hX1, hX2, hX3, hX4, hX5, hX6, hXc, hXj, hXw, hXs, hXn, hXb, hXe, hXr, hXp⟩ := id hX
  obtain ⟨hb0, hb1, hb2, hb3, hb4, hb5, hb6, hb7, hb8⟩ := id (hXb b hb).2
  obtain ⟨hf, hpl⟩ := hXp b hpos hb
  obtain ⟨hf0, hf1, hf2, hf3, hf4, hf5, hf6, hf7, hf8⟩ := id (hXb (par b) (by omega)).2
  obtain ⟨hj0, hj1, hj2⟩ := id hXj
  refine v_aload_n h (i := 0) dX7_merge_0 (q := 1) rfl rfl rfl ?_
  refine v_iload_n h (i := 1) dX7_merge_1 (q := 2) rfl rfl rfl ?_
  refine v_callV1 h (c_X7_branchAt hfl hX hb) kX7_branchAt tw292 tw0 (by assumption) (by decide) rfl rfl rfl (by simp [Value.category]) (by decide) (Nat.zero_le _) (Nat.zero_le _) rfl dX7_merge_2 (q := 5) rfl ?_
  refine v_astore_n h (i := 2) dX7_merge_5 (q := 6) rfl rfl (Nat.le_of_ble_eq_true rfl) rfl ?_
  refine v_aload_n h (i := 2) dX7_merge_6 (q := 7) rfl rfl rfl ?_
  refine v_callS1 h (c_X7_parentOf hfl hb0 hf) kX7_parentOf rfl tw588 rfl rfl (by simp [Value.category]) (by decide) (Nat.zero_le _) (Nat.zero_le _) rfl dX7_merge_7 (q := 10) rfl ?_
  refine v_astore_n h (i := 3) dX7_merge_10 (q := 11) rfl rfl (Nat.le_of_ble_eq_true rfl) rfl ?_
  refine v_aload_n h (i := 0) dX7_merge_11 (q := 12) rfl rfl rfl ?_
  refine v_aload_n h (i := 2) dX7_merge_12 (q := 13) rfl rfl rfl ?_
  refine v_aload_n h (i := 3) dX7_merge_13 (q := 14) rfl rfl rfl ?_
  refine v_aload_n h (i := 3) dX7_merge_14 (q := 15) rfl rfl rfl ?_
  refine v_callV1 h (c_X7_judge hfl hX (hXb b hb).2 (hXb (par b) (by omega)).2 hf0 hwf) kX7_judge tw591 tw3 (by assumption) (by decide) rfl rfl rfl (by simp [Value.category]) (by decide) (Nat.zero_le _) (Nat.zero_le _) rfl dX7_merge_15 (q := 18) rfl ?_
  refine v_if_eq h dX7_merge_18 (q := 21) rfl (tgt := 31) (by decide) (fun c1 => absurd c1 hr) (fun c1 => ?_)
  refine v_throw h hQ rfl (th_X7_93) (is := 191) (text := "there is a reason against merging") (by decide +kernel) rfl dX7_merge_21 dX7_merge_24 dX7_merge_25 dX7_merge_27 dX7_merge_30 (by decide) (by decide) (by decide) (by decide) (fun sz9 hsz9 => ⟨rfl, hsz9, rfl, rfl, rfl⟩)
set_option maxHeartbeats 4000000 in
set_option maxRecDepth 100000 in
theorem x2_X7_merge {l : Launch} (hfl : l.stackTraces = false) {sz : Nat} {sk : pb_Sk} {rf : pb_Rf} {sg : pb_Sg} {X n : Nat} {B par : Nat → Nat} (hX : pb_sys sk rf X B par n) {b : Nat} (hb : b < n) (hz : b = 0) : pb_Met l mX7_merge 8 1 6 [.ref X, .int (nI b)] sz sk rf sg (pb_thr "java/lang/IllegalStateException" sz sk rf sg) := by
  refine pb_start hfl (by decide +kernel) rfl (pb_c1 rfl) (Nat.le_of_ble_eq_true rfl) (fun F hF h hQ => ?_)
  subst hF
  show pv F 0 0 sz sk rf sg 0 [some (.ref X), some (.int (nI b)), none, none, none] []
  obtain ⟨hX0, hX1, hX2, hX3, hX4, hX5, hX6, hXc, hXj, hXw, hXs, hXn, hXb, hXe, hXr, hXp⟩ := id hX
  obtain ⟨hb0, hb1, hb2, hb3, hb4, hb5, hb6, hb7, hb8⟩ := id (hXb b hb).2
  have hf : rf (B b) 1 = none := by rw [hz]; exact hXr
  refine v_aload_n h (i := 0) dX7_merge_0 (q := 1) rfl rfl rfl ?_
  refine v_iload_n h (i := 1) dX7_merge_1 (q := 2) rfl rfl rfl ?_
  refine v_callV1 h (c_X7_branchAt hfl hX hb) kX7_branchAt tw292 tw0 (by assumption) (by decide) rfl rfl rfl (by simp [Value.category]) (by decide) (Nat.zero_le _) (Nat.zero_le _) rfl dX7_merge_2 (q := 5) rfl ?_
  refine v_astore_n h (i := 2) dX7_merge_5 (q := 6) rfl rfl (Nat.le_of_ble_eq_true rfl) rfl ?_
  refine v_aload_n h (i := 2) dX7_merge_6 (q := 7) rfl rfl rfl ?_
  refine v_callSx h (x_X7_parentOf hfl hb0 hf) kX7_parentOf rfl tw588 rfl rfl (by simp [Value.category]) (by decide) (by decide) (by decide) rfl dX7_merge_7 (q := 10) rfl ?_
  intro sz9 hsz9
  exact v_out h hQ rfl (by decide) (by decide) ⟨rfl, hsz9, rfl, rfl, rfl⟩
set_option maxHeartbeats 4000000 in
set_option maxRecDepth 100000 in
theorem x1_X7_merge {l : Launch} (hfl : l.stackTraces = false) {sz : Nat} {sk : pb_Sk} {rf : pb_Rf} {sg : pb_Sg} {X n : Nat} {B par : Nat → Nat} (hX : pb_sys sk rf X B par n) {x : Int32} (hx : ∀ b, b < n → ¬ x = nI b) : pb_Met l mX7_merge 7 1 6 [.ref X, .int x] sz sk rf sg (pb_thr "java/lang/IndexOutOfBoundsException" sz sk rf sg) := by
  refine pb_start hfl (by decide +kernel) rfl (pb_c1 rfl) (Nat.le_of_ble_eq_true rfl) (fun F hF h hQ => ?_)
  subst hF
  show pv F 0 0 sz sk rf sg 0 [some (.ref X), some (.int x), none, none, none] []
  obtain ⟨hX0, hX1, hX2, hX3, hX4, hX5, hX6, hXc, hXj, hXw, hXs, hXn, hXb, hXe, hXr, hXp⟩ := id hX
  refine v_aload_n h (i := 0) dX7_merge_0 (q := 1) rfl rfl rfl ?_
  refine v_iload_n h (i := 1) dX7_merge_1 (q := 2) rfl rfl rfl ?_
  refine v_callVx h (x_X7_branchAt hfl hX hx) kX7_branchAt tw292 tw0 (by assumption) (by decide) rfl rfl rfl (by simp [Value.category]) (by decide) (by decide) (by decide) rfl dX7_merge_2 (q := 5) rfl ?_
  intro sz9 hsz9
  exact v_out h hQ rfl (by decide) (by decide) ⟨rfl, hsz9, rfl, rfl, rfl⟩
set_option maxHeartbeats 4000000 in
set_option maxRecDepth 100000 in
theorem c_X7_update {l : Launch} (hfl : l.stackTraces = false) {sz : Nat} {sk : pb_Sk} {rf : pb_Rf} {sg : pb_Sg} {X n : Nat} {B par : Nat → Nat} (hX : pb_sys sk rf X B par n) {b : Nat} (hb : b < n) (hpos : 0 < b) (hwf : pb_wf (pb_jnN sg (X + 28) (B b) (B (par b)) 16) (X + 29)) (hr : (pb_jdg sg X (B b) (B (par b)) (B b)).1 = 0) : pb_Met l mX7_update 7 0 0 [.ref X, .int (nI b)] sz sk rf sg (pb_is (some (.int (nI (pb_cnt (fun t => !pb_same (pb_jdg sg X (B b) (B (par b)) (B b)).2 (B b + 1) (X + 29) t) 16)))) sz sk rf (pb_ud (pb_jdg sg X (B b) (B (par b)) (B b)).2 X (B b) (B (par b)))) := by
  refine pb_start hfl (by decide +kernel) rfl (pb_c1 rfl) (Nat.le_of_ble_eq_true rfl) (fun F hF h hQ => ?_)
  subst hF
  show pv F 0 0 sz sk rf sg 0 [some (.ref X), some (.int (nI b)), none, none, none] []
  obtain ⟨hX0, hX1, hX2, hX3, hX4, hX5, hX6, hXc, hXj, hXw, hXs, hXn, hXb, hXe, hXr, hXp⟩ := id hX
  obtain ⟨hb0, hb1, hb2, hb3, hb4, hb5, hb6, hb7, hb8⟩ := id (hXb b hb).2
  obtain ⟨hf, hpl⟩ := hXp b hpos hb
  obtain ⟨hf0, hf1, hf2, hf3, hf4, hf5, hf6, hf7, hf8⟩ := id (hXb (par b) (by omega)).2
  obtain ⟨hj0, hj1, hj2⟩ := id hXj
  have hbp : sk (B b + 1) = (10, 0) := hb5.1
  have hfp : sk (B (par b) + 1) = (10, 0) := hf5.1
  have hfh : sk (B (par b) + 11) = (8, 0) := hf7.1
  refine v_aload_n h (i := 0) dX7_update_0 (q := 1) rfl rfl rfl ?_
  refine v_iload_n h (i := 1) dX7_update_1 (q := 2) rfl rfl rfl ?_
  refine v_callV1 h (c_X7_branchAt hfl hX hb) kX7_branchAt tw292 tw0 (by assumption) (by decide) rfl rfl rfl (by simp [Value.category]) (by decide) (Nat.zero_le _) (Nat.zero_le _) rfl dX7_update_2 (q := 5) rfl ?_
  refine v_astore_n h (i := 2) dX7_update_5 (q := 6) rfl rfl (Nat.le_of_ble_eq_true rfl) rfl ?_
  refine v_aload_n h (i := 2) dX7_update_6 (q := 7) rfl rfl rfl ?_
  refine v_callS1 h (c_X7_parentOf hfl hb0 hf) kX7_parentOf rfl tw588 rfl rfl (by simp [Value.category]) (by decide) (Nat.zero_le _) (Nat.zero_le _) rfl dX7_update_7 (q := 10) rfl ?_
  refine v_astore_n h (i := 3) dX7_update_10 (q := 11) rfl rfl (Nat.le_of_ble_eq_true rfl) rfl ?_
  refine v_aload_n h (i := 0) dX7_update_11 (q := 12) rfl rfl rfl ?_
  refine v_aload_n h (i := 2) dX7_update_12 (q := 13) rfl rfl rfl ?_
  refine v_aload_n h (i := 3) dX7_update_13 (q := 14) rfl rfl rfl ?_
  refine v_aload_n h (i := 2) dX7_update_14 (q := 15) rfl rfl rfl ?_
  refine v_callV1 h (c_X7_judge hfl hX (hXb b hb).2 (hXb (par b) (by omega)).2 hb0 hwf) kX7_judge tw591 tw3 (by assumption) (by decide) rfl rfl rfl (by simp [Value.category]) (by decide) (Nat.zero_le _) (Nat.zero_le _) rfl dX7_update_15 (q := 18) rfl ?_
  refine v_if_eq h dX7_update_18 (q := 21) rfl (tgt := 31) (by decide) (fun c1 => ?_) (fun c1 => absurd hr c1)
  refine v_aload_n h (i := 2) dX7_update_31 (q := 32) rfl rfl rfl ?_
  refine v_getr h fl_X7_65 (by assumption) rfl (by assumption) dX7_update_32 (q := 35) rfl ?_
  refine v_aload_n h (i := 0) dX7_update_35 (q := 36) rfl rfl rfl ?_
  refine v_getr h fl_X7_32 (by assumption) rfl (by assumption) dX7_update_36 (q := 39) rfl ?_
  refine v_getr h fl_X7_193 (by assumption) rfl (by assumption) dX7_update_39 (q := 42) rfl ?_
  refine v_callV1 h (c_X4_countOthers hfl hb5 hj2) kX4_countOthers tw681 tw683 (by assumption) (by decide) rfl rfl rfl (by simp [Value.category]) (by decide) (Nat.zero_le _) (Nat.zero_le _) rfl dX7_update_42 (q := 45) rfl ?_
  refine v_istore h dX7_update_45 (q := 47) rfl (Nat.le_of_ble_eq_true rfl) rfl ?_
  refine v_aload_n h (i := 2) dX7_update_47 (q := 48) rfl rfl rfl ?_
  refine v_getr h fl_X7_65 (by assumption) rfl (by assumption) dX7_update_48 (q := 51) rfl ?_
  refine v_aload_n h (i := 0) dX7_update_51 (q := 52) rfl rfl rfl ?_
  refine v_getr h fl_X7_32 (by assumption) rfl (by assumption) dX7_update_52 (q := 55) rfl ?_
  refine v_getr h fl_X7_193 (by assumption) rfl (by assumption) dX7_update_55 (q := 58) rfl ?_
  refine v_callV0 h (c_X4_copyFrom hfl hb5 hj2) kX4_copyFrom tw515 tw517 (by assumption) (by decide) rfl rfl rfl (by simp [Value.category]) (by decide) (Nat.zero_le _) (Nat.zero_le _) rfl dX7_update_58 (q := 61) rfl ?_
  refine v_aload_n h (i := 2) dX7_update_61 (q := 62) rfl rfl rfl ?_
  refine v_aload_n h (i := 3) dX7_update_62 (q := 63) rfl rfl rfl ?_
  refine v_getr h fl_X7_65 (by assumption) rfl (by assumption) dX7_update_63 (q := 66) rfl ?_
  refine v_callV0 h (c_X0_startFrom hfl (hXb b hb).2 hf5) kX0_startFrom tw686 tw688 (by assumption) (by decide) rfl rfl rfl (by simp [Value.category]) (by decide) (Nat.zero_le _) (Nat.zero_le _) rfl dX7_update_66 (q := 69) rfl ?_
  refine v_iload h dX7_update_69 (q := 71) rfl rfl ?_
  refine v_iret h hQ rfl rfl dX7_update_71 (Nat.zero_le _) (Nat.zero_le _) ⟨rfl, rfl, rfl, rfl, rfl⟩
set_option maxHeartbeats 4000000 in
set_option maxRecDepth 100000 in
theorem x3_X7_update {l : Launch} (hfl : l.stackTraces = false) {sz : Nat} {sk : pb_Sk} {rf : pb_Rf} {sg : pb_Sg} {X n : Nat} {B par : Nat → Nat} (hX : pb_sys sk rf X B par n) {b : Nat} (hb : b < n) (hpos : 0 < b) (hwf : pb_wf (pb_jnN sg (X + 28) (B b) (B (par b)) 16) (X + 29)) (hr : ¬ (pb_jdg sg X (B b) (B (par b)) (B b)).1 = 0) : pb_Met l mX7_update 8 1 6 [.ref X, .int (nI b)] sz sk rf sg (pb_thr "java/lang/IllegalStateException" sz sk rf (pb_jdg sg X (B b) (B (par b)) (B b)).2) := by
  refine pb_start hfl (by decide +kernel) rfl (pb_c1 rfl) (Nat.le_of_ble_eq_true rfl) (fun F hF h hQ => ?_)
  subst hF
  show pv F 0 0 sz sk rf sg 0 [some (.ref X), some (.int (nI b)), none, none, none] []
  obtain ⟨hX0, hX1, hX2, hX3, hX4, hX5, hX6, hXc, hXj, hXw, hXs, hXn, hXb, hXe, hXr, hXp⟩ := id hX
  obtain ⟨hb0, hb1, hb2, hb3, hb4, hb5, hb6, hb7, hb8⟩ := id (hXb b hb).2
  obtain ⟨hf, hpl⟩ := hXp b hpos hb
  obtain ⟨hf0, hf1, hf2, hf3, hf4, hf5, hf6, hf7, hf8⟩ := id (hXb (par b) (by omega)).2
  obtain ⟨hj0, hj1, hj2⟩ := id hXj
  refine v_aload_n h (i := 0) dX7_update_0 (q := 1) rfl rfl rfl ?_
  refine v_iload_n h (i := 1) dX7_update_1 (q := 2) rfl rfl rfl ?_
  refine v_callV1 h (c_X7_branchAt hfl hX hb) kX7_branchAt tw292 tw0 (by assumption) (by decide) rfl rfl rfl (by simp [Value.category]) (by decide) (Nat.zero_le _) (Nat.zero_le _) rfl dX7_update_2 (q := 5) rfl ?_
  refine v_astore_n h (i := 2) dX7_update_5 (q := 6) rfl rfl (Nat.le_of_ble_eq_true rfl) rfl ?_
  refine v_aload_n h (i := 2) dX7_update_6 (q := 7) rfl rfl rfl ?_
  refine v_callS1 h (c_X7_parentOf hfl hb0 hf) kX7_parentOf rfl tw588 rfl rfl (by simp [Value.category]) (by decide) (Nat.zero_le _) (Nat.zero_le _) rfl dX7_update_7 (q := 10) rfl ?_
  refine v_astore_n h (i := 3) dX7_update_10 (q := 11) rfl rfl (Nat.le_of_ble_eq_true rfl) rfl ?_
  refine v_aload_n h (i := 0) dX7_update_11 (q := 12) rfl rfl rfl ?_
  refine v_aload_n h (i := 2) dX7_update_12 (q := 13) rfl rfl rfl ?_
  refine v_aload_n h (i := 3) dX7_update_13 (q := 14) rfl rfl rfl ?_
  refine v_aload_n h (i := 2) dX7_update_14 (q := 15) rfl rfl rfl ?_
  refine v_callV1 h (c_X7_judge hfl hX (hXb b hb).2 (hXb (par b) (by omega)).2 hb0 hwf) kX7_judge tw591 tw3 (by assumption) (by decide) rfl rfl rfl (by simp [Value.category]) (by decide) (Nat.zero_le _) (Nat.zero_le _) rfl dX7_update_15 (q := 18) rfl ?_
  refine v_if_eq h dX7_update_18 (q := 21) rfl (tgt := 31) (by decide) (fun c1 => absurd c1 hr) (fun c1 => ?_)
  refine v_throw h hQ rfl (th_X7_93) (is := 201) (text := "there is a reason against bringing it up to date") (by decide +kernel) rfl dX7_update_21 dX7_update_24 dX7_update_25 dX7_update_27 dX7_update_30 (by decide) (by decide) (by decide) (by decide) (fun sz9 hsz9 => ⟨rfl, hsz9, rfl, rfl, rfl⟩)
set_option maxHeartbeats 4000000 in
set_option maxRecDepth 100000 in
theorem x2_X7_update {l : Launch} (hfl : l.stackTraces = false) {sz : Nat} {sk : pb_Sk} {rf : pb_Rf} {sg : pb_Sg} {X n : Nat} {B par : Nat → Nat} (hX : pb_sys sk rf X B par n) {b : Nat} (hb : b < n) (hz : b = 0) : pb_Met l mX7_update 8 1 6 [.ref X, .int (nI b)] sz sk rf sg (pb_thr "java/lang/IllegalStateException" sz sk rf sg) := by
  refine pb_start hfl (by decide +kernel) rfl (pb_c1 rfl) (Nat.le_of_ble_eq_true rfl) (fun F hF h hQ => ?_)
  subst hF
  show pv F 0 0 sz sk rf sg 0 [some (.ref X), some (.int (nI b)), none, none, none] []
  obtain ⟨hX0, hX1, hX2, hX3, hX4, hX5, hX6, hXc, hXj, hXw, hXs, hXn, hXb, hXe, hXr, hXp⟩ := id hX
  obtain ⟨hb0, hb1, hb2, hb3, hb4, hb5, hb6, hb7, hb8⟩ := id (hXb b hb).2
  have hf : rf (B b) 1 = none := by rw [hz]; exact hXr
  refine v_aload_n h (i := 0) dX7_update_0 (q := 1) rfl rfl rfl ?_
  refine v_iload_n h (i := 1) dX7_update_1 (q := 2) rfl rfl rfl ?_
  refine v_callV1 h (c_X7_branchAt hfl hX hb) kX7_branchAt tw292 tw0 (by assumption) (by decide) rfl rfl rfl (by simp [Value.category]) (by decide) (Nat.zero_le _) (Nat.zero_le _) rfl dX7_update_2 (q := 5) rfl ?_
  refine v_astore_n h (i := 2) dX7_update_5 (q := 6) rfl rfl (Nat.le_of_ble_eq_true rfl) rfl ?_
  refine v_aload_n h (i := 2) dX7_update_6 (q := 7) rfl rfl rfl ?_
  refine v_callSx h (x_X7_parentOf hfl hb0 hf) kX7_parentOf rfl tw588 rfl rfl (by simp [Value.category]) (by decide) (by decide) (by decide) rfl dX7_update_7 (q := 10) rfl ?_
  intro sz9 hsz9
  exact v_out h hQ rfl (by decide) (by decide) ⟨rfl, hsz9, rfl, rfl, rfl⟩
set_option maxHeartbeats 4000000 in
set_option maxRecDepth 100000 in
theorem x1_X7_update {l : Launch} (hfl : l.stackTraces = false) {sz : Nat} {sk : pb_Sk} {rf : pb_Rf} {sg : pb_Sg} {X n : Nat} {B par : Nat → Nat} (hX : pb_sys sk rf X B par n) {x : Int32} (hx : ∀ b, b < n → ¬ x = nI b) : pb_Met l mX7_update 7 1 6 [.ref X, .int x] sz sk rf sg (pb_thr "java/lang/IndexOutOfBoundsException" sz sk rf sg) := by
  refine pb_start hfl (by decide +kernel) rfl (pb_c1 rfl) (Nat.le_of_ble_eq_true rfl) (fun F hF h hQ => ?_)
  subst hF
  show pv F 0 0 sz sk rf sg 0 [some (.ref X), some (.int x), none, none, none] []
  obtain ⟨hX0, hX1, hX2, hX3, hX4, hX5, hX6, hXc, hXj, hXw, hXs, hXn, hXb, hXe, hXr, hXp⟩ := id hX
  refine v_aload_n h (i := 0) dX7_update_0 (q := 1) rfl rfl rfl ?_
  refine v_iload_n h (i := 1) dX7_update_1 (q := 2) rfl rfl rfl ?_
  refine v_callVx h (x_X7_branchAt hfl hX hx) kX7_branchAt tw292 tw0 (by assumption) (by decide) rfl rfl rfl (by simp [Value.category]) (by decide) (by decide) (by decide) rfl dX7_update_2 (q := 5) rfl ?_
  intro sz9 hsz9
  exact v_out h hQ rfl (by decide) (by decide) ⟨rfl, hsz9, rfl, rfl, rfl⟩
set_option maxHeartbeats 4000000 in
set_option maxRecDepth 100000 in
theorem c_X7_firstDay {l : Launch} (hfl : l.stackTraces = false) {sz : Nat} {sk : pb_Sk} {rf : pb_Rf} {sg : pb_Sg} {X n : Nat} {B par : Nat → Nat} (hX : pb_sys sk rf X B par n) {b t : Nat} (hb : b < n) (ht : t < 16) (ha : pb_apX X (B b + 1)) (hwf : pb_wf sg (B b + 1)) : pb_Met l mX7_firstDay 7 0 0 [.ref X, .int (nI b), .int (nI t)] sz sk rf sg (pb_is (some (.int ((pb_pbr sg X (B b + 1) (B b)) (X + 37 + 1) t))) sz sk rf ((pb_pbr sg X (B b + 1) (B b)))) := by
  refine pb_start hfl (by decide +kernel) rfl (pb_c1 rfl) (Nat.le_of_ble_eq_true rfl) (fun F hF h hQ => ?_)
  subst hF
  show pv F 0 0 sz sk rf sg 0 [some (.ref X), some (.int (nI b)), some (.int (nI t)), none] []
  obtain ⟨hX0, hX1, hX2, hX3, hX4, hX5, hX6, hXc, hXj, hXw, hXs, hXn, hXb, hXe, hXr, hXp⟩ := id hX
  obtain ⟨hb0, hb1, hb2, hb3, hb4, hb5, hb6, hb7, hb8⟩ := id (hXb b hb).2
  obtain ⟨hp0, hp1, hp2, hp3, hp4, hp5, hp6, hp7, hp8⟩ := id hb5
  obtain ⟨hs0, hs1, hs2, hs3, hs4, hs5, hs6⟩ := id hXs
  refine v_aload_n h (i := 0) dX7_firstDay_0 (q := 1) rfl rfl rfl ?_
  refine v_iload_n h (i := 1) dX7_firstDay_1 (q := 2) rfl rfl rfl ?_
  refine v_callV1 h (c_X7_branchAt hfl hX hb) kX7_branchAt tw292 tw0 (by assumption) (by decide) rfl rfl rfl (by simp [Value.category]) (by decide) (Nat.zero_le _) (Nat.zero_le _) rfl dX7_firstDay_2 (q := 5) rfl ?_
  refine v_astore_n h (i := 3) dX7_firstDay_5 (q := 6) rfl rfl (Nat.le_of_ble_eq_true rfl) rfl ?_
  refine v_iload_n h (i := 2) dX7_firstDay_6 (q := 7) rfl rfl rfl ?_
  refine v_callS0 h (c_X7_checkTask hfl ht) kX7_checkTask rfl tw364 rfl rfl (by simp [Value.category]) (by decide) (Nat.zero_le _) (Nat.zero_le _) rfl dX7_firstDay_7 (q := 10) rfl ?_
  refine v_aload_n h (i := 0) dX7_firstDay_10 (q := 11) rfl rfl rfl ?_
  refine v_aload_n h (i := 3) dX7_firstDay_11 (q := 12) rfl rfl rfl ?_
  refine v_getr h fl_X7_65 (by assumption) rfl (by assumption) dX7_firstDay_12 (q := 15) rfl ?_
  refine v_aload_n h (i := 3) dX7_firstDay_15 (q := 16) rfl rfl rfl ?_
  refine v_callV0 h (c_X7_placeByRule hfl hX hb5 hb0 ha hwf) kX7_placeByRule tw605 tw4 (by assumption) (by decide) rfl rfl rfl (by simp [Value.category]) (by decide) (Nat.zero_le _) (Nat.zero_le _) rfl dX7_firstDay_16 (q := 19) rfl ?_
  refine v_aload_n h (i := 0) dX7_firstDay_19 (q := 20) rfl rfl rfl ?_
  refine v_getr h fl_X7_46 (by assumption) rfl (by assumption) dX7_firstDay_20 (q := 23) rfl ?_
  refine v_getr h fl_X7_235 (by assumption) rfl (by assumption) dX7_firstDay_23 (q := 26) rfl ?_
  refine v_iload_n h (i := 2) dX7_firstDay_26 (q := 27) rfl rfl rfl ?_
  refine v_iald h (by assumption) rfl (by first | assumption | omega) (by decide) dX7_firstDay_27 (q := 28) rfl ?_
  refine v_iret h hQ rfl rfl dX7_firstDay_28 (Nat.zero_le _) (Nat.zero_le _) ⟨rfl, rfl, rfl, rfl, rfl⟩
set_option maxHeartbeats 4000000 in
set_option maxRecDepth 100000 in
theorem x1_X7_firstDay {l : Launch} (hfl : l.stackTraces = false) {sz : Nat} {sk : pb_Sk} {rf : pb_Rf} {sg : pb_Sg} {X n : Nat} {B par : Nat → Nat} (hX : pb_sys sk rf X B par n) {x : Int32} (hx : ∀ b, b < n → ¬ x = nI b) {t : Int32} : pb_Met l mX7_firstDay 7 1 6 [.ref X, .int x, .int t] sz sk rf sg (pb_thr "java/lang/IndexOutOfBoundsException" sz sk rf sg) := by
  refine pb_start hfl (by decide +kernel) rfl (pb_c1 rfl) (Nat.le_of_ble_eq_true rfl) (fun F hF h hQ => ?_)
  subst hF
  show pv F 0 0 sz sk rf sg 0 [some (.ref X), some (.int x), some (.int t), none] []
  obtain ⟨hX0, hX1, hX2, hX3, hX4, hX5, hX6, hXc, hXj, hXw, hXs, hXn, hXb, hXe, hXr, hXp⟩ := id hX
  refine v_aload_n h (i := 0) dX7_firstDay_0 (q := 1) rfl rfl rfl ?_
  refine v_iload_n h (i := 1) dX7_firstDay_1 (q := 2) rfl rfl rfl ?_
  refine v_callVx h (x_X7_branchAt hfl hX hx) kX7_branchAt tw292 tw0 (by assumption) (by decide) rfl rfl rfl (by simp [Value.category]) (by decide) (by decide) (by decide) rfl dX7_firstDay_2 (q := 5) rfl ?_
  intro sz9 hsz9
  exact v_out h hQ rfl (by decide) (by decide) ⟨rfl, hsz9, rfl, rfl, rfl⟩
set_option maxHeartbeats 4000000 in
set_option maxRecDepth 100000 in
theorem x2_X7_firstDay {l : Launch} (hfl : l.stackTraces = false) {sz : Nat} {sk : pb_Sk} {rf : pb_Rf} {sg : pb_Sg} {X n : Nat} {B par : Nat → Nat} (hX : pb_sys sk rf X B par n) {b : Nat} (hb : b < n) {t : Int32} (hbad : ¬ (nI 0 ≤ t ∧ t ≤ nI 15)) : pb_Met l mX7_firstDay 8 1 6 [.ref X, .int (nI b), .int t] sz sk rf sg (pb_thr "java/lang/IllegalArgumentException" sz sk rf sg) := by
  refine pb_start hfl (by decide +kernel) rfl (pb_c1 rfl) (Nat.le_of_ble_eq_true rfl) (fun F hF h hQ => ?_)
  subst hF
  show pv F 0 0 sz sk rf sg 0 [some (.ref X), some (.int (nI b)), some (.int t), none] []
  obtain ⟨hX0, hX1, hX2, hX3, hX4, hX5, hX6, hXc, hXj, hXw, hXs, hXn, hXb, hXe, hXr, hXp⟩ := id hX
  refine v_aload_n h (i := 0) dX7_firstDay_0 (q := 1) rfl rfl rfl ?_
  refine v_iload_n h (i := 1) dX7_firstDay_1 (q := 2) rfl rfl rfl ?_
  refine v_callV1 h (c_X7_branchAt hfl hX hb) kX7_branchAt tw292 tw0 (by assumption) (by decide) rfl rfl rfl (by simp [Value.category]) (by decide) (Nat.zero_le _) (Nat.zero_le _) rfl dX7_firstDay_2 (q := 5) rfl ?_
  refine v_astore_n h (i := 3) dX7_firstDay_5 (q := 6) rfl rfl (Nat.le_of_ble_eq_true rfl) rfl ?_
  refine v_iload_n h (i := 2) dX7_firstDay_6 (q := 7) rfl rfl rfl ?_
  refine v_callSx h (x_X7_checkTask hfl (pb_nrng hbad)) kX7_checkTask rfl tw364 rfl rfl (by simp [Value.category]) (by decide) (by decide) (by decide) rfl dX7_firstDay_7 (q := 10) rfl ?_
  intro sz9 hsz9
  exact v_out h hQ rfl (by decide) (by decide) ⟨rfl, hsz9, rfl, rfl, rfl⟩
set_option maxHeartbeats 4000000 in
set_option maxRecDepth 100000 in
theorem c_X7_leftOut {l : Launch} (hfl : l.stackTraces = false) {sz : Nat} {sk : pb_Sk} {rf : pb_Rf} {sg : pb_Sg} {X n : Nat} {B par : Nat → Nat} (hX : pb_sys sk rf X B par n) {b : Nat} (hb : b < n) (ha : pb_apX X (B b + 1)) (hwf : pb_wf sg (B b + 1)) : pb_Met l mX7_leftOut 7 0 0 [.ref X, .int (nI b)] sz sk rf sg (pb_is (some (.int (pb_pres ((pb_pbr sg X (B b + 1) (B b)) (B b + 1 + 1)) &&& ((pb_pbr sg X (B b + 1) (B b)) (X + 37) 2 ^^^ (-1))))) sz sk rf ((pb_pbr sg X (B b + 1) (B b)))) := by
  refine pb_start hfl (by decide +kernel) rfl (pb_c1 rfl) (Nat.le_of_ble_eq_true rfl) (fun F hF h hQ => ?_)
  subst hF
  show pv F 0 0 sz sk rf sg 0 [some (.ref X), some (.int (nI b)), none] []
  obtain ⟨hX0, hX1, hX2, hX3, hX4, hX5, hX6, hXc, hXj, hXw, hXs, hXn, hXb, hXe, hXr, hXp⟩ := id hX
  obtain ⟨hb0, hb1, hb2, hb3, hb4, hb5, hb6, hb7, hb8⟩ := id (hXb b hb).2
  obtain ⟨hp0, hp1, hp2, hp3, hp4, hp5, hp6, hp7, hp8⟩ := id hb5
  obtain ⟨hs0, hs1, hs2, hs3, hs4, hs5, hs6⟩ := id hXs
  refine v_aload_n h (i := 0) dX7_leftOut_0 (q := 1) rfl rfl rfl ?_
  refine v_iload_n h (i := 1) dX7_leftOut_1 (q := 2) rfl rfl rfl ?_
  refine v_callV1 h (c_X7_branchAt hfl hX hb) kX7_branchAt tw292 tw0 (by assumption) (by decide) rfl rfl rfl (by simp [Value.category]) (by decide) (Nat.zero_le _) (Nat.zero_le _) rfl dX7_leftOut_2 (q := 5) rfl ?_
  refine v_astore_n h (i := 2) dX7_leftOut_5 (q := 6) rfl rfl (Nat.le_of_ble_eq_true rfl) rfl ?_
  refine v_aload_n h (i := 0) dX7_leftOut_6 (q := 7) rfl rfl rfl ?_
  refine v_aload_n h (i := 2) dX7_leftOut_7 (q := 8) rfl rfl rfl ?_
  refine v_getr h fl_X7_65 (by assumption) rfl (by assumption) dX7_leftOut_8 (q := 11) rfl ?_
  refine v_aload_n h (i := 2) dX7_leftOut_11 (q := 12) rfl rfl rfl ?_
  refine v_callV0 h (c_X7_placeByRule hfl hX hb5 hb0 ha hwf) kX7_placeByRule tw605 tw4 (by assumption) (by decide) rfl rfl rfl (by simp [Value.category]) (by decide) (Nat.zero_le _) (Nat.zero_le _) rfl dX7_leftOut_12 (q := 15) rfl ?_
  refine v_aload_n h (i := 2) dX7_leftOut_15 (q := 16) rfl rfl rfl ?_
  refine v_getr h fl_X7_65 (by assumption) rfl (by assumption) dX7_leftOut_16 (q := 19) rfl ?_
  refine v_callV1 h (c_X4_present hfl hb5) kX4_present tw470 tw472 (by assumption) (by decide) rfl rfl rfl (by simp [Value.category]) (by decide) (Nat.zero_le _) (Nat.zero_le _) rfl dX7_leftOut_19 (q := 22) rfl ?_
  refine v_aload_n h (i := 0) dX7_leftOut_22 (q := 23) rfl rfl rfl ?_
  refine v_getr h fl_X7_46 (by assumption) rfl (by assumption) dX7_leftOut_23 (q := 26) rfl ?_
  refine v_geti h fl_X7_238 (by assumption) rfl dX7_leftOut_26 (q := 29) rfl ?_
  refine v_iconst h (v := (-1)) dX7_leftOut_29 (q := 30) rfl (by decide +kernel) ?_
  refine v_ixor h dX7_leftOut_30 (q := 31) rfl ?_
  refine v_iand h dX7_leftOut_31 (q := 32) rfl ?_
  refine v_iret h hQ rfl rfl dX7_leftOut_32 (Nat.zero_le _) (Nat.zero_le _) ⟨rfl, rfl, rfl, rfl, rfl⟩
set_option maxHeartbeats 4000000 in
set_option maxRecDepth 100000 in
theorem x1_X7_leftOut {l : Launch} (hfl : l.stackTraces = false) {sz : Nat} {sk : pb_Sk} {rf : pb_Rf} {sg : pb_Sg} {X n : Nat} {B par : Nat → Nat} (hX : pb_sys sk rf X B par n) {x : Int32} (hx : ∀ b, b < n → ¬ x = nI b) : pb_Met l mX7_leftOut 7 1 6 [.ref X, .int x] sz sk rf sg (pb_thr "java/lang/IndexOutOfBoundsException" sz sk rf sg) := by
  refine pb_start hfl (by decide +kernel) rfl (pb_c1 rfl) (Nat.le_of_ble_eq_true rfl) (fun F hF h hQ => ?_)
  subst hF
  show pv F 0 0 sz sk rf sg 0 [some (.ref X), some (.int x), none] []
  obtain ⟨hX0, hX1, hX2, hX3, hX4, hX5, hX6, hXc, hXj, hXw, hXs, hXn, hXb, hXe, hXr, hXp⟩ := id hX
  refine v_aload_n h (i := 0) dX7_leftOut_0 (q := 1) rfl rfl rfl ?_
  refine v_iload_n h (i := 1) dX7_leftOut_1 (q := 2) rfl rfl rfl ?_
  refine v_callVx h (x_X7_branchAt hfl hX hx) kX7_branchAt tw292 tw0 (by assumption) (by decide) rfl rfl rfl (by simp [Value.category]) (by decide) (by decide) (by decide) rfl dX7_leftOut_2 (q := 5) rfl ?_
  intro sz9 hsz9
  exact v_out h hQ rfl (by decide) (by decide) ⟨rfl, hsz9, rfl, rfl, rfl⟩
set_option maxHeartbeats 4000000 in
set_option maxRecDepth 100000 in
theorem c_X7_lastDay {l : Launch} (hfl : l.stackTraces = false) {sz : Nat} {sk : pb_Sk} {rf : pb_Rf} {sg : pb_Sg} {X n : Nat} {B par : Nat → Nat} (hX : pb_sys sk rf X B par n) {b : Nat} (hb : b < n) (ha : pb_apX X (B b + 1)) (hwf : pb_wf sg (B b + 1)) : pb_Met l mX7_lastDay 7 0 0 [.ref X, .int (nI b)] sz sk rf sg (pb_is (some (.int (pb_eo (pb_pbr sg X (B b + 1) (B b)) (X + 37) (B b + 1) 16))) sz sk rf ((pb_pbr sg X (B b + 1) (B b)))) := by
  refine pb_start hfl (by decide +kernel) rfl (pb_c1 rfl) (Nat.le_of_ble_eq_true rfl) (fun F hF h hQ => ?_)
  subst hF
  show pv F 0 0 sz sk rf sg 0 [some (.ref X), some (.int (nI b)), none] []
  obtain ⟨hX0, hX1, hX2, hX3, hX4, hX5, hX6, hXc, hXj, hXw, hXs, hXn, hXb, hXe, hXr, hXp⟩ := id hX
  obtain ⟨hb0, hb1, hb2, hb3, hb4, hb5, hb6, hb7, hb8⟩ := id (hXb b hb).2
  obtain ⟨hp0, hp1, hp2, hp3, hp4, hp5, hp6, hp7, hp8⟩ := id hb5
  obtain ⟨hs0, hs1, hs2, hs3, hs4, hs5, hs6⟩ := id hXs
  refine v_aload_n h (i := 0) dX7_lastDay_0 (q := 1) rfl rfl rfl ?_
  refine v_iload_n h (i := 1) dX7_lastDay_1 (q := 2) rfl rfl rfl ?_
  refine v_callV1 h (c_X7_branchAt hfl hX hb) kX7_branchAt tw292 tw0 (by assumption) (by decide) rfl rfl rfl (by simp [Value.category]) (by decide) (Nat.zero_le _) (Nat.zero_le _) rfl dX7_lastDay_2 (q := 5) rfl ?_
  refine v_astore_n h (i := 2) dX7_lastDay_5 (q := 6) rfl rfl (Nat.le_of_ble_eq_true rfl) rfl ?_
  refine v_aload_n h (i := 0) dX7_lastDay_6 (q := 7) rfl rfl rfl ?_
  refine v_aload_n h (i := 2) dX7_lastDay_7 (q := 8) rfl rfl rfl ?_
  refine v_getr h fl_X7_65 (by assumption) rfl (by assumption) dX7_lastDay_8 (q := 11) rfl ?_
  refine v_aload_n h (i := 2) dX7_lastDay_11 (q := 12) rfl rfl rfl ?_
  refine v_callV0 h (c_X7_placeByRule hfl hX hb5 hb0 ha hwf) kX7_placeByRule tw605 tw4 (by assumption) (by decide) rfl rfl rfl (by simp [Value.category]) (by decide) (Nat.zero_le _) (Nat.zero_le _) rfl dX7_lastDay_12 (q := 15) rfl ?_
  refine v_aload_n h (i := 0) dX7_lastDay_15 (q := 16) rfl rfl rfl ?_
  refine v_getr h fl_X7_46 (by assumption) rfl (by assumption) dX7_lastDay_16 (q := 19) rfl ?_
  refine v_aload_n h (i := 2) dX7_lastDay_19 (q := 20) rfl rfl rfl ?_
  refine v_getr h fl_X7_65 (by assumption) rfl (by assumption) dX7_lastDay_20 (q := 23) rfl ?_
  refine v_callV1 h (c_X5_endOf hfl hXs hb5) kX5_endOf tw781 tw783 (by assumption) (by decide) rfl rfl rfl (by simp [Value.category]) (by decide) (Nat.zero_le _) (Nat.zero_le _) rfl dX7_lastDay_23 (q := 26) rfl ?_
  refine v_iret h hQ rfl rfl dX7_lastDay_26 (Nat.zero_le _) (Nat.zero_le _) ⟨rfl, rfl, rfl, rfl, rfl⟩
set_option maxHeartbeats 4000000 in
set_option maxRecDepth 100000 in
theorem x1_X7_lastDay {l : Launch} (hfl : l.stackTraces = false) {sz : Nat} {sk : pb_Sk} {rf : pb_Rf} {sg : pb_Sg} {X n : Nat} {B par : Nat → Nat} (hX : pb_sys sk rf X B par n) {x : Int32} (hx : ∀ b, b < n → ¬ x = nI b) : pb_Met l mX7_lastDay 7 1 6 [.ref X, .int x] sz sk rf sg (pb_thr "java/lang/IndexOutOfBoundsException" sz sk rf sg) := by
  refine pb_start hfl (by decide +kernel) rfl (pb_c1 rfl) (Nat.le_of_ble_eq_true rfl) (fun F hF h hQ => ?_)
  subst hF
  show pv F 0 0 sz sk rf sg 0 [some (.ref X), some (.int x), none] []
  obtain ⟨hX0, hX1, hX2, hX3, hX4, hX5, hX6, hXc, hXj, hXw, hXs, hXn, hXb, hXe, hXr, hXp⟩ := id hX
  refine v_aload_n h (i := 0) dX7_lastDay_0 (q := 1) rfl rfl rfl ?_
  refine v_iload_n h (i := 1) dX7_lastDay_1 (q := 2) rfl rfl rfl ?_
  refine v_callVx h (x_X7_branchAt hfl hX hx) kX7_branchAt tw292 tw0 (by assumption) (by decide) rfl rfl rfl (by simp [Value.category]) (by decide) (by decide) (by decide) rfl dX7_lastDay_2 (q := 5) rfl ?_
  intro sz9 hsz9
  exact v_out h hQ rfl (by decide) (by decide) ⟨rfl, hsz9, rfl, rfl, rfl⟩
set_option maxHeartbeats 4000000 in
set_option maxRecDepth 100000 in
theorem c_X7_taskOn {l : Launch} (hfl : l.stackTraces = false) {sz : Nat} {sk : pb_Sk} {rf : pb_Rf} {sg : pb_Sg} {X n : Nat} {B par : Nat → Nat} (hX : pb_sys sk rf X B par n) {b c dy : Nat} (hb : b < n) (hcl : c < 5) (hd : dy < 400) (ha : pb_apX X (B b + 1)) (hwf : pb_wf sg (B b + 1)) : pb_Met l mX7_taskOn 7 0 0 [.ref X, .int (nI b), .int (nI c), .int (nI dy)] sz sk rf sg (pb_is (some (.int (pb_mx (-1) ((pb_pbr sg X (B b + 1) (B b)) (X + 37 + 3 + c) dy)))) sz sk rf ((pb_pbr sg X (B b + 1) (B b)))) := by
  refine pb_start hfl (by decide +kernel) rfl (pb_c1 rfl) (Nat.le_of_ble_eq_true rfl) (fun F hF h hQ => ?_)
  subst hF
  show pv F 0 0 sz sk rf sg 0 [some (.ref X), some (.int (nI b)), some (.int (nI c)), some (.int (nI dy)), none] []
  obtain ⟨hX0, hX1, hX2, hX3, hX4, hX5, hX6, hXc, hXj, hXw, hXs, hXn, hXb, hXe, hXr, hXp⟩ := id hX
  obtain ⟨hb0, hb1, hb2, hb3, hb4, hb5, hb6, hb7, hb8⟩ := id (hXb b hb).2
  obtain ⟨hp0, hp1, hp2, hp3, hp4, hp5, hp6, hp7, hp8⟩ := id hb5
  obtain ⟨hs0, hs1, hs2, hs3, hs4, hs5, hs6⟩ := id hXs
  have hr := hs6 c hcl
  refine v_aload_n h (i := 0) dX7_taskOn_0 (q := 1) rfl rfl rfl ?_
  refine v_iload_n h (i := 1) dX7_taskOn_1 (q := 2) rfl rfl rfl ?_
  refine v_callV1 h (c_X7_branchAt hfl hX hb) kX7_branchAt tw292 tw0 (by assumption) (by decide) rfl rfl rfl (by simp [Value.category]) (by decide) (Nat.zero_le _) (Nat.zero_le _) rfl dX7_taskOn_2 (q := 5) rfl ?_
  refine v_astore h dX7_taskOn_5 (q := 7) rfl (Nat.le_of_ble_eq_true rfl) rfl ?_
  refine v_iload_n h (i := 2) dX7_taskOn_7 (q := 8) rfl rfl rfl ?_
  refine v_iconst h (v := nI 0) dX7_taskOn_8 (q := 9) rfl (by decide +kernel) ?_
  refine v_iconst h (v := nI 4) dX7_taskOn_9 (q := 10) rfl (by decide +kernel) ?_
  refine v_callS0 h (c_X7_checkRange hfl (nI_le (Nat.zero_le c) (by omega)) (nI_le (show c ≤ 4 by omega) (by decide))) kX7_checkRange rfl tw367 rfl rfl (by simp [Value.category]) (by decide) (Nat.zero_le _) (Nat.zero_le _) rfl dX7_taskOn_10 (q := 13) rfl ?_
  refine v_iload_n h (i := 3) dX7_taskOn_13 (q := 14) rfl rfl rfl ?_
  refine v_iconst h (v := nI 0) dX7_taskOn_14 (q := 15) rfl (by decide +kernel) ?_
  refine v_sipush h (v := nI 399) dX7_taskOn_15 (q := 18) rfl (by decide +kernel) ?_
  refine v_callS0 h (c_X7_checkRange hfl (nI_le (Nat.zero_le dy) (by omega)) (nI_le (show dy ≤ 399 by omega) (by decide))) kX7_checkRange rfl tw367 rfl rfl (by simp [Value.category]) (by decide) (Nat.zero_le _) (Nat.zero_le _) rfl dX7_taskOn_18 (q := 21) rfl ?_
  refine v_aload_n h (i := 0) dX7_taskOn_21 (q := 22) rfl rfl rfl ?_
  refine v_aload h dX7_taskOn_22 (q := 24) rfl rfl ?_
  refine v_getr h fl_X7_65 (by assumption) rfl (by assumption) dX7_taskOn_24 (q := 27) rfl ?_
  refine v_aload h dX7_taskOn_27 (q := 29) rfl rfl ?_
  refine v_callV0 h (c_X7_placeByRule hfl hX hb5 hb0 ha hwf) kX7_placeByRule tw605 tw4 (by assumption) (by decide) rfl rfl rfl (by simp [Value.category]) (by decide) (Nat.zero_le _) (Nat.zero_le _) rfl dX7_taskOn_29 (q := 32) rfl ?_
  refine v_iconst h (v := (-1)) dX7_taskOn_32 (q := 33) rfl (by decide +kernel) ?_
  refine v_aload_n h (i := 0) dX7_taskOn_33 (q := 34) rfl rfl rfl ?_
  refine v_getr h fl_X7_46 (by assumption) rfl (by assumption) dX7_taskOn_34 (q := 37) rfl ?_
  refine v_getr h fl_X7_258 (by assumption) rfl (by assumption) dX7_taskOn_37 (q := 40) rfl ?_
  refine v_iload_n h (i := 2) dX7_taskOn_40 (q := 41) rfl rfl rfl ?_
  refine v_aald5 h (by assumption) rfl hcl (by decide) (show va_rf (rf (X + 37 + 2) c) = Value.ref (X + 37 + 3 + c) from by rw [hs5 c hcl]; rfl) dX7_taskOn_41 (q := 42) rfl ?_
  refine v_iload_n h (i := 3) dX7_taskOn_42 (q := 43) rfl rfl rfl ?_
  refine v_iald h (by assumption) rfl (by first | assumption | omega) (by decide) dX7_taskOn_43 (q := 44) rfl ?_
  refine v_max h tw817 tw619 tw62 tw620 (by decide) (by simp [Value.category]) (Nat.zero_le _) (Nat.zero_le _) rfl dX7_taskOn_44 (q := 47) rfl ?_
  refine v_iret h hQ rfl rfl dX7_taskOn_47 (Nat.zero_le _) (Nat.zero_le _) ⟨rfl, rfl, rfl, rfl, rfl⟩
set_option maxHeartbeats 4000000 in
set_option maxRecDepth 100000 in
theorem x1_X7_taskOn {l : Launch} (hfl : l.stackTraces = false) {sz : Nat} {sk : pb_Sk} {rf : pb_Rf} {sg : pb_Sg} {X n : Nat} {B par : Nat → Nat} (hX : pb_sys sk rf X B par n) {x : Int32} (hx : ∀ b, b < n → ¬ x = nI b) {c dy : Int32} : pb_Met l mX7_taskOn 7 1 6 [.ref X, .int x, .int c, .int dy] sz sk rf sg (pb_thr "java/lang/IndexOutOfBoundsException" sz sk rf sg) := by
  refine pb_start hfl (by decide +kernel) rfl (pb_c1 rfl) (Nat.le_of_ble_eq_true rfl) (fun F hF h hQ => ?_)
  subst hF
  show pv F 0 0 sz sk rf sg 0 [some (.ref X), some (.int x), some (.int c), some (.int dy), none] []
  obtain ⟨hX0, hX1, hX2, hX3, hX4, hX5, hX6, hXc, hXj, hXw, hXs, hXn, hXb, hXe, hXr, hXp⟩ := id hX
  refine v_aload_n h (i := 0) dX7_taskOn_0 (q := 1) rfl rfl rfl ?_
  refine v_iload_n h (i := 1) dX7_taskOn_1 (q := 2) rfl rfl rfl ?_
  refine v_callVx h (x_X7_branchAt hfl hX hx) kX7_branchAt tw292 tw0 (by assumption) (by decide) rfl rfl rfl (by simp [Value.category]) (by decide) (by decide) (by decide) rfl dX7_taskOn_2 (q := 5) rfl ?_
  intro sz9 hsz9
  exact v_out h hQ rfl (by decide) (by decide) ⟨rfl, hsz9, rfl, rfl, rfl⟩
set_option maxHeartbeats 4000000 in
set_option maxRecDepth 100000 in
theorem x2_X7_taskOn {l : Launch} (hfl : l.stackTraces = false) {sz : Nat} {sk : pb_Sk} {rf : pb_Rf} {sg : pb_Sg} {X n : Nat} {B par : Nat → Nat} (hX : pb_sys sk rf X B par n) {b : Nat} (hb : b < n) {c dy : Int32} (hbad : ¬ ((nI 0 ≤ c ∧ c ≤ nI 4) ∧ (nI 0 ≤ dy ∧ dy ≤ nI 399))) : pb_Met l mX7_taskOn 8 1 6 [.ref X, .int (nI b), .int c, .int dy] sz sk rf sg (pb_thr "java/lang/IllegalArgumentException" sz sk rf sg) := by
  refine pb_start hfl (by decide +kernel) rfl (pb_c1 rfl) (Nat.le_of_ble_eq_true rfl) (fun F hF h hQ => ?_)
  subst hF
  show pv F 0 0 sz sk rf sg 0 [some (.ref X), some (.int (nI b)), some (.int c), some (.int dy), none] []
  obtain ⟨hX0, hX1, hX2, hX3, hX4, hX5, hX6, hXc, hXj, hXw, hXs, hXn, hXb, hXe, hXr, hXp⟩ := id hX
  refine v_aload_n h (i := 0) dX7_taskOn_0 (q := 1) rfl rfl rfl ?_
  refine v_iload_n h (i := 1) dX7_taskOn_1 (q := 2) rfl rfl rfl ?_
  refine v_callV1 h (c_X7_branchAt hfl hX hb) kX7_branchAt tw292 tw0 (by assumption) (by decide) rfl rfl rfl (by simp [Value.category]) (by decide) (Nat.zero_le _) (Nat.zero_le _) rfl dX7_taskOn_2 (q := 5) rfl ?_
  refine v_astore h dX7_taskOn_5 (q := 7) rfl (Nat.le_of_ble_eq_true rfl) rfl ?_
  refine v_iload_n h (i := 2) dX7_taskOn_7 (q := 8) rfl rfl rfl ?_
  refine v_iconst h (v := nI 0) dX7_taskOn_8 (q := 9) rfl (by decide +kernel) ?_
  refine v_iconst h (v := nI 4) dX7_taskOn_9 (q := 10) rfl (by decide +kernel) ?_
  by_cases hk1 : nI 0 ≤ c ∧ c ≤ nI 4
  · skip
    refine v_callS0 h (c_X7_checkRange hfl hk1.1 hk1.2) kX7_checkRange rfl tw367 rfl rfl (by simp [Value.category]) (by decide) (Nat.zero_le _) (Nat.zero_le _) rfl dX7_taskOn_10 (q := 13) rfl ?_
    refine v_iload_n h (i := 3) dX7_taskOn_13 (q := 14) rfl rfl rfl ?_
    refine v_iconst h (v := nI 0) dX7_taskOn_14 (q := 15) rfl (by decide +kernel) ?_
    refine v_sipush h (v := nI 399) dX7_taskOn_15 (q := 18) rfl (by decide +kernel) ?_
    by_cases hk2 : nI 0 ≤ dy ∧ dy ≤ nI 399
    · skip
      refine v_callS0 h (c_X7_checkRange hfl hk2.1 hk2.2) kX7_checkRange rfl tw367 rfl rfl (by simp [Value.category]) (by decide) (Nat.zero_le _) (Nat.zero_le _) rfl dX7_taskOn_18 (q := 21) rfl ?_
      exact absurd ⟨hk1, hk2⟩ hbad
    · skip
      refine v_callSx h (x_X7_checkRange hfl (pb_nrng hk2)) kX7_checkRange rfl tw367 rfl rfl (by simp [Value.category]) (by decide) (by decide) (by decide) rfl dX7_taskOn_18 (q := 21) rfl ?_
      intro sz9 hsz9
      exact v_out h hQ rfl (by decide) (by decide) ⟨rfl, hsz9, rfl, rfl, rfl⟩
  · skip
    refine v_callSx h (x_X7_checkRange hfl (pb_nrng hk1)) kX7_checkRange rfl tw367 rfl rfl (by simp [Value.category]) (by decide) (by decide) (by decide) rfl dX7_taskOn_10 (q := 13) rfl ?_
    intro sz9 hsz9
    exact v_out h hQ rfl (by decide) (by decide) ⟨rfl, hsz9, rfl, rfl, rfl⟩
set_option maxHeartbeats 4000000 in
set_option maxRecDepth 100000 in
theorem c_X7_lastDayByAll {l : Launch} (hfl : l.stackTraces = false) {sz : Nat} {sk : pb_Sk} {rf : pb_Rf} {sg : pb_Sg} {X n : Nat} {B par : Nat → Nat} (hX : pb_sys sk rf X B par n) {b : Nat} (hb : b < n) (hbc : pb_bc (pb_pres (sg (B b + 1 + 1))) ≤ nI 6) (ha : pb_apX X (B b + 1)) (hwf : pb_wf sg (B b + 1)) : pb_Met l mX7_lastDayByAll 13 0 0 [.ref X, .int (nI b)] sz sk rf sg (pb_is (some (.int (pb_ea (pb_stC sg (X + 37) (X + 20) (sg (B b) 0) 5) (X + 37) (B b + 1)))) sz sk rf ((pb_stC sg (X + 37) (X + 20) (sg (B b) 0) 5))) := by
  refine pb_start hfl (by decide +kernel) rfl (pb_c1 rfl) (Nat.le_of_ble_eq_true rfl) (fun F hF h hQ => ?_)
  subst hF
  show pv F 0 0 sz sk rf sg 0 [some (.ref X), some (.int (nI b)), none] []
  obtain ⟨hX0, hX1, hX2, hX3, hX4, hX5, hX6, hXc, hXj, hXw, hXs, hXn, hXb, hXe, hXr, hXp⟩ := id hX
  obtain ⟨hb0, hb1, hb2, hb3, hb4, hb5, hb6, hb7, hb8⟩ := id (hXb b hb).2
  obtain ⟨hp0, hp1, hp2, hp3, hp4, hp5, hp6, hp7, hp8⟩ := id hb5
  obtain ⟨hs0, hs1, hs2, hs3, hs4, hs5, hs6⟩ := id hXs
  refine v_aload_n h (i := 0) dX7_lastDayByAll_0 (q := 1) rfl rfl rfl ?_
  refine v_iload_n h (i := 1) dX7_lastDayByAll_1 (q := 2) rfl rfl rfl ?_
  refine v_callV1 h (c_X7_branchAt hfl hX hb) kX7_branchAt tw292 tw0 (by assumption) (by decide) rfl rfl rfl (by simp [Value.category]) (by decide) (Nat.zero_le _) (Nat.zero_le _) rfl dX7_lastDayByAll_2 (q := 5) rfl ?_
  refine v_astore_n h (i := 2) dX7_lastDayByAll_5 (q := 6) rfl rfl (Nat.le_of_ble_eq_true rfl) rfl ?_
  refine v_aload_n h (i := 2) dX7_lastDayByAll_6 (q := 7) rfl rfl rfl ?_
  refine v_getr h fl_X7_65 (by assumption) rfl (by assumption) dX7_lastDayByAll_7 (q := 10) rfl ?_
  refine v_callV1 h (c_X4_present hfl hb5) kX4_present tw470 tw472 (by assumption) (by decide) rfl rfl rfl (by simp [Value.category]) (by decide) (Nat.zero_le _) (Nat.zero_le _) rfl dX7_lastDayByAll_10 (q := 13) rfl ?_
  refine v_callS1 h (c_J6_bitCount_0f7a4 hfl) kJ6_bitCount_0f7a4 rfl tw792 rfl rfl (by simp [Value.category]) (by decide) (Nat.zero_le _) (Nat.zero_le _) rfl dX7_lastDayByAll_13 (q := 16) rfl ?_
  refine v_bipush h (v := nI 6) dX7_lastDayByAll_16 (q := 18) rfl (by decide +kernel) ?_
  refine v_icmp_le h dX7_lastDayByAll_18 (q := 21) rfl (tgt := 31) (by decide) (fun c1 => ?_) (fun c1 => absurd hbc c1)
  refine v_aload_n h (i := 0) dX7_lastDayByAll_31 (q := 32) rfl rfl rfl ?_
  refine v_getr h fl_X7_46 (by assumption) rfl (by assumption) dX7_lastDayByAll_32 (q := 35) rfl ?_
  refine v_aload_n h (i := 0) dX7_lastDayByAll_35 (q := 36) rfl rfl rfl ?_
  refine v_getr h fl_X7_25 (by assumption) rfl (by assumption) dX7_lastDayByAll_36 (q := 39) rfl ?_
  refine v_aload_n h (i := 2) dX7_lastDayByAll_39 (q := 40) rfl rfl rfl ?_
  refine v_geti h fl_X7_161 (by assumption) rfl dX7_lastDayByAll_40 (q := 43) rfl ?_
  refine v_callV0 h (c_X5_start hfl hXs hXc) kX5_start tw621 tw623 (by assumption) (by decide) rfl rfl rfl (by simp [Value.category]) (by decide) (Nat.zero_le _) (Nat.zero_le _) rfl dX7_lastDayByAll_43 (q := 46) rfl ?_
  refine v_aload_n h (i := 0) dX7_lastDayByAll_46 (q := 47) rfl rfl rfl ?_
  refine v_getr h fl_X7_46 (by assumption) rfl (by assumption) dX7_lastDayByAll_47 (q := 50) rfl ?_
  refine v_aload_n h (i := 2) dX7_lastDayByAll_50 (q := 51) rfl rfl rfl ?_
  refine v_getr h fl_X7_65 (by assumption) rfl (by assumption) dX7_lastDayByAll_51 (q := 54) rfl ?_
  refine v_callV1 h (c_X5_endByAll hfl hXs hb5 ha.ap (pb_si_start ha.ap hwf) pb_sj_start) kX5_endByAll tw799 tw801 (by assumption) (by decide) rfl rfl rfl (by simp [Value.category]) (by decide) (Nat.zero_le _) (Nat.zero_le _) rfl dX7_lastDayByAll_54 (q := 57) rfl ?_
  refine v_iret h hQ rfl rfl dX7_lastDayByAll_57 (Nat.zero_le _) (Nat.zero_le _) ⟨rfl, rfl, rfl, rfl, rfl⟩
set_option maxHeartbeats 4000000 in
set_option maxRecDepth 100000 in
theorem x2_X7_lastDayByAll {l : Launch} (hfl : l.stackTraces = false) {sz : Nat} {sk : pb_Sk} {rf : pb_Rf} {sg : pb_Sg} {X n : Nat} {B par : Nat → Nat} (hX : pb_sys sk rf X B par n) {b : Nat} (hb : b < n) (hbc : ¬ pb_bc (pb_pres (sg (B b + 1 + 1))) ≤ nI 6) : pb_Met l mX7_lastDayByAll 8 1 6 [.ref X, .int (nI b)] sz sk rf sg (pb_thr "java/lang/IllegalStateException" sz sk rf sg) := by
  refine pb_start hfl (by decide +kernel) rfl (pb_c1 rfl) (Nat.le_of_ble_eq_true rfl) (fun F hF h hQ => ?_)
  subst hF
  show pv F 0 0 sz sk rf sg 0 [some (.ref X), some (.int (nI b)), none] []
  obtain ⟨hX0, hX1, hX2, hX3, hX4, hX5, hX6, hXc, hXj, hXw, hXs, hXn, hXb, hXe, hXr, hXp⟩ := id hX
  obtain ⟨hb0, hb1, hb2, hb3, hb4, hb5, hb6, hb7, hb8⟩ := id (hXb b hb).2
  obtain ⟨hp0, hp1, hp2, hp3, hp4, hp5, hp6, hp7, hp8⟩ := id hb5
  obtain ⟨hs0, hs1, hs2, hs3, hs4, hs5, hs6⟩ := id hXs
  refine v_aload_n h (i := 0) dX7_lastDayByAll_0 (q := 1) rfl rfl rfl ?_
  refine v_iload_n h (i := 1) dX7_lastDayByAll_1 (q := 2) rfl rfl rfl ?_
  refine v_callV1 h (c_X7_branchAt hfl hX hb) kX7_branchAt tw292 tw0 (by assumption) (by decide) rfl rfl rfl (by simp [Value.category]) (by decide) (Nat.zero_le _) (Nat.zero_le _) rfl dX7_lastDayByAll_2 (q := 5) rfl ?_
  refine v_astore_n h (i := 2) dX7_lastDayByAll_5 (q := 6) rfl rfl (Nat.le_of_ble_eq_true rfl) rfl ?_
  refine v_aload_n h (i := 2) dX7_lastDayByAll_6 (q := 7) rfl rfl rfl ?_
  refine v_getr h fl_X7_65 (by assumption) rfl (by assumption) dX7_lastDayByAll_7 (q := 10) rfl ?_
  refine v_callV1 h (c_X4_present hfl hb5) kX4_present tw470 tw472 (by assumption) (by decide) rfl rfl rfl (by simp [Value.category]) (by decide) (Nat.zero_le _) (Nat.zero_le _) rfl dX7_lastDayByAll_10 (q := 13) rfl ?_
  refine v_callS1 h (c_J6_bitCount_0f7a4 hfl) kJ6_bitCount_0f7a4 rfl tw792 rfl rfl (by simp [Value.category]) (by decide) (Nat.zero_le _) (Nat.zero_le _) rfl dX7_lastDayByAll_13 (q := 16) rfl ?_
  refine v_bipush h (v := nI 6) dX7_lastDayByAll_16 (q := 18) rfl (by decide +kernel) ?_
  refine v_icmp_le h dX7_lastDayByAll_18 (q := 21) rfl (tgt := 31) (by decide) (fun c1 => absurd c1 hbc) (fun c1 => ?_)
  refine v_throw h hQ rfl (th_X7_93) (is := 249) (text := "there are too many tasks for all orders") (by decide +kernel) rfl dX7_lastDayByAll_21 dX7_lastDayByAll_24 dX7_lastDayByAll_25 dX7_lastDayByAll_27 dX7_lastDayByAll_30 (by decide) (by decide) (by decide) (by decide) (fun sz9 hsz9 => ⟨rfl, hsz9, rfl, rfl, rfl⟩)
set_option maxHeartbeats 4000000 in
set_option maxRecDepth 100000 in
theorem x1_X7_lastDayByAll {l : Launch} (hfl : l.stackTraces = false) {sz : Nat} {sk : pb_Sk} {rf : pb_Rf} {sg : pb_Sg} {X n : Nat} {B par : Nat → Nat} (hX : pb_sys sk rf X B par n) {x : Int32} (hx : ∀ b, b < n → ¬ x = nI b) : pb_Met l mX7_lastDayByAll 7 1 6 [.ref X, .int x] sz sk rf sg (pb_thr "java/lang/IndexOutOfBoundsException" sz sk rf sg) := by
  refine pb_start hfl (by decide +kernel) rfl (pb_c1 rfl) (Nat.le_of_ble_eq_true rfl) (fun F hF h hQ => ?_)
  subst hF
  show pv F 0 0 sz sk rf sg 0 [some (.ref X), some (.int x), none] []
  obtain ⟨hX0, hX1, hX2, hX3, hX4, hX5, hX6, hXc, hXj, hXw, hXs, hXn, hXb, hXe, hXr, hXp⟩ := id hX
  refine v_aload_n h (i := 0) dX7_lastDayByAll_0 (q := 1) rfl rfl rfl ?_
  refine v_iload_n h (i := 1) dX7_lastDayByAll_1 (q := 2) rfl rfl rfl ?_
  refine v_callVx h (x_X7_branchAt hfl hX hx) kX7_branchAt tw292 tw0 (by assumption) (by decide) rfl rfl rfl (by simp [Value.category]) (by decide) (by decide) (by decide) rfl dX7_lastDayByAll_2 (q := 5) rfl ?_
  intro sz9 hsz9
  exact v_out h hQ rfl (by decide) (by decide) ⟨rfl, hsz9, rfl, rfl, rfl⟩
