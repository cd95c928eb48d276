set_option maxHeartbeats 4000000 in
set_option maxRecDepth 100000 in
theorem lw_case_12 {F : pb_F} {d k n cells slots sz b N j X : Nat} {sk : pb_Sk} {rf : pb_Rf} {sg : pb_Sg} {xs : Nat → Int32} {v5 v6 : Option Value} (h : pb_Fx F mL_law d k n) (hfl : (pb_l F).stackTraces = false) (hX : va_X b N xs (pb_s F) (pb_s F).heap) (hbl : b < (pb_s F).heap.size) (hbA : ¬ pb_own (pb_g F) b) (hN : N ≤ 3072) (hj : 6 * j + 6 ≤ N) (hd : 30 ≤ d) (hc : cells + 18 ≤ k) (hs : slots + 400 ≤ n) (hI : pq_INV X sz sk rf sg) (kk : ∀ sz' sk' rf' sg' v5' v6', pq_INV X sz' sk' rf' sg' → pv F (cells + 18) (slots + 400) sz' sk' rf' sg' 2247 [some (.ref b), some (.ref X), some (.ref (X + 45)), some (.ref (X + 70)), some (.int (nI (6 * j))), v5', v6'] []) : pv F cells slots sz sk rf sg 971 [some (.ref b), some (.ref X), some (.ref (X + 45)), some (.ref (X + 70)), some (.int (nI (6 * j))), v5, v6] [] := by
  obtain ⟨k0, kc, nc, post, hk3, hkc, hnc, hM, hP⟩ := pq_st_setBudget hfl hI (xs (6 * j + 1)) (xs (6 * j + 2))
  refine v_aload_n h (i := 1) dL_law_971 (q := 972) rfl rfl rfl ?_
  refine v_aload_n h (i := 0) dL_law_972 (q := 973) rfl rfl rfl ?_
  refine v_iload h dL_law_973 (q := 975) rfl rfl ?_
  refine v_iconst h (v := nI 1) dL_law_975 (q := 976) rfl (by decide +kernel) ?_
  refine v_iadd h dL_law_976 (q := 977) rfl ?_
  refine v_sld h hX hbl hbA (t := 6 * j + 1) (nI_add _ _) (by omega) (by omega) dL_law_977 (q := 978) rfl ?_
  refine v_aload_n h (i := 0) dL_law_978 (q := 979) rfl rfl rfl ?_
  refine v_iload h dL_law_979 (q := 981) rfl rfl ?_
  refine v_iconst h (v := nI 2) dL_law_981 (q := 982) rfl (by decide +kernel) ?_
  refine v_iadd h dL_law_982 (q := 983) rfl ?_
  refine v_sld h hX hbl hbA (t := 6 * j + 2) (nI_add _ _) (by omega) (by omega) dL_law_983 (q := 984) rfl ?_
  refine v_aload_n h (i := 3) dL_law_984 (q := 985) rfl rfl rfl ?_
  refine v_callSH h hM kL_setBudget (fun h9 => nomatch h9) tw534 rfl rfl (by simp [Value.category]) (by omega) (by omega) (by omega) rfl dL_law_985 (q := 988) rfl ?_ (fun E sz9 sk9 rf9 sg9 hx9 => nomatch (hP _ _ _ _ _ hx9).1)
  intro v1 sz1 sk1 rf1 sg1 hp1
  obtain ⟨e1, d8, w8, sg2, hd8, hPw, hM8, ht, ho, hI2⟩ := hP _ _ _ _ _ hp1
  cases e1
  obtain ⟨nn, B, par, hsk, -⟩ := id hI2
  have hm1 := hsk.2.2.1
  have hO1 := hsk.2.2.2.1
  refine v_istore h dL_law_988 (q := 990) rfl (Nat.le_of_ble_eq_true rfl) rfl ?_
  refine v_aload_n h (i := 2) dL_law_990 (q := 991) rfl rfl rfl ?_
  refine v_aload_n h (i := 0) dL_law_991 (q := 992) rfl rfl rfl ?_
  refine v_iload h dL_law_992 (q := 994) rfl rfl ?_
  refine v_iconst h (v := nI 1) dL_law_994 (q := 995) rfl (by decide +kernel) ?_
  refine v_iadd h dL_law_995 (q := 996) rfl ?_
  refine v_sld h hX hbl hbA (t := 6 * j + 1) (nI_add _ _) (by omega) (by omega) dL_law_996 (q := 997) rfl ?_
  refine v_aload_n h (i := 0) dL_law_997 (q := 998) rfl rfl rfl ?_
  refine v_iload h dL_law_998 (q := 1000) rfl rfl ?_
  refine v_iconst h (v := nI 2) dL_law_1000 (q := 1001) rfl (by decide +kernel) ?_
  refine v_iadd h dL_law_1001 (q := 1002) rfl ?_
  refine v_sld h hX hbl hbA (t := 6 * j + 2) (nI_add _ _) (by omega) (by omega) dL_law_1002 (q := 1003) rfl ?_
  refine v_callV1 h hM8 kX8_setBudget tw1028 tw1030 hm1.1 (by decide) rfl rfl rfl (by simp [Value.category]) (by omega) (by omega) (by omega) rfl dL_law_1003 (q := 1006) rfl ?_
  refine v_istore h dL_law_1006 (q := 1008) rfl (Nat.le_of_ble_eq_true rfl) rfl ?_
  refine v_aload_n h (i := 2) dL_law_1008 (q := 1009) rfl rfl rfl ?_
  refine v_callV1 h (c_X8_thrown hfl hm1) kX8_thrown tw911 tw913 hm1.1 (by decide) rfl rfl rfl (by simp [Value.category]) (by omega) (by omega) (by omega) rfl dL_law_1009 (q := 1012) rfl ?_
  refine v_iload h dL_law_1012 (q := 1014) rfl rfl ?_
  refine v_icmp_eq h dL_law_1014 (q := 1017) rfl (tgt := 1019) (by decide) (fun _ => ?_) (fun c9 => absurd ht c9)
  refine v_iload h dL_law_1019 (q := 1021) rfl rfl ?_
  refine v_if_ne h dL_law_1021 (q := 1024) rfl (tgt := 1036) (by decide) (fun _ => ?_) (fun c9 => ?_)
  · refine v_goto h dL_law_1036 (tgt := 2247) (by decide) ?_
    refine v_widen (c2 := cells + 18) (s2 := slots + 400) (by omega) (by omega) ?_
    exact kk _ _ _ _ _ _ hI2
  · have hk0 : k0 = 0 := (nI_eq (by omega) (by omega)).mp c9
    refine v_aload_n h (i := 3) dL_law_1024 (q := 1025) rfl rfl rfl ?_
    refine v_iconst h (v := nI 0) dL_law_1025 (q := 1026) rfl (by decide +kernel) ?_
    refine v_lald h hO1 rfl (by decide) (by decide) dL_law_1026 (q := 1027) rfl ?_
    rw [ho hk0]
    refine v_iload h dL_law_1027 (q := 1029) rfl rfl ?_
    refine v_i2l h dL_law_1029 (q := 1030) rfl ?_
    refine v_lcmp h dL_law_1030 (q := 1031) rfl ?_
    refine v_if_eq h dL_law_1031 (q := 1034) rfl (tgt := 1036) (by decide) (fun _ => ?_) (fun c8 => absurd ((lg_cmp_eq _ _).mpr rfl) c8)
    refine v_goto h dL_law_1036 (tgt := 2247) (by decide) ?_
    refine v_widen (c2 := cells + 18) (s2 := slots + 400) (by omega) (by omega) ?_
    exact kk _ _ _ _ _ _ hI2
set_option maxHeartbeats 4000000 in
set_option maxRecDepth 100000 in
theorem lw_case_13 {F : pb_F} {d k n cells slots sz b N j X : Nat} {sk : pb_Sk} {rf : pb_Rf} {sg : pb_Sg} {xs : Nat → Int32} {v5 v6 : Option Value} (h : pb_Fx F mL_law d k n) (hfl : (pb_l F).stackTraces = false) (hX : va_X b N xs (pb_s F) (pb_s F).heap) (hbl : b < (pb_s F).heap.size) (hbA : ¬ pb_own (pb_g F) b) (hN : N ≤ 3072) (hj : 6 * j + 6 ≤ N) (hd : 30 ≤ d) (hc : cells + 18 ≤ k) (hs : slots + 400 ≤ n) (hI : pq_INV X sz sk rf sg) (kk : ∀ sz' sk' rf' sg' v5' v6', pq_INV X sz' sk' rf' sg' → pv F (cells + 18) (slots + 400) sz' sk' rf' sg' 2247 [some (.ref b), some (.ref X), some (.ref (X + 45)), some (.ref (X + 70)), some (.int (nI (6 * j))), v5', v6'] []) : pv F cells slots sz sk rf sg 1039 [some (.ref b), some (.ref X), some (.ref (X + 45)), some (.ref (X + 70)), some (.int (nI (6 * j))), v5, v6] [] := by
  obtain ⟨k0, kc, nc, post, hk3, hkc, hnc, hM, hP⟩ := pq_st_resolve hfl hI (xs (6 * j + 1)) (xs (6 * j + 2)) (xs (6 * j + 3))
  refine v_aload_n h (i := 1) dL_law_1039 (q := 1040) rfl rfl rfl ?_
  refine v_aload_n h (i := 0) dL_law_1040 (q := 1041) rfl rfl rfl ?_
  refine v_iload h dL_law_1041 (q := 1043) rfl rfl ?_
  refine v_iconst h (v := nI 1) dL_law_1043 (q := 1044) rfl (by decide +kernel) ?_
  refine v_iadd h dL_law_1044 (q := 1045) rfl ?_
  refine v_sld h hX hbl hbA (t := 6 * j + 1) (nI_add _ _) (by omega) (by omega) dL_law_1045 (q := 1046) rfl ?_
  refine v_aload_n h (i := 0) dL_law_1046 (q := 1047) rfl rfl rfl ?_
  refine v_iload h dL_law_1047 (q := 1049) rfl rfl ?_
  refine v_iconst h (v := nI 2) dL_law_1049 (q := 1050) rfl (by decide +kernel) ?_
  refine v_iadd h dL_law_1050 (q := 1051) rfl ?_
  refine v_sld h hX hbl hbA (t := 6 * j + 2) (nI_add _ _) (by omega) (by omega) dL_law_1051 (q := 1052) rfl ?_
  refine v_aload_n h (i := 0) dL_law_1052 (q := 1053) rfl rfl rfl ?_
  refine v_iload h dL_law_1053 (q := 1055) rfl rfl ?_
  refine v_iconst h (v := nI 3) dL_law_1055 (q := 1056) rfl (by decide +kernel) ?_
  refine v_iadd h dL_law_1056 (q := 1057) rfl ?_
  refine v_sld h hX hbl hbA (t := 6 * j + 3) (nI_add _ _) (by omega) (by omega) dL_law_1057 (q := 1058) rfl ?_
  refine v_aload_n h (i := 3) dL_law_1058 (q := 1059) rfl rfl rfl ?_
  refine v_callSH h hM kL_resolve (fun h9 => nomatch h9) tw542 rfl rfl (by simp [Value.category]) (by omega) (by omega) (by omega) rfl dL_law_1059 (q := 1062) rfl ?_ (fun E sz9 sk9 rf9 sg9 hx9 => nomatch (hP _ _ _ _ _ hx9).1)
  intro v1 sz1 sk1 rf1 sg1 hp1
  obtain ⟨e1, d8, w8, sg2, hd8, hPw, hM8, ht, ho, hI2⟩ := hP _ _ _ _ _ hp1
  cases e1
  obtain ⟨nn, B, par, hsk, -⟩ := id hI2
  have hm1 := hsk.2.2.1
  have hO1 := hsk.2.2.2.1
  refine v_istore h dL_law_1062 (q := 1064) rfl (Nat.le_of_ble_eq_true rfl) rfl ?_
  refine v_aload_n h (i := 2) dL_law_1064 (q := 1065) rfl rfl rfl ?_
  refine v_aload_n h (i := 0) dL_law_1065 (q := 1066) rfl rfl rfl ?_
  refine v_iload h dL_law_1066 (q := 1068) rfl rfl ?_
  refine v_iconst h (v := nI 1) dL_law_1068 (q := 1069) rfl (by decide +kernel) ?_
  refine v_iadd h dL_law_1069 (q := 1070) rfl ?_
  refine v_sld h hX hbl hbA (t := 6 * j + 1) (nI_add _ _) (by omega) (by omega) dL_law_1070 (q := 1071) rfl ?_
  refine v_aload_n h (i := 0) dL_law_1071 (q := 1072) rfl rfl rfl ?_
  refine v_iload h dL_law_1072 (q := 1074) rfl rfl ?_
  refine v_iconst h (v := nI 2) dL_law_1074 (q := 1075) rfl (by decide +kernel) ?_
  refine v_iadd h dL_law_1075 (q := 1076) rfl ?_
  refine v_sld h hX hbl hbA (t := 6 * j + 2) (nI_add _ _) (by omega) (by omega) dL_law_1076 (q := 1077) rfl ?_
  refine v_aload_n h (i := 0) dL_law_1077 (q := 1078) rfl rfl rfl ?_
  refine v_iload h dL_law_1078 (q := 1080) rfl rfl ?_
  refine v_iconst h (v := nI 3) dL_law_1080 (q := 1081) rfl (by decide +kernel) ?_
  refine v_iadd h dL_law_1081 (q := 1082) rfl ?_
  refine v_sld h hX hbl hbA (t := 6 * j + 3) (nI_add _ _) (by omega) (by omega) dL_law_1082 (q := 1083) rfl ?_
  refine v_callV1 h hM8 kX8_resolve tw1032 tw1034 hm1.1 (by decide) rfl rfl rfl (by simp [Value.category]) (by omega) (by omega) (by omega) rfl dL_law_1083 (q := 1086) rfl ?_
  refine v_istore h dL_law_1086 (q := 1088) rfl (Nat.le_of_ble_eq_true rfl) rfl ?_
  refine v_aload_n h (i := 2) dL_law_1088 (q := 1089) rfl rfl rfl ?_
  refine v_callV1 h (c_X8_thrown hfl hm1) kX8_thrown tw911 tw913 hm1.1 (by decide) rfl rfl rfl (by simp [Value.category]) (by omega) (by omega) (by omega) rfl dL_law_1089 (q := 1092) rfl ?_
  refine v_iload h dL_law_1092 (q := 1094) rfl rfl ?_
  refine v_icmp_eq h dL_law_1094 (q := 1097) rfl (tgt := 1099) (by decide) (fun _ => ?_) (fun c9 => absurd ht c9)
  refine v_iload h dL_law_1099 (q := 1101) rfl rfl ?_
  refine v_if_ne h dL_law_1101 (q := 1104) rfl (tgt := 1116) (by decide) (fun _ => ?_) (fun c9 => ?_)
  · refine v_goto h dL_law_1116 (tgt := 2247) (by decide) ?_
    refine v_widen (c2 := cells + 18) (s2 := slots + 400) (by omega) (by omega) ?_
    exact kk _ _ _ _ _ _ hI2
  · have hk0 : k0 = 0 := (nI_eq (by omega) (by omega)).mp c9
    refine v_aload_n h (i := 3) dL_law_1104 (q := 1105) rfl rfl rfl ?_
    refine v_iconst h (v := nI 0) dL_law_1105 (q := 1106) rfl (by decide +kernel) ?_
    refine v_lald h hO1 rfl (by decide) (by decide) dL_law_1106 (q := 1107) rfl ?_
    rw [ho hk0]
    refine v_iload h dL_law_1107 (q := 1109) rfl rfl ?_
    refine v_i2l h dL_law_1109 (q := 1110) rfl ?_
    refine v_lcmp h dL_law_1110 (q := 1111) rfl ?_
    refine v_if_eq h dL_law_1111 (q := 1114) rfl (tgt := 1116) (by decide) (fun _ => ?_) (fun c8 => absurd ((lg_cmp_eq _ _).mpr rfl) c8)
    refine v_goto h dL_law_1116 (tgt := 2247) (by decide) ?_
    refine v_widen (c2 := cells + 18) (s2 := slots + 400) (by omega) (by omega) ?_
    exact kk _ _ _ _ _ _ hI2
set_option maxHeartbeats 4000000 in
set_option maxRecDepth 100000 in
theorem lw_case_14 {F : pb_F} {d k n cells slots sz b N j X : Nat} {sk : pb_Sk} {rf : pb_Rf} {sg : pb_Sg} {xs : Nat → Int32} {v5 v6 : Option Value} (h : pb_Fx F mL_law d k n) (hfl : (pb_l F).stackTraces = false) (hX : va_X b N xs (pb_s F) (pb_s F).heap) (hbl : b < (pb_s F).heap.size) (hbA : ¬ pb_own (pb_g F) b) (hN : N ≤ 3072) (hj : 6 * j + 6 ≤ N) (hd : 30 ≤ d) (hc : cells + 18 ≤ k) (hs : slots + 400 ≤ n) (hI : pq_INV X sz sk rf sg) (kk : ∀ sz' sk' rf' sg' v5' v6', pq_INV X sz' sk' rf' sg' → pv F (cells + 18) (slots + 400) sz' sk' rf' sg' 2247 [some (.ref b), some (.ref X), some (.ref (X + 45)), some (.ref (X + 70)), some (.int (nI (6 * j))), v5', v6'] []) : pv F cells slots sz sk rf sg 1119 [some (.ref b), some (.ref X), some (.ref (X + 45)), some (.ref (X + 70)), some (.int (nI (6 * j))), v5, v6] [] := by
  obtain ⟨k0, kc, nc, post, hk3, hkc, hnc, hM, hP⟩ := pq_st_clashes hfl hI (xs (6 * j + 1))
  refine v_aload_n h (i := 1) dL_law_1119 (q := 1120) rfl rfl rfl ?_
  refine v_aload_n h (i := 0) dL_law_1120 (q := 1121) rfl rfl rfl ?_
  refine v_iload h dL_law_1121 (q := 1123) rfl rfl ?_
  refine v_iconst h (v := nI 1) dL_law_1123 (q := 1124) rfl (by decide +kernel) ?_
  refine v_iadd h dL_law_1124 (q := 1125) rfl ?_
  refine v_sld h hX hbl hbA (t := 6 * j + 1) (nI_add _ _) (by omega) (by omega) dL_law_1125 (q := 1126) rfl ?_
  refine v_aload_n h (i := 3) dL_law_1126 (q := 1127) rfl rfl rfl ?_
  refine v_callSH h hM kL_clashes (fun h9 => nomatch h9) tw550 rfl rfl (by simp [Value.category]) (by omega) (by omega) (by omega) rfl dL_law_1127 (q := 1130) rfl ?_ (fun E sz9 sk9 rf9 sg9 hx9 => nomatch (hP _ _ _ _ _ hx9).1)
  intro v1 sz1 sk1 rf1 sg1 hp1
  obtain ⟨e1, d8, w8, sg2, hd8, hPw, hM8, ht, ho, hI2⟩ := hP _ _ _ _ _ hp1
  cases e1
  obtain ⟨nn, B, par, hsk, -⟩ := id hI2
  have hm1 := hsk.2.2.1
  have hO1 := hsk.2.2.2.1
  refine v_istore h dL_law_1130 (q := 1132) rfl (Nat.le_of_ble_eq_true rfl) rfl ?_
  refine v_aload_n h (i := 2) dL_law_1132 (q := 1133) rfl rfl rfl ?_
  refine v_aload_n h (i := 0) dL_law_1133 (q := 1134) rfl rfl rfl ?_
  refine v_iload h dL_law_1134 (q := 1136) rfl rfl ?_
  refine v_iconst h (v := nI 1) dL_law_1136 (q := 1137) rfl (by decide +kernel) ?_
  refine v_iadd h dL_law_1137 (q := 1138) rfl ?_
  refine v_sld h hX hbl hbA (t := 6 * j + 1) (nI_add _ _) (by omega) (by omega) dL_law_1138 (q := 1139) rfl ?_
  refine v_callV1 h hM8 kX8_clashes tw1036 tw1038 hm1.1 (by decide) rfl rfl rfl (by simp [Value.category]) (by omega) (by omega) (by omega) rfl dL_law_1139 (q := 1142) rfl ?_
  refine v_istore h dL_law_1142 (q := 1144) rfl (Nat.le_of_ble_eq_true rfl) rfl ?_
  refine v_aload_n h (i := 2) dL_law_1144 (q := 1145) rfl rfl rfl ?_
  refine v_callV1 h (c_X8_thrown hfl hm1) kX8_thrown tw911 tw913 hm1.1 (by decide) rfl rfl rfl (by simp [Value.category]) (by omega) (by omega) (by omega) rfl dL_law_1145 (q := 1148) rfl ?_
  refine v_iload h dL_law_1148 (q := 1150) rfl rfl ?_
  refine v_icmp_eq h dL_law_1150 (q := 1153) rfl (tgt := 1155) (by decide) (fun _ => ?_) (fun c9 => absurd ht c9)
  refine v_iload h dL_law_1155 (q := 1157) rfl rfl ?_
  refine v_if_ne h dL_law_1157 (q := 1160) rfl (tgt := 1172) (by decide) (fun _ => ?_) (fun c9 => ?_)
  · refine v_goto h dL_law_1172 (tgt := 2247) (by decide) ?_
    refine v_widen (c2 := cells + 18) (s2 := slots + 400) (by omega) (by omega) ?_
    exact kk _ _ _ _ _ _ hI2
  · have hk0 : k0 = 0 := (nI_eq (by omega) (by omega)).mp c9
    refine v_aload_n h (i := 3) dL_law_1160 (q := 1161) rfl rfl rfl ?_
    refine v_iconst h (v := nI 0) dL_law_1161 (q := 1162) rfl (by decide +kernel) ?_
    refine v_lald h hO1 rfl (by decide) (by decide) dL_law_1162 (q := 1163) rfl ?_
    rw [ho hk0]
    refine v_iload h dL_law_1163 (q := 1165) rfl rfl ?_
    refine v_i2l h dL_law_1165 (q := 1166) rfl ?_
    refine v_lcmp h dL_law_1166 (q := 1167) rfl ?_
    refine v_if_eq h dL_law_1167 (q := 1170) rfl (tgt := 1172) (by decide) (fun _ => ?_) (fun c8 => absurd ((lg_cmp_eq _ _).mpr rfl) c8)
    refine v_goto h dL_law_1172 (tgt := 2247) (by decide) ?_
    refine v_widen (c2 := cells + 18) (s2 := slots + 400) (by omega) (by omega) ?_
    exact kk _ _ _ _ _ _ hI2
set_option maxHeartbeats 4000000 in
set_option maxRecDepth 100000 in
theorem lw_case_15 {F : pb_F} {d k n cells slots sz b N j X : Nat} {sk : pb_Sk} {rf : pb_Rf} {sg : pb_Sg} {xs : Nat → Int32} {v5 v6 : Option Value} (h : pb_Fx F mL_law d k n) (hfl : (pb_l F).stackTraces = false) (hX : va_X b N xs (pb_s F) (pb_s F).heap) (hbl : b < (pb_s F).heap.size) (hbA : ¬ pb_own (pb_g F) b) (hN : N ≤ 3072) (hj : 6 * j + 6 ≤ N) (hd : 30 ≤ d) (hc : cells + 18 ≤ k) (hs : slots + 400 ≤ n) (hI : pq_INV X sz sk rf sg) (kk : ∀ sz' sk' rf' sg' v5' v6', pq_INV X sz' sk' rf' sg' → pv F (cells + 18) (slots + 400) sz' sk' rf' sg' 2247 [some (.ref b), some (.ref X), some (.ref (X + 45)), some (.ref (X + 70)), some (.int (nI (6 * j))), v5', v6'] []) : pv F cells slots sz sk rf sg 1175 [some (.ref b), some (.ref X), some (.ref (X + 45)), some (.ref (X + 70)), some (.int (nI (6 * j))), v5, v6] [] := by
  by_cases hz : xs (6 * j + 2) = 0
  · obtain ⟨k0, kc, nc, post, hk3, hkc, hnc, hM, hP⟩ := pq_st_reason hfl hI (xs (6 * j + 1)) false
    refine v_aload_n h (i := 1) dL_law_1175 (q := 1176) rfl rfl rfl ?_
    refine v_aload_n h (i := 0) dL_law_1176 (q := 1177) rfl rfl rfl ?_
    refine v_iload h dL_law_1177 (q := 1179) rfl rfl ?_
    refine v_iconst h (v := nI 1) dL_law_1179 (q := 1180) rfl (by decide +kernel) ?_
    refine v_iadd h dL_law_1180 (q := 1181) rfl ?_
    refine v_sld h hX hbl hbA (t := 6 * j + 1) (nI_add _ _) (by omega) (by omega) dL_law_1181 (q := 1182) rfl ?_
    refine v_aload_n h (i := 0) dL_law_1182 (q := 1183) rfl rfl rfl ?_
    refine v_iload h dL_law_1183 (q := 1185) rfl rfl ?_
    refine v_iconst h (v := nI 2) dL_law_1185 (q := 1186) rfl (by decide +kernel) ?_
    refine v_iadd h dL_law_1186 (q := 1187) rfl ?_
    refine v_sld h hX hbl hbA (t := 6 * j + 2) (nI_add _ _) (by omega) (by omega) dL_law_1187 (q := 1188) rfl ?_
    refine v_if_eq h dL_law_1188 (q := 1191) rfl (tgt := 1195) (by decide) (fun _ => ?_) (fun c9 => absurd hz c9)
    refine v_iconst h (v := nI 0) dL_law_1195 (q := 1196) rfl (by decide +kernel) ?_
    refine v_aload_n h (i := 3) dL_law_1196 (q := 1197) rfl rfl rfl ?_
    refine v_callSH h hM kL_reason (fun h9 => nomatch h9) tw581 rfl rfl (by simp [Value.category]) (by omega) (by omega) (by omega) rfl dL_law_1197 (q := 1200) rfl ?_ (fun E sz9 sk9 rf9 sg9 hx9 => nomatch (hP _ _ _ _ _ hx9).1)
    intro v1 sz1 sk1 rf1 sg1 hp1
    obtain ⟨e1, d8, w8, sg2, hd8, hPw, hM8, ht, ho, hI2⟩ := hP _ _ _ _ _ hp1
    cases e1
    obtain ⟨nn, B, par, hsk, -⟩ := id hI2
    have hm1 := hsk.2.2.1
    have hO1 := hsk.2.2.2.1
    refine v_istore h dL_law_1200 (q := 1202) rfl (Nat.le_of_ble_eq_true rfl) rfl ?_
    refine v_aload_n h (i := 2) dL_law_1202 (q := 1203) rfl rfl rfl ?_
    refine v_aload_n h (i := 0) dL_law_1203 (q := 1204) rfl rfl rfl ?_
    refine v_iload h dL_law_1204 (q := 1206) rfl rfl ?_
    refine v_iconst h (v := nI 1) dL_law_1206 (q := 1207) rfl (by decide +kernel) ?_
    refine v_iadd h dL_law_1207 (q := 1208) rfl ?_
    refine v_sld h hX hbl hbA (t := 6 * j + 1) (nI_add _ _) (by omega) (by omega) dL_law_1208 (q := 1209) rfl ?_
    refine v_aload_n h (i := 0) dL_law_1209 (q := 1210) rfl rfl rfl ?_
    refine v_iload h dL_law_1210 (q := 1212) rfl rfl ?_
    refine v_iconst h (v := nI 2) dL_law_1212 (q := 1213) rfl (by decide +kernel) ?_
    refine v_iadd h dL_law_1213 (q := 1214) rfl ?_
    refine v_sld h hX hbl hbA (t := 6 * j + 2) (nI_add _ _) (by omega) (by omega) dL_law_1214 (q := 1215) rfl ?_
    refine v_if_eq h dL_law_1215 (q := 1218) rfl (tgt := 1222) (by decide) (fun _ => ?_) (fun c9 => absurd hz c9)
    refine v_iconst h (v := nI 0) dL_law_1222 (q := 1223) rfl (by decide +kernel) ?_
    refine v_callV1 h hM8 kX8_reason tw1062 tw1064 hm1.1 (by decide) rfl rfl rfl (by simp [Value.category]) (by omega) (by omega) (by omega) rfl dL_law_1223 (q := 1226) rfl ?_
    refine v_istore h dL_law_1226 (q := 1228) rfl (Nat.le_of_ble_eq_true rfl) rfl ?_
    refine v_aload_n h (i := 2) dL_law_1228 (q := 1229) rfl rfl rfl ?_
    refine v_callV1 h (c_X8_thrown hfl hm1) kX8_thrown tw911 tw913 hm1.1 (by decide) rfl rfl rfl (by simp [Value.category]) (by omega) (by omega) (by omega) rfl dL_law_1229 (q := 1232) rfl ?_
    refine v_iload h dL_law_1232 (q := 1234) rfl rfl ?_
    refine v_icmp_eq h dL_law_1234 (q := 1237) rfl (tgt := 1239) (by decide) (fun _ => ?_) (fun c9 => absurd ht c9)
    refine v_iload h dL_law_1239 (q := 1241) rfl rfl ?_
    refine v_if_ne h dL_law_1241 (q := 1244) rfl (tgt := 1256) (by decide) (fun _ => ?_) (fun c9 => ?_)
    · refine v_goto h dL_law_1256 (tgt := 2247) (by decide) ?_
      refine v_widen (c2 := cells + 18) (s2 := slots + 400) (by omega) (by omega) ?_
      exact kk _ _ _ _ _ _ hI2
    · have hk0 : k0 = 0 := (nI_eq (by omega) (by omega)).mp c9
      refine v_aload_n h (i := 3) dL_law_1244 (q := 1245) rfl rfl rfl ?_
      refine v_iconst h (v := nI 0) dL_law_1245 (q := 1246) rfl (by decide +kernel) ?_
      refine v_lald h hO1 rfl (by decide) (by decide) dL_law_1246 (q := 1247) rfl ?_
      rw [ho hk0]
      refine v_iload h dL_law_1247 (q := 1249) rfl rfl ?_
      refine v_i2l h dL_law_1249 (q := 1250) rfl ?_
      refine v_lcmp h dL_law_1250 (q := 1251) rfl ?_
      refine v_if_eq h dL_law_1251 (q := 1254) rfl (tgt := 1256) (by decide) (fun _ => ?_) (fun c8 => absurd ((lg_cmp_eq _ _).mpr rfl) c8)
      refine v_goto h dL_law_1256 (tgt := 2247) (by decide) ?_
      refine v_widen (c2 := cells + 18) (s2 := slots + 400) (by omega) (by omega) ?_
      exact kk _ _ _ _ _ _ hI2
  · obtain ⟨k0, kc, nc, post, hk3, hkc, hnc, hM, hP⟩ := pq_st_reason hfl hI (xs (6 * j + 1)) true
    refine v_aload_n h (i := 1) dL_law_1175 (q := 1176) rfl rfl rfl ?_
    refine v_aload_n h (i := 0) dL_law_1176 (q := 1177) rfl rfl rfl ?_
    refine v_iload h dL_law_1177 (q := 1179) rfl rfl ?_
    refine v_iconst h (v := nI 1) dL_law_1179 (q := 1180) rfl (by decide +kernel) ?_
    refine v_iadd h dL_law_1180 (q := 1181) rfl ?_
    refine v_sld h hX hbl hbA (t := 6 * j + 1) (nI_add _ _) (by omega) (by omega) dL_law_1181 (q := 1182) rfl ?_
    refine v_aload_n h (i := 0) dL_law_1182 (q := 1183) rfl rfl rfl ?_
    refine v_iload h dL_law_1183 (q := 1185) rfl rfl ?_
    refine v_iconst h (v := nI 2) dL_law_1185 (q := 1186) rfl (by decide +kernel) ?_
    refine v_iadd h dL_law_1186 (q := 1187) rfl ?_
    refine v_sld h hX hbl hbA (t := 6 * j + 2) (nI_add _ _) (by omega) (by omega) dL_law_1187 (q := 1188) rfl ?_
    refine v_if_eq h dL_law_1188 (q := 1191) rfl (tgt := 1195) (by decide) (fun c9 => absurd c9 hz) (fun _ => ?_)
    refine v_iconst h (v := nI 1) dL_law_1191 (q := 1192) rfl (by decide +kernel) ?_
    refine v_goto h dL_law_1192 (tgt := 1196) (by decide) ?_
    refine v_aload_n h (i := 3) dL_law_1196 (q := 1197) rfl rfl rfl ?_
    refine v_callSH h hM kL_reason (fun h9 => nomatch h9) tw581 rfl rfl (by simp [Value.category]) (by omega) (by omega) (by omega) rfl dL_law_1197 (q := 1200) rfl ?_ (fun E sz9 sk9 rf9 sg9 hx9 => nomatch (hP _ _ _ _ _ hx9).1)
    intro v1 sz1 sk1 rf1 sg1 hp1
    obtain ⟨e1, d8, w8, sg2, hd8, hPw, hM8, ht, ho, hI2⟩ := hP _ _ _ _ _ hp1
    cases e1
    obtain ⟨nn, B, par, hsk, -⟩ := id hI2
    have hm1 := hsk.2.2.1
    have hO1 := hsk.2.2.2.1
    refine v_istore h dL_law_1200 (q := 1202) rfl (Nat.le_of_ble_eq_true rfl) rfl ?_
    refine v_aload_n h (i := 2) dL_law_1202 (q := 1203) rfl rfl rfl ?_
    refine v_aload_n h (i := 0) dL_law_1203 (q := 1204) rfl rfl rfl ?_
    refine v_iload h dL_law_1204 (q := 1206) rfl rfl ?_
    refine v_iconst h (v := nI 1) dL_law_1206 (q := 1207) rfl (by decide +kernel) ?_
    refine v_iadd h dL_law_1207 (q := 1208) rfl ?_
    refine v_sld h hX hbl hbA (t := 6 * j + 1) (nI_add _ _) (by omega) (by omega) dL_law_1208 (q := 1209) rfl ?_
    refine v_aload_n h (i := 0) dL_law_1209 (q := 1210) rfl rfl rfl ?_
    refine v_iload h dL_law_1210 (q := 1212) rfl rfl ?_
    refine v_iconst h (v := nI 2) dL_law_1212 (q := 1213) rfl (by decide +kernel) ?_
    refine v_iadd h dL_law_1213 (q := 1214) rfl ?_
    refine v_sld h hX hbl hbA (t := 6 * j + 2) (nI_add _ _) (by omega) (by omega) dL_law_1214 (q := 1215) rfl ?_
    refine v_if_eq h dL_law_1215 (q := 1218) rfl (tgt := 1222) (by decide) (fun c9 => absurd c9 hz) (fun _ => ?_)
    refine v_iconst h (v := nI 1) dL_law_1218 (q := 1219) rfl (by decide +kernel) ?_
    refine v_goto h dL_law_1219 (tgt := 1223) (by decide) ?_
    refine v_callV1 h hM8 kX8_reason tw1062 tw1064 hm1.1 (by decide) rfl rfl rfl (by simp [Value.category]) (by omega) (by omega) (by omega) rfl dL_law_1223 (q := 1226) rfl ?_
    refine v_istore h dL_law_1226 (q := 1228) rfl (Nat.le_of_ble_eq_true rfl) rfl ?_
    refine v_aload_n h (i := 2) dL_law_1228 (q := 1229) rfl rfl rfl ?_
    refine v_callV1 h (c_X8_thrown hfl hm1) kX8_thrown tw911 tw913 hm1.1 (by decide) rfl rfl rfl (by simp [Value.category]) (by omega) (by omega) (by omega) rfl dL_law_1229 (q := 1232) rfl ?_
    refine v_iload h dL_law_1232 (q := 1234) rfl rfl ?_
    refine v_icmp_eq h dL_law_1234 (q := 1237) rfl (tgt := 1239) (by decide) (fun _ => ?_) (fun c9 => absurd ht c9)
    refine v_iload h dL_law_1239 (q := 1241) rfl rfl ?_
    refine v_if_ne h dL_law_1241 (q := 1244) rfl (tgt := 1256) (by decide) (fun _ => ?_) (fun c9 => ?_)
    · refine v_goto h dL_law_1256 (tgt := 2247) (by decide) ?_
      refine v_widen (c2 := cells + 18) (s2 := slots + 400) (by omega) (by omega) ?_
      exact kk _ _ _ _ _ _ hI2
    · have hk0 : k0 = 0 := (nI_eq (by omega) (by omega)).mp c9
      refine v_aload_n h (i := 3) dL_law_1244 (q := 1245) rfl rfl rfl ?_
      refine v_iconst h (v := nI 0) dL_law_1245 (q := 1246) rfl (by decide +kernel) ?_
      refine v_lald h hO1 rfl (by decide) (by decide) dL_law_1246 (q := 1247) rfl ?_
      rw [ho hk0]
      refine v_iload h dL_law_1247 (q := 1249) rfl rfl ?_
      refine v_i2l h dL_law_1249 (q := 1250) rfl ?_
      refine v_lcmp h dL_law_1250 (q := 1251) rfl ?_
      refine v_if_eq h dL_law_1251 (q := 1254) rfl (tgt := 1256) (by decide) (fun _ => ?_) (fun c8 => absurd ((lg_cmp_eq _ _).mpr rfl) c8)
      refine v_goto h dL_law_1256 (tgt := 2247) (by decide) ?_
      refine v_widen (c2 := cells + 18) (s2 := slots + 400) (by omega) (by omega) ?_
      exact kk _ _ _ _ _ _ hI2
