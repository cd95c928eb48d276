set_option maxHeartbeats 4000000 in
set_option maxRecDepth 100000 in
theorem lw_case_28 {F : pb_F} {d k n cells slots sz b N j X : Nat} {sk : pb_Sk} {rf : pb_Rf} {sg : pb_Sg} {xs : Nat → Int32} {v5 v6 : Option Value} (h : pb_Fx F mL_law d k n) (hfl : (pb_l F).stackTraces = false) (hX : va_X b N xs (pb_s F) (pb_s F).heap) (hbl : b < (pb_s F).heap.size) (hbA : ¬ pb_own (pb_g F) b) (hN : N ≤ 3072) (hj : 6 * j + 6 ≤ N) (hd : 30 ≤ d) (hc : cells + 18 ≤ k) (hs : slots + 400 ≤ n) (hI : pq_INV X sz sk rf sg) (kk : ∀ sz' sk' rf' sg' v5' v6', pq_INV X sz' sk' rf' sg' → pv F (cells + 18) (slots + 400) sz' sk' rf' sg' 2247 [some (.ref b), some (.ref X), some (.ref (X + 45)), some (.ref (X + 70)), some (.int (nI (6 * j))), v5', v6'] []) : pv F cells slots sz sk rf sg 2055 [some (.ref b), some (.ref X), some (.ref (X + 45)), some (.ref (X + 70)), some (.int (nI (6 * j))), v5, v6] [] := by
  obtain ⟨k0, kc, nc, post, hk3, hkc, hnc, hM, hP⟩ := pq_st_lastDay hfl hI (xs (6 * j + 1))
  refine v_aload_n h (i := 1) dL_law_2055 (q := 2056) rfl rfl rfl ?_
  refine v_aload_n h (i := 0) dL_law_2056 (q := 2057) rfl rfl rfl ?_
  refine v_iload h dL_law_2057 (q := 2059) rfl rfl ?_
  refine v_iconst h (v := nI 1) dL_law_2059 (q := 2060) rfl (by decide +kernel) ?_
  refine v_iadd h dL_law_2060 (q := 2061) rfl ?_
  refine v_sld h hX hbl hbA (t := 6 * j + 1) (nI_add _ _) (by omega) (by omega) dL_law_2061 (q := 2062) rfl ?_
  refine v_aload_n h (i := 3) dL_law_2062 (q := 2063) rfl rfl rfl ?_
  refine v_callSH h hM kL_lastDay (fun h9 => nomatch h9) tw774 rfl rfl (by simp [Value.category]) (by omega) (by omega) (by omega) rfl dL_law_2063 (q := 2066) rfl ?_ (fun E sz9 sk9 rf9 sg9 hx9 => nomatch (hP _ _ _ _ _ hx9).1)
  intro v1 sz1 sk1 rf1 sg1 hp1
  obtain ⟨e1, d8, w8, sg2, hd8, hPw, hM8, ht, ho, hI2⟩ := hP _ _ _ _ _ hp1
  cases e1
  obtain ⟨nn, B, par, hsk, -⟩ := id hI2
  have hm1 := hsk.2.2.1
  have hO1 := hsk.2.2.2.1
  refine v_istore h dL_law_2066 (q := 2068) rfl (Nat.le_of_ble_eq_true rfl) rfl ?_
  refine v_aload_n h (i := 2) dL_law_2068 (q := 2069) rfl rfl rfl ?_
  refine v_aload_n h (i := 0) dL_law_2069 (q := 2070) rfl rfl rfl ?_
  refine v_iload h dL_law_2070 (q := 2072) rfl rfl ?_
  refine v_iconst h (v := nI 1) dL_law_2072 (q := 2073) rfl (by decide +kernel) ?_
  refine v_iadd h dL_law_2073 (q := 2074) rfl ?_
  refine v_sld h hX hbl hbA (t := 6 * j + 1) (nI_add _ _) (by omega) (by omega) dL_law_2074 (q := 2075) rfl ?_
  refine v_callV1 h hM8 kX8_lastDay tw1171 tw1173 hm1.1 (by decide) rfl rfl rfl (by simp [Value.category]) (by omega) (by omega) (by omega) rfl dL_law_2075 (q := 2078) rfl ?_
  refine v_istore h dL_law_2078 (q := 2080) rfl (Nat.le_of_ble_eq_true rfl) rfl ?_
  refine v_aload_n h (i := 2) dL_law_2080 (q := 2081) rfl rfl rfl ?_
  refine v_callV1 h (c_X8_thrown hfl hm1) kX8_thrown tw911 tw913 hm1.1 (by decide) rfl rfl rfl (by simp [Value.category]) (by omega) (by omega) (by omega) rfl dL_law_2081 (q := 2084) rfl ?_
  refine v_iload h dL_law_2084 (q := 2086) rfl rfl ?_
  refine v_icmp_eq h dL_law_2086 (q := 2089) rfl (tgt := 2091) (by decide) (fun _ => ?_) (fun c9 => absurd ht c9)
  refine v_iload h dL_law_2091 (q := 2093) rfl rfl ?_
  refine v_if_ne h dL_law_2093 (q := 2096) rfl (tgt := 2108) (by decide) (fun _ => ?_) (fun c9 => ?_)
  · refine v_goto h dL_law_2108 (tgt := 2247) (by decide) ?_
    refine v_widen (c2 := cells + 18) (s2 := slots + 400) (by omega) (by omega) ?_
    exact kk _ _ _ _ _ _ hI2
  · have hk0 : k0 = 0 := (nI_eq (by omega) (by omega)).mp c9
    refine v_aload_n h (i := 3) dL_law_2096 (q := 2097) rfl rfl rfl ?_
    refine v_iconst h (v := nI 0) dL_law_2097 (q := 2098) rfl (by decide +kernel) ?_
    refine v_lald h hO1 rfl (by decide) (by decide) dL_law_2098 (q := 2099) rfl ?_
    rw [ho hk0]
    refine v_iload h dL_law_2099 (q := 2101) rfl rfl ?_
    refine v_i2l h dL_law_2101 (q := 2102) rfl ?_
    refine v_lcmp h dL_law_2102 (q := 2103) rfl ?_
    refine v_if_eq h dL_law_2103 (q := 2106) rfl (tgt := 2108) (by decide) (fun _ => ?_) (fun c8 => absurd ((lg_cmp_eq _ _).mpr rfl) c8)
    refine v_goto h dL_law_2108 (tgt := 2247) (by decide) ?_
    refine v_widen (c2 := cells + 18) (s2 := slots + 400) (by omega) (by omega) ?_
    exact kk _ _ _ _ _ _ hI2
set_option maxHeartbeats 4000000 in
set_option maxRecDepth 100000 in
theorem lw_case_29 {F : pb_F} {d k n cells slots sz b N j X : Nat} {sk : pb_Sk} {rf : pb_Rf} {sg : pb_Sg} {xs : Nat → Int32} {v5 v6 : Option Value} (h : pb_Fx F mL_law d k n) (hfl : (pb_l F).stackTraces = false) (hX : va_X b N xs (pb_s F) (pb_s F).heap) (hbl : b < (pb_s F).heap.size) (hbA : ¬ pb_own (pb_g F) b) (hN : N ≤ 3072) (hj : 6 * j + 6 ≤ N) (hd : 30 ≤ d) (hc : cells + 18 ≤ k) (hs : slots + 400 ≤ n) (hI : pq_INV X sz sk rf sg) (kk : ∀ sz' sk' rf' sg' v5' v6', pq_INV X sz' sk' rf' sg' → pv F (cells + 18) (slots + 400) sz' sk' rf' sg' 2247 [some (.ref b), some (.ref X), some (.ref (X + 45)), some (.ref (X + 70)), some (.int (nI (6 * j))), v5', v6'] []) : pv F cells slots sz sk rf sg 2111 [some (.ref b), some (.ref X), some (.ref (X + 45)), some (.ref (X + 70)), some (.int (nI (6 * j))), v5, v6] [] := by
  obtain ⟨k0, kc, nc, post, hk3, hkc, hnc, hM, hP⟩ := pq_st_lastDayByAll hfl hI (xs (6 * j + 1))
  refine v_aload_n h (i := 1) dL_law_2111 (q := 2112) rfl rfl rfl ?_
  refine v_aload_n h (i := 0) dL_law_2112 (q := 2113) rfl rfl rfl ?_
  refine v_iload h dL_law_2113 (q := 2115) rfl rfl ?_
  refine v_iconst h (v := nI 1) dL_law_2115 (q := 2116) rfl (by decide +kernel) ?_
  refine v_iadd h dL_law_2116 (q := 2117) rfl ?_
  refine v_sld h hX hbl hbA (t := 6 * j + 1) (nI_add _ _) (by omega) (by omega) dL_law_2117 (q := 2118) rfl ?_
  refine v_aload_n h (i := 3) dL_law_2118 (q := 2119) rfl rfl rfl ?_
  refine v_callSH h hM kL_lastDayByAll (fun h9 => nomatch h9) tw785 rfl rfl (by simp [Value.category]) (by omega) (by omega) (by omega) rfl dL_law_2119 (q := 2122) rfl ?_ (fun E sz9 sk9 rf9 sg9 hx9 => nomatch (hP _ _ _ _ _ hx9).1)
  intro v1 sz1 sk1 rf1 sg1 hp1
  obtain ⟨e1, d8, w8, sg2, hd8, hPw, hM8, ht, ho, hI2⟩ := hP _ _ _ _ _ hp1
  cases e1
  obtain ⟨nn, B, par, hsk, -⟩ := id hI2
  have hm1 := hsk.2.2.1
  have hO1 := hsk.2.2.2.1
  refine v_istore h dL_law_2122 (q := 2124) rfl (Nat.le_of_ble_eq_true rfl) rfl ?_
  refine v_aload_n h (i := 2) dL_law_2124 (q := 2125) rfl rfl rfl ?_
  refine v_aload_n h (i := 0) dL_law_2125 (q := 2126) rfl rfl rfl ?_
  refine v_iload h dL_law_2126 (q := 2128) rfl rfl ?_
  refine v_iconst h (v := nI 1) dL_law_2128 (q := 2129) rfl (by decide +kernel) ?_
  refine v_iadd h dL_law_2129 (q := 2130) rfl ?_
  refine v_sld h hX hbl hbA (t := 6 * j + 1) (nI_add _ _) (by omega) (by omega) dL_law_2130 (q := 2131) rfl ?_
  refine v_callV1 h hM8 kX8_lastDayByAll tw1179 tw1181 hm1.1 (by decide) rfl rfl rfl (by simp [Value.category]) (by omega) (by omega) (by omega) rfl dL_law_2131 (q := 2134) rfl ?_
  refine v_istore h dL_law_2134 (q := 2136) rfl (Nat.le_of_ble_eq_true rfl) rfl ?_
  refine v_aload_n h (i := 2) dL_law_2136 (q := 2137) rfl rfl rfl ?_
  refine v_callV1 h (c_X8_thrown hfl hm1) kX8_thrown tw911 tw913 hm1.1 (by decide) rfl rfl rfl (by simp [Value.category]) (by omega) (by omega) (by omega) rfl dL_law_2137 (q := 2140) rfl ?_
  refine v_iload h dL_law_2140 (q := 2142) rfl rfl ?_
  refine v_icmp_eq h dL_law_2142 (q := 2145) rfl (tgt := 2147) (by decide) (fun _ => ?_) (fun c9 => absurd ht c9)
  refine v_iload h dL_law_2147 (q := 2149) rfl rfl ?_
  refine v_if_ne h dL_law_2149 (q := 2152) rfl (tgt := 2164) (by decide) (fun _ => ?_) (fun c9 => ?_)
  · refine v_goto h dL_law_2164 (tgt := 2247) (by decide) ?_
    refine v_widen (c2 := cells + 18) (s2 := slots + 400) (by omega) (by omega) ?_
    exact kk _ _ _ _ _ _ hI2
  · have hk0 : k0 = 0 := (nI_eq (by omega) (by omega)).mp c9
    refine v_aload_n h (i := 3) dL_law_2152 (q := 2153) rfl rfl rfl ?_
    refine v_iconst h (v := nI 0) dL_law_2153 (q := 2154) rfl (by decide +kernel) ?_
    refine v_lald h hO1 rfl (by decide) (by decide) dL_law_2154 (q := 2155) rfl ?_
    rw [ho hk0]
    refine v_iload h dL_law_2155 (q := 2157) rfl rfl ?_
    refine v_i2l h dL_law_2157 (q := 2158) rfl ?_
    refine v_lcmp h dL_law_2158 (q := 2159) rfl ?_
    refine v_if_eq h dL_law_2159 (q := 2162) rfl (tgt := 2164) (by decide) (fun _ => ?_) (fun c8 => absurd ((lg_cmp_eq _ _).mpr rfl) c8)
    refine v_goto h dL_law_2164 (tgt := 2247) (by decide) ?_
    refine v_widen (c2 := cells + 18) (s2 := slots + 400) (by omega) (by omega) ?_
    exact kk _ _ _ _ _ _ hI2
set_option maxHeartbeats 4000000 in
set_option maxRecDepth 100000 in
theorem lw_case_30 {F : pb_F} {d k n cells slots sz b N j X : Nat} {sk : pb_Sk} {rf : pb_Rf} {sg : pb_Sg} {xs : Nat → Int32} {v5 v6 : Option Value} (h : pb_Fx F mL_law d k n) (hfl : (pb_l F).stackTraces = false) (hX : va_X b N xs (pb_s F) (pb_s F).heap) (hbl : b < (pb_s F).heap.size) (hbA : ¬ pb_own (pb_g F) b) (hN : N ≤ 3072) (hj : 6 * j + 6 ≤ N) (hd : 30 ≤ d) (hc : cells + 18 ≤ k) (hs : slots + 400 ≤ n) (hI : pq_INV X sz sk rf sg) (kk : ∀ sz' sk' rf' sg' v5' v6', pq_INV X sz' sk' rf' sg' → pv F (cells + 18) (slots + 400) sz' sk' rf' sg' 2247 [some (.ref b), some (.ref X), some (.ref (X + 45)), some (.ref (X + 70)), some (.int (nI (6 * j))), v5', v6'] []) : pv F cells slots sz sk rf sg 2167 [some (.ref b), some (.ref X), some (.ref (X + 45)), some (.ref (X + 70)), some (.int (nI (6 * j))), v5, v6] [] := by
  obtain ⟨k0, kc, nc, post, hk3, hkc, hnc, hM, hP⟩ := pq_st_taskOn hfl hI (xs (6 * j + 1)) (xs (6 * j + 2)) (xs (6 * j + 3))
  refine v_aload_n h (i := 1) dL_law_2167 (q := 2168) rfl rfl rfl ?_
  refine v_aload_n h (i := 0) dL_law_2168 (q := 2169) rfl rfl rfl ?_
  refine v_iload h dL_law_2169 (q := 2171) rfl rfl ?_
  refine v_iconst h (v := nI 1) dL_law_2171 (q := 2172) rfl (by decide +kernel) ?_
  refine v_iadd h dL_law_2172 (q := 2173) rfl ?_
  refine v_sld h hX hbl hbA (t := 6 * j + 1) (nI_add _ _) (by omega) (by omega) dL_law_2173 (q := 2174) rfl ?_
  refine v_aload_n h (i := 0) dL_law_2174 (q := 2175) rfl rfl rfl ?_
  refine v_iload h dL_law_2175 (q := 2177) rfl rfl ?_
  refine v_iconst h (v := nI 2) dL_law_2177 (q := 2178) rfl (by decide +kernel) ?_
  refine v_iadd h dL_law_2178 (q := 2179) rfl ?_
  refine v_sld h hX hbl hbA (t := 6 * j + 2) (nI_add _ _) (by omega) (by omega) dL_law_2179 (q := 2180) rfl ?_
  refine v_aload_n h (i := 0) dL_law_2180 (q := 2181) rfl rfl rfl ?_
  refine v_iload h dL_law_2181 (q := 2183) rfl rfl ?_
  refine v_iconst h (v := nI 3) dL_law_2183 (q := 2184) rfl (by decide +kernel) ?_
  refine v_iadd h dL_law_2184 (q := 2185) rfl ?_
  refine v_sld h hX hbl hbA (t := 6 * j + 3) (nI_add _ _) (by omega) (by omega) dL_law_2185 (q := 2186) rfl ?_
  refine v_aload_n h (i := 3) dL_law_2186 (q := 2187) rfl rfl rfl ?_
  refine v_callSH h hM kL_taskOn (fun h9 => nomatch h9) tw810 rfl rfl (by simp [Value.category]) (by omega) (by omega) (by omega) rfl dL_law_2187 (q := 2190) rfl ?_ (fun E sz9 sk9 rf9 sg9 hx9 => nomatch (hP _ _ _ _ _ hx9).1)
  intro v1 sz1 sk1 rf1 sg1 hp1
  obtain ⟨e1, d8, w8, sg2, hd8, hPw, hM8, ht, ho, hI2⟩ := hP _ _ _ _ _ hp1
  cases e1
  obtain ⟨nn, B, par, hsk, -⟩ := id hI2
  have hm1 := hsk.2.2.1
  have hO1 := hsk.2.2.2.1
  refine v_istore h dL_law_2190 (q := 2192) rfl (Nat.le_of_ble_eq_true rfl) rfl ?_
  refine v_aload_n h (i := 2) dL_law_2192 (q := 2193) rfl rfl rfl ?_
  refine v_aload_n h (i := 0) dL_law_2193 (q := 2194) rfl rfl rfl ?_
  refine v_iload h dL_law_2194 (q := 2196) rfl rfl ?_
  refine v_iconst h (v := nI 1) dL_law_2196 (q := 2197) rfl (by decide +kernel) ?_
  refine v_iadd h dL_law_2197 (q := 2198) rfl ?_
  refine v_sld h hX hbl hbA (t := 6 * j + 1) (nI_add _ _) (by omega) (by omega) dL_law_2198 (q := 2199) rfl ?_
  refine v_aload_n h (i := 0) dL_law_2199 (q := 2200) rfl rfl rfl ?_
  refine v_iload h dL_law_2200 (q := 2202) rfl rfl ?_
  refine v_iconst h (v := nI 2) dL_law_2202 (q := 2203) rfl (by decide +kernel) ?_
  refine v_iadd h dL_law_2203 (q := 2204) rfl ?_
  refine v_sld h hX hbl hbA (t := 6 * j + 2) (nI_add _ _) (by omega) (by omega) dL_law_2204 (q := 2205) rfl ?_
  refine v_aload_n h (i := 0) dL_law_2205 (q := 2206) rfl rfl rfl ?_
  refine v_iload h dL_law_2206 (q := 2208) rfl rfl ?_
  refine v_iconst h (v := nI 3) dL_law_2208 (q := 2209) rfl (by decide +kernel) ?_
  refine v_iadd h dL_law_2209 (q := 2210) rfl ?_
  refine v_sld h hX hbl hbA (t := 6 * j + 3) (nI_add _ _) (by omega) (by omega) dL_law_2210 (q := 2211) rfl ?_
  refine v_callV1 h hM8 kX8_taskOn tw1194 tw1196 hm1.1 (by decide) rfl rfl rfl (by simp [Value.category]) (by omega) (by omega) (by omega) rfl dL_law_2211 (q := 2214) rfl ?_
  refine v_istore h dL_law_2214 (q := 2216) rfl (Nat.le_of_ble_eq_true rfl) rfl ?_
  refine v_aload_n h (i := 2) dL_law_2216 (q := 2217) rfl rfl rfl ?_
  refine v_callV1 h (c_X8_thrown hfl hm1) kX8_thrown tw911 tw913 hm1.1 (by decide) rfl rfl rfl (by simp [Value.category]) (by omega) (by omega) (by omega) rfl dL_law_2217 (q := 2220) rfl ?_
  refine v_iload h dL_law_2220 (q := 2222) rfl rfl ?_
  refine v_icmp_eq h dL_law_2222 (q := 2225) rfl (tgt := 2227) (by decide) (fun _ => ?_) (fun c9 => absurd ht c9)
  refine v_iload h dL_law_2227 (q := 2229) rfl rfl ?_
  refine v_if_ne h dL_law_2229 (q := 2232) rfl (tgt := 2244) (by decide) (fun _ => ?_) (fun c9 => ?_)
  · refine v_goto h dL_law_2244 (tgt := 2247) (by decide) ?_
    refine v_widen (c2 := cells + 18) (s2 := slots + 400) (by omega) (by omega) ?_
    exact kk _ _ _ _ _ _ hI2
  · have hk0 : k0 = 0 := (nI_eq (by omega) (by omega)).mp c9
    refine v_aload_n h (i := 3) dL_law_2232 (q := 2233) rfl rfl rfl ?_
    refine v_iconst h (v := nI 0) dL_law_2233 (q := 2234) rfl (by decide +kernel) ?_
    refine v_lald h hO1 rfl (by decide) (by decide) dL_law_2234 (q := 2235) rfl ?_
    rw [ho hk0]
    refine v_iload h dL_law_2235 (q := 2237) rfl rfl ?_
    refine v_i2l h dL_law_2237 (q := 2238) rfl ?_
    refine v_lcmp h dL_law_2238 (q := 2239) rfl ?_
    refine v_if_eq h dL_law_2239 (q := 2242) rfl (tgt := 2244) (by decide) (fun _ => ?_) (fun c8 => absurd ((lg_cmp_eq _ _).mpr rfl) c8)
    refine v_goto h dL_law_2244 (tgt := 2247) (by decide) ?_
    refine v_widen (c2 := cells + 18) (s2 := slots + 400) (by omega) (by omega) ?_
    exact kk _ _ _ _ _ _ hI2
