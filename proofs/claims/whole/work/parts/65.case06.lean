set_option maxHeartbeats 4000000 in
set_option maxRecDepth 100000 in
theorem lw_case_24 {F : pb_F} {d k n cells slots sz b N j X : Nat} {sk : pb_Sk} {rf : pb_Rf} {sg : pb_Sg} {xs : Nat → Int32} {v5 v6 : Option Value} (h : pb_Fx F mL_law d k n) (hfl : (pb_l F).stackTraces = false) (hX : va_X b N xs (pb_s F) (pb_s F).heap) (hbl : b < (pb_s F).heap.size) (hbA : ¬ pb_own (pb_g F) b) (hN : N ≤ 3072) (hj : 6 * j + 6 ≤ N) (hd : 30 ≤ d) (hc : cells + 18 ≤ k) (hs : slots + 400 ≤ n) (hI : pq_INV X sz sk rf sg) (kk : ∀ sz' sk' rf' sg' v5' v6', pq_INV X sz' sk' rf' sg' → pv F (cells + 18) (slots + 400) sz' sk' rf' sg' 2247 [some (.ref b), some (.ref X), some (.ref (X + 45)), some (.ref (X + 70)), some (.int (nI (6 * j))), v5', v6'] []) : pv F cells slots sz sk rf sg 1819 [some (.ref b), some (.ref X), some (.ref (X + 45)), some (.ref (X + 70)), some (.int (nI (6 * j))), v5, v6] [] := by
  obtain ⟨k0, kc, nc, post, hk3, hkc, hnc, hM, hP⟩ := pq_st_critical hfl hI (xs (6 * j + 1))
  refine v_aload_n h (i := 1) dL_law_1819 (q := 1820) rfl rfl rfl ?_
  refine v_aload_n h (i := 0) dL_law_1820 (q := 1821) rfl rfl rfl ?_
  refine v_iload h dL_law_1821 (q := 1823) rfl rfl ?_
  refine v_iconst h (v := nI 1) dL_law_1823 (q := 1824) rfl (by decide +kernel) ?_
  refine v_iadd h dL_law_1824 (q := 1825) rfl ?_
  refine v_sld h hX hbl hbA (t := 6 * j + 1) (nI_add _ _) (by omega) (by omega) dL_law_1825 (q := 1826) rfl ?_
  refine v_aload_n h (i := 3) dL_law_1826 (q := 1827) rfl rfl rfl ?_
  refine v_callSH h hM kL_critical (fun h9 => nomatch h9) tw746 rfl rfl (by simp [Value.category]) (by omega) (by omega) (by omega) rfl dL_law_1827 (q := 1830) rfl ?_ (fun E sz9 sk9 rf9 sg9 hx9 => nomatch (hP _ _ _ _ _ hx9).1)
  intro v1 sz1 sk1 rf1 sg1 hp1
  obtain ⟨e1, d8, w8, sg2, hd8, hPw, hM8, ht, ho, hI2⟩ := hP _ _ _ _ _ hp1
  cases e1
  obtain ⟨nn, B, par, hsk, -⟩ := id hI2
  have hm1 := hsk.2.2.1
  have hO1 := hsk.2.2.2.1
  refine v_istore h dL_law_1830 (q := 1832) rfl (Nat.le_of_ble_eq_true rfl) rfl ?_
  refine v_aload_n h (i := 2) dL_law_1832 (q := 1833) rfl rfl rfl ?_
  refine v_aload_n h (i := 0) dL_law_1833 (q := 1834) rfl rfl rfl ?_
  refine v_iload h dL_law_1834 (q := 1836) rfl rfl ?_
  refine v_iconst h (v := nI 1) dL_law_1836 (q := 1837) rfl (by decide +kernel) ?_
  refine v_iadd h dL_law_1837 (q := 1838) rfl ?_
  refine v_sld h hX hbl hbA (t := 6 * j + 1) (nI_add _ _) (by omega) (by omega) dL_law_1838 (q := 1839) rfl ?_
  refine v_callV1 h hM8 kX8_critical tw1155 tw1157 hm1.1 (by decide) rfl rfl rfl (by simp [Value.category]) (by omega) (by omega) (by omega) rfl dL_law_1839 (q := 1842) rfl ?_
  refine v_istore h dL_law_1842 (q := 1844) rfl (Nat.le_of_ble_eq_true rfl) rfl ?_
  refine v_aload_n h (i := 2) dL_law_1844 (q := 1845) rfl rfl rfl ?_
  refine v_callV1 h (c_X8_thrown hfl hm1) kX8_thrown tw911 tw913 hm1.1 (by decide) rfl rfl rfl (by simp [Value.category]) (by omega) (by omega) (by omega) rfl dL_law_1845 (q := 1848) rfl ?_
  refine v_iload h dL_law_1848 (q := 1850) rfl rfl ?_
  refine v_icmp_eq h dL_law_1850 (q := 1853) rfl (tgt := 1855) (by decide) (fun _ => ?_) (fun c9 => absurd ht c9)
  refine v_iload h dL_law_1855 (q := 1857) rfl rfl ?_
  refine v_if_ne h dL_law_1857 (q := 1860) rfl (tgt := 1872) (by decide) (fun _ => ?_) (fun c9 => ?_)
  · refine v_goto h dL_law_1872 (tgt := 2247) (by decide) ?_
    refine v_widen (c2 := cells + 18) (s2 := slots + 400) (by omega) (by omega) ?_
    exact kk _ _ _ _ _ _ hI2
  · have hk0 : k0 = 0 := (nI_eq (by omega) (by omega)).mp c9
    refine v_aload_n h (i := 3) dL_law_1860 (q := 1861) rfl rfl rfl ?_
    refine v_iconst h (v := nI 0) dL_law_1861 (q := 1862) rfl (by decide +kernel) ?_
    refine v_lald h hO1 rfl (by decide) (by decide) dL_law_1862 (q := 1863) rfl ?_
    rw [ho hk0]
    refine v_iload h dL_law_1863 (q := 1865) rfl rfl ?_
    refine v_i2l h dL_law_1865 (q := 1866) rfl ?_
    refine v_lcmp h dL_law_1866 (q := 1867) rfl ?_
    refine v_if_eq h dL_law_1867 (q := 1870) rfl (tgt := 1872) (by decide) (fun _ => ?_) (fun c8 => absurd ((lg_cmp_eq _ _).mpr rfl) c8)
    refine v_goto h dL_law_1872 (tgt := 2247) (by decide) ?_
    refine v_widen (c2 := cells + 18) (s2 := slots + 400) (by omega) (by omega) ?_
    exact kk _ _ _ _ _ _ hI2
set_option maxHeartbeats 4000000 in
set_option maxRecDepth 100000 in
theorem lw_case_25 {F : pb_F} {d k n cells slots sz b N j X : Nat} {sk : pb_Sk} {rf : pb_Rf} {sg : pb_Sg} {xs : Nat → Int32} {v5 v6 : Option Value} (h : pb_Fx F mL_law d k n) (hfl : (pb_l F).stackTraces = false) (hX : va_X b N xs (pb_s F) (pb_s F).heap) (hbl : b < (pb_s F).heap.size) (hbA : ¬ pb_own (pb_g F) b) (hN : N ≤ 3072) (hj : 6 * j + 6 ≤ N) (hd : 30 ≤ d) (hc : cells + 18 ≤ k) (hs : slots + 400 ≤ n) (hI : pq_INV X sz sk rf sg) (kk : ∀ sz' sk' rf' sg' v5' v6', pq_INV X sz' sk' rf' sg' → pv F (cells + 18) (slots + 400) sz' sk' rf' sg' 2247 [some (.ref b), some (.ref X), some (.ref (X + 45)), some (.ref (X + 70)), some (.int (nI (6 * j))), v5', v6'] []) : pv F cells slots sz sk rf sg 1875 [some (.ref b), some (.ref X), some (.ref (X + 45)), some (.ref (X + 70)), some (.int (nI (6 * j))), v5, v6] [] := by
  obtain ⟨k0, kc, nc, post, hk3, hkc, hnc, hM, hP⟩ := pq_st_way hfl hI (xs (6 * j + 1))
  refine v_aload_n h (i := 1) dL_law_1875 (q := 1876) rfl rfl rfl ?_
  refine v_aload_n h (i := 0) dL_law_1876 (q := 1877) rfl rfl rfl ?_
  refine v_iload h dL_law_1877 (q := 1879) rfl rfl ?_
  refine v_iconst h (v := nI 1) dL_law_1879 (q := 1880) rfl (by decide +kernel) ?_
  refine v_iadd h dL_law_1880 (q := 1881) rfl ?_
  refine v_sld h hX hbl hbA (t := 6 * j + 1) (nI_add _ _) (by omega) (by omega) dL_law_1881 (q := 1882) rfl ?_
  refine v_aload_n h (i := 3) dL_law_1882 (q := 1883) rfl rfl rfl ?_
  refine v_callSH h hM kL_way (fun h9 => nomatch h9) tw753 rfl rfl (by simp [Value.category]) (by omega) (by omega) (by omega) rfl dL_law_1883 (q := 1886) rfl ?_ (fun E sz9 sk9 rf9 sg9 hx9 => nomatch (hP _ _ _ _ _ hx9).1)
  intro v1 sz1 sk1 rf1 sg1 hp1
  obtain ⟨e1, d8, w8, sg2, hd8, hPw, hM8, ht, ho, hI2⟩ := hP _ _ _ _ _ hp1
  cases e1
  obtain ⟨nn, B, par, hsk, -⟩ := id hI2
  have hm1 := hsk.2.2.1
  have hO1 := hsk.2.2.2.1
  refine v_istore h dL_law_1886 (q := 1888) rfl (Nat.le_of_ble_eq_true rfl) rfl ?_
  refine v_aload_n h (i := 2) dL_law_1888 (q := 1889) rfl rfl rfl ?_
  refine v_aload_n h (i := 0) dL_law_1889 (q := 1890) rfl rfl rfl ?_
  refine v_iload h dL_law_1890 (q := 1892) rfl rfl ?_
  refine v_iconst h (v := nI 1) dL_law_1892 (q := 1893) rfl (by decide +kernel) ?_
  refine v_iadd h dL_law_1893 (q := 1894) rfl ?_
  refine v_sld h hX hbl hbA (t := 6 * j + 1) (nI_add _ _) (by omega) (by omega) dL_law_1894 (q := 1895) rfl ?_
  refine v_callV1 h hM8 kX8_way tw1159 tw1161 hm1.1 (by decide) rfl rfl rfl (by simp [Value.category]) (by omega) (by omega) (by omega) rfl dL_law_1895 (q := 1898) rfl ?_
  refine v_istore h dL_law_1898 (q := 1900) rfl (Nat.le_of_ble_eq_true rfl) rfl ?_
  refine v_aload_n h (i := 2) dL_law_1900 (q := 1901) rfl rfl rfl ?_
  refine v_callV1 h (c_X8_thrown hfl hm1) kX8_thrown tw911 tw913 hm1.1 (by decide) rfl rfl rfl (by simp [Value.category]) (by omega) (by omega) (by omega) rfl dL_law_1901 (q := 1904) rfl ?_
  refine v_iload h dL_law_1904 (q := 1906) rfl rfl ?_
  refine v_icmp_eq h dL_law_1906 (q := 1909) rfl (tgt := 1911) (by decide) (fun _ => ?_) (fun c9 => absurd ht c9)
  refine v_iload h dL_law_1911 (q := 1913) rfl rfl ?_
  refine v_if_ne h dL_law_1913 (q := 1916) rfl (tgt := 1928) (by decide) (fun _ => ?_) (fun c9 => ?_)
  · refine v_goto h dL_law_1928 (tgt := 2247) (by decide) ?_
    refine v_widen (c2 := cells + 18) (s2 := slots + 400) (by omega) (by omega) ?_
    exact kk _ _ _ _ _ _ hI2
  · have hk0 : k0 = 0 := (nI_eq (by omega) (by omega)).mp c9
    refine v_aload_n h (i := 3) dL_law_1916 (q := 1917) rfl rfl rfl ?_
    refine v_iconst h (v := nI 0) dL_law_1917 (q := 1918) rfl (by decide +kernel) ?_
    refine v_lald h hO1 rfl (by decide) (by decide) dL_law_1918 (q := 1919) rfl ?_
    rw [ho hk0]
    refine v_iload h dL_law_1919 (q := 1921) rfl rfl ?_
    refine v_i2l h dL_law_1921 (q := 1922) rfl ?_
    refine v_lcmp h dL_law_1922 (q := 1923) rfl ?_
    refine v_if_eq h dL_law_1923 (q := 1926) rfl (tgt := 1928) (by decide) (fun _ => ?_) (fun c8 => absurd ((lg_cmp_eq _ _).mpr rfl) c8)
    refine v_goto h dL_law_1928 (tgt := 2247) (by decide) ?_
    refine v_widen (c2 := cells + 18) (s2 := slots + 400) (by omega) (by omega) ?_
    exact kk _ _ _ _ _ _ hI2
set_option maxHeartbeats 4000000 in
set_option maxRecDepth 100000 in
theorem lw_case_26 {F : pb_F} {d k n cells slots sz b N j X : Nat} {sk : pb_Sk} {rf : pb_Rf} {sg : pb_Sg} {xs : Nat → Int32} {v5 v6 : Option Value} (h : pb_Fx F mL_law d k n) (hfl : (pb_l F).stackTraces = false) (hX : va_X b N xs (pb_s F) (pb_s F).heap) (hbl : b < (pb_s F).heap.size) (hbA : ¬ pb_own (pb_g F) b) (hN : N ≤ 3072) (hj : 6 * j + 6 ≤ N) (hd : 30 ≤ d) (hc : cells + 18 ≤ k) (hs : slots + 400 ≤ n) (hI : pq_INV X sz sk rf sg) (kk : ∀ sz' sk' rf' sg' v5' v6', pq_INV X sz' sk' rf' sg' → pv F (cells + 18) (slots + 400) sz' sk' rf' sg' 2247 [some (.ref b), some (.ref X), some (.ref (X + 45)), some (.ref (X + 70)), some (.int (nI (6 * j))), v5', v6'] []) : pv F cells slots sz sk rf sg 1931 [some (.ref b), some (.ref X), some (.ref (X + 45)), some (.ref (X + 70)), some (.int (nI (6 * j))), v5, v6] [] := by
  obtain ⟨k0, kc, nc, post, hk3, hkc, hnc, hM, hP⟩ := pq_st_firstDay hfl hI (xs (6 * j + 1)) (xs (6 * j + 2))
  refine v_aload_n h (i := 1) dL_law_1931 (q := 1932) rfl rfl rfl ?_
  refine v_aload_n h (i := 0) dL_law_1932 (q := 1933) rfl rfl rfl ?_
  refine v_iload h dL_law_1933 (q := 1935) rfl rfl ?_
  refine v_iconst h (v := nI 1) dL_law_1935 (q := 1936) rfl (by decide +kernel) ?_
  refine v_iadd h dL_law_1936 (q := 1937) rfl ?_
  refine v_sld h hX hbl hbA (t := 6 * j + 1) (nI_add _ _) (by omega) (by omega) dL_law_1937 (q := 1938) rfl ?_
  refine v_aload_n h (i := 0) dL_law_1938 (q := 1939) rfl rfl rfl ?_
  refine v_iload h dL_law_1939 (q := 1941) rfl rfl ?_
  refine v_iconst h (v := nI 2) dL_law_1941 (q := 1942) rfl (by decide +kernel) ?_
  refine v_iadd h dL_law_1942 (q := 1943) rfl ?_
  refine v_sld h hX hbl hbA (t := 6 * j + 2) (nI_add _ _) (by omega) (by omega) dL_law_1943 (q := 1944) rfl ?_
  refine v_aload_n h (i := 3) dL_law_1944 (q := 1945) rfl rfl rfl ?_
  refine v_callSH h hM kL_firstDay (fun h9 => nomatch h9) tw760 rfl rfl (by simp [Value.category]) (by omega) (by omega) (by omega) rfl dL_law_1945 (q := 1948) rfl ?_ (fun E sz9 sk9 rf9 sg9 hx9 => nomatch (hP _ _ _ _ _ hx9).1)
  intro v1 sz1 sk1 rf1 sg1 hp1
  obtain ⟨e1, d8, w8, sg2, hd8, hPw, hM8, ht, ho, hI2⟩ := hP _ _ _ _ _ hp1
  cases e1
  obtain ⟨nn, B, par, hsk, -⟩ := id hI2
  have hm1 := hsk.2.2.1
  have hO1 := hsk.2.2.2.1
  refine v_istore h dL_law_1948 (q := 1950) rfl (Nat.le_of_ble_eq_true rfl) rfl ?_
  refine v_aload_n h (i := 2) dL_law_1950 (q := 1951) rfl rfl rfl ?_
  refine v_aload_n h (i := 0) dL_law_1951 (q := 1952) rfl rfl rfl ?_
  refine v_iload h dL_law_1952 (q := 1954) rfl rfl ?_
  refine v_iconst h (v := nI 1) dL_law_1954 (q := 1955) rfl (by decide +kernel) ?_
  refine v_iadd h dL_law_1955 (q := 1956) rfl ?_
  refine v_sld h hX hbl hbA (t := 6 * j + 1) (nI_add _ _) (by omega) (by omega) dL_law_1956 (q := 1957) rfl ?_
  refine v_aload_n h (i := 0) dL_law_1957 (q := 1958) rfl rfl rfl ?_
  refine v_iload h dL_law_1958 (q := 1960) rfl rfl ?_
  refine v_iconst h (v := nI 2) dL_law_1960 (q := 1961) rfl (by decide +kernel) ?_
  refine v_iadd h dL_law_1961 (q := 1962) rfl ?_
  refine v_sld h hX hbl hbA (t := 6 * j + 2) (nI_add _ _) (by omega) (by omega) dL_law_1962 (q := 1963) rfl ?_
  refine v_callV1 h hM8 kX8_firstDay tw1163 tw1165 hm1.1 (by decide) rfl rfl rfl (by simp [Value.category]) (by omega) (by omega) (by omega) rfl dL_law_1963 (q := 1966) rfl ?_
  refine v_istore h dL_law_1966 (q := 1968) rfl (Nat.le_of_ble_eq_true rfl) rfl ?_
  refine v_aload_n h (i := 2) dL_law_1968 (q := 1969) rfl rfl rfl ?_
  refine v_callV1 h (c_X8_thrown hfl hm1) kX8_thrown tw911 tw913 hm1.1 (by decide) rfl rfl rfl (by simp [Value.category]) (by omega) (by omega) (by omega) rfl dL_law_1969 (q := 1972) rfl ?_
  refine v_iload h dL_law_1972 (q := 1974) rfl rfl ?_
  refine v_icmp_eq h dL_law_1974 (q := 1977) rfl (tgt := 1979) (by decide) (fun _ => ?_) (fun c9 => absurd ht c9)
  refine v_iload h dL_law_1979 (q := 1981) rfl rfl ?_
  refine v_if_ne h dL_law_1981 (q := 1984) rfl (tgt := 1996) (by decide) (fun _ => ?_) (fun c9 => ?_)
  · refine v_goto h dL_law_1996 (tgt := 2247) (by decide) ?_
    refine v_widen (c2 := cells + 18) (s2 := slots + 400) (by omega) (by omega) ?_
    exact kk _ _ _ _ _ _ hI2
  · have hk0 : k0 = 0 := (nI_eq (by omega) (by omega)).mp c9
    refine v_aload_n h (i := 3) dL_law_1984 (q := 1985) rfl rfl rfl ?_
    refine v_iconst h (v := nI 0) dL_law_1985 (q := 1986) rfl (by decide +kernel) ?_
    refine v_lald h hO1 rfl (by decide) (by decide) dL_law_1986 (q := 1987) rfl ?_
    rw [ho hk0]
    refine v_iload h dL_law_1987 (q := 1989) rfl rfl ?_
    refine v_i2l h dL_law_1989 (q := 1990) rfl ?_
    refine v_lcmp h dL_law_1990 (q := 1991) rfl ?_
    refine v_if_eq h dL_law_1991 (q := 1994) rfl (tgt := 1996) (by decide) (fun _ => ?_) (fun c8 => absurd ((lg_cmp_eq _ _).mpr rfl) c8)
    refine v_goto h dL_law_1996 (tgt := 2247) (by decide) ?_
    refine v_widen (c2 := cells + 18) (s2 := slots + 400) (by omega) (by omega) ?_
    exact kk _ _ _ _ _ _ hI2
set_option maxHeartbeats 4000000 in
set_option maxRecDepth 100000 in
theorem lw_case_27 {F : pb_F} {d k n cells slots sz b N j X : Nat} {sk : pb_Sk} {rf : pb_Rf} {sg : pb_Sg} {xs : Nat → Int32} {v5 v6 : Option Value} (h : pb_Fx F mL_law d k n) (hfl : (pb_l F).stackTraces = false) (hX : va_X b N xs (pb_s F) (pb_s F).heap) (hbl : b < (pb_s F).heap.size) (hbA : ¬ pb_own (pb_g F) b) (hN : N ≤ 3072) (hj : 6 * j + 6 ≤ N) (hd : 30 ≤ d) (hc : cells + 18 ≤ k) (hs : slots + 400 ≤ n) (hI : pq_INV X sz sk rf sg) (kk : ∀ sz' sk' rf' sg' v5' v6', pq_INV X sz' sk' rf' sg' → pv F (cells + 18) (slots + 400) sz' sk' rf' sg' 2247 [some (.ref b), some (.ref X), some (.ref (X + 45)), some (.ref (X + 70)), some (.int (nI (6 * j))), v5', v6'] []) : pv F cells slots sz sk rf sg 1999 [some (.ref b), some (.ref X), some (.ref (X + 45)), some (.ref (X + 70)), some (.int (nI (6 * j))), v5, v6] [] := by
  obtain ⟨k0, kc, nc, post, hk3, hkc, hnc, hM, hP⟩ := pq_st_leftOut hfl hI (xs (6 * j + 1))
  refine v_aload_n h (i := 1) dL_law_1999 (q := 2000) rfl rfl rfl ?_
  refine v_aload_n h (i := 0) dL_law_2000 (q := 2001) rfl rfl rfl ?_
  refine v_iload h dL_law_2001 (q := 2003) rfl rfl ?_
  refine v_iconst h (v := nI 1) dL_law_2003 (q := 2004) rfl (by decide +kernel) ?_
  refine v_iadd h dL_law_2004 (q := 2005) rfl ?_
  refine v_sld h hX hbl hbA (t := 6 * j + 1) (nI_add _ _) (by omega) (by omega) dL_law_2005 (q := 2006) rfl ?_
  refine v_aload_n h (i := 3) dL_law_2006 (q := 2007) rfl rfl rfl ?_
  refine v_callSH h hM kL_leftOut (fun h9 => nomatch h9) tw767 rfl rfl (by simp [Value.category]) (by omega) (by omega) (by omega) rfl dL_law_2007 (q := 2010) rfl ?_ (fun E sz9 sk9 rf9 sg9 hx9 => nomatch (hP _ _ _ _ _ hx9).1)
  intro v1 sz1 sk1 rf1 sg1 hp1
  obtain ⟨e1, d8, w8, sg2, hd8, hPw, hM8, ht, ho, hI2⟩ := hP _ _ _ _ _ hp1
  cases e1
  obtain ⟨nn, B, par, hsk, -⟩ := id hI2
  have hm1 := hsk.2.2.1
  have hO1 := hsk.2.2.2.1
  refine v_istore h dL_law_2010 (q := 2012) rfl (Nat.le_of_ble_eq_true rfl) rfl ?_
  refine v_aload_n h (i := 2) dL_law_2012 (q := 2013) rfl rfl rfl ?_
  refine v_aload_n h (i := 0) dL_law_2013 (q := 2014) rfl rfl rfl ?_
  refine v_iload h dL_law_2014 (q := 2016) rfl rfl ?_
  refine v_iconst h (v := nI 1) dL_law_2016 (q := 2017) rfl (by decide +kernel) ?_
  refine v_iadd h dL_law_2017 (q := 2018) rfl ?_
  refine v_sld h hX hbl hbA (t := 6 * j + 1) (nI_add _ _) (by omega) (by omega) dL_law_2018 (q := 2019) rfl ?_
  refine v_callV1 h hM8 kX8_leftOut tw1167 tw1169 hm1.1 (by decide) rfl rfl rfl (by simp [Value.category]) (by omega) (by omega) (by omega) rfl dL_law_2019 (q := 2022) rfl ?_
  refine v_istore h dL_law_2022 (q := 2024) rfl (Nat.le_of_ble_eq_true rfl) rfl ?_
  refine v_aload_n h (i := 2) dL_law_2024 (q := 2025) rfl rfl rfl ?_
  refine v_callV1 h (c_X8_thrown hfl hm1) kX8_thrown tw911 tw913 hm1.1 (by decide) rfl rfl rfl (by simp [Value.category]) (by omega) (by omega) (by omega) rfl dL_law_2025 (q := 2028) rfl ?_
  refine v_iload h dL_law_2028 (q := 2030) rfl rfl ?_
  refine v_icmp_eq h dL_law_2030 (q := 2033) rfl (tgt := 2035) (by decide) (fun _ => ?_) (fun c9 => absurd ht c9)
  refine v_iload h dL_law_2035 (q := 2037) rfl rfl ?_
  refine v_if_ne h dL_law_2037 (q := 2040) rfl (tgt := 2052) (by decide) (fun _ => ?_) (fun c9 => ?_)
  · refine v_goto h dL_law_2052 (tgt := 2247) (by decide) ?_
    refine v_widen (c2 := cells + 18) (s2 := slots + 400) (by omega) (by omega) ?_
    exact kk _ _ _ _ _ _ hI2
  · have hk0 : k0 = 0 := (nI_eq (by omega) (by omega)).mp c9
    refine v_aload_n h (i := 3) dL_law_2040 (q := 2041) rfl rfl rfl ?_
    refine v_iconst h (v := nI 0) dL_law_2041 (q := 2042) rfl (by decide +kernel) ?_
    refine v_lald h hO1 rfl (by decide) (by decide) dL_law_2042 (q := 2043) rfl ?_
    rw [ho hk0]
    refine v_iload h dL_law_2043 (q := 2045) rfl rfl ?_
    refine v_i2l h dL_law_2045 (q := 2046) rfl ?_
    refine v_lcmp h dL_law_2046 (q := 2047) rfl ?_
    refine v_if_eq h dL_law_2047 (q := 2050) rfl (tgt := 2052) (by decide) (fun _ => ?_) (fun c8 => absurd ((lg_cmp_eq _ _).mpr rfl) c8)
    refine v_goto h dL_law_2052 (tgt := 2247) (by decide) ?_
    refine v_widen (c2 := cells + 18) (s2 := slots + 400) (by omega) (by omega) ?_
    exact kk _ _ _ _ _ _ hI2
