set_option maxHeartbeats 4000000 in
set_option maxRecDepth 100000 in
theorem lw_case_8 {F : pb_F} {d k n cells slots sz b N j X : Nat} {sk : pb_Sk} {rf : pb_Rf} {sg : pb_Sg} {xs : Nat → Int32} {v5 v6 : Option Value} (h : pb_Fx F mL_law d k n) (hfl : (pb_l F).stackTraces = false) (hX : va_X b N xs (pb_s F) (pb_s F).heap) (hbl : b < (pb_s F).heap.size) (hbA : ¬ pb_own (pb_g F) b) (hN : N ≤ 3072) (hj : 6 * j + 6 ≤ N) (hd : 30 ≤ d) (hc : cells + 18 ≤ k) (hs : slots + 400 ≤ n) (hI : pq_INV X sz sk rf sg) (kk : ∀ sz' sk' rf' sg' v5' v6', pq_INV X sz' sk' rf' sg' → pv F (cells + 18) (slots + 400) sz' sk' rf' sg' 2247 [some (.ref b), some (.ref X), some (.ref (X + 45)), some (.ref (X + 70)), some (.int (nI (6 * j))), v5', v6'] []) : pv F cells slots sz sk rf sg 790 [some (.ref b), some (.ref X), some (.ref (X + 45)), some (.ref (X + 70)), some (.int (nI (6 * j))), v5, v6] [] := by
  obtain ⟨k0, kc, nc, post, hk3, hkc, hnc, hM, hP⟩ := pq_st_cost hfl hI (xs (6 * j + 1))
  refine v_aload_n h (i := 1) dL_law_790 (q := 791) rfl rfl rfl ?_
  refine v_aload_n h (i := 0) dL_law_791 (q := 792) rfl rfl rfl ?_
  refine v_iload h dL_law_792 (q := 794) rfl rfl ?_
  refine v_iconst h (v := nI 1) dL_law_794 (q := 795) rfl (by decide +kernel) ?_
  refine v_iadd h dL_law_795 (q := 796) rfl ?_
  refine v_sld h hX hbl hbA (t := 6 * j + 1) (nI_add _ _) (by omega) (by omega) dL_law_796 (q := 797) rfl ?_
  refine v_aload_n h (i := 3) dL_law_797 (q := 798) rfl rfl rfl ?_
  refine v_callSH h hM kL_cost (fun h9 => nomatch h9) tw496 rfl rfl (by simp [Value.category]) (by omega) (by omega) (by omega) rfl dL_law_798 (q := 801) rfl ?_ (fun E sz9 sk9 rf9 sg9 hx9 => nomatch (hP _ _ _ _ _ hx9).1)
  intro v1 sz1 sk1 rf1 sg1 hp1
  obtain ⟨e1, d8, w8, sg2, hd8, hPw, hM8, ht, ho, hI2⟩ := hP _ _ _ _ _ hp1
  cases e1
  obtain ⟨nn, B, par, hsk, -⟩ := id hI2
  have hm1 := hsk.2.2.1
  have hO1 := hsk.2.2.2.1
  refine v_istore h dL_law_801 (q := 803) rfl (Nat.le_of_ble_eq_true rfl) rfl ?_
  refine v_aload_n h (i := 2) dL_law_803 (q := 804) rfl rfl rfl ?_
  refine v_aload_n h (i := 0) dL_law_804 (q := 805) rfl rfl rfl ?_
  refine v_iload h dL_law_805 (q := 807) rfl rfl ?_
  refine v_iconst h (v := nI 1) dL_law_807 (q := 808) rfl (by decide +kernel) ?_
  refine v_iadd h dL_law_808 (q := 809) rfl ?_
  refine v_sld h hX hbl hbA (t := 6 * j + 1) (nI_add _ _) (by omega) (by omega) dL_law_809 (q := 810) rfl ?_
  refine v_callV1 h hM8 kX8_cost tw996 tw998 hm1.1 (by decide) rfl rfl rfl (by simp [Value.category]) (by omega) (by omega) (by omega) rfl dL_law_810 (q := 813) rfl ?_
  refine v_istore h dL_law_813 (q := 815) rfl (Nat.le_of_ble_eq_true rfl) rfl ?_
  refine v_aload_n h (i := 2) dL_law_815 (q := 816) rfl rfl rfl ?_
  refine v_callV1 h (c_X8_thrown hfl hm1) kX8_thrown tw911 tw913 hm1.1 (by decide) rfl rfl rfl (by simp [Value.category]) (by omega) (by omega) (by omega) rfl dL_law_816 (q := 819) rfl ?_
  refine v_iload h dL_law_819 (q := 821) rfl rfl ?_
  refine v_icmp_eq h dL_law_821 (q := 824) rfl (tgt := 826) (by decide) (fun _ => ?_) (fun c9 => absurd ht c9)
  refine v_iload h dL_law_826 (q := 828) rfl rfl ?_
  refine v_if_ne h dL_law_828 (q := 831) rfl (tgt := 843) (by decide) (fun _ => ?_) (fun c9 => ?_)
  · refine v_goto h dL_law_843 (tgt := 2247) (by decide) ?_
    refine v_widen (c2 := cells + 18) (s2 := slots + 400) (by omega) (by omega) ?_
    exact kk _ _ _ _ _ _ hI2
  · have hk0 : k0 = 0 := (nI_eq (by omega) (by omega)).mp c9
    refine v_aload_n h (i := 3) dL_law_831 (q := 832) rfl rfl rfl ?_
    refine v_iconst h (v := nI 0) dL_law_832 (q := 833) rfl (by decide +kernel) ?_
    refine v_lald h hO1 rfl (by decide) (by decide) dL_law_833 (q := 834) rfl ?_
    rw [ho hk0]
    refine v_iload h dL_law_834 (q := 836) rfl rfl ?_
    refine v_i2l h dL_law_836 (q := 837) rfl ?_
    refine v_lcmp h dL_law_837 (q := 838) rfl ?_
    refine v_if_eq h dL_law_838 (q := 841) rfl (tgt := 843) (by decide) (fun _ => ?_) (fun c8 => absurd ((lg_cmp_eq _ _).mpr rfl) c8)
    refine v_goto h dL_law_843 (tgt := 2247) (by decide) ?_
    refine v_widen (c2 := cells + 18) (s2 := slots + 400) (by omega) (by omega) ?_
    exact kk _ _ _ _ _ _ hI2
set_option maxHeartbeats 4000000 in
set_option maxRecDepth 100000 in
theorem lw_case_9 {F : pb_F} {d k n cells slots sz b N j X : Nat} {sk : pb_Sk} {rf : pb_Rf} {sg : pb_Sg} {xs : Nat → Int32} {v5 v6 : Option Value} (h : pb_Fx F mL_law d k n) (hfl : (pb_l F).stackTraces = false) (hX : va_X b N xs (pb_s F) (pb_s F).heap) (hbl : b < (pb_s F).heap.size) (hbA : ¬ pb_own (pb_g F) b) (hN : N ≤ 3072) (hj : 6 * j + 6 ≤ N) (hd : 30 ≤ d) (hc : cells + 18 ≤ k) (hs : slots + 400 ≤ n) (hI : pq_INV X sz sk rf sg) (kk : ∀ sz' sk' rf' sg' v5' v6', pq_INV X sz' sk' rf' sg' → pv F (cells + 18) (slots + 400) sz' sk' rf' sg' 2247 [some (.ref b), some (.ref X), some (.ref (X + 45)), some (.ref (X + 70)), some (.int (nI (6 * j))), v5', v6'] []) : pv F cells slots sz sk rf sg 846 [some (.ref b), some (.ref X), some (.ref (X + 45)), some (.ref (X + 70)), some (.int (nI (6 * j))), v5, v6] [] := by
  obtain ⟨k0, kc, nc, post, hk3, hkc, hnc, hM, hP⟩ := pq_st_begin hfl hI (xs (6 * j + 1))
  refine v_aload_n h (i := 1) dL_law_846 (q := 847) rfl rfl rfl ?_
  refine v_aload_n h (i := 0) dL_law_847 (q := 848) rfl rfl rfl ?_
  refine v_iload h dL_law_848 (q := 850) rfl rfl ?_
  refine v_iconst h (v := nI 1) dL_law_850 (q := 851) rfl (by decide +kernel) ?_
  refine v_iadd h dL_law_851 (q := 852) rfl ?_
  refine v_sld h hX hbl hbA (t := 6 * j + 1) (nI_add _ _) (by omega) (by omega) dL_law_852 (q := 853) rfl ?_
  refine v_aload_n h (i := 3) dL_law_853 (q := 854) rfl rfl rfl ?_
  refine v_callSH h hM kL_begin (fun h9 => nomatch h9) tw507 rfl rfl (by simp [Value.category]) (by omega) (by omega) (by omega) rfl dL_law_854 (q := 857) rfl ?_ (fun E sz9 sk9 rf9 sg9 hx9 => nomatch (hP _ _ _ _ _ hx9).1)
  intro v1 sz1 sk1 rf1 sg1 hp1
  obtain ⟨e1, d8, w8, sg2, hd8, hPw, hM8, ht, ho, hI2⟩ := hP _ _ _ _ _ hp1
  cases e1
  obtain ⟨nn, B, par, hsk, -⟩ := id hI2
  have hm1 := hsk.2.2.1
  have hO1 := hsk.2.2.2.1
  refine v_istore h dL_law_857 (q := 859) rfl (Nat.le_of_ble_eq_true rfl) rfl ?_
  refine v_aload_n h (i := 2) dL_law_859 (q := 860) rfl rfl rfl ?_
  refine v_aload_n h (i := 0) dL_law_860 (q := 861) rfl rfl rfl ?_
  refine v_iload h dL_law_861 (q := 863) rfl rfl ?_
  refine v_iconst h (v := nI 1) dL_law_863 (q := 864) rfl (by decide +kernel) ?_
  refine v_iadd h dL_law_864 (q := 865) rfl ?_
  refine v_sld h hX hbl hbA (t := 6 * j + 1) (nI_add _ _) (by omega) (by omega) dL_law_865 (q := 866) rfl ?_
  refine v_callV1 h hM8 kX8_begin tw1004 tw1006 hm1.1 (by decide) rfl rfl rfl (by simp [Value.category]) (by omega) (by omega) (by omega) rfl dL_law_866 (q := 869) rfl ?_
  refine v_istore h dL_law_869 (q := 871) rfl (Nat.le_of_ble_eq_true rfl) rfl ?_
  refine v_aload_n h (i := 2) dL_law_871 (q := 872) rfl rfl rfl ?_
  refine v_callV1 h (c_X8_thrown hfl hm1) kX8_thrown tw911 tw913 hm1.1 (by decide) rfl rfl rfl (by simp [Value.category]) (by omega) (by omega) (by omega) rfl dL_law_872 (q := 875) rfl ?_
  refine v_iload h dL_law_875 (q := 877) rfl rfl ?_
  refine v_icmp_eq h dL_law_877 (q := 880) rfl (tgt := 882) (by decide) (fun _ => ?_) (fun c9 => absurd ht c9)
  refine v_iload h dL_law_882 (q := 884) rfl rfl ?_
  refine v_if_ne h dL_law_884 (q := 887) rfl (tgt := 899) (by decide) (fun _ => ?_) (fun c9 => ?_)
  · refine v_goto h dL_law_899 (tgt := 2247) (by decide) ?_
    refine v_widen (c2 := cells + 18) (s2 := slots + 400) (by omega) (by omega) ?_
    exact kk _ _ _ _ _ _ hI2
  · have hk0 : k0 = 0 := (nI_eq (by omega) (by omega)).mp c9
    refine v_aload_n h (i := 3) dL_law_887 (q := 888) rfl rfl rfl ?_
    refine v_iconst h (v := nI 0) dL_law_888 (q := 889) rfl (by decide +kernel) ?_
    refine v_lald h hO1 rfl (by decide) (by decide) dL_law_889 (q := 890) rfl ?_
    rw [ho hk0]
    refine v_iload h dL_law_890 (q := 892) rfl rfl ?_
    refine v_i2l h dL_law_892 (q := 893) rfl ?_
    refine v_lcmp h dL_law_893 (q := 894) rfl ?_
    refine v_if_eq h dL_law_894 (q := 897) rfl (tgt := 899) (by decide) (fun _ => ?_) (fun c8 => absurd ((lg_cmp_eq _ _).mpr rfl) c8)
    refine v_goto h dL_law_899 (tgt := 2247) (by decide) ?_
    refine v_widen (c2 := cells + 18) (s2 := slots + 400) (by omega) (by omega) ?_
    exact kk _ _ _ _ _ _ hI2
set_option maxHeartbeats 4000000 in
set_option maxRecDepth 100000 in
theorem lw_case_10 {F : pb_F} {d k n cells slots sz b N j X : Nat} {sk : pb_Sk} {rf : pb_Rf} {sg : pb_Sg} {xs : Nat → Int32} {v5 v6 : Option Value} (h : pb_Fx F mL_law d k n) (hfl : (pb_l F).stackTraces = false) (hX : va_X b N xs (pb_s F) (pb_s F).heap) (hbl : b < (pb_s F).heap.size) (hbA : ¬ pb_own (pb_g F) b) (hN : N ≤ 3072) (hj : 6 * j + 6 ≤ N) (hd : 30 ≤ d) (hc : cells + 18 ≤ k) (hs : slots + 400 ≤ n) (hI : pq_INV X sz sk rf sg) (kk : ∀ sz' sk' rf' sg' v5' v6', pq_INV X sz' sk' rf' sg' → pv F (cells + 18) (slots + 400) sz' sk' rf' sg' 2247 [some (.ref b), some (.ref X), some (.ref (X + 45)), some (.ref (X + 70)), some (.int (nI (6 * j))), v5', v6'] []) : pv F cells slots sz sk rf sg 902 [some (.ref b), some (.ref X), some (.ref (X + 45)), some (.ref (X + 70)), some (.int (nI (6 * j))), v5, v6] [] := by
  obtain ⟨nn, B, par, hsk, hinv⟩ := id hI
  obtain ⟨hX7, hl7, hm1, hO1, hz1, hB1⟩ := id hsk
  refine v_aload_n h (i := 1) dL_law_902 (q := 903) rfl rfl rfl ?_
  refine v_callV1 h (c_X7_branches hfl hX7) kX7_branches tw279 tw281 hX7.1 (by decide) rfl rfl rfl (by simp [Value.category]) (by omega) (by omega) (by omega) rfl dL_law_903 (q := 906) rfl ?_
  refine v_aload_n h (i := 2) dL_law_906 (q := 907) rfl rfl rfl ?_
  refine v_callV1 h (c_X8_branches hfl hm1) kX8_branches tw1020 tw1022 hm1.1 (by decide) rfl rfl rfl (by simp [Value.category]) (by omega) (by omega) (by omega) rfl dL_law_907 (q := 910) rfl ?_
  have hM := pq_up_M (x := nI 0) hinv
  refine v_icmp_eq h dL_law_910 (q := 913) rfl (tgt := 2247) (by decide) (fun _ => ?_) (fun c9 => absurd (hinv.1.1.trans hM.1.2.1.symm) c9)
  refine v_widen (c2 := cells + 18) (s2 := slots + 400) (by omega) (by omega) ?_
  exact kk _ _ _ _ _ _ ⟨nn, B, par, hsk, pq_fin hM (fun c hc => pq_bl hsk hc) (fun a ha => pb_up_neA (by omega))⟩
set_option maxHeartbeats 4000000 in
set_option maxRecDepth 100000 in
theorem lw_case_11 {F : pb_F} {d k n cells slots sz b N j X : Nat} {sk : pb_Sk} {rf : pb_Rf} {sg : pb_Sg} {xs : Nat → Int32} {v5 v6 : Option Value} (h : pb_Fx F mL_law d k n) (hfl : (pb_l F).stackTraces = false) (hX : va_X b N xs (pb_s F) (pb_s F).heap) (hbl : b < (pb_s F).heap.size) (hbA : ¬ pb_own (pb_g F) b) (hN : N ≤ 3072) (hj : 6 * j + 6 ≤ N) (hd : 30 ≤ d) (hc : cells + 18 ≤ k) (hs : slots + 400 ≤ n) (hI : pq_INV X sz sk rf sg) (kk : ∀ sz' sk' rf' sg' v5' v6', pq_INV X sz' sk' rf' sg' → pv F (cells + 18) (slots + 400) sz' sk' rf' sg' 2247 [some (.ref b), some (.ref X), some (.ref (X + 45)), some (.ref (X + 70)), some (.int (nI (6 * j))), v5', v6'] []) : pv F cells slots sz sk rf sg 915 [some (.ref b), some (.ref X), some (.ref (X + 45)), some (.ref (X + 70)), some (.int (nI (6 * j))), v5, v6] [] := by
  obtain ⟨k0, kc, nc, post, hk3, hkc, hnc, hM, hP⟩ := pq_st_parent hfl hI (xs (6 * j + 1))
  refine v_aload_n h (i := 1) dL_law_915 (q := 916) rfl rfl rfl ?_
  refine v_aload_n h (i := 0) dL_law_916 (q := 917) rfl rfl rfl ?_
  refine v_iload h dL_law_917 (q := 919) rfl rfl ?_
  refine v_iconst h (v := nI 1) dL_law_919 (q := 920) rfl (by decide +kernel) ?_
  refine v_iadd h dL_law_920 (q := 921) rfl ?_
  refine v_sld h hX hbl hbA (t := 6 * j + 1) (nI_add _ _) (by omega) (by omega) dL_law_921 (q := 922) rfl ?_
  refine v_aload_n h (i := 3) dL_law_922 (q := 923) rfl rfl rfl ?_
  refine v_callSH h hM kL_parent (fun h9 => nomatch h9) tw527 rfl rfl (by simp [Value.category]) (by omega) (by omega) (by omega) rfl dL_law_923 (q := 926) rfl ?_ (fun E sz9 sk9 rf9 sg9 hx9 => nomatch (hP _ _ _ _ _ hx9).1)
  intro v1 sz1 sk1 rf1 sg1 hp1
  obtain ⟨e1, d8, w8, sg2, hd8, hPw, hM8, ht, ho, hI2⟩ := hP _ _ _ _ _ hp1
  cases e1
  obtain ⟨nn, B, par, hsk, -⟩ := id hI2
  have hm1 := hsk.2.2.1
  have hO1 := hsk.2.2.2.1
  refine v_istore h dL_law_926 (q := 928) rfl (Nat.le_of_ble_eq_true rfl) rfl ?_
  refine v_aload_n h (i := 2) dL_law_928 (q := 929) rfl rfl rfl ?_
  refine v_aload_n h (i := 0) dL_law_929 (q := 930) rfl rfl rfl ?_
  refine v_iload h dL_law_930 (q := 932) rfl rfl ?_
  refine v_iconst h (v := nI 1) dL_law_932 (q := 933) rfl (by decide +kernel) ?_
  refine v_iadd h dL_law_933 (q := 934) rfl ?_
  refine v_sld h hX hbl hbA (t := 6 * j + 1) (nI_add _ _) (by omega) (by omega) dL_law_934 (q := 935) rfl ?_
  refine v_callV1 h hM8 kX8_parent tw1024 tw1026 hm1.1 (by decide) rfl rfl rfl (by simp [Value.category]) (by omega) (by omega) (by omega) rfl dL_law_935 (q := 938) rfl ?_
  refine v_istore h dL_law_938 (q := 940) rfl (Nat.le_of_ble_eq_true rfl) rfl ?_
  refine v_aload_n h (i := 2) dL_law_940 (q := 941) rfl rfl rfl ?_
  refine v_callV1 h (c_X8_thrown hfl hm1) kX8_thrown tw911 tw913 hm1.1 (by decide) rfl rfl rfl (by simp [Value.category]) (by omega) (by omega) (by omega) rfl dL_law_941 (q := 944) rfl ?_
  refine v_iload h dL_law_944 (q := 946) rfl rfl ?_
  refine v_icmp_eq h dL_law_946 (q := 949) rfl (tgt := 951) (by decide) (fun _ => ?_) (fun c9 => absurd ht c9)
  refine v_iload h dL_law_951 (q := 953) rfl rfl ?_
  refine v_if_ne h dL_law_953 (q := 956) rfl (tgt := 968) (by decide) (fun _ => ?_) (fun c9 => ?_)
  · refine v_goto h dL_law_968 (tgt := 2247) (by decide) ?_
    refine v_widen (c2 := cells + 18) (s2 := slots + 400) (by omega) (by omega) ?_
    exact kk _ _ _ _ _ _ hI2
  · have hk0 : k0 = 0 := (nI_eq (by omega) (by omega)).mp c9
    refine v_aload_n h (i := 3) dL_law_956 (q := 957) rfl rfl rfl ?_
    refine v_iconst h (v := nI 0) dL_law_957 (q := 958) rfl (by decide +kernel) ?_
    refine v_lald h hO1 rfl (by decide) (by decide) dL_law_958 (q := 959) rfl ?_
    rw [ho hk0]
    refine v_iload h dL_law_959 (q := 961) rfl rfl ?_
    refine v_i2l h dL_law_961 (q := 962) rfl ?_
    refine v_lcmp h dL_law_962 (q := 963) rfl ?_
    refine v_if_eq h dL_law_963 (q := 966) rfl (tgt := 968) (by decide) (fun _ => ?_) (fun c8 => absurd ((lg_cmp_eq _ _).mpr rfl) c8)
    refine v_goto h dL_law_968 (tgt := 2247) (by decide) ?_
    refine v_widen (c2 := cells + 18) (s2 := slots + 400) (by omega) (by omega) ?_
    exact kk _ _ _ _ _ _ hI2
