/-! The law's loop: the invariant holds at each call. -/
theorem pq_and31 (x : Int32) : ∃ c, c < 32 ∧ x &&& nI 31 = nI c := by
  have hU : x = nI x.toBitVec.toNat := by
    apply Int32.toBitVec_inj.mp
    show x.toBitVec = BitVec.ofNat 32 x.toBitVec.toNat
    rw [BitVec.ofNat_toNat, BitVec.setWidth_eq]
  refine ⟨x.toBitVec.toNat &&& 31, ?_, ?_⟩
  · have h : (x.toBitVec.toNat &&& 31) ≤ 31 := Nat.and_le_right
    omega
  · have h := pq_and x.toBitVec.toNat 31
    rw [← hU] at h
    exact h
theorem pq_lo6 : ∀ N, N < 6 → nI N - nI 6 < nI 0 := by decide +kernel
theorem pq_go6 {N j : Nat} (hN : N ≤ 3072) (hj : 6 * j ≤ 4000) : nI N - nI 6 < nI (6 * j) ↔ ¬ 6 * j + 6 ≤ N := by
  by_cases e : N < 6
  · exact ⟨fun _ => by omega, fun _ => Int32.lt_of_lt_of_le (pq_lo6 N e) (nI_le (by omega) (by omega))⟩
  · rw [pb_subn (show 6 ≤ N by omega), nI_ltI (by omega) (by omega)]
    omega
set_option maxHeartbeats 4000000 in
set_option maxRecDepth 100000 in
/-- one round: from the switch to the loop's end -/
theorem lw_round {F : pb_F} {d k n cells slots sz b N j X : Nat} {sk : pb_Sk} {rf : pb_Rf} {sg : pb_Sg} {xs : Nat → Int32} {v5 v6 : Option Value} (h : pb_Fx F mL_law d k n) (hfl : (pb_l F).stackTraces = false) (hX : va_X b N xs (pb_s F) (pb_s F).heap) (hbl : b < (pb_s F).heap.size) (hbA : ¬ pb_own (pb_g F) b) (hN : N ≤ 3072) (hj : 6 * j + 6 ≤ N) (hd : 30 ≤ d) (hc : cells + 18 ≤ k) (hs : slots + 400 ≤ n) (hI : pq_INV X sz sk rf sg) (kk : ∀ sz' sk' rf' sg' v5' v6', pq_INV X sz' sk' rf' sg' → pv F (cells + 18) (slots + 400) sz' sk' rf' sg' 2247 [some (.ref b), some (.ref X), some (.ref (X + 45)), some (.ref (X + 70)), some (.int (nI (6 * j))), v5', v6'] []) {c : Nat} (hc32 : c < 32) : pv F cells slots sz sk rf sg 40 [some (.ref b), some (.ref X), some (.ref (X + 45)), some (.ref (X + 70)), some (.int (nI (6 * j))), v5, v6] [.int (nI c)] := by
  have hc2 : c = 0 ∨ c = 1 ∨ c = 2 ∨ c = 3 ∨ c = 4 ∨ c = 5 ∨ c = 6 ∨ c = 7 ∨ c = 8 ∨ c = 9 ∨ c = 10 ∨ c = 11 ∨ c = 12 ∨ c = 13 ∨ c = 14 ∨ c = 15 ∨ c = 16 ∨ c = 17 ∨ c = 18 ∨ c = 19 ∨ c = 20 ∨ c = 21 ∨ c = 22 ∨ c = 23 ∨ c = 24 ∨ c = 25 ∨ c = 26 ∨ c = 27 ∨ c = 28 ∨ c = 29 ∨ c = 30 ∨ c = 31 := by omega
  rcases hc2 with rfl | rfl | rfl | rfl | rfl | rfl | rfl | rfl | rfl | rfl | rfl | rfl | rfl | rfl | rfl | rfl | rfl | rfl | rfl | rfl | rfl | rfl | rfl | rfl | rfl | rfl | rfl | rfl | rfl | rfl | rfl | rfl
  · exact v_tabIn h dL_law_40 (off := 140) (tgt := 180) (by decide) (by decide) (by decide) (by decide) (lw_case_0 h hfl hX hbl hbA hN hj hd hc hs hI kk)
  · exact v_tabIn h dL_law_40 (off := 251) (tgt := 291) (by decide) (by decide) (by decide) (by decide) (lw_case_1 h hfl hX hbl hbA hN hj hd hc hs hI kk)
  · exact v_tabIn h dL_law_40 (off := 319) (tgt := 359) (by decide) (by decide) (by decide) (by decide) (lw_case_2 h hfl hX hbl hbA hN hj hd hc hs hI kk)
  · exact v_tabIn h dL_law_40 (off := 434) (tgt := 474) (by decide) (by decide) (by decide) (by decide) (lw_case_3 h hfl hX hbl hbA hN hj hd hc hs hI kk)
  · exact v_tabIn h dL_law_40 (off := 490) (tgt := 530) (by decide) (by decide) (by decide) (by decide) (lw_case_4 h hfl hX hbl hbA hN hj hd hc hs hI kk)
  · exact v_tabIn h dL_law_40 (off := 546) (tgt := 586) (by decide) (by decide) (by decide) (by decide) (lw_case_5 h hfl hX hbl hbA hN hj hd hc hs hI kk)
  · exact v_tabIn h dL_law_40 (off := 614) (tgt := 654) (by decide) (by decide) (by decide) (by decide) (lw_case_6 h hfl hX hbl hbA hN hj hd hc hs hI kk)
  · exact v_tabIn h dL_law_40 (off := 682) (tgt := 722) (by decide) (by decide) (by decide) (by decide) (lw_case_7 h hfl hX hbl hbA hN hj hd hc hs hI kk)
  · exact v_tabIn h dL_law_40 (off := 750) (tgt := 790) (by decide) (by decide) (by decide) (by decide) (lw_case_8 h hfl hX hbl hbA hN hj hd hc hs hI kk)
  · exact v_tabIn h dL_law_40 (off := 806) (tgt := 846) (by decide) (by decide) (by decide) (by decide) (lw_case_9 h hfl hX hbl hbA hN hj hd hc hs hI kk)
  · exact v_tabIn h dL_law_40 (off := 862) (tgt := 902) (by decide) (by decide) (by decide) (by decide) (lw_case_10 h hfl hX hbl hbA hN hj hd hc hs hI kk)
  · exact v_tabIn h dL_law_40 (off := 875) (tgt := 915) (by decide) (by decide) (by decide) (by decide) (lw_case_11 h hfl hX hbl hbA hN hj hd hc hs hI kk)
  · exact v_tabIn h dL_law_40 (off := 931) (tgt := 971) (by decide) (by decide) (by decide) (by decide) (lw_case_12 h hfl hX hbl hbA hN hj hd hc hs hI kk)
  · exact v_tabIn h dL_law_40 (off := 999) (tgt := 1039) (by decide) (by decide) (by decide) (by decide) (lw_case_13 h hfl hX hbl hbA hN hj hd hc hs hI kk)
  · exact v_tabIn h dL_law_40 (off := 1079) (tgt := 1119) (by decide) (by decide) (by decide) (by decide) (lw_case_14 h hfl hX hbl hbA hN hj hd hc hs hI kk)
  · exact v_tabIn h dL_law_40 (off := 1135) (tgt := 1175) (by decide) (by decide) (by decide) (by decide) (lw_case_15 h hfl hX hbl hbA hN hj hd hc hs hI kk)
  · exact v_tabIn h dL_law_40 (off := 1219) (tgt := 1259) (by decide) (by decide) (by decide) (by decide) (lw_case_16 h hfl hX hbl hbA hN hj hd hc hs hI kk)
  · exact v_tabIn h dL_law_40 (off := 1303) (tgt := 1343) (by decide) (by decide) (by decide) (by decide) (lw_case_17 h hfl hX hbl hbA hN hj hd hc hs hI kk)
  · exact v_tabIn h dL_law_40 (off := 1359) (tgt := 1399) (by decide) (by decide) (by decide) (by decide) (lw_case_18 h hfl hX hbl hbA hN hj hd hc hs hI kk)
  · exact v_tabIn h dL_law_40 (off := 1415) (tgt := 1455) (by decide) (by decide) (by decide) (by decide) (lw_case_19 h hfl hX hbl hbA hN hj hd hc hs hI kk)
  · exact v_tabIn h dL_law_40 (off := 1483) (tgt := 1523) (by decide) (by decide) (by decide) (by decide) (lw_case_20 h hfl hX hbl hbA hN hj hd hc hs hI kk)
  · exact v_tabIn h dL_law_40 (off := 1575) (tgt := 1615) (by decide) (by decide) (by decide) (by decide) (lw_case_21 h hfl hX hbl hbA hN hj hd hc hs hI kk)
  · exact v_tabIn h dL_law_40 (off := 1643) (tgt := 1683) (by decide) (by decide) (by decide) (by decide) (lw_case_22 h hfl hX hbl hbA hN hj hd hc hs hI kk)
  · exact v_tabIn h dL_law_40 (off := 1711) (tgt := 1751) (by decide) (by decide) (by decide) (by decide) (lw_case_23 h hfl hX hbl hbA hN hj hd hc hs hI kk)
  · exact v_tabIn h dL_law_40 (off := 1779) (tgt := 1819) (by decide) (by decide) (by decide) (by decide) (lw_case_24 h hfl hX hbl hbA hN hj hd hc hs hI kk)
  · exact v_tabIn h dL_law_40 (off := 1835) (tgt := 1875) (by decide) (by decide) (by decide) (by decide) (lw_case_25 h hfl hX hbl hbA hN hj hd hc hs hI kk)
  · exact v_tabIn h dL_law_40 (off := 1891) (tgt := 1931) (by decide) (by decide) (by decide) (by decide) (lw_case_26 h hfl hX hbl hbA hN hj hd hc hs hI kk)
  · exact v_tabIn h dL_law_40 (off := 1959) (tgt := 1999) (by decide) (by decide) (by decide) (by decide) (lw_case_27 h hfl hX hbl hbA hN hj hd hc hs hI kk)
  · exact v_tabIn h dL_law_40 (off := 2015) (tgt := 2055) (by decide) (by decide) (by decide) (by decide) (lw_case_28 h hfl hX hbl hbA hN hj hd hc hs hI kk)
  · exact v_tabIn h dL_law_40 (off := 2071) (tgt := 2111) (by decide) (by decide) (by decide) (by decide) (lw_case_29 h hfl hX hbl hbA hN hj hd hc hs hI kk)
  · exact v_tabIn h dL_law_40 (off := 2127) (tgt := 2167) (by decide) (by decide) (by decide) (by decide) (lw_case_30 h hfl hX hbl hbA hN hj hd hc hs hI kk)
  · exact v_tabOut h dL_law_40 (tgt := 2247) (by decide) (by decide) (v_widen (c2 := cells + 18) (s2 := slots + 400) (by omega) (by omega) (kk _ _ _ _ _ _ hI))
set_option maxHeartbeats 4000000 in
set_option maxRecDepth 100000 in
theorem lw_loop {F : pb_F} {d k n b N X : Nat} {xs : Nat → Int32} (h : pb_Fx F mL_law d k n) (hfl : (pb_l F).stackTraces = false) (hX : va_X b N xs (pb_s F) (pb_s F).heap) (hbl : b < (pb_s F).heap.size) (hbA : ¬ pb_own (pb_g F) b) (hN : N ≤ 3072) (hd : 30 ≤ d) (kend : ∀ cells slots sz sk rf sg (L : List (Option Value)), cells ≤ k → slots ≤ n → pv F cells slots sz sk rf sg 2254 L [.int (nI 1)]) : ∀ (r j : Nat) {cells slots sz : Nat} {sk : pb_Sk} {rf : pb_Rf} {sg : pb_Sg} {v5 v6 : Option Value}, 6 * j ≤ N + 6 → N < 6 * (j + r) + 6 → cells + 18 * r ≤ k → slots + 400 * r ≤ n → pq_INV X sz sk rf sg → pv F cells slots sz sk rf sg 23 [some (.ref b), some (.ref X), some (.ref (X + 45)), some (.ref (X + 70)), some (.int (nI (6 * j))), v5, v6] [] := by
  intro r
  induction r with
  | zero =>
    intro j cells slots sz sk rf sg v5 v6 hj1 hj2 hc hs hI
    refine v_iload h dL_law_23 (q := 25) rfl rfl ?_
    refine v_aload_n h (i := 0) dL_law_25 (q := 26) rfl rfl rfl ?_
    refine v_slen h hX hbl hbA dL_law_26 (q := 27) rfl ?_
    refine v_bipush h (v := nI 6) dL_law_27 (q := 29) rfl (by decide +kernel) ?_
    refine v_isub h dL_law_29 (q := 30) rfl ?_
    refine v_icmp_gt h dL_law_30 (q := 33) rfl (tgt := 2253) (by decide) (fun _ => ?_) (fun c9 => absurd ((pq_go6 hN (by omega)).mpr (by omega)) c9)
    refine v_iconst h (v := nI 1) dL_law_2253 (q := 2254) rfl (by decide +kernel) ?_
    exact kend _ _ _ _ _ _ _ (by omega) (by omega)
  | succ r ih =>
    intro j cells slots sz sk rf sg v5 v6 hj1 hj2 hc hs hI
    refine v_iload h dL_law_23 (q := 25) rfl rfl ?_
    refine v_aload_n h (i := 0) dL_law_25 (q := 26) rfl rfl rfl ?_
    refine v_slen h hX hbl hbA dL_law_26 (q := 27) rfl ?_
    refine v_bipush h (v := nI 6) dL_law_27 (q := 29) rfl (by decide +kernel) ?_
    refine v_isub h dL_law_29 (q := 30) rfl ?_
    refine v_icmp_gt h dL_law_30 (q := 33) rfl (tgt := 2253) (by decide) (fun _ => ?_) (fun c9 => ?_)
    · refine v_iconst h (v := nI 1) dL_law_2253 (q := 2254) rfl (by decide +kernel) ?_
      exact kend _ _ _ _ _ _ _ (by omega) (by omega)
    · have hj6 : 6 * j + 6 ≤ N := by
        apply Classical.byContradiction
        intro q
        exact c9 ((pq_go6 hN (by omega)).mpr q)
      refine v_aload_n h (i := 0) dL_law_33 (q := 34) rfl rfl rfl ?_
      refine v_iload h dL_law_34 (q := 36) rfl rfl ?_
      refine v_sld h hX hbl hbA (t := 6 * j) rfl (by omega) (by omega) dL_law_36 (q := 37) rfl ?_
      refine v_bipush h (v := nI 31) dL_law_37 (q := 39) rfl (by decide +kernel) ?_
      refine v_iand h dL_law_39 (q := 40) rfl ?_
      obtain ⟨c, hc32, ec⟩ := pq_and31 (xs (6 * j))
      rw [ec]
      refine lw_round h hfl hX hbl hbA hN hj6 hd (by omega) (by omega) hI (fun sz9 sk9 rf9 sg9 w5 w6 hI9 => ?_) hc32
      refine v_iinc h dL_law_2247 (q := 2250) (v := nI (6 * (j + 1))) rfl rfl (by
        show nI (6 * j) + nI 6 = nI (6 * (j + 1))
        rw [nI_add]
        congr 1) rfl ?_
      refine v_goto h dL_law_2250 (tgt := 23) (by decide) ?_
      exact ih (j + 1) (by omega) (by omega) (by omega) (by omega) hI9
