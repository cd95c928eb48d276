def pb_ad (f : Nat → Nat) (n v : Nat) : Nat → Nat := fun k => if k = n then v else f k
theorem pb_ad_eq {f : Nat → Nat} {n v : Nat} : pb_ad f n v n = v := if_pos rfl
theorem pb_ad_ne {f : Nat → Nat} {n v k : Nat} (h : k ≠ n) : pb_ad f n v k = f k := if_neg h
theorem pb_sys.of {sk sk' : pb_Sk} {rf rf' : pb_Rf} {X n sz : Nat} {B par : Nat → Nat} (h : pb_sys sk rf X B par n) (hz : X + 45 ≤ sz) (hB : ∀ b, b < n → B b + 18 ≤ sz) (h1 : ∀ a, a < sz → sk' a = sk a ∧ rf' a = rf a) : pb_sys sk' rf' X B par n := by
  obtain ⟨hX0, hX1, hX2, hX3, hX4, hX5, hX6, hXc, hXj, hXw, hXs, hXn, hXb, hXe, hXr, hXp⟩ := h
  have e := h1 X (by omega)
  have e1 := h1 (X + 1) (by omega)
  have eB : ∀ b, b < n → sk' (B b) = sk (B b) ∧ rf' (B b) = rf (B b) := fun b hb => h1 _ (by have := hB b hb; omega)
  refine ⟨by rw [e.1]; exact hX0, by rw [e.2]; exact hX1, by rw [e.2]; exact hX2, by rw [e.2]; exact hX3, by rw [e.2]; exact hX4, by rw [e.2]; exact hX5, by rw [e1.1]; exact hX6, hXc.of (fun a h2 h3 => h1 a (by omega)), hXj.of (fun a h2 h3 => h1 a (by omega)), hXw.of (fun a h2 h3 => h1 a (by omega)), hXs.of (fun a h2 h3 => h1 a (by omega)), hXn, fun b hb => ⟨by rw [e1.2]; exact (hXb b hb).1, (hXb b hb).2.of (fun a h2 h3 => h1 a (by have := hB b hb; omega))⟩, fun b h2 h3 => by rw [e1.2]; exact hXe b h2 h3, by rw [(eB 0 (by omega)).2]; exact hXr, fun b h2 h3 => ⟨by rw [(eB b h3).2]; exact (hXp b h2 h3).1, (hXp b h2 h3).2⟩⟩
theorem pb_sys_ad {sk : pb_Sk} {rf : pb_Rf} {X n b q : Nat} {B par : Nat → Nat} (h : pb_sys sk rf X B par n) (hl : pb_lyt X B n) (hq : X + 45 ≤ q) (hbr : pb_br sk rf q) (hfr : rf q 1 = some (B b)) (hb : b < n) (hn : n < 8) : pb_sys sk (pb_ur rf (X + 1) n (some q)) X (pb_ad B n q) (pb_ad par n b) (n + 1) := by
  obtain ⟨hX0, hX1, hX2, hX3, hX4, hX5, hX6, hXc, hXj, hXw, hXs, hXn, hXb, hXe, hXr, hXp⟩ := h
  have hB : ∀ b, b < n → X + 2 ≤ B b := fun b hb => by
    rcases Nat.eq_zero_or_pos b with e | e
    · subst e; have := hl.1; omega
    · have := hl.2.1 b e hb; omega
  have ne : ∀ a, a ≠ X + 1 → pb_ur rf (X + 1) n (some q) a = rf a := fun a ha => pb_ur_ne ha
  refine ⟨hX0, by rw [ne _ (by omega)]; exact hX1, by rw [ne _ (by omega)]; exact hX2, by rw [ne _ (by omega)]; exact hX3, by rw [ne _ (by omega)]; exact hX4, by rw [ne _ (by omega)]; exact hX5, hX6, hXc.of (fun a h2 h3 => ⟨rfl, ne _ (by omega)⟩), hXj.of (fun a h2 h3 => ⟨rfl, ne _ (by omega)⟩), hXw.of (fun a h2 h3 => ⟨rfl, ne _ (by omega)⟩), hXs.of (fun a h2 h3 => ⟨rfl, ne _ (by omega)⟩), ⟨by omega, by omega⟩, ?_, ?_, ?_, ?_⟩
  · intro c hc
    by_cases e : c = n
    · subst e
      rw [pb_ad_eq]
      exact ⟨by rw [pb_ur_eq]; exact if_pos rfl, hbr.of (fun a h2 h3 => ⟨rfl, ne _ (by omega)⟩)⟩
    · rw [pb_ad_ne e]
      have h3 := hXb c (by omega)
      have h4 := hB c (by omega)
      exact ⟨by rw [pb_ur_eq]; exact (if_neg e).trans h3.1, h3.2.of (fun a h2 h3 => ⟨rfl, ne _ (by omega)⟩)⟩
  · intro c h2 h3
    rw [pb_ur_eq]
    exact (if_neg (by omega)).trans (hXe c (by omega) h3)
  · rw [pb_ad_ne (by omega), ne _ (by have := hB 0 (by omega); omega)]
    exact hXr
  · intro c h2 h3
    by_cases e : c = n
    · subst e
      rw [pb_ad_eq, pb_ad_eq, pb_ad_ne (by omega), ne _ (by omega)]
      exact ⟨hfr, hb⟩
    · rw [pb_ad_ne e, pb_ad_ne e]
      have h4 := hXp c h2 (by omega)
      rw [pb_ad_ne (by omega), ne _ (by have := hB c (by omega); omega)]
      exact h4
theorem pb_lyt_ad {X n q : Nat} {B : Nat → Nat} (hl : pb_lyt X B n) (hq : X + 45 ≤ q) (hB : ∀ b, b < n → B b + 18 ≤ q) (hn : 1 ≤ n) : pb_lyt X (pb_ad B n q) (n + 1) := by
  refine ⟨by rw [pb_ad_ne (by omega)]; exact hl.1, fun b h1 h2 => ?_, fun b c h1 h2 h3 => ?_⟩
  · by_cases e : b = n
    · subst e; rw [pb_ad_eq]; exact hq
    · rw [pb_ad_ne e]; exact hl.2.1 b h1 (by omega)
  · rw [pb_ad_ne (show b ≠ n by omega)]
    by_cases e : c = n
    · subst e; rw [pb_ad_eq]; exact hB b (by omega)
    · rw [pb_ad_ne e]; exact hl.2.2 b c h1 h2 (by omega)
/-- what 'begin' leaves: the new branch at q, number n, from b -/
def pb_bgM (sg : pb_Sg) (X q b n : Nat) : pb_Sg := pb_up (pb_up (pb_copyN (pb_copyN sg (q + 1) (b + 1) 16) (q + 6) (b + 1) 16) (b + 11) 6 (nI 0)) X 1 (nI n + nI 1)
def pb_bgP (X n b q : Nat) (B par : Nat → Nat) (sk : pb_Sk) (rf : pb_Rf) (sg : pb_Sg) (sk' : pb_Sk) (rf' : pb_Rf) (sg' : pb_Sg) : Prop := pb_sys sk' rf' X (pb_ad B n q) (pb_ad par n b) (n + 1) ∧ (∀ a, a < q → sk' a = sk a) ∧ (∀ a, a < q → a ≠ X + 1 → rf' a = rf a) ∧ ∃ sg1, pb_bgM sg1 X q (B b) n = sg' ∧ (∀ a, a < q → sg1 a = sg a) ∧ sg1 q 0 = nI n ∧ sg1 q 6 = 1000000 ∧ sg1 (q + 11) 5 = 0 ∧ sg1 (q + 11) 6 = 0 ∧ (∀ t, t < 16 → sg1 (q + 17) t = -1)
set_option maxHeartbeats 4000000 in
set_option maxRecDepth 100000 in
theorem c_X7_begin {l : Launch} (hfl : l.stackTraces = false) {sz : Nat} {sk : pb_Sk} {rf : pb_Rf} {sg : pb_Sg} {X n : Nat} {B par : Nat → Nat} (hX : pb_sys sk rf X B par n) (hl : pb_lyt X B n) (hz : X + 45 ≤ sz) (hB : ∀ b, b < n → B b + 18 ≤ sz) {b : Nat} (hb : b < n) (hn1 : sg X 1 = nI n) (hn8 : n < 8) : pb_Met l mX7_begin 7 18 400 [.ref X, .int (nI b)] sz sk rf sg (fun r sz9 sk9 rf9 sg9 => r = .inl (some (.int (nI n))) ∧ sz9 = sz + 18 ∧ pb_bgP X n b sz B par sk rf sg sk9 rf9 sg9) := by
  refine pb_start hfl (by decide +kernel) rfl (pb_c1 rfl) (Nat.le_of_ble_eq_true rfl) (fun F hF h hQ => ?_)
  subst hF
  show pv F 0 0 sz sk rf sg 0 [some (.ref X), some (.int (nI b)), none, none, none] []
  obtain ⟨hX0, hX1, hX2, hX3, hX4, hX5, hX6, hXc, hXj, hXw, hXs, hXn, hXb, hXe, hXr, hXp⟩ := id hX
  refine v_aload_n h (i := 0) dX7_begin_0 (q := 1) rfl rfl rfl ?_
  refine v_iload_n h (i := 1) dX7_begin_1 (q := 2) rfl rfl rfl ?_
  refine v_callV1 h (c_X7_branchAt hfl hX hb) kX7_branchAt tw292 tw0 (by assumption) (by decide) rfl rfl rfl (by simp [Value.category]) (by decide) (Nat.zero_le _) (Nat.zero_le _) rfl dX7_begin_2 (q := 5) rfl ?_
  refine v_astore_n h (i := 2) dX7_begin_5 (q := 6) rfl rfl (Nat.le_of_ble_eq_true rfl) rfl ?_
  refine v_aload_n h (i := 0) dX7_begin_6 (q := 7) rfl rfl rfl ?_
  refine v_geti h fl_X7_18 (by assumption) rfl dX7_begin_7 (q := 10) rfl ?_
  refine v_eq (st' := [.int (nI n)]) (by rw [hn1]) ?_
  refine v_istore_n h (i := 3) dX7_begin_10 (q := 11) rfl rfl (Nat.le_of_ble_eq_true rfl) rfl ?_
  refine v_iload_n h (i := 3) dX7_begin_11 (q := 12) rfl rfl rfl ?_
  refine v_if_lt h dX7_begin_12 (q := 15) rfl (tgt := 24) (by decide) (fun c1 => absurd c1 (nI_pos (by omega))) (fun c1 => ?_)
  refine v_iload_n h (i := 3) dX7_begin_15 (q := 16) rfl rfl rfl ?_
  refine v_aload_n h (i := 0) dX7_begin_16 (q := 17) rfl rfl rfl ?_
  refine v_getr h fl_X7_11 (by assumption) rfl (by assumption) dX7_begin_17 (q := 20) rfl ?_
  refine v_alen h (by assumption) (by decide) dX7_begin_20 (q := 21) rfl ?_
  refine v_icmp_lt h dX7_begin_21 (q := 24) rfl (tgt := 34) (by decide) (fun c2 => ?_) (fun c2 => absurd (nI_lt hn8 (by omega)) c2)
  refine v_new h (c := 0) (by decide) tw73 tw75 tw48 (by decide +kernel) (by decide) (by decide) dX7_begin_34 (q := 37) rfl ?_
  refine v_dup h dX7_begin_37 (q := 38) rfl rfl ?_
  refine v_iload_n h (i := 3) dX7_begin_38 (q := 39) rfl rfl rfl ?_
  refine v_aload_n h (i := 2) dX7_begin_39 (q := 40) rfl rfl rfl ?_
  refine v_callI h (c_X0_init hfl (p := sz) (f := B b) (x := nI n) (by simp [pb_uk]) rfl) kX0_init rfl rfl tw76 rfl rfl (by simp [Value.category]) (by decide) (by decide) (by decide) rfl dX7_begin_40 (q := 43) rfl ?_ (fun _ _ _ _ _ hx9 => nomatch hx9.1)
  rintro v1 sz1 sk1 rf1 sg1 ⟨q1, rfl, A1⟩
  cases q1
  have A1f := A1.2.2.2.2.2.2.2.2.2
  have hX' : pb_sys sk1 rf1 X B par n := hX.of hz hB (fun a ha => ⟨(A1f.to (Or.inl ha)).1.trans (pb_uk_ne (by omega)), (A1f.to (Or.inl ha)).2.1.trans (pb_u0_ne (by omega))⟩)
  obtain ⟨nb0, nb1, nb2, nb3, nb4, nb5, nb6, nb7, nb8⟩ := id A1.1
  obtain ⟨mb0, mb1, mb2, mb3, mb4, mb5, mb6, mb7, mb8⟩ := id (hX'.2.2.2.2.2.2.2.2.2.2.2.2.1 b hb).2
  have mX0 := hX'.1
  have mX1 := hX'.2.1
  have mX6 := hX'.2.2.2.2.2.2.1
  refine v_astore h dX7_begin_43 (q := 45) rfl (Nat.le_of_ble_eq_true rfl) rfl ?_
  refine v_aload h dX7_begin_45 (q := 47) rfl rfl ?_
  refine v_getr h fl_X7_65 (by assumption) rfl (by assumption) dX7_begin_47 (q := 50) rfl ?_
  refine v_aload_n h (i := 2) dX7_begin_50 (q := 51) rfl rfl rfl ?_
  refine v_getr h fl_X7_65 (by assumption) rfl (by assumption) dX7_begin_51 (q := 54) rfl ?_
  refine v_callV0 h (c_X4_copyFrom hfl nb5 mb5) kX4_copyFrom tw515 tw517 nb5.1 (by decide) rfl rfl rfl (by simp [Value.category]) (by decide) (by decide) (by decide) rfl dX7_begin_54 (q := 57) rfl ?_
  refine v_aload h dX7_begin_57 (q := 59) rfl rfl ?_
  refine v_getr h fl_X7_151 (by assumption) rfl (by assumption) dX7_begin_59 (q := 62) rfl ?_
  refine v_aload_n h (i := 2) dX7_begin_62 (q := 63) rfl rfl rfl ?_
  refine v_getr h fl_X7_65 (by assumption) rfl (by assumption) dX7_begin_63 (q := 66) rfl ?_
  refine v_callV0 h (c_X4_copyFrom hfl nb6 mb5) kX4_copyFrom tw515 tw517 nb6.1 (by decide) rfl rfl rfl (by simp [Value.category]) (by decide) (by decide) (by decide) rfl dX7_begin_66 (q := 69) rfl ?_
  refine v_aload_n h (i := 2) dX7_begin_69 (q := 70) rfl rfl rfl ?_
  refine v_getr h fl_X7_79 (by assumption) rfl (by assumption) dX7_begin_70 (q := 73) rfl ?_
  refine v_callV0 h (c_X2_forget hfl mb7) kX2_forget tw523 tw525 mb7.1 (by decide) rfl rfl rfl (by simp [Value.category]) (by decide) (by decide) (by decide) rfl dX7_begin_73 (q := 76) rfl ?_
  refine v_aload_n h (i := 0) dX7_begin_76 (q := 77) rfl rfl rfl ?_
  refine v_getr h fl_X7_11 (by assumption) rfl (by assumption) dX7_begin_77 (q := 80) rfl ?_
  refine v_iload_n h (i := 3) dX7_begin_80 (q := 81) rfl rfl rfl ?_
  refine v_aload h dX7_begin_81 (q := 83) rfl rfl ?_
  refine v_aast h mX6 nb0 rfl (by first | assumption | omega) (by decide) dX7_begin_83 (q := 84) rfl ?_
  refine v_aload_n h (i := 0) dX7_begin_84 (q := 85) rfl rfl rfl ?_
  refine v_iload_n h (i := 3) dX7_begin_85 (q := 86) rfl rfl rfl ?_
  refine v_iconst h (v := nI 1) dX7_begin_86 (q := 87) rfl (by decide +kernel) ?_
  refine v_iadd h dX7_begin_87 (q := 88) rfl ?_
  refine v_puti h fl_X7_18 (by assumption) rfl rfl dX7_begin_88 (q := 91) rfl ?_
  refine v_iload_n h (i := 3) dX7_begin_91 (q := 92) rfl rfl rfl ?_
  refine v_iret h hQ rfl rfl dX7_begin_92 (by decide) (by decide) (by
      refine ⟨rfl, rfl, pb_sys_ad hX' hl (by omega) A1.1 A1.2.1 hb hn8, fun a ha => ?_, fun a ha hx => ?_, sg1, rfl, fun a ha => ?_, A1.2.2.1, A1.2.2.2.1, A1.2.2.2.2.2.2.1, A1.2.2.2.2.2.2.2.1, A1.2.2.2.2.2.2.2.2.1⟩
      · exact (A1f.to (Or.inl ha)).1.trans (pb_uk_ne (by omega))
      · exact (pb_ur_ne hx).trans ((A1f.to (Or.inl ha)).2.1.trans (pb_u0_ne (by omega)))
      · exact (A1f.to (Or.inl ha)).2.2.trans (pb_u0_ne (by omega)))
set_option maxHeartbeats 4000000 in
set_option maxRecDepth 100000 in
theorem x1_X7_begin {l : Launch} (hfl : l.stackTraces = false) {sz : Nat} {sk : pb_Sk} {rf : pb_Rf} {sg : pb_Sg} {X n : Nat} {B par : Nat → Nat} (hX : pb_sys sk rf X B par n) {x : Int32} (hx : ∀ b, b < n → ¬ x = nI b) : pb_Met l mX7_begin 7 1 6 [.ref X, .int x] sz sk rf sg (pb_thr "java/lang/IndexOutOfBoundsException" sz sk rf sg) := by
  refine pb_start hfl (by decide +kernel) rfl (pb_c1 rfl) (Nat.le_of_ble_eq_true rfl) (fun F hF h hQ => ?_)
  subst hF
  show pv F 0 0 sz sk rf sg 0 [some (.ref X), some (.int x), none, none, none] []
  obtain ⟨hX0, hX1, hX2, hX3, hX4, hX5, hX6, hXc, hXj, hXw, hXs, hXn, hXb, hXe, hXr, hXp⟩ := id hX
  refine v_aload_n h (i := 0) dX7_begin_0 (q := 1) rfl rfl rfl ?_
  refine v_iload_n h (i := 1) dX7_begin_1 (q := 2) rfl rfl rfl ?_
  refine v_callVx h (x_X7_branchAt hfl hX hx) kX7_branchAt tw292 tw0 (by assumption) (by decide) rfl rfl rfl (by simp [Value.category]) (by decide) (by decide) (by decide) rfl dX7_begin_2 (q := 5) rfl ?_
  intro sz9 hsz9
  exact v_out h hQ rfl (by decide) (by decide) ⟨rfl, hsz9, rfl, rfl, rfl⟩
set_option maxHeartbeats 4000000 in
set_option maxRecDepth 100000 in
theorem x2_X7_begin {l : Launch} (hfl : l.stackTraces = false) {sz : Nat} {sk : pb_Sk} {rf : pb_Rf} {sg : pb_Sg} {X n : Nat} {B par : Nat → Nat} (hX : pb_sys sk rf X B par n) {b : Nat} (hb : b < n) (hn1 : sg X 1 = nI n) (hn8 : n = 8) : pb_Met l mX7_begin 8 1 6 [.ref X, .int (nI b)] sz sk rf sg (pb_thr "java/lang/IllegalStateException" sz sk rf sg) := by
  refine pb_start hfl (by decide +kernel) rfl (pb_c1 rfl) (Nat.le_of_ble_eq_true rfl) (fun F hF h hQ => ?_)
  subst hF
  show pv F 0 0 sz sk rf sg 0 [some (.ref X), some (.int (nI b)), none, none, none] []
  obtain ⟨hX0, hX1, hX2, hX3, hX4, hX5, hX6, hXc, hXj, hXw, hXs, hXn, hXb, hXe, hXr, hXp⟩ := id hX
  refine v_aload_n h (i := 0) dX7_begin_0 (q := 1) rfl rfl rfl ?_
  refine v_iload_n h (i := 1) dX7_begin_1 (q := 2) rfl rfl rfl ?_
  refine v_callV1 h (c_X7_branchAt hfl hX hb) kX7_branchAt tw292 tw0 (by assumption) (by decide) rfl rfl rfl (by simp [Value.category]) (by decide) (Nat.zero_le _) (Nat.zero_le _) rfl dX7_begin_2 (q := 5) rfl ?_
  refine v_astore_n h (i := 2) dX7_begin_5 (q := 6) rfl rfl (Nat.le_of_ble_eq_true rfl) rfl ?_
  refine v_aload_n h (i := 0) dX7_begin_6 (q := 7) rfl rfl rfl ?_
  refine v_geti h fl_X7_18 (by assumption) rfl dX7_begin_7 (q := 10) rfl ?_
  refine v_eq (st' := [.int (nI n)]) (by rw [hn1]) ?_
  refine v_istore_n h (i := 3) dX7_begin_10 (q := 11) rfl rfl (Nat.le_of_ble_eq_true rfl) rfl ?_
  refine v_iload_n h (i := 3) dX7_begin_11 (q := 12) rfl rfl rfl ?_
  refine v_if_lt h dX7_begin_12 (q := 15) rfl (tgt := 24) (by decide) (fun c1 => absurd c1 (nI_pos (by omega))) (fun c1 => ?_)
  refine v_iload_n h (i := 3) dX7_begin_15 (q := 16) rfl rfl rfl ?_
  refine v_aload_n h (i := 0) dX7_begin_16 (q := 17) rfl rfl rfl ?_
  refine v_getr h fl_X7_11 (by assumption) rfl (by assumption) dX7_begin_17 (q := 20) rfl ?_
  refine v_alen h (by assumption) (by decide) dX7_begin_20 (q := 21) rfl ?_
  refine v_icmp_lt h dX7_begin_21 (q := 24) rfl (tgt := 34) (by decide) (fun c2 => absurd c2 (by rw [hn8]; exact nI_nlt (Nat.le_refl _) (by omega))) (fun c2 => ?_)
  refine v_throw h hQ rfl (th_X7_93) (is := 146) (text := "no more branches can be begun") (by decide +kernel) rfl dX7_begin_24 dX7_begin_27 dX7_begin_28 dX7_begin_30 dX7_begin_33 (by decide) (by decide) (by decide) (by decide) (fun sz9 hsz9 => ⟨rfl, hsz9, rfl, rfl, rfl⟩)
