set_option maxHeartbeats 4000000 in
set_option maxRecDepth 100000 in
theorem c_X5_endByOrders {l : Launch} (hfl : l.stackTraces = false) {sz : Nat} {sk : pb_Sk} {rf : pb_Rf} {s p : Nat} (hs : pb_sch sk rf s) (hp : pb_plan sk rf p) (hap : pb_ap s p) : ∀ (k : Nat) {sg : pb_Sg} {U E B : Int32} {g : Nat}, g + k = 6 → pb_si sg s p → pb_sj sg s U → pb_Met l mX5_endByOrders (5 + k) 0 0 [.ref s, .ref p, .int U, .int E, .int B, .int (nI g)] sz sk rf sg (pb_is (some (.int (pb_ebo s p k sg U E B))) sz sk rf sg) := by
  intro k
  induction k with
  | zero =>
    intro sg U E B g hg hsi hsj
    obtain rfl : g = 6 := by omega
    refine pb_start hfl (by decide +kernel) rfl (pb_c1 rfl) (Nat.le_of_ble_eq_true rfl) (fun F hF h hQ => ?_)
    subst hF
    show pv F 0 0 sz sk rf sg 0 [some (.ref s), some (.ref p), some (.int U), some (.int E), some (.int B), some (.int (nI 6)), none, none, none, none] []
    refine v_iload_n h (i := 2) dX5_endByOrders_0 (q := 1) rfl rfl rfl ?_
    refine v_if_eq h dX5_endByOrders_1 (q := 4) rfl (tgt := 11) (by decide) (fun cU => ?_) (fun cU => ?_)
    · skip
      refine v_iload_n h (i := 3) dX5_endByOrders_11 (q := 12) rfl rfl rfl ?_
      refine v_iret h hQ rfl rfl dX5_endByOrders_12 (Nat.zero_le _) (Nat.zero_le _) ⟨rfl, rfl, rfl, rfl, rfl⟩
    · skip
      refine v_iload h dX5_endByOrders_4 (q := 6) rfl rfl ?_
      refine v_bipush h (v := nI 6) dX5_endByOrders_6 (q := 8) rfl (by decide +kernel) ?_
      refine v_icmp_lt h dX5_endByOrders_8 (q := 11) rfl (tgt := 13) (by decide) (fun c2 => absurd c2 (nI_nlt (Nat.le_refl _) (by omega))) (fun c2 => ?_)
      refine v_iload_n h (i := 3) dX5_endByOrders_11 (q := 12) rfl rfl rfl ?_
      refine v_iret h hQ rfl rfl dX5_endByOrders_12 (Nat.zero_le _) (Nat.zero_le _) ⟨rfl, rfl, rfl, rfl, rfl⟩
  | succ k ihk =>
    intro sg U E B g hg hsi hsj
    refine pb_start hfl (by decide +kernel) rfl (pb_c1 rfl) (Nat.le_of_ble_eq_true rfl) (fun F hF h hQ => ?_)
    subst hF
    obtain ⟨hp0, hp1, hp2, hp3, hp4, hp5, hp6, hp7, hp8⟩ := id hp
    obtain ⟨hs0, hs1, hs2, hs3, hs4, hs5, hs6⟩ := id hs
    show pv F 0 0 sz sk rf sg 0 [some (.ref s), some (.ref p), some (.int U), some (.int E), some (.int B), some (.int (nI g)), none, none, none, none] []
    refine v_iload_n h (i := 2) dX5_endByOrders_0 (q := 1) rfl rfl rfl ?_
    refine v_if_eq h dX5_endByOrders_1 (q := 4) rfl (tgt := 11) (by decide) (fun cU => ?_) (fun cU => ?_)
    · skip
      have e9 : pb_ebo s p (k + 1) sg U E B = E := if_pos cU
      refine v_iload_n h (i := 3) dX5_endByOrders_11 (q := 12) rfl rfl rfl ?_
      refine v_iret h hQ rfl rfl dX5_endByOrders_12 (Nat.zero_le _) (Nat.zero_le _) ⟨by rw [e9], rfl, rfl, rfl, rfl⟩
    · skip
      have eU : pb_ebo s p (k + 1) sg U E B = pb_ebl (pb_ebo s p k) s p sg U E B 16 := if_neg cU
      refine v_iload h dX5_endByOrders_4 (q := 6) rfl rfl ?_
      refine v_bipush h (v := nI 6) dX5_endByOrders_6 (q := 8) rfl (by decide +kernel) ?_
      refine v_icmp_lt h dX5_endByOrders_8 (q := 11) rfl (tgt := 13) (by decide) (fun c2 => ?_) (fun c2 => absurd (nI_lt (by omega) (by omega)) c2)
      refine v_iload h dX5_endByOrders_13 (q := 15) rfl rfl ?_
      refine v_istore h dX5_endByOrders_15 (q := 17) rfl (Nat.le_of_ble_eq_true rfl) rfl ?_
      refine v_iconst h (v := nI 0) dX5_endByOrders_17 (q := 18) rfl (by decide +kernel) ?_
      refine v_istore h dX5_endByOrders_18 (q := 20) rfl (Nat.le_of_ble_eq_true rfl) rfl ?_
      have lp : ∀ (j i : Nat), i + j = 16 → pv F 0 0 sz sk rf sg 20 [some (.ref s), some (.ref p), some (.int U), some (.int E), some (.int B), some (.int (nI g)), some (.int (pb_ebl (pb_ebo s p k) s p sg U E B i)), some (.int (nI i)), none, none] [] := by
        intro j
        induction j with
        | zero =>
          intro i  hi
          obtain rfl : i = 16 := by omega
          refine v_iload h dX5_endByOrders_20 (q := 22) rfl rfl ?_
          refine v_bipush h (v := nI 16) dX5_endByOrders_22 (q := 24) rfl (by decide +kernel) ?_
          refine v_icmp_ge h dX5_endByOrders_24 (q := 27) rfl (tgt := 129) (by decide) (fun c3 => ?_) (fun c3 => pb_kle (Nat.le_refl _) (by decide) c3)
          refine v_iload h dX5_endByOrders_129 (q := 131) rfl rfl ?_
          refine v_iret h hQ rfl rfl dX5_endByOrders_131 (Nat.zero_le _) (Nat.zero_le _) ⟨by rw [eU], rfl, rfl, rfl, rfl⟩
        | succ j ih =>
          intro i  hi
          have hi2 : i < 16 := by omega
          refine v_iload h dX5_endByOrders_20 (q := 22) rfl rfl ?_
          refine v_bipush h (v := nI 16) dX5_endByOrders_22 (q := 24) rfl (by decide +kernel) ?_
          refine v_icmp_ge h dX5_endByOrders_24 (q := 27) rfl (tgt := 129) (by decide) (fun c4 => pb_kge hi2 (by decide) c4) (fun c4 => ?_)
          refine v_aload_n h (i := 0) dX5_endByOrders_27 (q := 28) rfl rfl rfl ?_
          refine v_aload_n h (i := 1) dX5_endByOrders_28 (q := 29) rfl rfl rfl ?_
          refine v_iload_n h (i := 2) dX5_endByOrders_29 (q := 30) rfl rfl rfl ?_
          refine v_iload h dX5_endByOrders_30 (q := 32) rfl rfl ?_
          refine v_callV1 h (c_X5_ready hfl hs hp hi2) kX5_ready tw641 tw7 (by assumption) (by decide) rfl rfl rfl (by simp [Value.category]) (by omega) (Nat.zero_le _) (Nat.zero_le _) rfl dX5_endByOrders_32 (q := 35) rfl ?_
          refine v_if_eq h dX5_endByOrders_35 (q := 38) rfl (tgt := 48) (by decide) (fun c5 => ?_) (fun c5 => ?_)
          · skip
            have e1 := pb_b_0.mp c5
            obtain ⟨x, ex⟩ : ∃ x : Option Nat, x = none := ⟨_, rfl⟩
            have hx0 : x = none → pb_ebl (pb_ebo s p k) s p sg U E B (i + 1) = (pb_ebl (pb_ebo s p k) s p sg U E B i) := fun q => by
                  show pb_ebs _ s p sg U E i _ = _
                  unfold pb_ebs
                  rw [if_neg (by rw [e1]; decide)]
            have hx1 : ∀ d, x = some d → pb_ebl (pb_ebo s p k) s p sg U E B (i + 1) = (if (pb_mx E (nI d + sg (p + 1) i - nI 1)) < (pb_ebl (pb_ebo s p k) s p sg U E B i) then pb_ebo s p k (pb_place sg s p i d) (U &&& ((nI 1 <<< (nI i &&& 31)) ^^^ (-1))) (pb_mx E (nI d + sg (p + 1) i - nI 1)) (pb_ebl (pb_ebo s p k) s p sg U E B i) else (pb_ebl (pb_ebo s p k) s p sg U E B i)) := fun d q => by
                  rw [ex] at q; cases q
            have hsm : ∀ d, x = some d → pb_rdy sg s p U i = true ∧ pb_ear sg s p i = some d := fun d q => by rw [ex] at q; cases q
            refine v_iconst h (v := (-1)) dX5_endByOrders_48 (q := 49) rfl (by decide +kernel) ?_
            refine v_eq (st' := [.int (pb_oi x)]) (by first | rfl | (rw [ex]; rfl)) ?_
            refine v_istore h dX5_endByOrders_49 (q := 51) rfl (Nat.le_of_ble_eq_true rfl) rfl ?_
            refine v_iload_n h (i := 3) dX5_endByOrders_51 (q := 52) rfl rfl rfl ?_
            refine v_iload h dX5_endByOrders_52 (q := 54) rfl rfl ?_
            refine v_aload_n h (i := 1) dX5_endByOrders_54 (q := 55) rfl rfl rfl ?_
            refine v_getr h fl_X5_62 (by assumption) rfl (by assumption) dX5_endByOrders_55 (q := 58) rfl ?_
            refine v_iload h dX5_endByOrders_58 (q := 60) rfl rfl ?_
            refine v_iald h (by assumption) rfl (by first | assumption | omega) (by decide) dX5_endByOrders_60 (q := 61) rfl ?_
            refine v_iadd h dX5_endByOrders_61 (q := 62) rfl ?_
            refine v_iconst h (v := nI 1) dX5_endByOrders_62 (q := 63) rfl (by decide +kernel) ?_
            refine v_isub h dX5_endByOrders_63 (q := 64) rfl ?_
            refine v_max h tw654 tw619 tw62 tw620 (by omega) (by simp [Value.category]) (Nat.zero_le _) (Nat.zero_le _) rfl dX5_endByOrders_64 (q := 67) rfl ?_
            refine v_istore h dX5_endByOrders_67 (q := 69) rfl (Nat.le_of_ble_eq_true rfl) rfl ?_
            refine v_iload h dX5_endByOrders_69 (q := 71) rfl rfl ?_
            refine v_iconst h (v := (-1)) dX5_endByOrders_71 (q := 72) rfl (by decide +kernel) ?_
            refine v_icmp_eq h dX5_endByOrders_72 (q := 75) rfl (tgt := 123) (by decide) (fun c5 => ?_) (fun c5 => ?_)
            · skip
              have e6 : x = none := by
                    cases x with
                    | none => rfl
                    | some d => exact absurd c5 (pb_m1_ne (by have := pb_ear_le hsi (hsm d rfl).2; omega))
              have e9 : pb_ebl (pb_ebo s p k) s p sg U E B (i + 1) = (pb_ebl (pb_ebo s p k) s p sg U E B i) := hx0 e6
              refine v_iinc h dX5_endByOrders_123 (q := 126) rfl rfl pb_inc rfl ?_
              refine v_goto h dX5_endByOrders_126 (tgt := 20) (by decide) ?_
              have h9 := ih (i + 1) (by omega)
              rw [e9] at h9
              exact v_wk (by simp [pb_wk]) h9
            · skip
              obtain ⟨d, e6⟩ : ∃ d, x = some d := by
                    cases x with
                    | none => exact absurd rfl c5
                    | some t => exact ⟨t, rfl⟩
              obtain ⟨hr1, hr2⟩ := hsm d e6
              have hd := pb_ear_le hsi hr2
              have hx := hx1 d e6
              refine v_wk (L' := [some (.ref s), some (.ref p), some (.int U), some (.int E), some (.int B), some (.int (nI g)), some (.int (pb_ebl (pb_ebo s p k) s p sg U E B i)), some (.int (nI i)), some (.int (nI d)), some (.int (pb_mx E (nI d + sg (p + 1) i - nI 1)))]) (by simp [pb_wk, e6, pb_oi, pb_mx]) ?_
              refine v_iload h dX5_endByOrders_75 (q := 77) rfl rfl ?_
              refine v_iload h dX5_endByOrders_77 (q := 79) rfl rfl ?_
              refine v_icmp_ge h dX5_endByOrders_79 (q := 82) rfl (tgt := 123) (by decide) (fun c6 => ?_) (fun c6 => ?_)
              · skip
                have e9 : pb_ebl (pb_ebo s p k) s p sg U E B (i + 1) = (pb_ebl (pb_ebo s p k) s p sg U E B i) := hx.trans (if_neg (Int32.not_lt.mpr c6))
                refine v_iinc h dX5_endByOrders_123 (q := 126) rfl rfl pb_inc rfl ?_
                refine v_goto h dX5_endByOrders_126 (tgt := 20) (by decide) ?_
                have h9 := ih (i + 1) (by omega)
                rw [e9] at h9
                exact v_wk (by simp [pb_wk]) h9
              · skip
                have e9 : pb_ebl (pb_ebo s p k) s p sg U E B (i + 1) = pb_ebo s p k (pb_place sg s p i d) (U &&& ((nI 1 <<< (nI i &&& 31)) ^^^ (-1))) (pb_mx E (nI d + sg (p + 1) i - nI 1)) (pb_ebl (pb_ebo s p k) s p sg U E B i) := hx.trans (if_pos (Int32.not_le.mp c6))
                have hu : pb_in U i = true := by
                      unfold pb_rdy at hr1
                      cases q : pb_in U i
                      · rw [q] at hr1; cases hr1
                      · rfl
                obtain ⟨hj1, hj2⟩ := hsj i hi2 hu
                refine v_aload_n h (i := 0) dX5_endByOrders_82 (q := 83) rfl rfl rfl ?_
                refine v_aload_n h (i := 1) dX5_endByOrders_83 (q := 84) rfl rfl rfl ?_
                refine v_iload h dX5_endByOrders_84 (q := 86) rfl rfl ?_
                refine v_iload h dX5_endByOrders_86 (q := 88) rfl rfl ?_
                refine v_callV0 h (c_X5_place hfl hs hp hi2 hap hsi.1 hd) kX5_place tw655 tw10 (by assumption) (by decide) rfl rfl rfl (by simp [Value.category]) (by omega) (Nat.zero_le _) (Nat.zero_le _) rfl dX5_endByOrders_88 (q := 91) rfl ?_
                refine v_aload_n h (i := 0) dX5_endByOrders_91 (q := 92) rfl rfl rfl ?_
                refine v_aload_n h (i := 1) dX5_endByOrders_92 (q := 93) rfl rfl rfl ?_
                refine v_iload_n h (i := 2) dX5_endByOrders_93 (q := 94) rfl rfl rfl ?_
                refine v_iconst h (v := nI 1) dX5_endByOrders_94 (q := 95) rfl (by decide +kernel) ?_
                refine v_iload h dX5_endByOrders_95 (q := 97) rfl rfl ?_
                refine v_ishl h dX5_endByOrders_97 (q := 98) rfl ?_
                refine v_iconst h (v := (-1)) dX5_endByOrders_98 (q := 99) rfl (by decide +kernel) ?_
                refine v_ixor h dX5_endByOrders_99 (q := 100) rfl ?_
                refine v_iand h dX5_endByOrders_100 (q := 101) rfl ?_
                refine v_iload h dX5_endByOrders_101 (q := 103) rfl rfl ?_
                refine v_iload h dX5_endByOrders_103 (q := 105) rfl rfl ?_
                refine v_iload h dX5_endByOrders_105 (q := 107) rfl rfl ?_
                refine v_iconst h (v := nI 1) dX5_endByOrders_107 (q := 108) rfl (by decide +kernel) ?_
                refine v_iadd h dX5_endByOrders_108 (q := 109) rfl ?_
                rw [nI_add]
                refine v_callS1 h (ihk (show g + 1 + k = 6 by omega) (pb_si_place hap hsi hi2 hd) (pb_sj_place hsj hi2)) kX5_endByOrders rfl tw803 rfl rfl (by simp [Value.category]) (by omega) (Nat.zero_le _) (Nat.zero_le _) rfl dX5_endByOrders_109 (q := 112) rfl ?_
                refine v_istore h dX5_endByOrders_112 (q := 114) rfl (Nat.le_of_ble_eq_true rfl) rfl ?_
                refine v_aload_n h (i := 0) dX5_endByOrders_114 (q := 115) rfl rfl rfl ?_
                refine v_aload_n h (i := 1) dX5_endByOrders_115 (q := 116) rfl rfl rfl ?_
                refine v_iload h dX5_endByOrders_116 (q := 118) rfl rfl ?_
                refine v_iload h dX5_endByOrders_118 (q := 120) rfl rfl ?_
                refine v_callV0 h (c_X5_takeBack hfl hs hp hi2 hap (pb_si_place hap hsi hi2 hd).1 (by rw [pb_place_p hap (by omega) hsi.1 hi2]; exact hd)) kX5_takeBack tw806 tw12 (by assumption) (by decide) rfl rfl rfl (by simp [Value.category]) (by omega) (Nat.zero_le _) (Nat.zero_le _) rfl dX5_endByOrders_120 (q := 123) rfl ?_
                refine v_sg (pb_tback_place hap hsi hi2 hj1 hj2 (pb_ear_free hr2)) ?_
                refine v_iinc h dX5_endByOrders_123 (q := 126) rfl rfl pb_inc rfl ?_
                refine v_goto h dX5_endByOrders_126 (tgt := 20) (by decide) ?_
                have h9 := ih (i + 1) (by omega)
                rw [e9] at h9
                exact v_wk (by simp [pb_wk]) h9
          · skip
            have e1 := pb_ne_f (fun q => c5 (pb_b_0.mpr q))
            refine v_aload_n h (i := 0) dX5_endByOrders_38 (q := 39) rfl rfl rfl ?_
            refine v_aload_n h (i := 1) dX5_endByOrders_39 (q := 40) rfl rfl rfl ?_
            refine v_iload h dX5_endByOrders_40 (q := 42) rfl rfl ?_
            refine v_callV1 h (c_X5_earliest hfl hs hp hi2 hsi) kX5_earliest tw646 tw8 (by assumption) (by decide) rfl rfl rfl (by simp [Value.category]) (by omega) (Nat.zero_le _) (Nat.zero_le _) rfl dX5_endByOrders_42 (q := 45) rfl ?_
            obtain ⟨x, ex⟩ : ∃ x, x = pb_ear sg s p i := ⟨_, rfl⟩
            rw [← ex]
            have hx0 : x = none → pb_ebl (pb_ebo s p k) s p sg U E B (i + 1) = (pb_ebl (pb_ebo s p k) s p sg U E B i) := fun q => by
                  show pb_ebs _ s p sg U E i _ = _
                  unfold pb_ebs
                  rw [if_pos e1, ← ex, q]
            have hx1 : ∀ d, x = some d → pb_ebl (pb_ebo s p k) s p sg U E B (i + 1) = (if (pb_mx E (nI d + sg (p + 1) i - nI 1)) < (pb_ebl (pb_ebo s p k) s p sg U E B i) then pb_ebo s p k (pb_place sg s p i d) (U &&& ((nI 1 <<< (nI i &&& 31)) ^^^ (-1))) (pb_mx E (nI d + sg (p + 1) i - nI 1)) (pb_ebl (pb_ebo s p k) s p sg U E B i) else (pb_ebl (pb_ebo s p k) s p sg U E B i)) := fun d q => by
                  show pb_ebs _ s p sg U E i _ = _
                  unfold pb_ebs
                  rw [if_pos e1, ← ex, q]
            have hsm : ∀ d, x = some d → pb_rdy sg s p U i = true ∧ pb_ear sg s p i = some d := fun d q => ⟨e1, ex.symm.trans q⟩
            refine v_goto h dX5_endByOrders_45 (tgt := 49) (by decide) ?_
            refine v_eq (st' := [.int (pb_oi x)]) (by first | rfl | (rw [ex]; rfl)) ?_
            refine v_istore h dX5_endByOrders_49 (q := 51) rfl (Nat.le_of_ble_eq_true rfl) rfl ?_
            refine v_iload_n h (i := 3) dX5_endByOrders_51 (q := 52) rfl rfl rfl ?_
            refine v_iload h dX5_endByOrders_52 (q := 54) rfl rfl ?_
            refine v_aload_n h (i := 1) dX5_endByOrders_54 (q := 55) rfl rfl rfl ?_
            refine v_getr h fl_X5_62 (by assumption) rfl (by assumption) dX5_endByOrders_55 (q := 58) rfl ?_
            refine v_iload h dX5_endByOrders_58 (q := 60) rfl rfl ?_
            refine v_iald h (by assumption) rfl (by first | assumption | omega) (by decide) dX5_endByOrders_60 (q := 61) rfl ?_
            refine v_iadd h dX5_endByOrders_61 (q := 62) rfl ?_
            refine v_iconst h (v := nI 1) dX5_endByOrders_62 (q := 63) rfl (by decide +kernel) ?_
            refine v_isub h dX5_endByOrders_63 (q := 64) rfl ?_
            refine v_max h tw654 tw619 tw62 tw620 (by omega) (by simp [Value.category]) (Nat.zero_le _) (Nat.zero_le _) rfl dX5_endByOrders_64 (q := 67) rfl ?_
            refine v_istore h dX5_endByOrders_67 (q := 69) rfl (Nat.le_of_ble_eq_true rfl) rfl ?_
            refine v_iload h dX5_endByOrders_69 (q := 71) rfl rfl ?_
            refine v_iconst h (v := (-1)) dX5_endByOrders_71 (q := 72) rfl (by decide +kernel) ?_
            refine v_icmp_eq h dX5_endByOrders_72 (q := 75) rfl (tgt := 123) (by decide) (fun c5 => ?_) (fun c5 => ?_)
            · skip
              have e6 : x = none := by
                    cases x with
                    | none => rfl
                    | some d => exact absurd c5 (pb_m1_ne (by have := pb_ear_le hsi (hsm d rfl).2; omega))
              have e9 : pb_ebl (pb_ebo s p k) s p sg U E B (i + 1) = (pb_ebl (pb_ebo s p k) s p sg U E B i) := hx0 e6
              refine v_iinc h dX5_endByOrders_123 (q := 126) rfl rfl pb_inc rfl ?_
              refine v_goto h dX5_endByOrders_126 (tgt := 20) (by decide) ?_
              have h9 := ih (i + 1) (by omega)
              rw [e9] at h9
              exact v_wk (by simp [pb_wk]) h9
            · skip
              obtain ⟨d, e6⟩ : ∃ d, x = some d := by
                    cases x with
                    | none => exact absurd rfl c5
                    | some t => exact ⟨t, rfl⟩
              obtain ⟨hr1, hr2⟩ := hsm d e6
              have hd := pb_ear_le hsi hr2
              have hx := hx1 d e6
              refine v_wk (L' := [some (.ref s), some (.ref p), some (.int U), some (.int E), some (.int B), some (.int (nI g)), some (.int (pb_ebl (pb_ebo s p k) s p sg U E B i)), some (.int (nI i)), some (.int (nI d)), some (.int (pb_mx E (nI d + sg (p + 1) i - nI 1)))]) (by simp [pb_wk, e6, pb_oi, pb_mx]) ?_
              refine v_iload h dX5_endByOrders_75 (q := 77) rfl rfl ?_
              refine v_iload h dX5_endByOrders_77 (q := 79) rfl rfl ?_
              refine v_icmp_ge h dX5_endByOrders_79 (q := 82) rfl (tgt := 123) (by decide) (fun c6 => ?_) (fun c6 => ?_)
              · skip
                have e9 : pb_ebl (pb_ebo s p k) s p sg U E B (i + 1) = (pb_ebl (pb_ebo s p k) s p sg U E B i) := hx.trans (if_neg (Int32.not_lt.mpr c6))
                refine v_iinc h dX5_endByOrders_123 (q := 126) rfl rfl pb_inc rfl ?_
                refine v_goto h dX5_endByOrders_126 (tgt := 20) (by decide) ?_
                have h9 := ih (i + 1) (by omega)
                rw [e9] at h9
                exact v_wk (by simp [pb_wk]) h9
              · skip
                have e9 : pb_ebl (pb_ebo s p k) s p sg U E B (i + 1) = pb_ebo s p k (pb_place sg s p i d) (U &&& ((nI 1 <<< (nI i &&& 31)) ^^^ (-1))) (pb_mx E (nI d + sg (p + 1) i - nI 1)) (pb_ebl (pb_ebo s p k) s p sg U E B i) := hx.trans (if_pos (Int32.not_le.mp c6))
                have hu : pb_in U i = true := by
                      unfold pb_rdy at hr1
                      cases q : pb_in U i
                      · rw [q] at hr1; cases hr1
                      · rfl
                obtain ⟨hj1, hj2⟩ := hsj i hi2 hu
                refine v_aload_n h (i := 0) dX5_endByOrders_82 (q := 83) rfl rfl rfl ?_
                refine v_aload_n h (i := 1) dX5_endByOrders_83 (q := 84) rfl rfl rfl ?_
                refine v_iload h dX5_endByOrders_84 (q := 86) rfl rfl ?_
                refine v_iload h dX5_endByOrders_86 (q := 88) rfl rfl ?_
                refine v_callV0 h (c_X5_place hfl hs hp hi2 hap hsi.1 hd) kX5_place tw655 tw10 (by assumption) (by decide) rfl rfl rfl (by simp [Value.category]) (by omega) (Nat.zero_le _) (Nat.zero_le _) rfl dX5_endByOrders_88 (q := 91) rfl ?_
                refine v_aload_n h (i := 0) dX5_endByOrders_91 (q := 92) rfl rfl rfl ?_
                refine v_aload_n h (i := 1) dX5_endByOrders_92 (q := 93) rfl rfl rfl ?_
                refine v_iload_n h (i := 2) dX5_endByOrders_93 (q := 94) rfl rfl rfl ?_
                refine v_iconst h (v := nI 1) dX5_endByOrders_94 (q := 95) rfl (by decide +kernel) ?_
                refine v_iload h dX5_endByOrders_95 (q := 97) rfl rfl ?_
                refine v_ishl h dX5_endByOrders_97 (q := 98) rfl ?_
                refine v_iconst h (v := (-1)) dX5_endByOrders_98 (q := 99) rfl (by decide +kernel) ?_
                refine v_ixor h dX5_endByOrders_99 (q := 100) rfl ?_
                refine v_iand h dX5_endByOrders_100 (q := 101) rfl ?_
                refine v_iload h dX5_endByOrders_101 (q := 103) rfl rfl ?_
                refine v_iload h dX5_endByOrders_103 (q := 105) rfl rfl ?_
                refine v_iload h dX5_endByOrders_105 (q := 107) rfl rfl ?_
                refine v_iconst h (v := nI 1) dX5_endByOrders_107 (q := 108) rfl (by decide +kernel) ?_
                refine v_iadd h dX5_endByOrders_108 (q := 109) rfl ?_
                rw [nI_add]
                refine v_callS1 h (ihk (show g + 1 + k = 6 by omega) (pb_si_place hap hsi hi2 hd) (pb_sj_place hsj hi2)) kX5_endByOrders rfl tw803 rfl rfl (by simp [Value.category]) (by omega) (Nat.zero_le _) (Nat.zero_le _) rfl dX5_endByOrders_109 (q := 112) rfl ?_
                refine v_istore h dX5_endByOrders_112 (q := 114) rfl (Nat.le_of_ble_eq_true rfl) rfl ?_
                refine v_aload_n h (i := 0) dX5_endByOrders_114 (q := 115) rfl rfl rfl ?_
                refine v_aload_n h (i := 1) dX5_endByOrders_115 (q := 116) rfl rfl rfl ?_
                refine v_iload h dX5_endByOrders_116 (q := 118) rfl rfl ?_
                refine v_iload h dX5_endByOrders_118 (q := 120) rfl rfl ?_
                refine v_callV0 h (c_X5_takeBack hfl hs hp hi2 hap (pb_si_place hap hsi hi2 hd).1 (by rw [pb_place_p hap (by omega) hsi.1 hi2]; exact hd)) kX5_takeBack tw806 tw12 (by assumption) (by decide) rfl rfl rfl (by simp [Value.category]) (by omega) (Nat.zero_le _) (Nat.zero_le _) rfl dX5_endByOrders_120 (q := 123) rfl ?_
                refine v_sg (pb_tback_place hap hsi hi2 hj1 hj2 (pb_ear_free hr2)) ?_
                refine v_iinc h dX5_endByOrders_123 (q := 126) rfl rfl pb_inc rfl ?_
                refine v_goto h dX5_endByOrders_126 (tgt := 20) (by decide) ?_
                have h9 := ih (i + 1) (by omega)
                rw [e9] at h9
                exact v_wk (by simp [pb_wk]) h9
      exact lp 16 0 (by omega)
def pb_ea (sg : pb_Sg) (s p : Nat) : Int32 := if pb_ebo s p 6 sg (pb_pres (sg (p + 1))) (-1) (nI 400) < nI 400 then pb_ebo s p 6 sg (pb_pres (sg (p + 1))) (-1) (nI 400) else -1
set_option maxHeartbeats 4000000 in
set_option maxRecDepth 100000 in
theorem c_X5_endByAll {l : Launch} (hfl : l.stackTraces = false) {sz : Nat} {sk : pb_Sk} {rf : pb_Rf} {sg : pb_Sg} {s p : Nat} (hs : pb_sch sk rf s) (hp : pb_plan sk rf p) (hap : pb_ap s p) (hsi : pb_si sg s p) (hsj : pb_sj sg s (pb_pres (sg (p + 1)))) : pb_Met l mX5_endByAll 12 0 0 [.ref s, .ref p] sz sk rf sg (pb_is (some (.int (pb_ea sg s p))) sz sk rf sg) := by
  refine pb_start hfl (by decide +kernel) rfl (pb_c1 rfl) (Nat.le_of_ble_eq_true rfl) (fun F hF h hQ => ?_)
  subst hF
  show pv F 0 0 sz sk rf sg 0 [some (.ref s), some (.ref p), none] []
  obtain ⟨hp0, hp1, hp2, hp3, hp4, hp5, hp6, hp7, hp8⟩ := id hp
  obtain ⟨hs0, hs1, hs2, hs3, hs4, hs5, hs6⟩ := id hs
  refine v_aload_n h (i := 0) dX5_endByAll_0 (q := 1) rfl rfl rfl ?_
  refine v_aload_n h (i := 1) dX5_endByAll_1 (q := 2) rfl rfl rfl ?_
  refine v_aload_n h (i := 1) dX5_endByAll_2 (q := 3) rfl rfl rfl ?_
  refine v_callV1 h (c_X4_present hfl hp) kX4_present tw636 tw472 (by assumption) (by decide) rfl rfl rfl (by simp [Value.category]) (by decide) (Nat.zero_le _) (Nat.zero_le _) rfl dX5_endByAll_3 (q := 6) rfl ?_
  refine v_iconst h (v := (-1)) dX5_endByAll_6 (q := 7) rfl (by decide +kernel) ?_
  refine v_sipush h (v := nI 400) dX5_endByAll_7 (q := 10) rfl (by decide +kernel) ?_
  refine v_iconst h (v := nI 0) dX5_endByAll_10 (q := 11) rfl (by decide +kernel) ?_
  refine v_callS1 h (c_X5_endByOrders hfl hs hp hap 6 (show 0 + 6 = 6 from rfl) hsi hsj) kX5_endByOrders rfl tw803 rfl rfl (by simp [Value.category]) (by decide) (Nat.zero_le _) (Nat.zero_le _) rfl dX5_endByAll_11 (q := 14) rfl ?_
  refine v_istore_n h (i := 2) dX5_endByAll_14 (q := 15) rfl rfl (Nat.le_of_ble_eq_true rfl) rfl ?_
  refine v_iload_n h (i := 2) dX5_endByAll_15 (q := 16) rfl rfl rfl ?_
  refine v_sipush h (v := nI 400) dX5_endByAll_16 (q := 19) rfl (by decide +kernel) ?_
  refine v_icmp_ge h dX5_endByAll_19 (q := 22) rfl (tgt := 26) (by decide) (fun c1 => ?_) (fun c1 => ?_)
  · skip
    have e9 : pb_ea sg s p = -1 := if_neg (Int32.not_lt.mpr c1)
    refine v_iconst h (v := (-1)) dX5_endByAll_26 (q := 27) rfl (by decide +kernel) ?_
    refine v_iret h hQ rfl rfl dX5_endByAll_27 (Nat.zero_le _) (Nat.zero_le _) ⟨by rw [e9], rfl, rfl, rfl, rfl⟩
  · skip
    have e9 : pb_ea sg s p = pb_ebo s p 6 sg (pb_pres (sg (p + 1))) (-1) (nI 400) := if_pos (Int32.not_le.mp c1)
    refine v_iload_n h (i := 2) dX5_endByAll_22 (q := 23) rfl rfl rfl ?_
    refine v_goto h dX5_endByAll_23 (tgt := 27) (by decide) ?_
    refine v_iret h hQ rfl rfl dX5_endByAll_27 (Nat.zero_le _) (Nat.zero_le _) ⟨by rw [e9], rfl, rfl, rfl, rfl⟩
