def pb_mbh (sg : pb_Sg) (M q t n : Nat) : Int32 := if pb_in (sg (M + 4) (16 * q + t)) n = true then sg (M + 21) n + sg (M + 1) (16 * q + n) else nI 0
def pb_mdn (sg : pb_Sg) (M q t : Nat) : Nat → Int32
  | 0 => nI 0
  | n + 1 => pb_mx (pb_mdn sg M q t n) (pb_mbh sg M q t n)
/-- first day of the run so far, and its length -/
def pb_msc (ok : Nat → Bool) (l : Nat) : Nat → Nat → Nat → Nat → Nat × Nat
  | 0, _, r, f => (f, r)
  | j + 1, d, r, f => if r < l then (if ok d = true then pb_msc ok l j (d + 1) (r + 1) (d - r) else pb_msc ok l j (d + 1) 0 (d + 1)) else (f, r)
theorem pb_msc_stop {ok : Nat → Bool} {l j d r f : Nat} (h : ¬ r < l) : pb_msc ok l j d r f = (f, r) := by
  cases j with
  | zero => rfl
  | succ j => exact if_neg h
theorem pb_msc_le {ok : Nat → Bool} {l : Nat} : ∀ (j d r f F R : Nat), f + r = d → r ≤ l → pb_msc ok l j d r f = (F, R) → R ≤ l ∧ F + R ≤ d + j := by
  intro j
  induction j with
  | zero => intro d r f F R h1 h2 h; cases h; omega
  | succ j ih =>
    intro d r f F R h1 h2 h
    unfold pb_msc at h
    by_cases e : r < l
    · rw [if_pos e] at h
      by_cases e2 : ok d = true
      · rw [if_pos e2] at h
        have := ih (d + 1) (r + 1) (d - r) F R (by omega) (by omega) h
        omega
      · rw [if_neg e2] at h
        have := ih (d + 1) 0 (d + 1) F R (by omega) (by omega) h
        omega
    · rw [if_neg e] at h
      cases h; omega
def pb_mokN (_ : Nat) : Bool := true
def pb_mokC (sg : pb_Sg) (M c d : Nat) : Bool := decide (¬ sg (M + 23) (400 * c + d) = 0) && decide (sg (M + 22) (400 * c + d) = -1)
theorem pb_subn {a b : Nat} (h : b ≤ a) : nI a - nI b = nI (a - b) := by
  have h1 : nI b + nI (a - b) = nI a := by rw [nI_add]; congr 1; omega
  rw [← h1, Int32.add_comm, Int32.sub_eq_add_neg, Int32.add_assoc, ← Int32.sub_eq_add_neg, Int32.sub_self, Int32.add_zero]
def pb_mscH (ok : Nat → Bool) (l j d r g F R : Nat) : Prop := g + r = d ∧ pb_msc ok l j d r g = (F, R) ∧ r ≤ l
set_option maxHeartbeats 4000000 in
set_option maxRecDepth 100000 in
theorem xN_X8_places {l : Launch} (hfl : l.stackTraces = false) {sz : Nat} {sk : pb_Sk} {rf : pb_Rf} {sg : pb_Sg} {M : Nat} (hm : pb_md sk rf M) {q t : Nat} (hq : q < 17) (ht : t < 16) {ln fr f r : Nat} (hl : sg (M + 1) (16 * q + t) = nI ln) (hl20 : ln ≤ 20) (hc : sg (M + 2) (16 * q + t) = -1) (hfr : pb_mdn sg M q t 16 = nI fr) (hfr4 : fr ≤ 400) (hx : pb_msc pb_mokN ln (400 - fr) fr 0 fr = (f, r)) (hr : r < ln) : pb_Met l mX8_places 3 0 0 [.ref M, .int (nI q), .int (nI t)] sz sk rf sg (pb_is (some (.int (-1))) sz sk rf sg) := by
  refine pb_start hfl (by decide +kernel) rfl (pb_c1 rfl) (Nat.le_of_ble_eq_true rfl) (fun F hF h hQ => ?_)
  subst hF
  show pv F 0 0 sz sk rf sg 0 [some (.ref M), some (.int (nI q)), some (.int (nI t)), none, none, none, none, none, none] []
  obtain ⟨hM0, hr1, hk1, hr2, hk2, hr3, hk3, hr4, hk4, hr5, hk5, hr6, hk6, hr7, hk7, hr8, hk8, hr9, hk9, hr10, hk10, hr11, hk11, hr12, hk12, hr13, hk13, hr14, hk14, hr15, hk15, hr16, hk16, hr17, hk17, hr18, hk18, hr19, hk19, hr20, hk20, hr21, hk21, hr22, hk22, hr23, hk23, hr24, hk24⟩ := id hm
  obtain ⟨hRl, hFR⟩ := pb_msc_le _ _ _ _ _ _ (Nat.add_zero _) (Nat.zero_le _) hx
  have tail : pv F 0 0 sz sk rf sg 193 [some (.ref M), some (.int (nI q)), some (.int (nI t)), some (.int (nI ln)), some (.int (-1)), some (.int (nI f)), some (.int (nI r)), none, none] [] := by
    refine v_iload h dX8_places_193 (q := 195) rfl rfl ?_
    refine v_iload_n h (i := 3) dX8_places_195 (q := 196) rfl rfl rfl ?_
    refine v_icmp_ge h dX8_places_196 (q := 199) rfl (tgt := 201) (by decide) (fun c1 => absurd (nI_lt hr (by omega)) (Int32.not_lt.mpr c1)) (fun c1 => ?_)
    refine v_iconst h (v := (-1)) dX8_places_199 (q := 200) rfl (by decide +kernel) ?_
    refine v_iret h hQ rfl rfl dX8_places_200 (Nat.zero_le _) (Nat.zero_le _) ⟨rfl, rfl, rfl, rfl, rfl⟩
  refine v_aload_n h (i := 0) dX8_places_0 (q := 1) rfl rfl rfl ?_
  refine v_getr h fl_X8_7 (by assumption) rfl (by assumption) dX8_places_1 (q := 4) rfl ?_
  refine v_iload_n h (i := 1) dX8_places_4 (q := 5) rfl rfl rfl ?_
  refine v_iload_n h (i := 2) dX8_places_5 (q := 6) rfl rfl rfl ?_
  refine v_callS1 h (c_X8_at hfl ) kX8_at rfl tw937 rfl rfl (by simp [Value.category]) (by decide) (Nat.zero_le _) (Nat.zero_le _) rfl dX8_places_6 (q := 9) rfl ?_
  refine v_iald h (by assumption) rfl (by first | assumption | omega) (by decide) dX8_places_9 (q := 10) rfl ?_
  refine v_istore_n h (i := 3) dX8_places_10 (q := 11) rfl rfl (Nat.le_of_ble_eq_true rfl) rfl ?_
  refine v_aload_n h (i := 0) dX8_places_11 (q := 12) rfl rfl rfl ?_
  refine v_getr h fl_X8_13 (by assumption) rfl (by assumption) dX8_places_12 (q := 15) rfl ?_
  refine v_iload_n h (i := 1) dX8_places_15 (q := 16) rfl rfl rfl ?_
  refine v_iload_n h (i := 2) dX8_places_16 (q := 17) rfl rfl rfl ?_
  refine v_callS1 h (c_X8_at hfl ) kX8_at rfl tw937 rfl rfl (by simp [Value.category]) (by decide) (Nat.zero_le _) (Nat.zero_le _) rfl dX8_places_17 (q := 20) rfl ?_
  refine v_iald h (by assumption) rfl (by first | assumption | omega) (by decide) dX8_places_20 (q := 21) rfl ?_
  refine v_istore h dX8_places_21 (q := 23) rfl (Nat.le_of_ble_eq_true rfl) rfl ?_
  refine v_wk (L' := [some (.ref M), some (.int (nI q)), some (.int (nI t)), some (.int (nI ln)), some (.int (-1)), none, none, none, none]) (by simp [pb_wk, hl, hc]) ?_
  refine v_iconst h (v := nI 0) dX8_places_23 (q := 24) rfl (by decide +kernel) ?_
  refine v_istore h dX8_places_24 (q := 26) rfl (Nat.le_of_ble_eq_true rfl) rfl ?_
  refine v_iconst h (v := nI 0) dX8_places_26 (q := 27) rfl (by decide +kernel) ?_
  refine v_istore h dX8_places_27 (q := 29) rfl (Nat.le_of_ble_eq_true rfl) rfl ?_
  have lp : ∀ (j i : Nat), i + j = 16 → pv F 0 0 sz sk rf sg 29 [some (.ref M), some (.int (nI q)), some (.int (nI t)), some (.int (nI ln)), some (.int (-1)), some (.int (pb_mdn sg M q t i)), some (.int (nI i)), none, none] [] := by
    intro j
    induction j with
    | zero =>
      intro i  hi
      obtain rfl : i = 16 := by omega
      refine v_iload h dX8_places_29 (q := 31) rfl rfl ?_
      refine v_bipush h (v := nI 16) dX8_places_31 (q := 33) rfl (by decide +kernel) ?_
      refine v_icmp_ge h dX8_places_33 (q := 36) rfl (tgt := 94) (by decide) (fun c2 => ?_) (fun c2 => pb_kle (Nat.le_refl _) (by decide) c2)
      refine v_iconst h (v := nI 0) dX8_places_94 (q := 95) rfl (by decide +kernel) ?_
      refine v_istore h dX8_places_95 (q := 97) rfl (Nat.le_of_ble_eq_true rfl) rfl ?_
      refine v_wk (L' := [some (.ref M), some (.int (nI q)), some (.int (nI t)), some (.int (nI ln)), some (.int (-1)), some (.int (nI fr)), some (.int (nI 0)), none, none]) (by simp [pb_wk, hfr]) ?_
      refine v_iload h dX8_places_97 (q := 99) rfl rfl ?_
      refine v_istore h dX8_places_99 (q := 101) rfl (Nat.le_of_ble_eq_true rfl) rfl ?_
      have lp : ∀ (j i : Nat) (r9 g : Nat), i + j = 400 → pb_mscH pb_mokN ln (j) i r9 g f r → pv F 0 0 sz sk rf sg 101 [some (.ref M), some (.int (nI q)), some (.int (nI t)), some (.int (nI ln)), some (.int (-1)), some (.int (nI g)), some (.int (nI r9)), some (.int (nI i)), none] [] := by
        intro j
        induction j with
        | zero =>
          intro i r9 g hi hy0
          obtain rfl : i = 400 := by omega
          refine v_iload h dX8_places_101 (q := 103) rfl rfl ?_
          refine v_sipush h (v := nI 400) dX8_places_103 (q := 106) rfl (by decide +kernel) ?_
          refine v_icmp_ge h dX8_places_106 (q := 109) rfl (tgt := 193) (by decide) (fun c3 => ?_) (fun c3 => pb_kle (Nat.le_refl _) (by decide) c3)
          cases hy0.2.1
          exact v_wk (by simp [pb_wk]) tail
        | succ j ih =>
          intro i r9 g hi hy0
          have hi2 : i < 400 := by omega
          refine v_iload h dX8_places_101 (q := 103) rfl rfl ?_
          refine v_sipush h (v := nI 400) dX8_places_103 (q := 106) rfl (by decide +kernel) ?_
          refine v_icmp_ge h dX8_places_106 (q := 109) rfl (tgt := 193) (by decide) (fun c4 => pb_kge hi2 (by decide) c4) (fun c4 => ?_)
          refine v_iload h dX8_places_109 (q := 111) rfl rfl ?_
          refine v_iload_n h (i := 3) dX8_places_111 (q := 112) rfl rfl rfl ?_
          refine v_icmp_ge h dX8_places_112 (q := 115) rfl (tgt := 193) (by decide) (fun c5 => ?_) (fun c5 => ?_)
          · skip
            have hle := hy0.2.2
            have e7 := pb_msc_stop (ok := pb_mokN) (j := j + 1) (d := i) (f := g) (fun q9 => Int32.not_lt.mpr c5 (nI_lt q9 (by omega)))
            rw [hy0.2.1] at e7
            cases e7
            exact v_wk (by simp [pb_wk]) tail
          · skip
            have hle := hy0.2.2
            have hgd := hy0.1
            have e6 : r9 < ln := (nI_ltI (by omega) (by omega)).mp (Int32.not_le.mp c5)
            have e5 : pb_mokN i = true := rfl
            refine v_iload h dX8_places_115 (q := 117) rfl rfl ?_
            refine v_iconst h (v := (-1)) dX8_places_117 (q := 118) rfl (by decide +kernel) ?_
            refine v_icmp_eq h dX8_places_118 (q := 121) rfl (tgt := 156) (by decide) (fun c6 => ?_) (fun c6 => absurd rfl c6)
            refine v_iconst h (v := nI 1) dX8_places_156 (q := 157) rfl (by decide +kernel) ?_
            refine v_goto h dX8_places_157 (tgt := 161) (by decide) ?_
            refine v_istore h dX8_places_161 (q := 163) rfl (Nat.le_of_ble_eq_true rfl) rfl ?_
            refine v_iload h dX8_places_163 (q := 165) rfl rfl ?_
            refine v_if_eq h dX8_places_165 (q := 168) rfl (tgt := 175) (by decide) (fun c7 => absurd c7 (by decide)) (fun c7 => ?_)
            refine v_iload h dX8_places_168 (q := 170) rfl rfl ?_
            refine v_iconst h (v := nI 1) dX8_places_170 (q := 171) rfl (by decide +kernel) ?_
            refine v_iadd h dX8_places_171 (q := 172) rfl ?_
            refine v_goto h dX8_places_172 (tgt := 176) (by decide) ?_
            refine v_eq (st' := [.int (nI (r9 + 1))]) (by rw [nI_add]) ?_
            refine v_istore h dX8_places_176 (q := 178) rfl (Nat.le_of_ble_eq_true rfl) rfl ?_
            refine v_iload h dX8_places_178 (q := 180) rfl rfl ?_
            refine v_iconst h (v := nI 1) dX8_places_180 (q := 181) rfl (by decide +kernel) ?_
            refine v_iadd h dX8_places_181 (q := 182) rfl ?_
            refine v_iload h dX8_places_182 (q := 184) rfl rfl ?_
            refine v_isub h dX8_places_184 (q := 185) rfl ?_
            refine v_eq (st' := [.int (nI (i - r9))]) (by rw [nI_add, pb_subn (by omega), Nat.add_sub_add_right]) ?_
            refine v_istore h dX8_places_185 (q := 187) rfl (Nat.le_of_ble_eq_true rfl) rfl ?_
            refine v_iinc h dX8_places_187 (q := 190) rfl rfl pb_inc rfl ?_
            refine v_goto h dX8_places_190 (tgt := 101) (by decide) ?_
            have q9 := hy0.2.1
            have q8 := hy0.1
            unfold pb_msc at q9
            rw [if_pos e6, if_pos e5] at q9
            exact v_wk (by simp [pb_wk]) (ih (i + 1) (r9 + 1) (i - r9) (by omega) ⟨by omega, q9, by omega⟩)
      exact v_wk (by simp [pb_wk]) (lp (400 - fr) fr 0 fr (by omega) ⟨Nat.add_zero _, hx, Nat.zero_le _⟩)
    | succ j ih =>
      intro i  hi
      have hi2 : i < 16 := by omega
      refine v_iload h dX8_places_29 (q := 31) rfl rfl ?_
      refine v_bipush h (v := nI 16) dX8_places_31 (q := 33) rfl (by decide +kernel) ?_
      refine v_icmp_ge h dX8_places_33 (q := 36) rfl (tgt := 94) (by decide) (fun c8 => pb_kge hi2 (by decide) c8) (fun c8 => ?_)
      refine v_aload_n h (i := 0) dX8_places_36 (q := 37) rfl rfl rfl ?_
      refine v_iload_n h (i := 1) dX8_places_37 (q := 38) rfl rfl rfl ?_
      refine v_iload_n h (i := 2) dX8_places_38 (q := 39) rfl rfl rfl ?_
      refine v_iload h dX8_places_39 (q := 41) rfl rfl ?_
      refine v_callV1 h (c_X8_doesNeed hfl hm hq ht hi2) kX8_doesNeed tw956 tw19 (by assumption) (by decide) rfl rfl rfl (by simp [Value.category]) (by decide) (Nat.zero_le _) (Nat.zero_le _) rfl dX8_places_41 (q := 44) rfl ?_
      refine v_if_eq h dX8_places_44 (q := 47) rfl (tgt := 69) (by decide) (fun c9 => ?_) (fun c9 => ?_)
      · skip
        have e1 := pb_b_0.mp c9
        have e2 : pb_mbh sg M q t i = nI 0 := if_neg (by rw [e1]; decide)
        refine v_iconst h (v := nI 0) dX8_places_69 (q := 70) rfl (by decide +kernel) ?_
        refine v_eq (st' := [.int (pb_mbh sg M q t i)]) (by rw [e2]) ?_
        refine v_istore h dX8_places_70 (q := 72) rfl (Nat.le_of_ble_eq_true rfl) rfl ?_
        refine v_iload h dX8_places_72 (q := 74) rfl rfl ?_
        refine v_iload h dX8_places_74 (q := 76) rfl rfl ?_
        refine v_icmp_le h dX8_places_76 (q := 79) rfl (tgt := 84) (by decide) (fun c10 => ?_) (fun c10 => ?_)
        · skip
          have e9 : pb_mdn sg M q t (i + 1) = (pb_mdn sg M q t i) := pb_mx_le c10
          refine v_iload h dX8_places_84 (q := 86) rfl rfl ?_
          refine v_istore h dX8_places_86 (q := 88) rfl (Nat.le_of_ble_eq_true rfl) rfl ?_
          refine v_iinc h dX8_places_88 (q := 91) rfl rfl pb_inc rfl ?_
          refine v_goto h dX8_places_91 (tgt := 29) (by decide) ?_
          have h9 := ih (i + 1) (by omega)
          rw [e9] at h9
          exact v_wk (by simp [pb_wk]) h9
        · skip
          have e9 : pb_mdn sg M q t (i + 1) = pb_mbh sg M q t i := pb_mx_gt c10
          refine v_iload h dX8_places_79 (q := 81) rfl rfl ?_
          refine v_goto h dX8_places_81 (tgt := 86) (by decide) ?_
          refine v_istore h dX8_places_86 (q := 88) rfl (Nat.le_of_ble_eq_true rfl) rfl ?_
          refine v_iinc h dX8_places_88 (q := 91) rfl rfl pb_inc rfl ?_
          refine v_goto h dX8_places_91 (tgt := 29) (by decide) ?_
          have h9 := ih (i + 1) (by omega)
          rw [e9] at h9
          exact v_wk (by simp [pb_wk]) h9
      · skip
        have e1 := pb_ne_f (fun q => c9 (pb_b_0.mpr q))
        have e2 : pb_mbh sg M q t i = sg (M + 21) i + sg (M + 1) (16 * q + i) := if_pos e1
        refine v_aload_n h (i := 0) dX8_places_47 (q := 48) rfl rfl rfl ?_
        refine v_getr h fl_X8_74 (by assumption) rfl (by assumption) dX8_places_48 (q := 51) rfl ?_
        refine v_iload h dX8_places_51 (q := 53) rfl rfl ?_
        refine v_iald h (by assumption) rfl (by first | assumption | omega) (by decide) dX8_places_53 (q := 54) rfl ?_
        refine v_aload_n h (i := 0) dX8_places_54 (q := 55) rfl rfl rfl ?_
        refine v_getr h fl_X8_7 (by assumption) rfl (by assumption) dX8_places_55 (q := 58) rfl ?_
        refine v_iload_n h (i := 1) dX8_places_58 (q := 59) rfl rfl rfl ?_
        refine v_iload h dX8_places_59 (q := 61) rfl rfl ?_
        refine v_callS1 h (c_X8_at hfl ) kX8_at rfl tw937 rfl rfl (by simp [Value.category]) (by decide) (Nat.zero_le _) (Nat.zero_le _) rfl dX8_places_61 (q := 64) rfl ?_
        refine v_iald h (by assumption) rfl (by first | assumption | omega) (by decide) dX8_places_64 (q := 65) rfl ?_
        refine v_iadd h dX8_places_65 (q := 66) rfl ?_
        refine v_goto h dX8_places_66 (tgt := 70) (by decide) ?_
        refine v_eq (st' := [.int (pb_mbh sg M q t i)]) (by rw [e2]) ?_
        refine v_istore h dX8_places_70 (q := 72) rfl (Nat.le_of_ble_eq_true rfl) rfl ?_
        refine v_iload h dX8_places_72 (q := 74) rfl rfl ?_
        refine v_iload h dX8_places_74 (q := 76) rfl rfl ?_
        refine v_icmp_le h dX8_places_76 (q := 79) rfl (tgt := 84) (by decide) (fun c11 => ?_) (fun c11 => ?_)
        · skip
          have e9 : pb_mdn sg M q t (i + 1) = (pb_mdn sg M q t i) := pb_mx_le c11
          refine v_iload h dX8_places_84 (q := 86) rfl rfl ?_
          refine v_istore h dX8_places_86 (q := 88) rfl (Nat.le_of_ble_eq_true rfl) rfl ?_
          refine v_iinc h dX8_places_88 (q := 91) rfl rfl pb_inc rfl ?_
          refine v_goto h dX8_places_91 (tgt := 29) (by decide) ?_
          have h9 := ih (i + 1) (by omega)
          rw [e9] at h9
          exact v_wk (by simp [pb_wk]) h9
        · skip
          have e9 : pb_mdn sg M q t (i + 1) = pb_mbh sg M q t i := pb_mx_gt c11
          refine v_iload h dX8_places_79 (q := 81) rfl rfl ?_
          refine v_goto h dX8_places_81 (tgt := 86) (by decide) ?_
          refine v_istore h dX8_places_86 (q := 88) rfl (Nat.le_of_ble_eq_true rfl) rfl ?_
          refine v_iinc h dX8_places_88 (q := 91) rfl rfl pb_inc rfl ?_
          refine v_goto h dX8_places_91 (tgt := 29) (by decide) ?_
          have h9 := ih (i + 1) (by omega)
          rw [e9] at h9
          exact v_wk (by simp [pb_wk]) h9
  exact lp 16 0 (by omega)
set_option maxHeartbeats 4000000 in
set_option maxRecDepth 100000 in
theorem cN_X8_places {l : Launch} (hfl : l.stackTraces = false) {sz : Nat} {sk : pb_Sk} {rf : pb_Rf} {sg : pb_Sg} {M : Nat} (hm : pb_md sk rf M) {q t : Nat} (hq : q < 17) (ht : t < 16) {ln fr f r : Nat} (hl : sg (M + 1) (16 * q + t) = nI ln) (hl20 : ln ≤ 20) (hc : sg (M + 2) (16 * q + t) = -1) (hfr : pb_mdn sg M q t 16 = nI fr) (hfr4 : fr ≤ 400) (hx : pb_msc pb_mokN ln (400 - fr) fr 0 fr = (f, r)) (hr : ¬ r < ln) : pb_Met l mX8_places 3 0 0 [.ref M, .int (nI q), .int (nI t)] sz sk rf sg (pb_is (some (.int (nI f))) sz sk rf (pb_up sg (M + 21) t (nI f))) := by
  refine pb_start hfl (by decide +kernel) rfl (pb_c1 rfl) (Nat.le_of_ble_eq_true rfl) (fun F hF h hQ => ?_)
  subst hF
  show pv F 0 0 sz sk rf sg 0 [some (.ref M), some (.int (nI q)), some (.int (nI t)), none, none, none, none, none, none] []
  obtain ⟨hM0, hr1, hk1, hr2, hk2, hr3, hk3, hr4, hk4, hr5, hk5, hr6, hk6, hr7, hk7, hr8, hk8, hr9, hk9, hr10, hk10, hr11, hk11, hr12, hk12, hr13, hk13, hr14, hk14, hr15, hk15, hr16, hk16, hr17, hk17, hr18, hk18, hr19, hk19, hr20, hk20, hr21, hk21, hr22, hk22, hr23, hk23, hr24, hk24⟩ := id hm
  obtain ⟨hRl, hFR⟩ := pb_msc_le _ _ _ _ _ _ (Nat.add_zero _) (Nat.zero_le _) hx
  have tail : pv F 0 0 sz sk rf sg 193 [some (.ref M), some (.int (nI q)), some (.int (nI t)), some (.int (nI ln)), some (.int (-1)), some (.int (nI f)), some (.int (nI r)), none, none] [] := by
    refine v_iload h dX8_places_193 (q := 195) rfl rfl ?_
    refine v_iload_n h (i := 3) dX8_places_195 (q := 196) rfl rfl rfl ?_
    refine v_icmp_ge h dX8_places_196 (q := 199) rfl (tgt := 201) (by decide) (fun c1 => ?_) (fun c1 => absurd (Int32.not_le.mp c1) (fun q9 => hr ((nI_ltI (by omega) (by omega)).mp q9)))
    refine v_iload h dX8_places_201 (q := 203) rfl rfl ?_
    refine v_istore h dX8_places_203 (q := 205) rfl (Nat.le_of_ble_eq_true rfl) rfl ?_
    have lp : ∀ (j i : Nat), i + j = ln → pv F 0 0 sz sk rf sg 205 [some (.ref M), some (.int (nI q)), some (.int (nI t)), some (.int (nI ln)), some (.int (-1)), some (.int (nI f)), some (.int (nI r)), some (.int (nI (f + i))), none] [] := by
      intro j
      induction j with
      | zero =>
        intro i  hi
        obtain rfl : i = ln := by omega
        refine v_iload h dX8_places_205 (q := 207) rfl rfl ?_
        refine v_iload h dX8_places_207 (q := 209) rfl rfl ?_
        refine v_iload_n h (i := 3) dX8_places_209 (q := 210) rfl rfl rfl ?_
        refine v_iadd h dX8_places_210 (q := 211) rfl ?_
        refine v_eq (st' := [.int (nI (f + i)), .int (nI (f + i))]) (by rw [nI_add]) ?_
        refine v_icmp_ge h dX8_places_211 (q := 214) rfl (tgt := 241) (by decide) (fun c2 => ?_) (fun c2 => pb_kle (Nat.le_refl _) (by omega) c2)
        refine v_aload_n h (i := 0) dX8_places_241 (q := 242) rfl rfl rfl ?_
        refine v_getr h fl_X8_74 (by assumption) rfl (by assumption) dX8_places_242 (q := 245) rfl ?_
        refine v_iload_n h (i := 2) dX8_places_245 (q := 246) rfl rfl rfl ?_
        refine v_iload h dX8_places_246 (q := 248) rfl rfl ?_
        refine v_iast h (by assumption) rfl (by first | assumption | omega) (by decide) dX8_places_248 (q := 249) rfl ?_
        refine v_iload h dX8_places_249 (q := 251) rfl rfl ?_
        refine v_iret h hQ rfl rfl dX8_places_251 (Nat.zero_le _) (Nat.zero_le _) ⟨rfl, rfl, rfl, rfl, rfl⟩
      | succ j ih =>
        intro i  hi
        have hi2 : i < ln := by omega
        refine v_iload h dX8_places_205 (q := 207) rfl rfl ?_
        refine v_iload h dX8_places_207 (q := 209) rfl rfl ?_
        refine v_iload_n h (i := 3) dX8_places_209 (q := 210) rfl rfl rfl ?_
        refine v_iadd h dX8_places_210 (q := 211) rfl ?_
        refine v_eq (st' := [.int (nI (f + ln)), .int (nI (f + i))]) (by rw [nI_add]) ?_
        refine v_icmp_ge h dX8_places_211 (q := 214) rfl (tgt := 241) (by decide) (fun c3 => pb_kge (show f + i < f + ln by omega) (by omega) c3) (fun c3 => ?_)
        refine v_iload h dX8_places_214 (q := 216) rfl rfl ?_
        refine v_iconst h (v := (-1)) dX8_places_216 (q := 217) rfl (by decide +kernel) ?_
        refine v_icmp_eq h dX8_places_217 (q := 220) rfl (tgt := 241) (by decide) (fun c4 => ?_) (fun c4 => absurd rfl c4)
        refine v_aload_n h (i := 0) dX8_places_241 (q := 242) rfl rfl rfl ?_
        refine v_getr h fl_X8_74 (by assumption) rfl (by assumption) dX8_places_242 (q := 245) rfl ?_
        refine v_iload_n h (i := 2) dX8_places_245 (q := 246) rfl rfl rfl ?_
        refine v_iload h dX8_places_246 (q := 248) rfl rfl ?_
        refine v_iast h (by assumption) rfl (by first | assumption | omega) (by decide) dX8_places_248 (q := 249) rfl ?_
        refine v_iload h dX8_places_249 (q := 251) rfl rfl ?_
        refine v_iret h hQ rfl rfl dX8_places_251 (Nat.zero_le _) (Nat.zero_le _) ⟨rfl, rfl, rfl, rfl, rfl⟩
    exact lp ln 0 (by omega)
  refine v_aload_n h (i := 0) dX8_places_0 (q := 1) rfl rfl rfl ?_
  refine v_getr h fl_X8_7 (by assumption) rfl (by assumption) dX8_places_1 (q := 4) rfl ?_
  refine v_iload_n h (i := 1) dX8_places_4 (q := 5) rfl rfl rfl ?_
  refine v_iload_n h (i := 2) dX8_places_5 (q := 6) rfl rfl rfl ?_
  refine v_callS1 h (c_X8_at hfl ) kX8_at rfl tw937 rfl rfl (by simp [Value.category]) (by decide) (Nat.zero_le _) (Nat.zero_le _) rfl dX8_places_6 (q := 9) rfl ?_
  refine v_iald h (by assumption) rfl (by first | assumption | omega) (by decide) dX8_places_9 (q := 10) rfl ?_
  refine v_istore_n h (i := 3) dX8_places_10 (q := 11) rfl rfl (Nat.le_of_ble_eq_true rfl) rfl ?_
  refine v_aload_n h (i := 0) dX8_places_11 (q := 12) rfl rfl rfl ?_
  refine v_getr h fl_X8_13 (by assumption) rfl (by assumption) dX8_places_12 (q := 15) rfl ?_
  refine v_iload_n h (i := 1) dX8_places_15 (q := 16) rfl rfl rfl ?_
  refine v_iload_n h (i := 2) dX8_places_16 (q := 17) rfl rfl rfl ?_
  refine v_callS1 h (c_X8_at hfl ) kX8_at rfl tw937 rfl rfl (by simp [Value.category]) (by decide) (Nat.zero_le _) (Nat.zero_le _) rfl dX8_places_17 (q := 20) rfl ?_
  refine v_iald h (by assumption) rfl (by first | assumption | omega) (by decide) dX8_places_20 (q := 21) rfl ?_
  refine v_istore h dX8_places_21 (q := 23) rfl (Nat.le_of_ble_eq_true rfl) rfl ?_
  refine v_wk (L' := [some (.ref M), some (.int (nI q)), some (.int (nI t)), some (.int (nI ln)), some (.int (-1)), none, none, none, none]) (by simp [pb_wk, hl, hc]) ?_
  refine v_iconst h (v := nI 0) dX8_places_23 (q := 24) rfl (by decide +kernel) ?_
  refine v_istore h dX8_places_24 (q := 26) rfl (Nat.le_of_ble_eq_true rfl) rfl ?_
  refine v_iconst h (v := nI 0) dX8_places_26 (q := 27) rfl (by decide +kernel) ?_
  refine v_istore h dX8_places_27 (q := 29) rfl (Nat.le_of_ble_eq_true rfl) rfl ?_
  have lp : ∀ (j i : Nat), i + j = 16 → pv F 0 0 sz sk rf sg 29 [some (.ref M), some (.int (nI q)), some (.int (nI t)), some (.int (nI ln)), some (.int (-1)), some (.int (pb_mdn sg M q t i)), some (.int (nI i)), none, none] [] := by
    intro j
    induction j with
    | zero =>
      intro i  hi
      obtain rfl : i = 16 := by omega
      refine v_iload h dX8_places_29 (q := 31) rfl rfl ?_
      refine v_bipush h (v := nI 16) dX8_places_31 (q := 33) rfl (by decide +kernel) ?_
      refine v_icmp_ge h dX8_places_33 (q := 36) rfl (tgt := 94) (by decide) (fun c5 => ?_) (fun c5 => pb_kle (Nat.le_refl _) (by decide) c5)
      refine v_iconst h (v := nI 0) dX8_places_94 (q := 95) rfl (by decide +kernel) ?_
      refine v_istore h dX8_places_95 (q := 97) rfl (Nat.le_of_ble_eq_true rfl) rfl ?_
      refine v_wk (L' := [some (.ref M), some (.int (nI q)), some (.int (nI t)), some (.int (nI ln)), some (.int (-1)), some (.int (nI fr)), some (.int (nI 0)), none, none]) (by simp [pb_wk, hfr]) ?_
      refine v_iload h dX8_places_97 (q := 99) rfl rfl ?_
      refine v_istore h dX8_places_99 (q := 101) rfl (Nat.le_of_ble_eq_true rfl) rfl ?_
      have lp : ∀ (j i : Nat) (r9 g : Nat), i + j = 400 → pb_mscH pb_mokN ln (j) i r9 g f r → pv F 0 0 sz sk rf sg 101 [some (.ref M), some (.int (nI q)), some (.int (nI t)), some (.int (nI ln)), some (.int (-1)), some (.int (nI g)), some (.int (nI r9)), some (.int (nI i)), none] [] := by
        intro j
        induction j with
        | zero =>
          intro i r9 g hi hy0
          obtain rfl : i = 400 := by omega
          refine v_iload h dX8_places_101 (q := 103) rfl rfl ?_
          refine v_sipush h (v := nI 400) dX8_places_103 (q := 106) rfl (by decide +kernel) ?_
          refine v_icmp_ge h dX8_places_106 (q := 109) rfl (tgt := 193) (by decide) (fun c6 => ?_) (fun c6 => pb_kle (Nat.le_refl _) (by decide) c6)
          cases hy0.2.1
          exact v_wk (by simp [pb_wk]) tail
        | succ j ih =>
          intro i r9 g hi hy0
          have hi2 : i < 400 := by omega
          refine v_iload h dX8_places_101 (q := 103) rfl rfl ?_
          refine v_sipush h (v := nI 400) dX8_places_103 (q := 106) rfl (by decide +kernel) ?_
          refine v_icmp_ge h dX8_places_106 (q := 109) rfl (tgt := 193) (by decide) (fun c7 => pb_kge hi2 (by decide) c7) (fun c7 => ?_)
          refine v_iload h dX8_places_109 (q := 111) rfl rfl ?_
          refine v_iload_n h (i := 3) dX8_places_111 (q := 112) rfl rfl rfl ?_
          refine v_icmp_ge h dX8_places_112 (q := 115) rfl (tgt := 193) (by decide) (fun c8 => ?_) (fun c8 => ?_)
          · skip
            have hle := hy0.2.2
            have e7 := pb_msc_stop (ok := pb_mokN) (j := j + 1) (d := i) (f := g) (fun q9 => Int32.not_lt.mpr c8 (nI_lt q9 (by omega)))
            rw [hy0.2.1] at e7
            cases e7
            exact v_wk (by simp [pb_wk]) tail
          · skip
            have hle := hy0.2.2
            have hgd := hy0.1
            have e6 : r9 < ln := (nI_ltI (by omega) (by omega)).mp (Int32.not_le.mp c8)
            have e5 : pb_mokN i = true := rfl
            refine v_iload h dX8_places_115 (q := 117) rfl rfl ?_
            refine v_iconst h (v := (-1)) dX8_places_117 (q := 118) rfl (by decide +kernel) ?_
            refine v_icmp_eq h dX8_places_118 (q := 121) rfl (tgt := 156) (by decide) (fun c9 => ?_) (fun c9 => absurd rfl c9)
            refine v_iconst h (v := nI 1) dX8_places_156 (q := 157) rfl (by decide +kernel) ?_
            refine v_goto h dX8_places_157 (tgt := 161) (by decide) ?_
            refine v_istore h dX8_places_161 (q := 163) rfl (Nat.le_of_ble_eq_true rfl) rfl ?_
            refine v_iload h dX8_places_163 (q := 165) rfl rfl ?_
            refine v_if_eq h dX8_places_165 (q := 168) rfl (tgt := 175) (by decide) (fun c10 => absurd c10 (by decide)) (fun c10 => ?_)
            refine v_iload h dX8_places_168 (q := 170) rfl rfl ?_
            refine v_iconst h (v := nI 1) dX8_places_170 (q := 171) rfl (by decide +kernel) ?_
            refine v_iadd h dX8_places_171 (q := 172) rfl ?_
            refine v_goto h dX8_places_172 (tgt := 176) (by decide) ?_
            refine v_eq (st' := [.int (nI (r9 + 1))]) (by rw [nI_add]) ?_
            refine v_istore h dX8_places_176 (q := 178) rfl (Nat.le_of_ble_eq_true rfl) rfl ?_
            refine v_iload h dX8_places_178 (q := 180) rfl rfl ?_
            refine v_iconst h (v := nI 1) dX8_places_180 (q := 181) rfl (by decide +kernel) ?_
            refine v_iadd h dX8_places_181 (q := 182) rfl ?_
            refine v_iload h dX8_places_182 (q := 184) rfl rfl ?_
            refine v_isub h dX8_places_184 (q := 185) rfl ?_
            refine v_eq (st' := [.int (nI (i - r9))]) (by rw [nI_add, pb_subn (by omega), Nat.add_sub_add_right]) ?_
            refine v_istore h dX8_places_185 (q := 187) rfl (Nat.le_of_ble_eq_true rfl) rfl ?_
            refine v_iinc h dX8_places_187 (q := 190) rfl rfl pb_inc rfl ?_
            refine v_goto h dX8_places_190 (tgt := 101) (by decide) ?_
            have q9 := hy0.2.1
            have q8 := hy0.1
            unfold pb_msc at q9
            rw [if_pos e6, if_pos e5] at q9
            exact v_wk (by simp [pb_wk]) (ih (i + 1) (r9 + 1) (i - r9) (by omega) ⟨by omega, q9, by omega⟩)
      exact v_wk (by simp [pb_wk]) (lp (400 - fr) fr 0 fr (by omega) ⟨Nat.add_zero _, hx, Nat.zero_le _⟩)
    | succ j ih =>
      intro i  hi
      have hi2 : i < 16 := by omega
      refine v_iload h dX8_places_29 (q := 31) rfl rfl ?_
      refine v_bipush h (v := nI 16) dX8_places_31 (q := 33) rfl (by decide +kernel) ?_
      refine v_icmp_ge h dX8_places_33 (q := 36) rfl (tgt := 94) (by decide) (fun c11 => pb_kge hi2 (by decide) c11) (fun c11 => ?_)
      refine v_aload_n h (i := 0) dX8_places_36 (q := 37) rfl rfl rfl ?_
      refine v_iload_n h (i := 1) dX8_places_37 (q := 38) rfl rfl rfl ?_
      refine v_iload_n h (i := 2) dX8_places_38 (q := 39) rfl rfl rfl ?_
      refine v_iload h dX8_places_39 (q := 41) rfl rfl ?_
      refine v_callV1 h (c_X8_doesNeed hfl hm hq ht hi2) kX8_doesNeed tw956 tw19 (by assumption) (by decide) rfl rfl rfl (by simp [Value.category]) (by decide) (Nat.zero_le _) (Nat.zero_le _) rfl dX8_places_41 (q := 44) rfl ?_
      refine v_if_eq h dX8_places_44 (q := 47) rfl (tgt := 69) (by decide) (fun c12 => ?_) (fun c12 => ?_)
      · skip
        have e1 := pb_b_0.mp c12
        have e2 : pb_mbh sg M q t i = nI 0 := if_neg (by rw [e1]; decide)
        refine v_iconst h (v := nI 0) dX8_places_69 (q := 70) rfl (by decide +kernel) ?_
        refine v_eq (st' := [.int (pb_mbh sg M q t i)]) (by rw [e2]) ?_
        refine v_istore h dX8_places_70 (q := 72) rfl (Nat.le_of_ble_eq_true rfl) rfl ?_
        refine v_iload h dX8_places_72 (q := 74) rfl rfl ?_
        refine v_iload h dX8_places_74 (q := 76) rfl rfl ?_
        refine v_icmp_le h dX8_places_76 (q := 79) rfl (tgt := 84) (by decide) (fun c13 => ?_) (fun c13 => ?_)
        · skip
          have e9 : pb_mdn sg M q t (i + 1) = (pb_mdn sg M q t i) := pb_mx_le c13
          refine v_iload h dX8_places_84 (q := 86) rfl rfl ?_
          refine v_istore h dX8_places_86 (q := 88) rfl (Nat.le_of_ble_eq_true rfl) rfl ?_
          refine v_iinc h dX8_places_88 (q := 91) rfl rfl pb_inc rfl ?_
          refine v_goto h dX8_places_91 (tgt := 29) (by decide) ?_
          have h9 := ih (i + 1) (by omega)
          rw [e9] at h9
          exact v_wk (by simp [pb_wk]) h9
        · skip
          have e9 : pb_mdn sg M q t (i + 1) = pb_mbh sg M q t i := pb_mx_gt c13
          refine v_iload h dX8_places_79 (q := 81) rfl rfl ?_
          refine v_goto h dX8_places_81 (tgt := 86) (by decide) ?_
          refine v_istore h dX8_places_86 (q := 88) rfl (Nat.le_of_ble_eq_true rfl) rfl ?_
          refine v_iinc h dX8_places_88 (q := 91) rfl rfl pb_inc rfl ?_
          refine v_goto h dX8_places_91 (tgt := 29) (by decide) ?_
          have h9 := ih (i + 1) (by omega)
          rw [e9] at h9
          exact v_wk (by simp [pb_wk]) h9
      · skip
        have e1 := pb_ne_f (fun q => c12 (pb_b_0.mpr q))
        have e2 : pb_mbh sg M q t i = sg (M + 21) i + sg (M + 1) (16 * q + i) := if_pos e1
        refine v_aload_n h (i := 0) dX8_places_47 (q := 48) rfl rfl rfl ?_
        refine v_getr h fl_X8_74 (by assumption) rfl (by assumption) dX8_places_48 (q := 51) rfl ?_
        refine v_iload h dX8_places_51 (q := 53) rfl rfl ?_
        refine v_iald h (by assumption) rfl (by first | assumption | omega) (by decide) dX8_places_53 (q := 54) rfl ?_
        refine v_aload_n h (i := 0) dX8_places_54 (q := 55) rfl rfl rfl ?_
        refine v_getr h fl_X8_7 (by assumption) rfl (by assumption) dX8_places_55 (q := 58) rfl ?_
        refine v_iload_n h (i := 1) dX8_places_58 (q := 59) rfl rfl rfl ?_
        refine v_iload h dX8_places_59 (q := 61) rfl rfl ?_
        refine v_callS1 h (c_X8_at hfl ) kX8_at rfl tw937 rfl rfl (by simp [Value.category]) (by decide) (Nat.zero_le _) (Nat.zero_le _) rfl dX8_places_61 (q := 64) rfl ?_
        refine v_iald h (by assumption) rfl (by first | assumption | omega) (by decide) dX8_places_64 (q := 65) rfl ?_
        refine v_iadd h dX8_places_65 (q := 66) rfl ?_
        refine v_goto h dX8_places_66 (tgt := 70) (by decide) ?_
        refine v_eq (st' := [.int (pb_mbh sg M q t i)]) (by rw [e2]) ?_
        refine v_istore h dX8_places_70 (q := 72) rfl (Nat.le_of_ble_eq_true rfl) rfl ?_
        refine v_iload h dX8_places_72 (q := 74) rfl rfl ?_
        refine v_iload h dX8_places_74 (q := 76) rfl rfl ?_
        refine v_icmp_le h dX8_places_76 (q := 79) rfl (tgt := 84) (by decide) (fun c14 => ?_) (fun c14 => ?_)
        · skip
          have e9 : pb_mdn sg M q t (i + 1) = (pb_mdn sg M q t i) := pb_mx_le c14
          refine v_iload h dX8_places_84 (q := 86) rfl rfl ?_
          refine v_istore h dX8_places_86 (q := 88) rfl (Nat.le_of_ble_eq_true rfl) rfl ?_
          refine v_iinc h dX8_places_88 (q := 91) rfl rfl pb_inc rfl ?_
          refine v_goto h dX8_places_91 (tgt := 29) (by decide) ?_
          have h9 := ih (i + 1) (by omega)
          rw [e9] at h9
          exact v_wk (by simp [pb_wk]) h9
        · skip
          have e9 : pb_mdn sg M q t (i + 1) = pb_mbh sg M q t i := pb_mx_gt c14
          refine v_iload h dX8_places_79 (q := 81) rfl rfl ?_
          refine v_goto h dX8_places_81 (tgt := 86) (by decide) ?_
          refine v_istore h dX8_places_86 (q := 88) rfl (Nat.le_of_ble_eq_true rfl) rfl ?_
          refine v_iinc h dX8_places_88 (q := 91) rfl rfl pb_inc rfl ?_
          refine v_goto h dX8_places_91 (tgt := 29) (by decide) ?_
          have h9 := ih (i + 1) (by omega)
          rw [e9] at h9
          exact v_wk (by simp [pb_wk]) h9
  exact lp 16 0 (by omega)
set_option maxHeartbeats 4000000 in
set_option maxRecDepth 100000 in
theorem x_X8_places {l : Launch} (hfl : l.stackTraces = false) {sz : Nat} {sk : pb_Sk} {rf : pb_Rf} {sg : pb_Sg} {M : Nat} (hm : pb_md sk rf M) {q t : Nat} (hq : q < 17) (ht : t < 16) {ln fr f r : Nat} (hl : sg (M + 1) (16 * q + t) = nI ln) (hl20 : ln ≤ 20) {c : Nat} (hc5 : c < 5) (hc : sg (M + 2) (16 * q + t) = nI c) (hfr : pb_mdn sg M q t 16 = nI fr) (hfr4 : fr ≤ 400) (hx : pb_msc (pb_mokC sg M c) ln (400 - fr) fr 0 fr = (f, r)) (hr : r < ln) : pb_Met l mX8_places 3 0 0 [.ref M, .int (nI q), .int (nI t)] sz sk rf sg (pb_is (some (.int (-1))) sz sk rf sg) := by
  refine pb_start hfl (by decide +kernel) rfl (pb_c1 rfl) (Nat.le_of_ble_eq_true rfl) (fun F hF h hQ => ?_)
  subst hF
  show pv F 0 0 sz sk rf sg 0 [some (.ref M), some (.int (nI q)), some (.int (nI t)), none, none, none, none, none, none] []
  obtain ⟨hM0, hr1, hk1, hr2, hk2, hr3, hk3, hr4, hk4, hr5, hk5, hr6, hk6, hr7, hk7, hr8, hk8, hr9, hk9, hr10, hk10, hr11, hk11, hr12, hk12, hr13, hk13, hr14, hk14, hr15, hk15, hr16, hk16, hr17, hk17, hr18, hk18, hr19, hk19, hr20, hk20, hr21, hk21, hr22, hk22, hr23, hk23, hr24, hk24⟩ := id hm
  obtain ⟨hRl, hFR⟩ := pb_msc_le _ _ _ _ _ _ (Nat.add_zero _) (Nat.zero_le _) hx
  have tail : pv F 0 0 sz sk rf sg 193 [some (.ref M), some (.int (nI q)), some (.int (nI t)), some (.int (nI ln)), some (.int (nI c)), some (.int (nI f)), some (.int (nI r)), none, none] [] := by
    refine v_iload h dX8_places_193 (q := 195) rfl rfl ?_
    refine v_iload_n h (i := 3) dX8_places_195 (q := 196) rfl rfl rfl ?_
    refine v_icmp_ge h dX8_places_196 (q := 199) rfl (tgt := 201) (by decide) (fun c1 => absurd (nI_lt hr (by omega)) (Int32.not_lt.mpr c1)) (fun c1 => ?_)
    refine v_iconst h (v := (-1)) dX8_places_199 (q := 200) rfl (by decide +kernel) ?_
    refine v_iret h hQ rfl rfl dX8_places_200 (Nat.zero_le _) (Nat.zero_le _) ⟨rfl, rfl, rfl, rfl, rfl⟩
  refine v_aload_n h (i := 0) dX8_places_0 (q := 1) rfl rfl rfl ?_
  refine v_getr h fl_X8_7 (by assumption) rfl (by assumption) dX8_places_1 (q := 4) rfl ?_
  refine v_iload_n h (i := 1) dX8_places_4 (q := 5) rfl rfl rfl ?_
  refine v_iload_n h (i := 2) dX8_places_5 (q := 6) rfl rfl rfl ?_
  refine v_callS1 h (c_X8_at hfl ) kX8_at rfl tw937 rfl rfl (by simp [Value.category]) (by decide) (Nat.zero_le _) (Nat.zero_le _) rfl dX8_places_6 (q := 9) rfl ?_
  refine v_iald h (by assumption) rfl (by first | assumption | omega) (by decide) dX8_places_9 (q := 10) rfl ?_
  refine v_istore_n h (i := 3) dX8_places_10 (q := 11) rfl rfl (Nat.le_of_ble_eq_true rfl) rfl ?_
  refine v_aload_n h (i := 0) dX8_places_11 (q := 12) rfl rfl rfl ?_
  refine v_getr h fl_X8_13 (by assumption) rfl (by assumption) dX8_places_12 (q := 15) rfl ?_
  refine v_iload_n h (i := 1) dX8_places_15 (q := 16) rfl rfl rfl ?_
  refine v_iload_n h (i := 2) dX8_places_16 (q := 17) rfl rfl rfl ?_
  refine v_callS1 h (c_X8_at hfl ) kX8_at rfl tw937 rfl rfl (by simp [Value.category]) (by decide) (Nat.zero_le _) (Nat.zero_le _) rfl dX8_places_17 (q := 20) rfl ?_
  refine v_iald h (by assumption) rfl (by first | assumption | omega) (by decide) dX8_places_20 (q := 21) rfl ?_
  refine v_istore h dX8_places_21 (q := 23) rfl (Nat.le_of_ble_eq_true rfl) rfl ?_
  refine v_wk (L' := [some (.ref M), some (.int (nI q)), some (.int (nI t)), some (.int (nI ln)), some (.int (nI c)), none, none, none, none]) (by simp [pb_wk, hl, hc]) ?_
  refine v_iconst h (v := nI 0) dX8_places_23 (q := 24) rfl (by decide +kernel) ?_
  refine v_istore h dX8_places_24 (q := 26) rfl (Nat.le_of_ble_eq_true rfl) rfl ?_
  refine v_iconst h (v := nI 0) dX8_places_26 (q := 27) rfl (by decide +kernel) ?_
  refine v_istore h dX8_places_27 (q := 29) rfl (Nat.le_of_ble_eq_true rfl) rfl ?_
  have lp : ∀ (j i : Nat), i + j = 16 → pv F 0 0 sz sk rf sg 29 [some (.ref M), some (.int (nI q)), some (.int (nI t)), some (.int (nI ln)), some (.int (nI c)), some (.int (pb_mdn sg M q t i)), some (.int (nI i)), none, none] [] := by
    intro j
    induction j with
    | zero =>
      intro i  hi
      obtain rfl : i = 16 := by omega
      refine v_iload h dX8_places_29 (q := 31) rfl rfl ?_
      refine v_bipush h (v := nI 16) dX8_places_31 (q := 33) rfl (by decide +kernel) ?_
      refine v_icmp_ge h dX8_places_33 (q := 36) rfl (tgt := 94) (by decide) (fun c2 => ?_) (fun c2 => pb_kle (Nat.le_refl _) (by decide) c2)
      refine v_iconst h (v := nI 0) dX8_places_94 (q := 95) rfl (by decide +kernel) ?_
      refine v_istore h dX8_places_95 (q := 97) rfl (Nat.le_of_ble_eq_true rfl) rfl ?_
      refine v_wk (L' := [some (.ref M), some (.int (nI q)), some (.int (nI t)), some (.int (nI ln)), some (.int (nI c)), some (.int (nI fr)), some (.int (nI 0)), none, none]) (by simp [pb_wk, hfr]) ?_
      refine v_iload h dX8_places_97 (q := 99) rfl rfl ?_
      refine v_istore h dX8_places_99 (q := 101) rfl (Nat.le_of_ble_eq_true rfl) rfl ?_
      have lp : ∀ (j i : Nat) (r9 g : Nat), i + j = 400 → pb_mscH (pb_mokC sg M c) ln (j) i r9 g f r → pv F 0 0 sz sk rf sg 101 [some (.ref M), some (.int (nI q)), some (.int (nI t)), some (.int (nI ln)), some (.int (nI c)), some (.int (nI g)), some (.int (nI r9)), some (.int (nI i)), none] [] := by
        intro j
        induction j with
        | zero =>
          intro i r9 g hi hy0
          obtain rfl : i = 400 := by omega
          refine v_iload h dX8_places_101 (q := 103) rfl rfl ?_
          refine v_sipush h (v := nI 400) dX8_places_103 (q := 106) rfl (by decide +kernel) ?_
          refine v_icmp_ge h dX8_places_106 (q := 109) rfl (tgt := 193) (by decide) (fun c3 => ?_) (fun c3 => pb_kle (Nat.le_refl _) (by decide) c3)
          cases hy0.2.1
          exact v_wk (by simp [pb_wk]) tail
        | succ j ih =>
          intro i r9 g hi hy0
          have hi2 : i < 400 := by omega
          refine v_iload h dX8_places_101 (q := 103) rfl rfl ?_
          refine v_sipush h (v := nI 400) dX8_places_103 (q := 106) rfl (by decide +kernel) ?_
          refine v_icmp_ge h dX8_places_106 (q := 109) rfl (tgt := 193) (by decide) (fun c4 => pb_kge hi2 (by decide) c4) (fun c4 => ?_)
          refine v_iload h dX8_places_109 (q := 111) rfl rfl ?_
          refine v_iload_n h (i := 3) dX8_places_111 (q := 112) rfl rfl rfl ?_
          refine v_icmp_ge h dX8_places_112 (q := 115) rfl (tgt := 193) (by decide) (fun c5 => ?_) (fun c5 => ?_)
          · skip
            have hle := hy0.2.2
            have e7 := pb_msc_stop (ok := (pb_mokC sg M c)) (j := j + 1) (d := i) (f := g) (fun q9 => Int32.not_lt.mpr c5 (nI_lt q9 (by omega)))
            rw [hy0.2.1] at e7
            cases e7
            exact v_wk (by simp [pb_wk]) tail
          · skip
            have hle := hy0.2.2
            have hgd := hy0.1
            have e6 : r9 < ln := (nI_ltI (by omega) (by omega)).mp (Int32.not_le.mp c5)
            refine v_iload h dX8_places_115 (q := 117) rfl rfl ?_
            refine v_iconst h (v := (-1)) dX8_places_117 (q := 118) rfl (by decide +kernel) ?_
            refine v_icmp_eq h dX8_places_118 (q := 121) rfl (tgt := 156) (by decide) (fun c6 => absurd c6 (pb_m1_ne (by omega))) (fun c6 => ?_)
            refine v_aload_n h (i := 0) dX8_places_121 (q := 122) rfl rfl rfl ?_
            refine v_getr h fl_X8_80 (by assumption) rfl (by assumption) dX8_places_122 (q := 125) rfl ?_
            refine v_sipush h (v := nI 400) dX8_places_125 (q := 128) rfl (by decide +kernel) ?_
            refine v_iload h dX8_places_128 (q := 130) rfl rfl ?_
            refine v_imul h dX8_places_130 (q := 131) rfl ?_
            refine v_iload h dX8_places_131 (q := 133) rfl rfl ?_
            refine v_iadd h dX8_places_133 (q := 134) rfl ?_
            refine v_zald h (by assumption) (show nI 400 * nI c + nI i = nI (400 * c + i) by rw [nI_mul, nI_add]) (by omega) (by decide) dX8_places_134 (q := 135) rfl ?_
            refine v_if_eq h dX8_places_135 (q := 138) rfl (tgt := 160) (by decide) (fun c7 => ?_) (fun c7 => ?_)
            · skip
              have e5 : (pb_mokC sg M c) i = false := by unfold pb_mokC; rw [decide_eq_false (fun q9 => q9 c7)]; rfl
              refine v_iconst h (v := nI 0) dX8_places_160 (q := 161) rfl (by decide +kernel) ?_
              refine v_istore h dX8_places_161 (q := 163) rfl (Nat.le_of_ble_eq_true rfl) rfl ?_
              refine v_iload h dX8_places_163 (q := 165) rfl rfl ?_
              refine v_if_eq h dX8_places_165 (q := 168) rfl (tgt := 175) (by decide) (fun c8 => ?_) (fun c8 => absurd c8 (by decide))
              refine v_iconst h (v := nI 0) dX8_places_175 (q := 176) rfl (by decide +kernel) ?_
              refine v_istore h dX8_places_176 (q := 178) rfl (Nat.le_of_ble_eq_true rfl) rfl ?_
              refine v_iload h dX8_places_178 (q := 180) rfl rfl ?_
              refine v_iconst h (v := nI 1) dX8_places_180 (q := 181) rfl (by decide +kernel) ?_
              refine v_iadd h dX8_places_181 (q := 182) rfl ?_
              refine v_iload h dX8_places_182 (q := 184) rfl rfl ?_
              refine v_isub h dX8_places_184 (q := 185) rfl ?_
              refine v_eq (st' := [.int (nI (i + 1))]) (by rw [nI_add, pb_subn (by omega), Nat.sub_zero]) ?_
              refine v_istore h dX8_places_185 (q := 187) rfl (Nat.le_of_ble_eq_true rfl) rfl ?_
              refine v_iinc h dX8_places_187 (q := 190) rfl rfl pb_inc rfl ?_
              refine v_goto h dX8_places_190 (tgt := 101) (by decide) ?_
              have q9 := hy0.2.1
              have q8 := hy0.1
              unfold pb_msc at q9
              rw [if_pos e6, if_neg (by rw [e5]; decide)] at q9
              exact v_wk (by simp [pb_wk]) (ih (i + 1) 0 (i + 1) (by omega) ⟨by omega, q9, by omega⟩)
            · skip
              have e4 := c7
              refine v_aload_n h (i := 0) dX8_places_138 (q := 139) rfl rfl rfl ?_
              refine v_getr h fl_X8_77 (by assumption) rfl (by assumption) dX8_places_139 (q := 142) rfl ?_
              refine v_sipush h (v := nI 400) dX8_places_142 (q := 145) rfl (by decide +kernel) ?_
              refine v_iload h dX8_places_145 (q := 147) rfl rfl ?_
              refine v_imul h dX8_places_147 (q := 148) rfl ?_
              refine v_iload h dX8_places_148 (q := 150) rfl rfl ?_
              refine v_iadd h dX8_places_150 (q := 151) rfl ?_
              refine v_iald h (by assumption) (show nI 400 * nI c + nI i = nI (400 * c + i) by rw [nI_mul, nI_add]) (by omega) (by decide) dX8_places_151 (q := 152) rfl ?_
              refine v_iconst h (v := (-1)) dX8_places_152 (q := 153) rfl (by decide +kernel) ?_
              refine v_icmp_ne h dX8_places_153 (q := 156) rfl (tgt := 160) (by decide) (fun c9 => ?_) (fun c9 => ?_)
              · skip
                have e5 : (pb_mokC sg M c) i = false := by unfold pb_mokC; rw [decide_eq_false c9, Bool.and_false]
                refine v_iconst h (v := nI 0) dX8_places_160 (q := 161) rfl (by decide +kernel) ?_
                refine v_istore h dX8_places_161 (q := 163) rfl (Nat.le_of_ble_eq_true rfl) rfl ?_
                refine v_iload h dX8_places_163 (q := 165) rfl rfl ?_
                refine v_if_eq h dX8_places_165 (q := 168) rfl (tgt := 175) (by decide) (fun c10 => ?_) (fun c10 => absurd c10 (by decide))
                refine v_iconst h (v := nI 0) dX8_places_175 (q := 176) rfl (by decide +kernel) ?_
                refine v_istore h dX8_places_176 (q := 178) rfl (Nat.le_of_ble_eq_true rfl) rfl ?_
                refine v_iload h dX8_places_178 (q := 180) rfl rfl ?_
                refine v_iconst h (v := nI 1) dX8_places_180 (q := 181) rfl (by decide +kernel) ?_
                refine v_iadd h dX8_places_181 (q := 182) rfl ?_
                refine v_iload h dX8_places_182 (q := 184) rfl rfl ?_
                refine v_isub h dX8_places_184 (q := 185) rfl ?_
                refine v_eq (st' := [.int (nI (i + 1))]) (by rw [nI_add, pb_subn (by omega), Nat.sub_zero]) ?_
                refine v_istore h dX8_places_185 (q := 187) rfl (Nat.le_of_ble_eq_true rfl) rfl ?_
                refine v_iinc h dX8_places_187 (q := 190) rfl rfl pb_inc rfl ?_
                refine v_goto h dX8_places_190 (tgt := 101) (by decide) ?_
                have q9 := hy0.2.1
                have q8 := hy0.1
                unfold pb_msc at q9
                rw [if_pos e6, if_neg (by rw [e5]; decide)] at q9
                exact v_wk (by simp [pb_wk]) (ih (i + 1) 0 (i + 1) (by omega) ⟨by omega, q9, by omega⟩)
              · skip
                have e5 : (pb_mokC sg M c) i = true := by unfold pb_mokC; rw [decide_eq_true e4, decide_eq_true c9]; rfl
                refine v_iconst h (v := nI 1) dX8_places_156 (q := 157) rfl (by decide +kernel) ?_
                refine v_goto h dX8_places_157 (tgt := 161) (by decide) ?_
                refine v_istore h dX8_places_161 (q := 163) rfl (Nat.le_of_ble_eq_true rfl) rfl ?_
                refine v_iload h dX8_places_163 (q := 165) rfl rfl ?_
                refine v_if_eq h dX8_places_165 (q := 168) rfl (tgt := 175) (by decide) (fun c11 => absurd c11 (by decide)) (fun c11 => ?_)
                refine v_iload h dX8_places_168 (q := 170) rfl rfl ?_
                refine v_iconst h (v := nI 1) dX8_places_170 (q := 171) rfl (by decide +kernel) ?_
                refine v_iadd h dX8_places_171 (q := 172) rfl ?_
                refine v_goto h dX8_places_172 (tgt := 176) (by decide) ?_
                refine v_eq (st' := [.int (nI (r9 + 1))]) (by rw [nI_add]) ?_
                refine v_istore h dX8_places_176 (q := 178) rfl (Nat.le_of_ble_eq_true rfl) rfl ?_
                refine v_iload h dX8_places_178 (q := 180) rfl rfl ?_
                refine v_iconst h (v := nI 1) dX8_places_180 (q := 181) rfl (by decide +kernel) ?_
                refine v_iadd h dX8_places_181 (q := 182) rfl ?_
                refine v_iload h dX8_places_182 (q := 184) rfl rfl ?_
                refine v_isub h dX8_places_184 (q := 185) rfl ?_
                refine v_eq (st' := [.int (nI (i - r9))]) (by rw [nI_add, pb_subn (by omega), Nat.add_sub_add_right]) ?_
                refine v_istore h dX8_places_185 (q := 187) rfl (Nat.le_of_ble_eq_true rfl) rfl ?_
                refine v_iinc h dX8_places_187 (q := 190) rfl rfl pb_inc rfl ?_
                refine v_goto h dX8_places_190 (tgt := 101) (by decide) ?_
                have q9 := hy0.2.1
                have q8 := hy0.1
                unfold pb_msc at q9
                rw [if_pos e6, if_pos e5] at q9
                exact v_wk (by simp [pb_wk]) (ih (i + 1) (r9 + 1) (i - r9) (by omega) ⟨by omega, q9, by omega⟩)
      exact v_wk (by simp [pb_wk]) (lp (400 - fr) fr 0 fr (by omega) ⟨Nat.add_zero _, hx, Nat.zero_le _⟩)
    | succ j ih =>
      intro i  hi
      have hi2 : i < 16 := by omega
      refine v_iload h dX8_places_29 (q := 31) rfl rfl ?_
      refine v_bipush h (v := nI 16) dX8_places_31 (q := 33) rfl (by decide +kernel) ?_
      refine v_icmp_ge h dX8_places_33 (q := 36) rfl (tgt := 94) (by decide) (fun c12 => pb_kge hi2 (by decide) c12) (fun c12 => ?_)
      refine v_aload_n h (i := 0) dX8_places_36 (q := 37) rfl rfl rfl ?_
      refine v_iload_n h (i := 1) dX8_places_37 (q := 38) rfl rfl rfl ?_
      refine v_iload_n h (i := 2) dX8_places_38 (q := 39) rfl rfl rfl ?_
      refine v_iload h dX8_places_39 (q := 41) rfl rfl ?_
      refine v_callV1 h (c_X8_doesNeed hfl hm hq ht hi2) kX8_doesNeed tw956 tw19 (by assumption) (by decide) rfl rfl rfl (by simp [Value.category]) (by decide) (Nat.zero_le _) (Nat.zero_le _) rfl dX8_places_41 (q := 44) rfl ?_
      refine v_if_eq h dX8_places_44 (q := 47) rfl (tgt := 69) (by decide) (fun c13 => ?_) (fun c13 => ?_)
      · skip
        have e1 := pb_b_0.mp c13
        have e2 : pb_mbh sg M q t i = nI 0 := if_neg (by rw [e1]; decide)
        refine v_iconst h (v := nI 0) dX8_places_69 (q := 70) rfl (by decide +kernel) ?_
        refine v_eq (st' := [.int (pb_mbh sg M q t i)]) (by rw [e2]) ?_
        refine v_istore h dX8_places_70 (q := 72) rfl (Nat.le_of_ble_eq_true rfl) rfl ?_
        refine v_iload h dX8_places_72 (q := 74) rfl rfl ?_
        refine v_iload h dX8_places_74 (q := 76) rfl rfl ?_
        refine v_icmp_le h dX8_places_76 (q := 79) rfl (tgt := 84) (by decide) (fun c14 => ?_) (fun c14 => ?_)
        · skip
          have e9 : pb_mdn sg M q t (i + 1) = (pb_mdn sg M q t i) := pb_mx_le c14
          refine v_iload h dX8_places_84 (q := 86) rfl rfl ?_
          refine v_istore h dX8_places_86 (q := 88) rfl (Nat.le_of_ble_eq_true rfl) rfl ?_
          refine v_iinc h dX8_places_88 (q := 91) rfl rfl pb_inc rfl ?_
          refine v_goto h dX8_places_91 (tgt := 29) (by decide) ?_
          have h9 := ih (i + 1) (by omega)
          rw [e9] at h9
          exact v_wk (by simp [pb_wk]) h9
        · skip
          have e9 : pb_mdn sg M q t (i + 1) = pb_mbh sg M q t i := pb_mx_gt c14
          refine v_iload h dX8_places_79 (q := 81) rfl rfl ?_
          refine v_goto h dX8_places_81 (tgt := 86) (by decide) ?_
          refine v_istore h dX8_places_86 (q := 88) rfl (Nat.le_of_ble_eq_true rfl) rfl ?_
          refine v_iinc h dX8_places_88 (q := 91) rfl rfl pb_inc rfl ?_
          refine v_goto h dX8_places_91 (tgt := 29) (by decide) ?_
          have h9 := ih (i + 1) (by omega)
          rw [e9] at h9
          exact v_wk (by simp [pb_wk]) h9
      · skip
        have e1 := pb_ne_f (fun q => c13 (pb_b_0.mpr q))
        have e2 : pb_mbh sg M q t i = sg (M + 21) i + sg (M + 1) (16 * q + i) := if_pos e1
        refine v_aload_n h (i := 0) dX8_places_47 (q := 48) rfl rfl rfl ?_
        refine v_getr h fl_X8_74 (by assumption) rfl (by assumption) dX8_places_48 (q := 51) rfl ?_
        refine v_iload h dX8_places_51 (q := 53) rfl rfl ?_
        refine v_iald h (by assumption) rfl (by first | assumption | omega) (by decide) dX8_places_53 (q := 54) rfl ?_
        refine v_aload_n h (i := 0) dX8_places_54 (q := 55) rfl rfl rfl ?_
        refine v_getr h fl_X8_7 (by assumption) rfl (by assumption) dX8_places_55 (q := 58) rfl ?_
        refine v_iload_n h (i := 1) dX8_places_58 (q := 59) rfl rfl rfl ?_
        refine v_iload h dX8_places_59 (q := 61) rfl rfl ?_
        refine v_callS1 h (c_X8_at hfl ) kX8_at rfl tw937 rfl rfl (by simp [Value.category]) (by decide) (Nat.zero_le _) (Nat.zero_le _) rfl dX8_places_61 (q := 64) rfl ?_
        refine v_iald h (by assumption) rfl (by first | assumption | omega) (by decide) dX8_places_64 (q := 65) rfl ?_
        refine v_iadd h dX8_places_65 (q := 66) rfl ?_
        refine v_goto h dX8_places_66 (tgt := 70) (by decide) ?_
        refine v_eq (st' := [.int (pb_mbh sg M q t i)]) (by rw [e2]) ?_
        refine v_istore h dX8_places_70 (q := 72) rfl (Nat.le_of_ble_eq_true rfl) rfl ?_
        refine v_iload h dX8_places_72 (q := 74) rfl rfl ?_
        refine v_iload h dX8_places_74 (q := 76) rfl rfl ?_
        refine v_icmp_le h dX8_places_76 (q := 79) rfl (tgt := 84) (by decide) (fun c15 => ?_) (fun c15 => ?_)
        · skip
          have e9 : pb_mdn sg M q t (i + 1) = (pb_mdn sg M q t i) := pb_mx_le c15
          refine v_iload h dX8_places_84 (q := 86) rfl rfl ?_
          refine v_istore h dX8_places_86 (q := 88) rfl (Nat.le_of_ble_eq_true rfl) rfl ?_
          refine v_iinc h dX8_places_88 (q := 91) rfl rfl pb_inc rfl ?_
          refine v_goto h dX8_places_91 (tgt := 29) (by decide) ?_
          have h9 := ih (i + 1) (by omega)
          rw [e9] at h9
          exact v_wk (by simp [pb_wk]) h9
        · skip
          have e9 : pb_mdn sg M q t (i + 1) = pb_mbh sg M q t i := pb_mx_gt c15
          refine v_iload h dX8_places_79 (q := 81) rfl rfl ?_
          refine v_goto h dX8_places_81 (tgt := 86) (by decide) ?_
          refine v_istore h dX8_places_86 (q := 88) rfl (Nat.le_of_ble_eq_true rfl) rfl ?_
          refine v_iinc h dX8_places_88 (q := 91) rfl rfl pb_inc rfl ?_
          refine v_goto h dX8_places_91 (tgt := 29) (by decide) ?_
          have h9 := ih (i + 1) (by omega)
          rw [e9] at h9
          exact v_wk (by simp [pb_wk]) h9
  exact lp 16 0 (by omega)
set_option maxHeartbeats 4000000 in
set_option maxRecDepth 100000 in
theorem c_X8_places {l : Launch} (hfl : l.stackTraces = false) {sz : Nat} {sk : pb_Sk} {rf : pb_Rf} {sg : pb_Sg} {M : Nat} (hm : pb_md sk rf M) {q t : Nat} (hq : q < 17) (ht : t < 16) {ln fr f r : Nat} (hl : sg (M + 1) (16 * q + t) = nI ln) (hl20 : ln ≤ 20) {c : Nat} (hc5 : c < 5) (hc : sg (M + 2) (16 * q + t) = nI c) (hfr : pb_mdn sg M q t 16 = nI fr) (hfr4 : fr ≤ 400) (hx : pb_msc (pb_mokC sg M c) ln (400 - fr) fr 0 fr = (f, r)) (hr : ¬ r < ln) : pb_Met l mX8_places 3 0 0 [.ref M, .int (nI q), .int (nI t)] sz sk rf sg (pb_is (some (.int (nI f))) sz sk rf (pb_up (pb_fillN sg (M + 22) (400 * c + f) (nI t) ln) (M + 21) t (nI f))) := by
  refine pb_start hfl (by decide +kernel) rfl (pb_c1 rfl) (Nat.le_of_ble_eq_true rfl) (fun F hF h hQ => ?_)
  subst hF
  show pv F 0 0 sz sk rf sg 0 [some (.ref M), some (.int (nI q)), some (.int (nI t)), none, none, none, none, none, none] []
  obtain ⟨hM0, hr1, hk1, hr2, hk2, hr3, hk3, hr4, hk4, hr5, hk5, hr6, hk6, hr7, hk7, hr8, hk8, hr9, hk9, hr10, hk10, hr11, hk11, hr12, hk12, hr13, hk13, hr14, hk14, hr15, hk15, hr16, hk16, hr17, hk17, hr18, hk18, hr19, hk19, hr20, hk20, hr21, hk21, hr22, hk22, hr23, hk23, hr24, hk24⟩ := id hm
  obtain ⟨hRl, hFR⟩ := pb_msc_le _ _ _ _ _ _ (Nat.add_zero _) (Nat.zero_le _) hx
  have tail : pv F 0 0 sz sk rf sg 193 [some (.ref M), some (.int (nI q)), some (.int (nI t)), some (.int (nI ln)), some (.int (nI c)), some (.int (nI f)), some (.int (nI r)), none, none] [] := by
    refine v_iload h dX8_places_193 (q := 195) rfl rfl ?_
    refine v_iload_n h (i := 3) dX8_places_195 (q := 196) rfl rfl rfl ?_
    refine v_icmp_ge h dX8_places_196 (q := 199) rfl (tgt := 201) (by decide) (fun c1 => ?_) (fun c1 => absurd (Int32.not_le.mp c1) (fun q9 => hr ((nI_ltI (by omega) (by omega)).mp q9)))
    refine v_iload h dX8_places_201 (q := 203) rfl rfl ?_
    refine v_istore h dX8_places_203 (q := 205) rfl (Nat.le_of_ble_eq_true rfl) rfl ?_
    have lp : ∀ (j i : Nat), i + j = ln → pv F 0 0 sz sk rf (pb_fillN sg (M + 22) (400 * c + f) (nI t) i) 205 [some (.ref M), some (.int (nI q)), some (.int (nI t)), some (.int (nI ln)), some (.int (nI c)), some (.int (nI f)), some (.int (nI r)), some (.int (nI (f + i))), none] [] := by
      intro j
      induction j with
      | zero =>
        intro i  hi
        obtain rfl : i = ln := by omega
        refine v_iload h dX8_places_205 (q := 207) rfl rfl ?_
        refine v_iload h dX8_places_207 (q := 209) rfl rfl ?_
        refine v_iload_n h (i := 3) dX8_places_209 (q := 210) rfl rfl rfl ?_
        refine v_iadd h dX8_places_210 (q := 211) rfl ?_
        refine v_eq (st' := [.int (nI (f + i)), .int (nI (f + i))]) (by rw [nI_add]) ?_
        refine v_icmp_ge h dX8_places_211 (q := 214) rfl (tgt := 241) (by decide) (fun c2 => ?_) (fun c2 => pb_kle (Nat.le_refl _) (by omega) c2)
        refine v_aload_n h (i := 0) dX8_places_241 (q := 242) rfl rfl rfl ?_
        refine v_getr h fl_X8_74 (by assumption) rfl (by assumption) dX8_places_242 (q := 245) rfl ?_
        refine v_iload_n h (i := 2) dX8_places_245 (q := 246) rfl rfl rfl ?_
        refine v_iload h dX8_places_246 (q := 248) rfl rfl ?_
        refine v_iast h (by assumption) rfl (by first | assumption | omega) (by decide) dX8_places_248 (q := 249) rfl ?_
        refine v_iload h dX8_places_249 (q := 251) rfl rfl ?_
        refine v_iret h hQ rfl rfl dX8_places_251 (Nat.zero_le _) (Nat.zero_le _) ⟨rfl, rfl, rfl, rfl, rfl⟩
      | succ j ih =>
        intro i  hi
        have hi2 : i < ln := by omega
        refine v_iload h dX8_places_205 (q := 207) rfl rfl ?_
        refine v_iload h dX8_places_207 (q := 209) rfl rfl ?_
        refine v_iload_n h (i := 3) dX8_places_209 (q := 210) rfl rfl rfl ?_
        refine v_iadd h dX8_places_210 (q := 211) rfl ?_
        refine v_eq (st' := [.int (nI (f + ln)), .int (nI (f + i))]) (by rw [nI_add]) ?_
        refine v_icmp_ge h dX8_places_211 (q := 214) rfl (tgt := 241) (by decide) (fun c3 => pb_kge (show f + i < f + ln by omega) (by omega) c3) (fun c3 => ?_)
        refine v_iload h dX8_places_214 (q := 216) rfl rfl ?_
        refine v_iconst h (v := (-1)) dX8_places_216 (q := 217) rfl (by decide +kernel) ?_
        refine v_icmp_eq h dX8_places_217 (q := 220) rfl (tgt := 241) (by decide) (fun c4 => absurd c4 (fun q9 => pb_m1_ne (by omega) q9)) (fun c4 => ?_)
        refine v_aload_n h (i := 0) dX8_places_220 (q := 221) rfl rfl rfl ?_
        refine v_getr h fl_X8_77 (by assumption) rfl (by assumption) dX8_places_221 (q := 224) rfl ?_
        refine v_sipush h (v := nI 400) dX8_places_224 (q := 227) rfl (by decide +kernel) ?_
        refine v_iload h dX8_places_227 (q := 229) rfl rfl ?_
        refine v_imul h dX8_places_229 (q := 230) rfl ?_
        refine v_iload h dX8_places_230 (q := 232) rfl rfl ?_
        refine v_iadd h dX8_places_232 (q := 233) rfl ?_
        refine v_iload_n h (i := 2) dX8_places_233 (q := 234) rfl rfl rfl ?_
        refine v_iast h (by assumption) (show nI 400 * nI c + nI (f + i) = nI (400 * c + f + i) by rw [nI_mul, nI_add, Nat.add_assoc]) (by omega) (by decide) dX8_places_234 (q := 235) rfl ?_
        refine v_iinc h dX8_places_235 (q := 238) rfl rfl pb_inc rfl ?_
        refine v_goto h dX8_places_238 (tgt := 205) (by decide) ?_
        exact ih (i + 1) (by omega)
    exact lp ln 0 (by omega)
  refine v_aload_n h (i := 0) dX8_places_0 (q := 1) rfl rfl rfl ?_
  refine v_getr h fl_X8_7 (by assumption) rfl (by assumption) dX8_places_1 (q := 4) rfl ?_
  refine v_iload_n h (i := 1) dX8_places_4 (q := 5) rfl rfl rfl ?_
  refine v_iload_n h (i := 2) dX8_places_5 (q := 6) rfl rfl rfl ?_
  refine v_callS1 h (c_X8_at hfl ) kX8_at rfl tw937 rfl rfl (by simp [Value.category]) (by decide) (Nat.zero_le _) (Nat.zero_le _) rfl dX8_places_6 (q := 9) rfl ?_
  refine v_iald h (by assumption) rfl (by first | assumption | omega) (by decide) dX8_places_9 (q := 10) rfl ?_
  refine v_istore_n h (i := 3) dX8_places_10 (q := 11) rfl rfl (Nat.le_of_ble_eq_true rfl) rfl ?_
  refine v_aload_n h (i := 0) dX8_places_11 (q := 12) rfl rfl rfl ?_
  refine v_getr h fl_X8_13 (by assumption) rfl (by assumption) dX8_places_12 (q := 15) rfl ?_
  refine v_iload_n h (i := 1) dX8_places_15 (q := 16) rfl rfl rfl ?_
  refine v_iload_n h (i := 2) dX8_places_16 (q := 17) rfl rfl rfl ?_
  refine v_callS1 h (c_X8_at hfl ) kX8_at rfl tw937 rfl rfl (by simp [Value.category]) (by decide) (Nat.zero_le _) (Nat.zero_le _) rfl dX8_places_17 (q := 20) rfl ?_
  refine v_iald h (by assumption) rfl (by first | assumption | omega) (by decide) dX8_places_20 (q := 21) rfl ?_
  refine v_istore h dX8_places_21 (q := 23) rfl (Nat.le_of_ble_eq_true rfl) rfl ?_
  refine v_wk (L' := [some (.ref M), some (.int (nI q)), some (.int (nI t)), some (.int (nI ln)), some (.int (nI c)), none, none, none, none]) (by simp [pb_wk, hl, hc]) ?_
  refine v_iconst h (v := nI 0) dX8_places_23 (q := 24) rfl (by decide +kernel) ?_
  refine v_istore h dX8_places_24 (q := 26) rfl (Nat.le_of_ble_eq_true rfl) rfl ?_
  refine v_iconst h (v := nI 0) dX8_places_26 (q := 27) rfl (by decide +kernel) ?_
  refine v_istore h dX8_places_27 (q := 29) rfl (Nat.le_of_ble_eq_true rfl) rfl ?_
  have lp : ∀ (j i : Nat), i + j = 16 → pv F 0 0 sz sk rf sg 29 [some (.ref M), some (.int (nI q)), some (.int (nI t)), some (.int (nI ln)), some (.int (nI c)), some (.int (pb_mdn sg M q t i)), some (.int (nI i)), none, none] [] := by
    intro j
    induction j with
    | zero =>
      intro i  hi
      obtain rfl : i = 16 := by omega
      refine v_iload h dX8_places_29 (q := 31) rfl rfl ?_
      refine v_bipush h (v := nI 16) dX8_places_31 (q := 33) rfl (by decide +kernel) ?_
      refine v_icmp_ge h dX8_places_33 (q := 36) rfl (tgt := 94) (by decide) (fun c5 => ?_) (fun c5 => pb_kle (Nat.le_refl _) (by decide) c5)
      refine v_iconst h (v := nI 0) dX8_places_94 (q := 95) rfl (by decide +kernel) ?_
      refine v_istore h dX8_places_95 (q := 97) rfl (Nat.le_of_ble_eq_true rfl) rfl ?_
      refine v_wk (L' := [some (.ref M), some (.int (nI q)), some (.int (nI t)), some (.int (nI ln)), some (.int (nI c)), some (.int (nI fr)), some (.int (nI 0)), none, none]) (by simp [pb_wk, hfr]) ?_
      refine v_iload h dX8_places_97 (q := 99) rfl rfl ?_
      refine v_istore h dX8_places_99 (q := 101) rfl (Nat.le_of_ble_eq_true rfl) rfl ?_
      have lp : ∀ (j i : Nat) (r9 g : Nat), i + j = 400 → pb_mscH (pb_mokC sg M c) ln (j) i r9 g f r → pv F 0 0 sz sk rf sg 101 [some (.ref M), some (.int (nI q)), some (.int (nI t)), some (.int (nI ln)), some (.int (nI c)), some (.int (nI g)), some (.int (nI r9)), some (.int (nI i)), none] [] := by
        intro j
        induction j with
        | zero =>
          intro i r9 g hi hy0
          obtain rfl : i = 400 := by omega
          refine v_iload h dX8_places_101 (q := 103) rfl rfl ?_
          refine v_sipush h (v := nI 400) dX8_places_103 (q := 106) rfl (by decide +kernel) ?_
          refine v_icmp_ge h dX8_places_106 (q := 109) rfl (tgt := 193) (by decide) (fun c6 => ?_) (fun c6 => pb_kle (Nat.le_refl _) (by decide) c6)
          cases hy0.2.1
          exact v_wk (by simp [pb_wk]) tail
        | succ j ih =>
          intro i r9 g hi hy0
          have hi2 : i < 400 := by omega
          refine v_iload h dX8_places_101 (q := 103) rfl rfl ?_
          refine v_sipush h (v := nI 400) dX8_places_103 (q := 106) rfl (by decide +kernel) ?_
          refine v_icmp_ge h dX8_places_106 (q := 109) rfl (tgt := 193) (by decide) (fun c7 => pb_kge hi2 (by decide) c7) (fun c7 => ?_)
          refine v_iload h dX8_places_109 (q := 111) rfl rfl ?_
          refine v_iload_n h (i := 3) dX8_places_111 (q := 112) rfl rfl rfl ?_
          refine v_icmp_ge h dX8_places_112 (q := 115) rfl (tgt := 193) (by decide) (fun c8 => ?_) (fun c8 => ?_)
          · skip
            have hle := hy0.2.2
            have e7 := pb_msc_stop (ok := (pb_mokC sg M c)) (j := j + 1) (d := i) (f := g) (fun q9 => Int32.not_lt.mpr c8 (nI_lt q9 (by omega)))
            rw [hy0.2.1] at e7
            cases e7
            exact v_wk (by simp [pb_wk]) tail
          · skip
            have hle := hy0.2.2
            have hgd := hy0.1
            have e6 : r9 < ln := (nI_ltI (by omega) (by omega)).mp (Int32.not_le.mp c8)
            refine v_iload h dX8_places_115 (q := 117) rfl rfl ?_
            refine v_iconst h (v := (-1)) dX8_places_117 (q := 118) rfl (by decide +kernel) ?_
            refine v_icmp_eq h dX8_places_118 (q := 121) rfl (tgt := 156) (by decide) (fun c9 => absurd c9 (pb_m1_ne (by omega))) (fun c9 => ?_)
            refine v_aload_n h (i := 0) dX8_places_121 (q := 122) rfl rfl rfl ?_
            refine v_getr h fl_X8_80 (by assumption) rfl (by assumption) dX8_places_122 (q := 125) rfl ?_
            refine v_sipush h (v := nI 400) dX8_places_125 (q := 128) rfl (by decide +kernel) ?_
            refine v_iload h dX8_places_128 (q := 130) rfl rfl ?_
            refine v_imul h dX8_places_130 (q := 131) rfl ?_
            refine v_iload h dX8_places_131 (q := 133) rfl rfl ?_
            refine v_iadd h dX8_places_133 (q := 134) rfl ?_
            refine v_zald h (by assumption) (show nI 400 * nI c + nI i = nI (400 * c + i) by rw [nI_mul, nI_add]) (by omega) (by decide) dX8_places_134 (q := 135) rfl ?_
            refine v_if_eq h dX8_places_135 (q := 138) rfl (tgt := 160) (by decide) (fun c10 => ?_) (fun c10 => ?_)
            · skip
              have e5 : (pb_mokC sg M c) i = false := by unfold pb_mokC; rw [decide_eq_false (fun q9 => q9 c10)]; rfl
              refine v_iconst h (v := nI 0) dX8_places_160 (q := 161) rfl (by decide +kernel) ?_
              refine v_istore h dX8_places_161 (q := 163) rfl (Nat.le_of_ble_eq_true rfl) rfl ?_
              refine v_iload h dX8_places_163 (q := 165) rfl rfl ?_
              refine v_if_eq h dX8_places_165 (q := 168) rfl (tgt := 175) (by decide) (fun c11 => ?_) (fun c11 => absurd c11 (by decide))
              refine v_iconst h (v := nI 0) dX8_places_175 (q := 176) rfl (by decide +kernel) ?_
              refine v_istore h dX8_places_176 (q := 178) rfl (Nat.le_of_ble_eq_true rfl) rfl ?_
              refine v_iload h dX8_places_178 (q := 180) rfl rfl ?_
              refine v_iconst h (v := nI 1) dX8_places_180 (q := 181) rfl (by decide +kernel) ?_
              refine v_iadd h dX8_places_181 (q := 182) rfl ?_
              refine v_iload h dX8_places_182 (q := 184) rfl rfl ?_
              refine v_isub h dX8_places_184 (q := 185) rfl ?_
              refine v_eq (st' := [.int (nI (i + 1))]) (by rw [nI_add, pb_subn (by omega), Nat.sub_zero]) ?_
              refine v_istore h dX8_places_185 (q := 187) rfl (Nat.le_of_ble_eq_true rfl) rfl ?_
              refine v_iinc h dX8_places_187 (q := 190) rfl rfl pb_inc rfl ?_
              refine v_goto h dX8_places_190 (tgt := 101) (by decide) ?_
              have q9 := hy0.2.1
              have q8 := hy0.1
              unfold pb_msc at q9
              rw [if_pos e6, if_neg (by rw [e5]; decide)] at q9
              exact v_wk (by simp [pb_wk]) (ih (i + 1) 0 (i + 1) (by omega) ⟨by omega, q9, by omega⟩)
            · skip
              have e4 := c10
              refine v_aload_n h (i := 0) dX8_places_138 (q := 139) rfl rfl rfl ?_
              refine v_getr h fl_X8_77 (by assumption) rfl (by assumption) dX8_places_139 (q := 142) rfl ?_
              refine v_sipush h (v := nI 400) dX8_places_142 (q := 145) rfl (by decide +kernel) ?_
              refine v_iload h dX8_places_145 (q := 147) rfl rfl ?_
              refine v_imul h dX8_places_147 (q := 148) rfl ?_
              refine v_iload h dX8_places_148 (q := 150) rfl rfl ?_
              refine v_iadd h dX8_places_150 (q := 151) rfl ?_
              refine v_iald h (by assumption) (show nI 400 * nI c + nI i = nI (400 * c + i) by rw [nI_mul, nI_add]) (by omega) (by decide) dX8_places_151 (q := 152) rfl ?_
              refine v_iconst h (v := (-1)) dX8_places_152 (q := 153) rfl (by decide +kernel) ?_
              refine v_icmp_ne h dX8_places_153 (q := 156) rfl (tgt := 160) (by decide) (fun c12 => ?_) (fun c12 => ?_)
              · skip
                have e5 : (pb_mokC sg M c) i = false := by unfold pb_mokC; rw [decide_eq_false c12, Bool.and_false]
                refine v_iconst h (v := nI 0) dX8_places_160 (q := 161) rfl (by decide +kernel) ?_
                refine v_istore h dX8_places_161 (q := 163) rfl (Nat.le_of_ble_eq_true rfl) rfl ?_
                refine v_iload h dX8_places_163 (q := 165) rfl rfl ?_
                refine v_if_eq h dX8_places_165 (q := 168) rfl (tgt := 175) (by decide) (fun c13 => ?_) (fun c13 => absurd c13 (by decide))
                refine v_iconst h (v := nI 0) dX8_places_175 (q := 176) rfl (by decide +kernel) ?_
                refine v_istore h dX8_places_176 (q := 178) rfl (Nat.le_of_ble_eq_true rfl) rfl ?_
                refine v_iload h dX8_places_178 (q := 180) rfl rfl ?_
                refine v_iconst h (v := nI 1) dX8_places_180 (q := 181) rfl (by decide +kernel) ?_
                refine v_iadd h dX8_places_181 (q := 182) rfl ?_
                refine v_iload h dX8_places_182 (q := 184) rfl rfl ?_
                refine v_isub h dX8_places_184 (q := 185) rfl ?_
                refine v_eq (st' := [.int (nI (i + 1))]) (by rw [nI_add, pb_subn (by omega), Nat.sub_zero]) ?_
                refine v_istore h dX8_places_185 (q := 187) rfl (Nat.le_of_ble_eq_true rfl) rfl ?_
                refine v_iinc h dX8_places_187 (q := 190) rfl rfl pb_inc rfl ?_
                refine v_goto h dX8_places_190 (tgt := 101) (by decide) ?_
                have q9 := hy0.2.1
                have q8 := hy0.1
                unfold pb_msc at q9
                rw [if_pos e6, if_neg (by rw [e5]; decide)] at q9
                exact v_wk (by simp [pb_wk]) (ih (i + 1) 0 (i + 1) (by omega) ⟨by omega, q9, by omega⟩)
              · skip
                have e5 : (pb_mokC sg M c) i = true := by unfold pb_mokC; rw [decide_eq_true e4, decide_eq_true c12]; rfl
                refine v_iconst h (v := nI 1) dX8_places_156 (q := 157) rfl (by decide +kernel) ?_
                refine v_goto h dX8_places_157 (tgt := 161) (by decide) ?_
                refine v_istore h dX8_places_161 (q := 163) rfl (Nat.le_of_ble_eq_true rfl) rfl ?_
                refine v_iload h dX8_places_163 (q := 165) rfl rfl ?_
                refine v_if_eq h dX8_places_165 (q := 168) rfl (tgt := 175) (by decide) (fun c14 => absurd c14 (by decide)) (fun c14 => ?_)
                refine v_iload h dX8_places_168 (q := 170) rfl rfl ?_
                refine v_iconst h (v := nI 1) dX8_places_170 (q := 171) rfl (by decide +kernel) ?_
                refine v_iadd h dX8_places_171 (q := 172) rfl ?_
                refine v_goto h dX8_places_172 (tgt := 176) (by decide) ?_
                refine v_eq (st' := [.int (nI (r9 + 1))]) (by rw [nI_add]) ?_
                refine v_istore h dX8_places_176 (q := 178) rfl (Nat.le_of_ble_eq_true rfl) rfl ?_
                refine v_iload h dX8_places_178 (q := 180) rfl rfl ?_
                refine v_iconst h (v := nI 1) dX8_places_180 (q := 181) rfl (by decide +kernel) ?_
                refine v_iadd h dX8_places_181 (q := 182) rfl ?_
                refine v_iload h dX8_places_182 (q := 184) rfl rfl ?_
                refine v_isub h dX8_places_184 (q := 185) rfl ?_
                refine v_eq (st' := [.int (nI (i - r9))]) (by rw [nI_add, pb_subn (by omega), Nat.add_sub_add_right]) ?_
                refine v_istore h dX8_places_185 (q := 187) rfl (Nat.le_of_ble_eq_true rfl) rfl ?_
                refine v_iinc h dX8_places_187 (q := 190) rfl rfl pb_inc rfl ?_
                refine v_goto h dX8_places_190 (tgt := 101) (by decide) ?_
                have q9 := hy0.2.1
                have q8 := hy0.1
                unfold pb_msc at q9
                rw [if_pos e6, if_pos e5] at q9
                exact v_wk (by simp [pb_wk]) (ih (i + 1) (r9 + 1) (i - r9) (by omega) ⟨by omega, q9, by omega⟩)
      exact v_wk (by simp [pb_wk]) (lp (400 - fr) fr 0 fr (by omega) ⟨Nat.add_zero _, hx, Nat.zero_le _⟩)
    | succ j ih =>
      intro i  hi
      have hi2 : i < 16 := by omega
      refine v_iload h dX8_places_29 (q := 31) rfl rfl ?_
      refine v_bipush h (v := nI 16) dX8_places_31 (q := 33) rfl (by decide +kernel) ?_
      refine v_icmp_ge h dX8_places_33 (q := 36) rfl (tgt := 94) (by decide) (fun c15 => pb_kge hi2 (by decide) c15) (fun c15 => ?_)
      refine v_aload_n h (i := 0) dX8_places_36 (q := 37) rfl rfl rfl ?_
      refine v_iload_n h (i := 1) dX8_places_37 (q := 38) rfl rfl rfl ?_
      refine v_iload_n h (i := 2) dX8_places_38 (q := 39) rfl rfl rfl ?_
      refine v_iload h dX8_places_39 (q := 41) rfl rfl ?_
      refine v_callV1 h (c_X8_doesNeed hfl hm hq ht hi2) kX8_doesNeed tw956 tw19 (by assumption) (by decide) rfl rfl rfl (by simp [Value.category]) (by decide) (Nat.zero_le _) (Nat.zero_le _) rfl dX8_places_41 (q := 44) rfl ?_
      refine v_if_eq h dX8_places_44 (q := 47) rfl (tgt := 69) (by decide) (fun c16 => ?_) (fun c16 => ?_)
      · skip
        have e1 := pb_b_0.mp c16
        have e2 : pb_mbh sg M q t i = nI 0 := if_neg (by rw [e1]; decide)
        refine v_iconst h (v := nI 0) dX8_places_69 (q := 70) rfl (by decide +kernel) ?_
        refine v_eq (st' := [.int (pb_mbh sg M q t i)]) (by rw [e2]) ?_
        refine v_istore h dX8_places_70 (q := 72) rfl (Nat.le_of_ble_eq_true rfl) rfl ?_
        refine v_iload h dX8_places_72 (q := 74) rfl rfl ?_
        refine v_iload h dX8_places_74 (q := 76) rfl rfl ?_
        refine v_icmp_le h dX8_places_76 (q := 79) rfl (tgt := 84) (by decide) (fun c17 => ?_) (fun c17 => ?_)
        · skip
          have e9 : pb_mdn sg M q t (i + 1) = (pb_mdn sg M q t i) := pb_mx_le c17
          refine v_iload h dX8_places_84 (q := 86) rfl rfl ?_
          refine v_istore h dX8_places_86 (q := 88) rfl (Nat.le_of_ble_eq_true rfl) rfl ?_
          refine v_iinc h dX8_places_88 (q := 91) rfl rfl pb_inc rfl ?_
          refine v_goto h dX8_places_91 (tgt := 29) (by decide) ?_
          have h9 := ih (i + 1) (by omega)
          rw [e9] at h9
          exact v_wk (by simp [pb_wk]) h9
        · skip
          have e9 : pb_mdn sg M q t (i + 1) = pb_mbh sg M q t i := pb_mx_gt c17
          refine v_iload h dX8_places_79 (q := 81) rfl rfl ?_
          refine v_goto h dX8_places_81 (tgt := 86) (by decide) ?_
          refine v_istore h dX8_places_86 (q := 88) rfl (Nat.le_of_ble_eq_true rfl) rfl ?_
          refine v_iinc h dX8_places_88 (q := 91) rfl rfl pb_inc rfl ?_
          refine v_goto h dX8_places_91 (tgt := 29) (by decide) ?_
          have h9 := ih (i + 1) (by omega)
          rw [e9] at h9
          exact v_wk (by simp [pb_wk]) h9
      · skip
        have e1 := pb_ne_f (fun q => c16 (pb_b_0.mpr q))
        have e2 : pb_mbh sg M q t i = sg (M + 21) i + sg (M + 1) (16 * q + i) := if_pos e1
        refine v_aload_n h (i := 0) dX8_places_47 (q := 48) rfl rfl rfl ?_
        refine v_getr h fl_X8_74 (by assumption) rfl (by assumption) dX8_places_48 (q := 51) rfl ?_
        refine v_iload h dX8_places_51 (q := 53) rfl rfl ?_
        refine v_iald h (by assumption) rfl (by first | assumption | omega) (by decide) dX8_places_53 (q := 54) rfl ?_
        refine v_aload_n h (i := 0) dX8_places_54 (q := 55) rfl rfl rfl ?_
        refine v_getr h fl_X8_7 (by assumption) rfl (by assumption) dX8_places_55 (q := 58) rfl ?_
        refine v_iload_n h (i := 1) dX8_places_58 (q := 59) rfl rfl rfl ?_
        refine v_iload h dX8_places_59 (q := 61) rfl rfl ?_
        refine v_callS1 h (c_X8_at hfl ) kX8_at rfl tw937 rfl rfl (by simp [Value.category]) (by decide) (Nat.zero_le _) (Nat.zero_le _) rfl dX8_places_61 (q := 64) rfl ?_
        refine v_iald h (by assumption) rfl (by first | assumption | omega) (by decide) dX8_places_64 (q := 65) rfl ?_
        refine v_iadd h dX8_places_65 (q := 66) rfl ?_
        refine v_goto h dX8_places_66 (tgt := 70) (by decide) ?_
        refine v_eq (st' := [.int (pb_mbh sg M q t i)]) (by rw [e2]) ?_
        refine v_istore h dX8_places_70 (q := 72) rfl (Nat.le_of_ble_eq_true rfl) rfl ?_
        refine v_iload h dX8_places_72 (q := 74) rfl rfl ?_
        refine v_iload h dX8_places_74 (q := 76) rfl rfl ?_
        refine v_icmp_le h dX8_places_76 (q := 79) rfl (tgt := 84) (by decide) (fun c18 => ?_) (fun c18 => ?_)
        · skip
          have e9 : pb_mdn sg M q t (i + 1) = (pb_mdn sg M q t i) := pb_mx_le c18
          refine v_iload h dX8_places_84 (q := 86) rfl rfl ?_
          refine v_istore h dX8_places_86 (q := 88) rfl (Nat.le_of_ble_eq_true rfl) rfl ?_
          refine v_iinc h dX8_places_88 (q := 91) rfl rfl pb_inc rfl ?_
          refine v_goto h dX8_places_91 (tgt := 29) (by decide) ?_
          have h9 := ih (i + 1) (by omega)
          rw [e9] at h9
          exact v_wk (by simp [pb_wk]) h9
        · skip
          have e9 : pb_mdn sg M q t (i + 1) = pb_mbh sg M q t i := pb_mx_gt c18
          refine v_iload h dX8_places_79 (q := 81) rfl rfl ?_
          refine v_goto h dX8_places_81 (tgt := 86) (by decide) ?_
          refine v_istore h dX8_places_86 (q := 88) rfl (Nat.le_of_ble_eq_true rfl) rfl ?_
          refine v_iinc h dX8_places_88 (q := 91) rfl rfl pb_inc rfl ?_
          refine v_goto h dX8_places_91 (tgt := 29) (by decide) ?_
          have h9 := ih (i + 1) (by omega)
          rw [e9] at h9
          exact v_wk (by simp [pb_wk]) h9
  exact lp 16 0 (by omega)
