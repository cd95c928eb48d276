theorem pb_shv {x : Int32} {t : Nat} (ht : t < 32) : (x >>> (nI t &&& 31)) &&& nI 1 = if pb_in x t = true then nI 1 else nI 0 := by
  cases e : pb_in x t
  · rw [if_neg (by decide)]; exact (pb_in_sh ht).mpr e
  · rw [if_pos rfl]; exact (pb_in_sh1 ht).mpr e
theorem pb_cntset_n {x : Int32} (n : Nat) (hn : n ≤ 16) : pb_sum (fun t => (x >>> (nI t &&& 31)) &&& nI 1) n = nI (pb_cnt (pb_in x) n) := by
  induction n with
  | zero => rfl
  | succ n ih =>
    unfold pb_sum pb_cnt
    rw [ih (by omega)]
    rw [pb_shv (by omega)]
    cases e : pb_in x n
    · rw [if_neg (by decide), if_neg (by decide)]; exact Int32.add_zero _
    · rw [if_pos rfl, if_pos rfl, nI_add]
theorem pb_cntset (c : Nat → Bool) : pb_sum (fun t => (pb_set c 16 >>> (nI t &&& 31)) &&& nI 1) 16 = nI (pb_cnt c 16) := by
  rw [pb_cntset_n 16 (by omega)]
  congr 1
  exact pb_cnt_congr (fun i hi => by rw [pb_set_in c 16 (by omega) i (by omega), decide_eq_true hi, Bool.true_and])
theorem pb_cnt_mon {c : Nat → Bool} {i j : Nat} (h : i ≤ j) : pb_cnt c i ≤ pb_cnt c j := by
  induction j with
  | zero => obtain rfl : i = 0 := by omega
            exact Nat.le_refl _
  | succ j ih =>
    rcases Nat.lt_or_ge j i with e | e
    · obtain rfl : i = j + 1 := by omega
      exact Nat.le_refl _
    · have := ih e
      rw [show pb_cnt c (j + 1) = if c j = true then pb_cnt c j + 1 else pb_cnt c j from rfl]
      split <;> omega
/-- the tasks that are there, laid into the order -/
def pb_mor (S : pb_Sg) (M b : Nat) (c : Nat → Bool) : Nat → pb_Sg
  | 0 => S
  | n + 1 => if c n = true then pb_up (pb_mor S M b c n) (M + 24) (pb_cnt c n) (nI n) else pb_mor S M b c n
theorem pb_mor_ne {S : pb_Sg} {M b x : Nat} {c : Nat → Bool} (h : x ≠ M + 24) (n : Nat) : pb_mor S M b c n x = S x := by
  induction n with
  | zero => rfl
  | succ n ih =>
    unfold pb_mor
    split
    · exact (pb_up_neA h).trans ih
    · exact ih
def pb_mbs (best day : Int32) : Int32 := if ¬ day = -1 ∧ (best = -1 ∨ day < best) then day else best
def pb_mbl (M b m : Nat) : Nat → pb_Sg → Int32 → pb_Sg × Int32
  | 0, S, best => (S, best)
  | n + 1, S, best => match pb_tk ((pb_mbo M b m 0 (pb_mclr S M)).1 (M + 24)) (m - 1) with
    | none => ((pb_mbo M b m 0 (pb_mclr S M)).1, pb_mbs best (pb_mbo M b m 0 (pb_mclr S M)).2)
    | some k => pb_mbl M b m n (pb_tn (pb_mbo M b m 0 (pb_mclr S M)).1 M m k) (pb_mbs best (pb_mbo M b m 0 (pb_mclr S M)).2)
/-- all orders have come within n rounds -/
def pb_mbT (M b m : Nat) : Nat → pb_Sg → Prop
  | 0, _ => False
  | n + 1, S => match pb_tk ((pb_mbo M b m 0 (pb_mclr S M)).1 (M + 24)) (m - 1) with
    | none => True
    | some k => pb_mbT M b m n (pb_tn (pb_mbo M b m 0 (pb_mclr S M)).1 M m k)
def pb_mP (S : pb_Sg) (M b m : Nat) : Prop := pb_mw S M b ∧ ∀ k, k < m → ∃ t, t < 16 ∧ S (M + 24) k = nI t
def pb_mbH (M b m n : Nat) (S : pb_Sg) (best : Int32) (R : pb_Sg × Int32) : Prop := pb_mbT M b m n S ∧ pb_mP S M b m ∧ pb_mbl M b m n S best = R
theorem pb_mbl_0 {M b m n : Nat} {S : pb_Sg} {best : Int32} (h : pb_tk ((pb_mbo M b m 0 (pb_mclr S M)).1 (M + 24)) (m - 1) = none) : pb_mbl M b m (n + 1) S best = ((pb_mbo M b m 0 (pb_mclr S M)).1, pb_mbs best (pb_mbo M b m 0 (pb_mclr S M)).2) := by
  unfold pb_mbl
  rw [h]
theorem pb_mbl_1 {M b m n k : Nat} {S : pb_Sg} {best : Int32} (h : pb_tk ((pb_mbo M b m 0 (pb_mclr S M)).1 (M + 24)) (m - 1) = some k) : pb_mbl M b m (n + 1) S best = pb_mbl M b m n (pb_tn (pb_mbo M b m 0 (pb_mclr S M)).1 M m k) (pb_mbs best (pb_mbo M b m 0 (pb_mclr S M)).2) := by
  conv => lhs; unfold pb_mbl
  rw [h]
theorem pb_mbT_1 {M b m n k : Nat} {S : pb_Sg} (h : pb_tk ((pb_mbo M b m 0 (pb_mclr S M)).1 (M + 24)) (m - 1) = some k) (hT : pb_mbT M b m (n + 1) S) : pb_mbT M b m n (pb_tn (pb_mbo M b m 0 (pb_mclr S M)).1 M m k) := by
  unfold pb_mbT at hT
  rw [h] at hT
  exact hT
theorem pb_mbo_ne {M q x : Nat} (h1 : x ≠ M + 21) (h2 : x ≠ M + 22) : ∀ (j k : Nat) (S : pb_Sg), (pb_mbo M q j k S).1 x = S x := by
  intro j
  induction j with
  | zero => intro k S; rfl
  | succ j ih =>
    intro k S
    unfold pb_mbo
    split
    · split
      · rfl
      · exact (ih _ _).trans (pb_mpl_ne h1 h2)
    · rfl
theorem pb_sw_at {S : pb_Sg} {M a b k : Nat} : pb_sw S M a b (M + 24) k = if k = b then S (M + 24) a else if k = a then S (M + 24) b else S (M + 24) k := by
  unfold pb_sw
  rw [pb_up_at, pb_up_at]
  by_cases e : k = b
  · rw [if_pos ⟨rfl, e⟩, if_pos e]
  · rw [if_neg (fun q => e q.2), if_neg e]
    by_cases e2 : k = a
    · rw [if_pos ⟨rfl, e2⟩, if_pos e2]
    · rw [if_neg (fun q => e2 q.2), if_neg e2]
theorem pb_sw_ne {S : pb_Sg} {M a b x : Nat} (h : x ≠ M + 24) : pb_sw S M a b x = S x := by
  unfold pb_sw
  rw [pb_up_neA h, pb_up_neA h]
theorem pb_mP_sw {S : pb_Sg} {M b m i j : Nat} (h : pb_mP S M b m) (hi : i < m) (hj : j < m) : pb_mP (pb_sw S M i j) M b m := by
  refine ⟨h.1.of (pb_sw_ne (by omega)) (pb_sw_ne (by omega)), fun k hk => ?_⟩
  rw [pb_sw_at]
  split
  · exact h.2 i hi
  · split
    · exact h.2 j hj
    · exact h.2 k hk
theorem pb_mP_rv {S : pb_Sg} {M b m i j : Nat} (h : pb_mP S M b m) (n : Nat) (hi : i + n ≤ m) (hj : j < m) : pb_mP (pb_rvN S M i j n) M b m := by
  induction n with
  | zero => exact h
  | succ n ih => exact pb_mP_sw (ih (by omega)) (by omega) (by omega)
theorem pb_mP_tn {S : pb_Sg} {M b m k : Nat} (h : pb_mP S M b m) (hm : 1 ≤ m) (hk : pb_tk (S (M + 24)) (m - 1) = some k) : pb_mP (pb_tn S M m k) M b m := by
  have hkm := pb_tk_lt hk
  have := pb_te_le (o := S (M + 24)) (v := S (M + 24) k) (m - 1)
  exact pb_mP_rv (pb_mP_sw h (by omega) (by omega)) _ (by omega) (by omega)
theorem pb_mP_bo {S : pb_Sg} {M b m j k : Nat} (h : pb_mP S M b m) : pb_mP (pb_mbo M b j k (pb_mclr S M)).1 M b m := by
  refine ⟨h.1.of ?_ ?_, fun i hi => ?_⟩
  · rw [pb_mbo_ne (by omega) (by omega), pb_mclr_ne (by omega) (by omega)]
  · rw [pb_mbo_ne (by omega) (by omega), pb_mclr_ne (by omega) (by omega)]
  · rw [pb_mbo_ne (by omega) (by omega), pb_mclr_ne (by omega) (by omega)]
    exact h.2 i hi
theorem pb_mor_P {S : pb_Sg} {M b : Nat} {c : Nat → Bool} (n : Nat) (hn : n ≤ 16) : ∀ k, k < pb_cnt c n → ∃ t, t < 16 ∧ pb_mor S M b c n (M + 24) k = nI t := by
  induction n with
  | zero => intro k hk; exact absurd hk (Nat.not_lt_zero _)
  | succ n ih =>
    intro k hk
    unfold pb_cnt at hk
    unfold pb_mor
    by_cases e : c n = true
    · rw [if_pos e] at hk ⊢
      rw [pb_up_at]
      by_cases e2 : k = pb_cnt c n
      · rw [if_pos ⟨rfl, e2⟩]; exact ⟨n, by omega, rfl⟩
      · rw [if_neg (fun q => e2 q.2)]; exact ih (by omega) k (by omega)
    · rw [if_neg e] at hk ⊢
      exact ih (by omega) k hk
theorem pb_mP_0 {sg S3 : pb_Sg} {M b L : Nat} (h : pb_mw sg M b) (hS : S3 = pb_mfd (pb_mor (pb_up sg M 0 (nI 0)) M b (fun t => pb_has (sg (M + 1)) (16 * b + t)) 16) M b L 2000) : pb_mP S3 M b (pb_cnt (fun t => pb_has (sg (M + 1)) (16 * b + t)) 16) := by
  refine ⟨h.of ?_ ?_, fun k hk => ?_⟩
  · rw [hS, pb_mfd_ne (by omega), pb_mor_ne (by omega), pb_up_neA (by omega)]
  · rw [hS, pb_mfd_ne (by omega), pb_mor_ne (by omega), pb_up_neA (by omega)]
  · rw [hS, pb_mfd_ne (by omega)]
    exact pb_mor_P 16 (Nat.le_refl _) k hk
set_option maxRecDepth 100000 in
theorem c2_X8_finds {l : Launch} (hfl : l.stackTraces = false) {sz : Nat} {sk : pb_Sk} {rf : pb_Rf} {sg : pb_Sg} {M : Nat} (hm : pb_md sk rf M) {b L : Nat} (hb : b < 8) (hL : sg M 20 = nI L) (hL40 : L ≤ 40) {S : pb_Sg} (hS : S = pb_mfd sg M b L 2000) : pb_Met l mX8_finds 3 0 0 [.ref M, .int (nI b)] sz sk rf sg (pb_is none sz sk rf S) := by
  rw [hS]
  exact c_X8_finds hfl hm hb hL hL40
set_option maxHeartbeats 400000 in
set_option maxRecDepth 100000 in
theorem c_X8_lastDayByAll {l : Launch} (hfl : l.stackTraces = false) {sz : Nat} {sk : pb_Sk} {rf : pb_Rf} {sg : pb_Sg} {M : Nat} (hm : pb_md sk rf M) {n : Nat} (hn : sg M 8 = nI n) (hn8 : 1 ≤ n ∧ n ≤ 8) {b : Nat} (hb : b < n) {L : Nat} (hL : sg M 20 = nI L) (hL40 : L ≤ 40) (hw : pb_mw sg M b) {m : Nat} (hcm : pb_cnt (fun t => pb_has (sg (M + 1)) (16 * b + t)) 16 = m) (hm1 : 1 ≤ m) (hm6 : m ≤ 6) {S3 : pb_Sg} (hS3 : S3 = pb_mfd (pb_mor (pb_up sg M 0 (nI 0)) M b (fun t => pb_has (sg (M + 1)) (16 * b + t)) 16) M b L 2000) {N : Nat} (hT : pb_mbT M b m N S3) {R : pb_Sg × Int32} (hR : R = pb_mbl M b m N S3 (-1)) : pb_Met l mX8_lastDayByAll 6 0 0 [.ref M, .int (nI b)] sz sk rf sg (pb_is (some (.int R.2)) sz sk rf R.1) := by
  refine pb_start hfl (by decide +kernel) rfl (pb_c1 rfl) (Nat.le_of_ble_eq_true rfl) (fun F hF h hQ => ?_)
  subst hF
  show pv F 0 0 sz sk rf sg 0 [some (.ref M), some (.int (nI b)), none, none, none, none, none] []
  obtain ⟨hM0, hr1, hk1, hr2, hk2, hr3, hk3, hr4, hk4, hr5, hk5, hr6, hk6, hr7, hk7, hr8, hk8, hr9, hk9, hr10, hk10, hr11, hk11, hr12, hk12, hr13, hk13, hr14, hk14, hr15, hk15, hr16, hk16, hr17, hk17, hr18, hk18, hr19, hk19, hr20, hk20, hr21, hk21, hr22, hk22, hr23, hk23, hr24, hk24⟩ := id hm
  have hP : pb_mP S3 M b m := by rw [← hcm]; exact pb_mP_0 hw hS3
  refine v_aload_n h (i := 0) dX8_lastDayByAll_0 (q := 1) rfl rfl rfl ?_
  refine v_iload_n h (i := 1) dX8_lastDayByAll_1 (q := 2) rfl rfl rfl ?_
  refine v_callV1 h (c_X8_isBranch hfl hm hb hn hn8.2) kX8_isBranch tw925 tw13 (by assumption) (by decide) rfl rfl rfl (by simp [Value.category]) (by decide) (Nat.zero_le _) (Nat.zero_le _) rfl dX8_lastDayByAll_2 (q := 5) rfl ?_
  refine v_istore_n h (i := 2) dX8_lastDayByAll_5 (q := 6) rfl rfl (Nat.le_of_ble_eq_true rfl) rfl ?_
  refine v_aload_n h (i := 0) dX8_lastDayByAll_6 (q := 7) rfl rfl rfl ?_
  refine v_iload_n h (i := 2) dX8_lastDayByAll_7 (q := 8) rfl rfl rfl ?_
  refine v_if_ne h dX8_lastDayByAll_8 (q := 11) rfl (tgt := 15) (by decide) (fun c1 => ?_) (fun c1 => absurd c1 (by decide))
  refine v_aload_n h (i := 0) dX8_lastDayByAll_15 (q := 16) rfl rfl rfl ?_
  refine v_iload_n h (i := 1) dX8_lastDayByAll_16 (q := 17) rfl rfl rfl ?_
  refine v_callV1 h (c_X8_tasks0 hfl hm (show b < 17 by omega)) kX8_tasks0 tw976 tw21 (by assumption) (by decide) rfl rfl rfl (by simp [Value.category]) (by decide) (Nat.zero_le _) (Nat.zero_le _) rfl dX8_lastDayByAll_17 (q := 20) rfl ?_
  refine v_callS1 h (c_X8_count hfl) kX8_count rfl tw1183 rfl rfl (by simp [Value.category]) (by decide) (Nat.zero_le _) (Nat.zero_le _) rfl dX8_lastDayByAll_20 (q := 23) rfl ?_
  refine v_eq (st' := [.int (nI m), .ref M]) (by rw [pb_cntset, hcm]) ?_
  refine v_bipush h (v := nI 6) dX8_lastDayByAll_23 (q := 25) rfl (by decide +kernel) ?_
  refine v_icmp_le h dX8_lastDayByAll_25 (q := 28) rfl (tgt := 32) (by decide) (fun c2 => ?_) (fun c2 => absurd (nI_le hm6 (by decide)) c2)
  refine v_iconst h (v := nI 0) dX8_lastDayByAll_32 (q := 33) rfl (by decide +kernel) ?_
  refine v_callV1 h (c_X8_isFine hfl hm) kX8_isFine tw929 tw14 (by assumption) (by decide) rfl rfl rfl (by simp [Value.category]) (by decide) (Nat.zero_le _) (Nat.zero_le _) rfl dX8_lastDayByAll_33 (q := 36) rfl ?_
  refine v_if_ne h dX8_lastDayByAll_36 (q := 39) rfl (tgt := 41) (by decide) (fun c3 => ?_) (fun c3 => absurd c3 (by decide))
  refine v_iconst h (v := nI 0) dX8_lastDayByAll_41 (q := 42) rfl (by decide +kernel) ?_
  refine v_istore_n h (i := 3) dX8_lastDayByAll_42 (q := 43) rfl rfl (Nat.le_of_ble_eq_true rfl) rfl ?_
  refine v_iconst h (v := nI 0) dX8_lastDayByAll_43 (q := 44) rfl (by decide +kernel) ?_
  refine v_istore h dX8_lastDayByAll_44 (q := 46) rfl (Nat.le_of_ble_eq_true rfl) rfl ?_
  have lp : ∀ (j i : Nat), i + j = 16 → pv F 0 0 sz sk rf (pb_mor (pb_up sg M 0 (nI 0)) M b (fun t => pb_has (sg (M + 1)) (16 * b + t)) i) 46 [some (.ref M), some (.int (nI b)), some (.int (nI 1)), some (.int (nI (pb_cnt (fun t => pb_has (sg (M + 1)) (16 * b + t)) i))), some (.int (nI i)), none, none] [] := by
    intro j
    induction j with
    | zero =>
      intro i  hi
      obtain rfl : i = 16 := by omega
      refine v_iload h dX8_lastDayByAll_46 (q := 48) rfl rfl ?_
      refine v_bipush h (v := nI 16) dX8_lastDayByAll_48 (q := 50) rfl (by decide +kernel) ?_
      refine v_icmp_ge h dX8_lastDayByAll_50 (q := 53) rfl (tgt := 80) (by decide) (fun c4 => ?_) (fun c4 => pb_kle (Nat.le_refl _) (by decide) c4)
      refine v_wk (L' := [some (.ref M), some (.int (nI b)), none, some (.int (nI m)), none, none, none]) (by simp [pb_wk, hcm]) ?_
      refine v_iload_n h (i := 3) dX8_lastDayByAll_80 (q := 81) rfl rfl rfl ?_
      refine v_if_ne h dX8_lastDayByAll_81 (q := 84) rfl (tgt := 86) (by decide) (fun c5 => ?_) (fun c5 => absurd c5 (nI_ne0 hm1 (by omega)))
      refine v_aload_n h (i := 0) dX8_lastDayByAll_86 (q := 87) rfl rfl rfl ?_
      refine v_iload_n h (i := 1) dX8_lastDayByAll_87 (q := 88) rfl rfl rfl ?_
      refine v_callV0 h (c2_X8_finds hfl hm (show b < 8 by omega) (show _ = nI L by rw [pb_mor_ne (by omega), pb_up_ne3 (by decide)]; exact hL) hL40 hS3) kX8_finds tw1094 tw38 (by assumption) (by decide) rfl rfl rfl (by simp [Value.category]) (by decide) (Nat.zero_le _) (Nat.zero_le _) rfl dX8_lastDayByAll_88 (q := 91) rfl ?_
      refine v_iconst h (v := (-1)) dX8_lastDayByAll_91 (q := 92) rfl (by decide +kernel) ?_
      refine v_istore h dX8_lastDayByAll_92 (q := 94) rfl (Nat.le_of_ble_eq_true rfl) rfl ?_
      refine v_iconst h (v := nI 1) dX8_lastDayByAll_94 (q := 95) rfl (by decide +kernel) ?_
      refine v_istore h dX8_lastDayByAll_95 (q := 97) rfl (Nat.le_of_ble_eq_true rfl) rfl ?_
      have lp : ∀ (j i : Nat) (S : pb_Sg) (best : Int32), i + j = N → pb_mbH M b m j S best R → pv F 0 0 sz sk rf S 97 [some (.ref M), some (.int (nI b)), none, some (.int (nI m)), some (.int best), some (.int (nI 1)), none] [] := by
        intro j
        induction j with
        | zero =>
          intro i S best hi hy0
          obtain rfl : i = N := by omega
          exact False.elim hy0.1
        | succ j ih =>
          intro i S best hi hy0
          have hi2 : i < N := by omega
          refine v_iload h dX8_lastDayByAll_97 (q := 99) rfl rfl ?_
          refine v_if_eq h dX8_lastDayByAll_99 (q := 102) rfl (tgt := 148) (by decide) (fun c6 => absurd c6 (by decide)) (fun c6 => ?_)
          refine v_aload_n h (i := 0) dX8_lastDayByAll_102 (q := 103) rfl rfl rfl ?_
          refine v_iload_n h (i := 1) dX8_lastDayByAll_103 (q := 104) rfl rfl rfl ?_
          refine v_iload_n h (i := 3) dX8_lastDayByAll_104 (q := 105) rfl rfl rfl ?_
          refine v_callV1 h (c_X8_byOrder hfl hm (show b < 17 by omega) hm6 hy0.2.1.1 hy0.2.1.2) kX8_byOrder tw1186 tw44 (by assumption) (by decide) rfl rfl rfl (by simp [Value.category]) (by decide) (Nat.zero_le _) (Nat.zero_le _) rfl dX8_lastDayByAll_105 (q := 108) rfl ?_
          refine v_istore h dX8_lastDayByAll_108 (q := 110) rfl (Nat.le_of_ble_eq_true rfl) rfl ?_
          refine v_iload h dX8_lastDayByAll_110 (q := 112) rfl rfl ?_
          refine v_iconst h (v := (-1)) dX8_lastDayByAll_112 (q := 113) rfl (by decide +kernel) ?_
          refine v_icmp_eq h dX8_lastDayByAll_113 (q := 116) rfl (tgt := 134) (by decide) (fun k1 => ?_) (fun k1 => ?_)
          · skip
            have e4 : pb_mbs best (pb_mbo M b m 0 (pb_mclr S M)).2 = best := if_neg (fun q9 => q9.1 k1)
            refine v_iload h dX8_lastDayByAll_134 (q := 136) rfl rfl ?_
            refine v_eq (st' := [.int (pb_mbs best (pb_mbo M b m 0 (pb_mclr S M)).2)]) (by rw [e4]) ?_
            refine v_istore h dX8_lastDayByAll_136 (q := 138) rfl (Nat.le_of_ble_eq_true rfl) rfl ?_
            refine v_aload_n h (i := 0) dX8_lastDayByAll_138 (q := 139) rfl rfl rfl ?_
            refine v_iload_n h (i := 3) dX8_lastDayByAll_139 (q := 140) rfl rfl rfl ?_
            by_cases hk : pb_tk ((pb_mbo M b m 0 (pb_mclr S M)).1 (M + 24)) (m - 1) = none
            · skip
              refine v_callV1 h (x_X8_turns hfl hm hm1 hm6 hk) kX8_turns tw1190 tw45 (by assumption) (by decide) rfl rfl rfl (by simp [Value.category]) (by decide) (Nat.zero_le _) (Nat.zero_le _) rfl dX8_lastDayByAll_140 (q := 143) rfl ?_
              refine v_istore h dX8_lastDayByAll_143 (q := 145) rfl (Nat.le_of_ble_eq_true rfl) rfl ?_
              refine v_goto h dX8_lastDayByAll_145 (tgt := 97) (by decide) ?_
              refine v_iload h dX8_lastDayByAll_97 (q := 99) rfl rfl ?_
              refine v_if_eq h dX8_lastDayByAll_99 (q := 102) rfl (tgt := 148) (by decide) (fun c8 => ?_) (fun c8 => absurd c8 (by decide))
              refine v_iload h dX8_lastDayByAll_148 (q := 150) rfl rfl ?_
              refine v_iret h hQ rfl rfl dX8_lastDayByAll_150 (Nat.zero_le _) (Nat.zero_le _) ⟨by rw [← hy0.2.2, pb_mbl_0 hk], rfl, rfl, rfl, by rw [← hy0.2.2, pb_mbl_0 hk]⟩
            · skip
              refine v_callV1 h (c_X8_turns hfl hm hm1 hm6 (pb_som hk)) kX8_turns tw1190 tw45 (by assumption) (by decide) rfl rfl rfl (by simp [Value.category]) (by decide) (Nat.zero_le _) (Nat.zero_le _) rfl dX8_lastDayByAll_140 (q := 143) rfl ?_
              refine v_istore h dX8_lastDayByAll_143 (q := 145) rfl (Nat.le_of_ble_eq_true rfl) rfl ?_
              refine v_goto h dX8_lastDayByAll_145 (tgt := 97) (by decide) ?_
              exact v_wk (by simp [pb_wk]) (ih (i + 1) _ _ (by omega) ⟨pb_mbT_1 (pb_som hk) hy0.1, pb_mP_tn (pb_mP_bo hy0.2.1) hm1 (pb_som hk), (pb_mbl_1 (pb_som hk)).symm.trans hy0.2.2⟩)
          · skip
            refine v_iload h dX8_lastDayByAll_116 (q := 118) rfl rfl ?_
            refine v_iconst h (v := (-1)) dX8_lastDayByAll_118 (q := 119) rfl (by decide +kernel) ?_
            refine v_icmp_eq h dX8_lastDayByAll_119 (q := 122) rfl (tgt := 129) (by decide) (fun k2 => ?_) (fun k2 => ?_)
            · skip
              have e4 : pb_mbs best (pb_mbo M b m 0 (pb_mclr S M)).2 = (pb_mbo M b m 0 (pb_mclr S M)).2 := if_pos ⟨k1, Or.inl k2⟩
              refine v_iload h dX8_lastDayByAll_129 (q := 131) rfl rfl ?_
              refine v_goto h dX8_lastDayByAll_131 (tgt := 136) (by decide) ?_
              refine v_eq (st' := [.int (pb_mbs best (pb_mbo M b m 0 (pb_mclr S M)).2)]) (by rw [e4]) ?_
              refine v_istore h dX8_lastDayByAll_136 (q := 138) rfl (Nat.le_of_ble_eq_true rfl) rfl ?_
              refine v_aload_n h (i := 0) dX8_lastDayByAll_138 (q := 139) rfl rfl rfl ?_
              refine v_iload_n h (i := 3) dX8_lastDayByAll_139 (q := 140) rfl rfl rfl ?_
              by_cases hk : pb_tk ((pb_mbo M b m 0 (pb_mclr S M)).1 (M + 24)) (m - 1) = none
              · skip
                refine v_callV1 h (x_X8_turns hfl hm hm1 hm6 hk) kX8_turns tw1190 tw45 (by assumption) (by decide) rfl rfl rfl (by simp [Value.category]) (by decide) (Nat.zero_le _) (Nat.zero_le _) rfl dX8_lastDayByAll_140 (q := 143) rfl ?_
                refine v_istore h dX8_lastDayByAll_143 (q := 145) rfl (Nat.le_of_ble_eq_true rfl) rfl ?_
                refine v_goto h dX8_lastDayByAll_145 (tgt := 97) (by decide) ?_
                refine v_iload h dX8_lastDayByAll_97 (q := 99) rfl rfl ?_
                refine v_if_eq h dX8_lastDayByAll_99 (q := 102) rfl (tgt := 148) (by decide) (fun c10 => ?_) (fun c10 => absurd c10 (by decide))
                refine v_iload h dX8_lastDayByAll_148 (q := 150) rfl rfl ?_
                refine v_iret h hQ rfl rfl dX8_lastDayByAll_150 (Nat.zero_le _) (Nat.zero_le _) ⟨by rw [← hy0.2.2, pb_mbl_0 hk], rfl, rfl, rfl, by rw [← hy0.2.2, pb_mbl_0 hk]⟩
              · skip
                refine v_callV1 h (c_X8_turns hfl hm hm1 hm6 (pb_som hk)) kX8_turns tw1190 tw45 (by assumption) (by decide) rfl rfl rfl (by simp [Value.category]) (by decide) (Nat.zero_le _) (Nat.zero_le _) rfl dX8_lastDayByAll_140 (q := 143) rfl ?_
                refine v_istore h dX8_lastDayByAll_143 (q := 145) rfl (Nat.le_of_ble_eq_true rfl) rfl ?_
                refine v_goto h dX8_lastDayByAll_145 (tgt := 97) (by decide) ?_
                exact v_wk (by simp [pb_wk]) (ih (i + 1) _ _ (by omega) ⟨pb_mbT_1 (pb_som hk) hy0.1, pb_mP_tn (pb_mP_bo hy0.2.1) hm1 (pb_som hk), (pb_mbl_1 (pb_som hk)).symm.trans hy0.2.2⟩)
            · skip
              refine v_iload h dX8_lastDayByAll_122 (q := 124) rfl rfl ?_
              refine v_iload h dX8_lastDayByAll_124 (q := 126) rfl rfl ?_
              refine v_icmp_ge h dX8_lastDayByAll_126 (q := 129) rfl (tgt := 134) (by decide) (fun k3 => ?_) (fun k3 => ?_)
              · skip
                have e4 : pb_mbs best (pb_mbo M b m 0 (pb_mclr S M)).2 = best := if_neg (fun q9 => q9.2.elim k2 (Int32.not_lt.mpr k3))
                refine v_iload h dX8_lastDayByAll_134 (q := 136) rfl rfl ?_
                refine v_eq (st' := [.int (pb_mbs best (pb_mbo M b m 0 (pb_mclr S M)).2)]) (by rw [e4]) ?_
                refine v_istore h dX8_lastDayByAll_136 (q := 138) rfl (Nat.le_of_ble_eq_true rfl) rfl ?_
                refine v_aload_n h (i := 0) dX8_lastDayByAll_138 (q := 139) rfl rfl rfl ?_
                refine v_iload_n h (i := 3) dX8_lastDayByAll_139 (q := 140) rfl rfl rfl ?_
                by_cases hk : pb_tk ((pb_mbo M b m 0 (pb_mclr S M)).1 (M + 24)) (m - 1) = none
                · skip
                  refine v_callV1 h (x_X8_turns hfl hm hm1 hm6 hk) kX8_turns tw1190 tw45 (by assumption) (by decide) rfl rfl rfl (by simp [Value.category]) (by decide) (Nat.zero_le _) (Nat.zero_le _) rfl dX8_lastDayByAll_140 (q := 143) rfl ?_
                  refine v_istore h dX8_lastDayByAll_143 (q := 145) rfl (Nat.le_of_ble_eq_true rfl) rfl ?_
                  refine v_goto h dX8_lastDayByAll_145 (tgt := 97) (by decide) ?_
                  refine v_iload h dX8_lastDayByAll_97 (q := 99) rfl rfl ?_
                  refine v_if_eq h dX8_lastDayByAll_99 (q := 102) rfl (tgt := 148) (by decide) (fun c12 => ?_) (fun c12 => absurd c12 (by decide))
                  refine v_iload h dX8_lastDayByAll_148 (q := 150) rfl rfl ?_
                  refine v_iret h hQ rfl rfl dX8_lastDayByAll_150 (Nat.zero_le _) (Nat.zero_le _) ⟨by rw [← hy0.2.2, pb_mbl_0 hk], rfl, rfl, rfl, by rw [← hy0.2.2, pb_mbl_0 hk]⟩
                · skip
                  refine v_callV1 h (c_X8_turns hfl hm hm1 hm6 (pb_som hk)) kX8_turns tw1190 tw45 (by assumption) (by decide) rfl rfl rfl (by simp [Value.category]) (by decide) (Nat.zero_le _) (Nat.zero_le _) rfl dX8_lastDayByAll_140 (q := 143) rfl ?_
                  refine v_istore h dX8_lastDayByAll_143 (q := 145) rfl (Nat.le_of_ble_eq_true rfl) rfl ?_
                  refine v_goto h dX8_lastDayByAll_145 (tgt := 97) (by decide) ?_
                  exact v_wk (by simp [pb_wk]) (ih (i + 1) _ _ (by omega) ⟨pb_mbT_1 (pb_som hk) hy0.1, pb_mP_tn (pb_mP_bo hy0.2.1) hm1 (pb_som hk), (pb_mbl_1 (pb_som hk)).symm.trans hy0.2.2⟩)
              · skip
                have e4 : pb_mbs best (pb_mbo M b m 0 (pb_mclr S M)).2 = (pb_mbo M b m 0 (pb_mclr S M)).2 := if_pos ⟨k1, Or.inr (Int32.not_le.mp k3)⟩
                refine v_iload h dX8_lastDayByAll_129 (q := 131) rfl rfl ?_
                refine v_goto h dX8_lastDayByAll_131 (tgt := 136) (by decide) ?_
                refine v_eq (st' := [.int (pb_mbs best (pb_mbo M b m 0 (pb_mclr S M)).2)]) (by rw [e4]) ?_
                refine v_istore h dX8_lastDayByAll_136 (q := 138) rfl (Nat.le_of_ble_eq_true rfl) rfl ?_
                refine v_aload_n h (i := 0) dX8_lastDayByAll_138 (q := 139) rfl rfl rfl ?_
                refine v_iload_n h (i := 3) dX8_lastDayByAll_139 (q := 140) rfl rfl rfl ?_
                by_cases hk : pb_tk ((pb_mbo M b m 0 (pb_mclr S M)).1 (M + 24)) (m - 1) = none
                · skip
                  refine v_callV1 h (x_X8_turns hfl hm hm1 hm6 hk) kX8_turns tw1190 tw45 (by assumption) (by decide) rfl rfl rfl (by simp [Value.category]) (by decide) (Nat.zero_le _) (Nat.zero_le _) rfl dX8_lastDayByAll_140 (q := 143) rfl ?_
                  refine v_istore h dX8_lastDayByAll_143 (q := 145) rfl (Nat.le_of_ble_eq_true rfl) rfl ?_
                  refine v_goto h dX8_lastDayByAll_145 (tgt := 97) (by decide) ?_
                  refine v_iload h dX8_lastDayByAll_97 (q := 99) rfl rfl ?_
                  refine v_if_eq h dX8_lastDayByAll_99 (q := 102) rfl (tgt := 148) (by decide) (fun c13 => ?_) (fun c13 => absurd c13 (by decide))
                  refine v_iload h dX8_lastDayByAll_148 (q := 150) rfl rfl ?_
                  refine v_iret h hQ rfl rfl dX8_lastDayByAll_150 (Nat.zero_le _) (Nat.zero_le _) ⟨by rw [← hy0.2.2, pb_mbl_0 hk], rfl, rfl, rfl, by rw [← hy0.2.2, pb_mbl_0 hk]⟩
                · skip
                  refine v_callV1 h (c_X8_turns hfl hm hm1 hm6 (pb_som hk)) kX8_turns tw1190 tw45 (by assumption) (by decide) rfl rfl rfl (by simp [Value.category]) (by decide) (Nat.zero_le _) (Nat.zero_le _) rfl dX8_lastDayByAll_140 (q := 143) rfl ?_
                  refine v_istore h dX8_lastDayByAll_143 (q := 145) rfl (Nat.le_of_ble_eq_true rfl) rfl ?_
                  refine v_goto h dX8_lastDayByAll_145 (tgt := 97) (by decide) ?_
                  exact v_wk (by simp [pb_wk]) (ih (i + 1) _ _ (by omega) ⟨pb_mbT_1 (pb_som hk) hy0.1, pb_mP_tn (pb_mP_bo hy0.2.1) hm1 (pb_som hk), (pb_mbl_1 (pb_som hk)).symm.trans hy0.2.2⟩)
      exact v_wk (by simp [pb_wk]) (lp N 0 _ _ (by omega) ⟨hT, hP, hR.symm⟩)
    | succ j ih =>
      intro i  hi
      have hi2 : i < 16 := by omega
      refine v_iload h dX8_lastDayByAll_46 (q := 48) rfl rfl ?_
      refine v_bipush h (v := nI 16) dX8_lastDayByAll_48 (q := 50) rfl (by decide +kernel) ?_
      refine v_icmp_ge h dX8_lastDayByAll_50 (q := 53) rfl (tgt := 80) (by decide) (fun c14 => pb_kge hi2 (by decide) c14) (fun c14 => ?_)
      refine v_aload_n h (i := 0) dX8_lastDayByAll_53 (q := 54) rfl rfl rfl ?_
      refine v_iload_n h (i := 1) dX8_lastDayByAll_54 (q := 55) rfl rfl rfl ?_
      refine v_iload h dX8_lastDayByAll_55 (q := 57) rfl rfl ?_
      refine v_callV1 h (c_X8_isThere hfl hm (show b < 17 by omega) hi2) kX8_isThere tw940 tw16 (by assumption) (by decide) rfl rfl rfl (by simp [Value.category]) (by decide) (Nat.zero_le _) (Nat.zero_le _) rfl dX8_lastDayByAll_57 (q := 60) rfl ?_
      refine v_eq (st' := [.int (pb_b ((fun t => pb_has (sg (M + 1)) (16 * b + t)) i))]) (by rw [pb_mor_ne (by omega), pb_up_neA (by omega)]) ?_
      refine v_if_eq h dX8_lastDayByAll_60 (q := 63) rfl (tgt := 74) (by decide) (fun c15 => ?_) (fun c15 => ?_)
      · skip
        have e1 := pb_b_0.mp c15
        have e9 : pb_cnt (fun t => pb_has (sg (M + 1)) (16 * b + t)) (i + 1) = pb_cnt (fun t => pb_has (sg (M + 1)) (16 * b + t)) i := if_neg (by rw [e1]; decide)
        have ea : pb_mor (pb_up sg M 0 (nI 0)) M b (fun t => pb_has (sg (M + 1)) (16 * b + t)) (i + 1) = (pb_mor (pb_up sg M 0 (nI 0)) M b (fun t => pb_has (sg (M + 1)) (16 * b + t)) i) := if_neg (by rw [e1]; decide)
        refine v_iinc h dX8_lastDayByAll_74 (q := 77) rfl rfl pb_inc rfl ?_
        refine v_goto h dX8_lastDayByAll_77 (tgt := 46) (by decide) ?_
        have h9 := ih (i + 1) (by omega)
        rw [e9, ea] at h9
        exact h9
      · skip
        have e1 := pb_ne_f (fun q => c15 (pb_b_0.mpr q))
        have e9 : pb_cnt (fun t => pb_has (sg (M + 1)) (16 * b + t)) (i + 1) = pb_cnt (fun t => pb_has (sg (M + 1)) (16 * b + t)) i + 1 := if_pos e1
        have ea : pb_mor (pb_up sg M 0 (nI 0)) M b (fun t => pb_has (sg (M + 1)) (16 * b + t)) (i + 1) = pb_up (pb_mor (pb_up sg M 0 (nI 0)) M b (fun t => pb_has (sg (M + 1)) (16 * b + t)) i) (M + 24) (pb_cnt (fun t => pb_has (sg (M + 1)) (16 * b + t)) i) (nI i) := if_pos e1
        have hlt : pb_cnt (fun t => pb_has (sg (M + 1)) (16 * b + t)) i < 6 := by have := pb_cnt_mon (c := (fun t => pb_has (sg (M + 1)) (16 * b + t))) (show i + 1 ≤ 16 by omega); omega
        refine v_aload_n h (i := 0) dX8_lastDayByAll_63 (q := 64) rfl rfl rfl ?_
        refine v_getr h fl_X8_84 (by assumption) rfl (by assumption) dX8_lastDayByAll_64 (q := 67) rfl ?_
        refine v_iload_n h (i := 3) dX8_lastDayByAll_67 (q := 68) rfl rfl rfl ?_
        refine v_iload h dX8_lastDayByAll_68 (q := 70) rfl rfl ?_
        refine v_iast h (by assumption) rfl (by first | assumption | omega) (by decide) dX8_lastDayByAll_70 (q := 71) rfl ?_
        refine v_iinc h dX8_lastDayByAll_71 (q := 74) rfl rfl pb_inc rfl ?_
        refine v_iinc h dX8_lastDayByAll_74 (q := 77) rfl rfl pb_inc rfl ?_
        refine v_goto h dX8_lastDayByAll_77 (tgt := 46) (by decide) ?_
        have h9 := ih (i + 1) (by omega)
        rw [e9, ea] at h9
        exact h9
  exact lp 16 0 (by omega)
set_option maxHeartbeats 400000 in
set_option maxRecDepth 100000 in
theorem c0_X8_lastDayByAll {l : Launch} (hfl : l.stackTraces = false) {sz : Nat} {sk : pb_Sk} {rf : pb_Rf} {sg : pb_Sg} {M : Nat} (hm : pb_md sk rf M) {n : Nat} (hn : sg M 8 = nI n) (hn8 : 1 ≤ n ∧ n ≤ 8) {b : Nat} (hb : b < n) {m : Nat} (hcm : pb_cnt (fun t => pb_has (sg (M + 1)) (16 * b + t)) 16 = m) (hm0 : m = 0) {S2 : pb_Sg} (hS2 : S2 = pb_mor (pb_up sg M 0 (nI 0)) M b (fun t => pb_has (sg (M + 1)) (16 * b + t)) 16) : pb_Met l mX8_lastDayByAll 6 0 0 [.ref M, .int (nI b)] sz sk rf sg (pb_is (some (.int (-1))) sz sk rf S2) := by
  refine pb_start hfl (by decide +kernel) rfl (pb_c1 rfl) (Nat.le_of_ble_eq_true rfl) (fun F hF h hQ => ?_)
  subst hF
  show pv F 0 0 sz sk rf sg 0 [some (.ref M), some (.int (nI b)), none, none, none, none, none] []
  obtain ⟨hM0, hr1, hk1, hr2, hk2, hr3, hk3, hr4, hk4, hr5, hk5, hr6, hk6, hr7, hk7, hr8, hk8, hr9, hk9, hr10, hk10, hr11, hk11, hr12, hk12, hr13, hk13, hr14, hk14, hr15, hk15, hr16, hk16, hr17, hk17, hr18, hk18, hr19, hk19, hr20, hk20, hr21, hk21, hr22, hk22, hr23, hk23, hr24, hk24⟩ := id hm
  have hm6 : m ≤ 6 := by omega
  refine v_aload_n h (i := 0) dX8_lastDayByAll_0 (q := 1) rfl rfl rfl ?_
  refine v_iload_n h (i := 1) dX8_lastDayByAll_1 (q := 2) rfl rfl rfl ?_
  refine v_callV1 h (c_X8_isBranch hfl hm hb hn hn8.2) kX8_isBranch tw925 tw13 (by assumption) (by decide) rfl rfl rfl (by simp [Value.category]) (by decide) (Nat.zero_le _) (Nat.zero_le _) rfl dX8_lastDayByAll_2 (q := 5) rfl ?_
  refine v_istore_n h (i := 2) dX8_lastDayByAll_5 (q := 6) rfl rfl (Nat.le_of_ble_eq_true rfl) rfl ?_
  refine v_aload_n h (i := 0) dX8_lastDayByAll_6 (q := 7) rfl rfl rfl ?_
  refine v_iload_n h (i := 2) dX8_lastDayByAll_7 (q := 8) rfl rfl rfl ?_
  refine v_if_ne h dX8_lastDayByAll_8 (q := 11) rfl (tgt := 15) (by decide) (fun c1 => ?_) (fun c1 => absurd c1 (by decide))
  refine v_aload_n h (i := 0) dX8_lastDayByAll_15 (q := 16) rfl rfl rfl ?_
  refine v_iload_n h (i := 1) dX8_lastDayByAll_16 (q := 17) rfl rfl rfl ?_
  refine v_callV1 h (c_X8_tasks0 hfl hm (show b < 17 by omega)) kX8_tasks0 tw976 tw21 (by assumption) (by decide) rfl rfl rfl (by simp [Value.category]) (by decide) (Nat.zero_le _) (Nat.zero_le _) rfl dX8_lastDayByAll_17 (q := 20) rfl ?_
  refine v_callS1 h (c_X8_count hfl) kX8_count rfl tw1183 rfl rfl (by simp [Value.category]) (by decide) (Nat.zero_le _) (Nat.zero_le _) rfl dX8_lastDayByAll_20 (q := 23) rfl ?_
  refine v_eq (st' := [.int (nI m), .ref M]) (by rw [pb_cntset, hcm]) ?_
  refine v_bipush h (v := nI 6) dX8_lastDayByAll_23 (q := 25) rfl (by decide +kernel) ?_
  refine v_icmp_le h dX8_lastDayByAll_25 (q := 28) rfl (tgt := 32) (by decide) (fun c2 => ?_) (fun c2 => absurd (nI_le hm6 (by decide)) c2)
  refine v_iconst h (v := nI 0) dX8_lastDayByAll_32 (q := 33) rfl (by decide +kernel) ?_
  refine v_callV1 h (c_X8_isFine hfl hm) kX8_isFine tw929 tw14 (by assumption) (by decide) rfl rfl rfl (by simp [Value.category]) (by decide) (Nat.zero_le _) (Nat.zero_le _) rfl dX8_lastDayByAll_33 (q := 36) rfl ?_
  refine v_if_ne h dX8_lastDayByAll_36 (q := 39) rfl (tgt := 41) (by decide) (fun c3 => ?_) (fun c3 => absurd c3 (by decide))
  refine v_iconst h (v := nI 0) dX8_lastDayByAll_41 (q := 42) rfl (by decide +kernel) ?_
  refine v_istore_n h (i := 3) dX8_lastDayByAll_42 (q := 43) rfl rfl (Nat.le_of_ble_eq_true rfl) rfl ?_
  refine v_iconst h (v := nI 0) dX8_lastDayByAll_43 (q := 44) rfl (by decide +kernel) ?_
  refine v_istore h dX8_lastDayByAll_44 (q := 46) rfl (Nat.le_of_ble_eq_true rfl) rfl ?_
  have lp : ∀ (j i : Nat), i + j = 16 → pv F 0 0 sz sk rf (pb_mor (pb_up sg M 0 (nI 0)) M b (fun t => pb_has (sg (M + 1)) (16 * b + t)) i) 46 [some (.ref M), some (.int (nI b)), some (.int (nI 1)), some (.int (nI (pb_cnt (fun t => pb_has (sg (M + 1)) (16 * b + t)) i))), some (.int (nI i)), none, none] [] := by
    intro j
    induction j with
    | zero =>
      intro i  hi
      obtain rfl : i = 16 := by omega
      refine v_iload h dX8_lastDayByAll_46 (q := 48) rfl rfl ?_
      refine v_bipush h (v := nI 16) dX8_lastDayByAll_48 (q := 50) rfl (by decide +kernel) ?_
      refine v_icmp_ge h dX8_lastDayByAll_50 (q := 53) rfl (tgt := 80) (by decide) (fun c4 => ?_) (fun c4 => pb_kle (Nat.le_refl _) (by decide) c4)
      refine v_wk (L' := [some (.ref M), some (.int (nI b)), none, some (.int (nI m)), none, none, none]) (by simp [pb_wk, hcm]) ?_
      rw [← hS2]
      refine v_iload_n h (i := 3) dX8_lastDayByAll_80 (q := 81) rfl rfl rfl ?_
      refine v_if_ne h dX8_lastDayByAll_81 (q := 84) rfl (tgt := 86) (by decide) (fun c5 => absurd (by rw [hm0]; rfl) c5) (fun c5 => ?_)
      refine v_iconst h (v := (-1)) dX8_lastDayByAll_84 (q := 85) rfl (by decide +kernel) ?_
      refine v_iret h hQ rfl rfl dX8_lastDayByAll_85 (Nat.zero_le _) (Nat.zero_le _) ⟨rfl, rfl, rfl, rfl, rfl⟩
    | succ j ih =>
      intro i  hi
      have hi2 : i < 16 := by omega
      refine v_iload h dX8_lastDayByAll_46 (q := 48) rfl rfl ?_
      refine v_bipush h (v := nI 16) dX8_lastDayByAll_48 (q := 50) rfl (by decide +kernel) ?_
      refine v_icmp_ge h dX8_lastDayByAll_50 (q := 53) rfl (tgt := 80) (by decide) (fun c6 => pb_kge hi2 (by decide) c6) (fun c6 => ?_)
      refine v_aload_n h (i := 0) dX8_lastDayByAll_53 (q := 54) rfl rfl rfl ?_
      refine v_iload_n h (i := 1) dX8_lastDayByAll_54 (q := 55) rfl rfl rfl ?_
      refine v_iload h dX8_lastDayByAll_55 (q := 57) rfl rfl ?_
      refine v_callV1 h (c_X8_isThere hfl hm (show b < 17 by omega) hi2) kX8_isThere tw940 tw16 (by assumption) (by decide) rfl rfl rfl (by simp [Value.category]) (by decide) (Nat.zero_le _) (Nat.zero_le _) rfl dX8_lastDayByAll_57 (q := 60) rfl ?_
      refine v_eq (st' := [.int (pb_b ((fun t => pb_has (sg (M + 1)) (16 * b + t)) i))]) (by rw [pb_mor_ne (by omega), pb_up_neA (by omega)]) ?_
      refine v_if_eq h dX8_lastDayByAll_60 (q := 63) rfl (tgt := 74) (by decide) (fun c7 => ?_) (fun c7 => ?_)
      · skip
        have e1 := pb_b_0.mp c7
        have e9 : pb_cnt (fun t => pb_has (sg (M + 1)) (16 * b + t)) (i + 1) = pb_cnt (fun t => pb_has (sg (M + 1)) (16 * b + t)) i := if_neg (by rw [e1]; decide)
        have ea : pb_mor (pb_up sg M 0 (nI 0)) M b (fun t => pb_has (sg (M + 1)) (16 * b + t)) (i + 1) = (pb_mor (pb_up sg M 0 (nI 0)) M b (fun t => pb_has (sg (M + 1)) (16 * b + t)) i) := if_neg (by rw [e1]; decide)
        refine v_iinc h dX8_lastDayByAll_74 (q := 77) rfl rfl pb_inc rfl ?_
        refine v_goto h dX8_lastDayByAll_77 (tgt := 46) (by decide) ?_
        have h9 := ih (i + 1) (by omega)
        rw [e9, ea] at h9
        exact h9
      · skip
        have e1 := pb_ne_f (fun q => c7 (pb_b_0.mpr q))
        have e9 : pb_cnt (fun t => pb_has (sg (M + 1)) (16 * b + t)) (i + 1) = pb_cnt (fun t => pb_has (sg (M + 1)) (16 * b + t)) i + 1 := if_pos e1
        have ea : pb_mor (pb_up sg M 0 (nI 0)) M b (fun t => pb_has (sg (M + 1)) (16 * b + t)) (i + 1) = pb_up (pb_mor (pb_up sg M 0 (nI 0)) M b (fun t => pb_has (sg (M + 1)) (16 * b + t)) i) (M + 24) (pb_cnt (fun t => pb_has (sg (M + 1)) (16 * b + t)) i) (nI i) := if_pos e1
        have hlt : pb_cnt (fun t => pb_has (sg (M + 1)) (16 * b + t)) i < 6 := by have := pb_cnt_mon (c := (fun t => pb_has (sg (M + 1)) (16 * b + t))) (show i + 1 ≤ 16 by omega); omega
        refine v_aload_n h (i := 0) dX8_lastDayByAll_63 (q := 64) rfl rfl rfl ?_
        refine v_getr h fl_X8_84 (by assumption) rfl (by assumption) dX8_lastDayByAll_64 (q := 67) rfl ?_
        refine v_iload_n h (i := 3) dX8_lastDayByAll_67 (q := 68) rfl rfl rfl ?_
        refine v_iload h dX8_lastDayByAll_68 (q := 70) rfl rfl ?_
        refine v_iast h (by assumption) rfl (by first | assumption | omega) (by decide) dX8_lastDayByAll_70 (q := 71) rfl ?_
        refine v_iinc h dX8_lastDayByAll_71 (q := 74) rfl rfl pb_inc rfl ?_
        refine v_iinc h dX8_lastDayByAll_74 (q := 77) rfl rfl pb_inc rfl ?_
        refine v_goto h dX8_lastDayByAll_77 (tgt := 46) (by decide) ?_
        have h9 := ih (i + 1) (by omega)
        rw [e9, ea] at h9
        exact h9
  exact lp 16 0 (by omega)
set_option maxHeartbeats 400000 in
set_option maxRecDepth 100000 in
theorem x2_X8_lastDayByAll {l : Launch} (hfl : l.stackTraces = false) {sz : Nat} {sk : pb_Sk} {rf : pb_Rf} {sg : pb_Sg} {M : Nat} (hm : pb_md sk rf M) {n : Nat} (hn : sg M 8 = nI n) (hn8 : 1 ≤ n ∧ n ≤ 8) {b : Nat} (hb : b < n) {m : Nat} (hcm : pb_cnt (fun t => pb_has (sg (M + 1)) (16 * b + t)) 16 = m) (hm6 : ¬ m ≤ 6) : pb_Met l mX8_lastDayByAll 6 0 0 [.ref M, .int (nI b)] sz sk rf sg (pb_is (some (.int (nI 0))) sz sk rf (pb_up sg M 0 (nI 2))) := by
  refine pb_start hfl (by decide +kernel) rfl (pb_c1 rfl) (Nat.le_of_ble_eq_true rfl) (fun F hF h hQ => ?_)
  subst hF
  show pv F 0 0 sz sk rf sg 0 [some (.ref M), some (.int (nI b)), none, none, none, none, none] []
  obtain ⟨hM0, hr1, hk1, hr2, hk2, hr3, hk3, hr4, hk4, hr5, hk5, hr6, hk6, hr7, hk7, hr8, hk8, hr9, hk9, hr10, hk10, hr11, hk11, hr12, hk12, hr13, hk13, hr14, hk14, hr15, hk15, hr16, hk16, hr17, hk17, hr18, hk18, hr19, hk19, hr20, hk20, hr21, hk21, hr22, hk22, hr23, hk23, hr24, hk24⟩ := id hm
  have hm16 : m ≤ 16 := by rw [← hcm]; exact pb_cnt_le _ 16
  refine v_aload_n h (i := 0) dX8_lastDayByAll_0 (q := 1) rfl rfl rfl ?_
  refine v_iload_n h (i := 1) dX8_lastDayByAll_1 (q := 2) rfl rfl rfl ?_
  refine v_callV1 h (c_X8_isBranch hfl hm hb hn hn8.2) kX8_isBranch tw925 tw13 (by assumption) (by decide) rfl rfl rfl (by simp [Value.category]) (by decide) (Nat.zero_le _) (Nat.zero_le _) rfl dX8_lastDayByAll_2 (q := 5) rfl ?_
  refine v_istore_n h (i := 2) dX8_lastDayByAll_5 (q := 6) rfl rfl (Nat.le_of_ble_eq_true rfl) rfl ?_
  refine v_aload_n h (i := 0) dX8_lastDayByAll_6 (q := 7) rfl rfl rfl ?_
  refine v_iload_n h (i := 2) dX8_lastDayByAll_7 (q := 8) rfl rfl rfl ?_
  refine v_if_ne h dX8_lastDayByAll_8 (q := 11) rfl (tgt := 15) (by decide) (fun c1 => ?_) (fun c1 => absurd c1 (by decide))
  refine v_aload_n h (i := 0) dX8_lastDayByAll_15 (q := 16) rfl rfl rfl ?_
  refine v_iload_n h (i := 1) dX8_lastDayByAll_16 (q := 17) rfl rfl rfl ?_
  refine v_callV1 h (c_X8_tasks0 hfl hm (show b < 17 by omega)) kX8_tasks0 tw976 tw21 (by assumption) (by decide) rfl rfl rfl (by simp [Value.category]) (by decide) (Nat.zero_le _) (Nat.zero_le _) rfl dX8_lastDayByAll_17 (q := 20) rfl ?_
  refine v_callS1 h (c_X8_count hfl) kX8_count rfl tw1183 rfl rfl (by simp [Value.category]) (by decide) (Nat.zero_le _) (Nat.zero_le _) rfl dX8_lastDayByAll_20 (q := 23) rfl ?_
  refine v_eq (st' := [.int (nI m), .ref M]) (by rw [pb_cntset, hcm]) ?_
  refine v_bipush h (v := nI 6) dX8_lastDayByAll_23 (q := 25) rfl (by decide +kernel) ?_
  refine v_icmp_le h dX8_lastDayByAll_25 (q := 28) rfl (tgt := 32) (by decide) (fun c2 => absurd ((nI_leI (by omega) (by decide)).mp c2) hm6) (fun c2 => ?_)
  refine v_iconst h (v := nI 2) dX8_lastDayByAll_28 (q := 29) rfl (by decide +kernel) ?_
  refine v_goto h dX8_lastDayByAll_29 (tgt := 33) (by decide) ?_
  refine v_callV1 h (x_X8_isFine hfl hm (by decide)) kX8_isFine tw929 tw14 (by assumption) (by decide) rfl rfl rfl (by simp [Value.category]) (by decide) (Nat.zero_le _) (Nat.zero_le _) rfl dX8_lastDayByAll_33 (q := 36) rfl ?_
  refine v_if_ne h dX8_lastDayByAll_36 (q := 39) rfl (tgt := 41) (by decide) (fun c3 => absurd c3 (by decide)) (fun c3 => ?_)
  refine v_iconst h (v := nI 0) dX8_lastDayByAll_39 (q := 40) rfl (by decide +kernel) ?_
  refine v_iret h hQ rfl rfl dX8_lastDayByAll_40 (Nat.zero_le _) (Nat.zero_le _) ⟨rfl, rfl, rfl, rfl, rfl⟩
set_option maxHeartbeats 400000 in
set_option maxRecDepth 100000 in
theorem x1_X8_lastDayByAll {l : Launch} (hfl : l.stackTraces = false) {sz : Nat} {sk : pb_Sk} {rf : pb_Rf} {sg : pb_Sg} {M : Nat} (hm : pb_md sk rf M) {n : Nat} (hn : sg M 8 = nI n) (hn8 : 1 ≤ n ∧ n ≤ 8) {x : Int32} (hx : ∀ b, b < n → ¬ x = nI b) : pb_Met l mX8_lastDayByAll 6 0 0 [.ref M, .int x] sz sk rf sg (pb_is (some (.int (nI 0))) sz sk rf (pb_up sg M 0 (nI 1))) := by
  refine pb_start hfl (by decide +kernel) rfl (pb_c1 rfl) (Nat.le_of_ble_eq_true rfl) (fun F hF h hQ => ?_)
  subst hF
  show pv F 0 0 sz sk rf sg 0 [some (.ref M), some (.int x), none, none, none, none, none] []
  obtain ⟨hM0, hr1, hk1, hr2, hk2, hr3, hk3, hr4, hk4, hr5, hk5, hr6, hk6, hr7, hk7, hr8, hk8, hr9, hk9, hr10, hk10, hr11, hk11, hr12, hk12, hr13, hk13, hr14, hk14, hr15, hk15, hr16, hk16, hr17, hk17, hr18, hk18, hr19, hk19, hr20, hk20, hr21, hk21, hr22, hk22, hr23, hk23, hr24, hk24⟩ := id hm
  refine v_aload_n h (i := 0) dX8_lastDayByAll_0 (q := 1) rfl rfl rfl ?_
  refine v_iload_n h (i := 1) dX8_lastDayByAll_1 (q := 2) rfl rfl rfl ?_
  refine v_callV1 h (x_X8_isBranch hfl hm hx hn hn8) kX8_isBranch tw925 tw13 (by assumption) (by decide) rfl rfl rfl (by simp [Value.category]) (by decide) (Nat.zero_le _) (Nat.zero_le _) rfl dX8_lastDayByAll_2 (q := 5) rfl ?_
  refine v_istore_n h (i := 2) dX8_lastDayByAll_5 (q := 6) rfl rfl (Nat.le_of_ble_eq_true rfl) rfl ?_
  refine v_aload_n h (i := 0) dX8_lastDayByAll_6 (q := 7) rfl rfl rfl ?_
  refine v_iload_n h (i := 2) dX8_lastDayByAll_7 (q := 8) rfl rfl rfl ?_
  refine v_if_ne h dX8_lastDayByAll_8 (q := 11) rfl (tgt := 15) (by decide) (fun c1 => absurd c1 (by decide)) (fun c1 => ?_)
  refine v_iconst h (v := nI 1) dX8_lastDayByAll_11 (q := 12) rfl (by decide +kernel) ?_
  refine v_goto h dX8_lastDayByAll_12 (tgt := 33) (by decide) ?_
  refine v_callV1 h (x_X8_isFine hfl hm (by decide)) kX8_isFine tw929 tw14 (by assumption) (by decide) rfl rfl rfl (by simp [Value.category]) (by decide) (Nat.zero_le _) (Nat.zero_le _) rfl dX8_lastDayByAll_33 (q := 36) rfl ?_
  refine v_if_ne h dX8_lastDayByAll_36 (q := 39) rfl (tgt := 41) (by decide) (fun c2 => absurd c2 (by decide)) (fun c2 => ?_)
  refine v_iconst h (v := nI 0) dX8_lastDayByAll_39 (q := 40) rfl (by decide +kernel) ?_
  refine v_iret h hQ rfl rfl dX8_lastDayByAll_40 (Nat.zero_le _) (Nat.zero_le _) ⟨rfl, rfl, rfl, rfl, rfl⟩
