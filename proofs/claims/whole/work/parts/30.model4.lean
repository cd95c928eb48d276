theorem pb_ml_ne {sg : pb_Sg} {M k x : Nat} {a b c e : Int32} (h : x < M + 1 ∨ M + 4 < x) : pb_ml sg M k a b c e x = sg x := by
  unfold pb_ml
  rw [pb_up_neA (by omega), pb_up_neA (by omega), pb_up_neA (by omega), pb_up_neA (by omega)]
theorem pb_mct_ne {sg : pb_Sg} {M f o t x : Nat} (h : x < M + 1 ∨ M + 4 < x) : pb_mct sg M f o t x = sg x := pb_ml_ne h
theorem pb_mcN_ne {sg : pb_Sg} {M f o x : Nat} (h : x < M + 1 ∨ M + 4 < x) (n : Nat) : pb_mcN sg M f o n x = sg x := by
  induction n with
  | zero => rfl
  | succ n ih => exact (pb_mct_ne h).trans ih
def pb_mopn (sg : pb_Sg) (M a b c t : Nat) : Bool := pb_apt (sg (M + 1) (16 * a + t)) (sg (M + 1) (16 * b + t)) (sg (M + 1) (16 * c + t)) || pb_apt (sg (M + 2) (16 * a + t)) (sg (M + 2) (16 * b + t)) (sg (M + 2) (16 * c + t)) || pb_apt (sg (M + 3) (16 * a + t)) (sg (M + 3) (16 * b + t)) (sg (M + 3) (16 * c + t))
def pb_mmx (sg : pb_Sg) (M a b c t : Nat) : pb_Sg := pb_ml sg M (16 * 16 + t) (pb_mix (sg (M + 1) (16 * a + t)) (sg (M + 1) (16 * b + t)) (sg (M + 1) (16 * c + t))) (pb_mix (sg (M + 2) (16 * a + t)) (sg (M + 2) (16 * b + t)) (sg (M + 2) (16 * c + t))) (pb_mix (sg (M + 3) (16 * a + t)) (sg (M + 3) (16 * b + t)) (sg (M + 3) (16 * c + t))) ((sg (M + 4) (16 * a + t) &&& (sg (M + 4) (16 * a + t) ^^^ sg (M + 4) (16 * c + t))) ||| (sg (M + 4) (16 * b + t) &&& ((sg (M + 4) (16 * a + t) ^^^ sg (M + 4) (16 * c + t)) ^^^ (-1))))
def pb_mjT (sg : pb_Sg) (M a b c t : Nat) : pb_Sg × Bool := if pb_msame sg M a c t = true then (pb_mct sg M b 16 t, false) else if (pb_msame sg M b c t || pb_msame sg M a b t) = true then (pb_mct sg M a 16 t, false) else if (pb_has (sg (M + 1)) (16 * a + t) && pb_has (sg (M + 1)) (16 * b + t) && pb_has (sg (M + 1)) (16 * c + t)) = true then (pb_mmx sg M a b c t, pb_mopn (pb_mmx sg M a b c t) M a b c t) else (sg, true)
theorem pb_mjT_ne {sg : pb_Sg} {M a b c t x : Nat} (h : x < M + 1 ∨ M + 4 < x) : (pb_mjT sg M a b c t).1 x = sg x := by
  unfold pb_mjT
  split
  · exact pb_mct_ne h
  · split
    · exact pb_mct_ne h
    · split
      · exact pb_ml_ne h
      · rfl
/-- behind the clash of task n: it is kept, and laid as the side says -/
def pb_mjC (sg : pb_Sg) (M b f n : Nat) : pb_Sg := pb_mct (pb_up sg M 27 (sg M 27 ||| (if sg (M + 7) (16 * b + n) = -1 then nI 1 <<< (nI n &&& 31) else nI 0))) M (if sg (M + 7) (16 * b + n) = nI 1 then f else b) 16 n
theorem pb_mjC_ne {sg : pb_Sg} {M b f n x : Nat} (h : x < M ∨ M + 4 < x) : pb_mjC sg M b f n x = sg x := (pb_mct_ne (by omega)).trans (pb_up_neA (by omega))
def pb_mjN (sg : pb_Sg) (M b f : Nat) : Nat → pb_Sg × Int32
  | 0 => (pb_up sg M 27 (nI 0), nI 0)
  | n + 1 => if (pb_mjT (pb_mjN sg M b f n).1 M b f (8 + b) n).2 = true then (pb_mjC (pb_mjT (pb_mjN sg M b f n).1 M b f (8 + b) n).1 M b f n, (pb_mjN sg M b f n).2 ||| (nI 1 <<< (nI n &&& 31))) else ((pb_mjT (pb_mjN sg M b f n).1 M b f (8 + b) n).1, (pb_mjN sg M b f n).2)
theorem pb_mjN_ne {sg : pb_Sg} {M b f x : Nat} (h : x < M ∨ M + 4 < x) (n : Nat) : (pb_mjN sg M b f n).1 x = sg x := by
  induction n with
  | zero => exact pb_up_neA (by omega)
  | succ n ih =>
    unfold pb_mjN
    split
    · exact (pb_mjC_ne h).trans ((pb_mjT_ne (by omega)).trans ih)
    · exact (pb_mjT_ne (by omega)).trans ih
set_option maxHeartbeats 4000000 in
set_option maxRecDepth 100000 in
theorem c_X8_mixes {l : Launch} (hfl : l.stackTraces = false) {sz : Nat} {sk : pb_Sk} {rf : pb_Rf} {sg : pb_Sg} {M : Nat} (hm : pb_md sk rf M) {a b c t : Nat} (ha : a < 16) (hb : b < 16) (hc : c < 16) (ht : t < 16) : pb_Met l mX8_mixes 3 0 0 [.ref M, .int (nI a), .int (nI b), .int (nI c), .int (nI t)] sz sk rf sg (pb_is (some (.int (pb_b (pb_mopn (pb_mmx sg M a b c t) M a b c t)))) sz sk rf ((pb_mmx sg M a b c t))) := by
  refine pb_start hfl (by decide +kernel) rfl (pb_c1 rfl) (Nat.le_of_ble_eq_true rfl) (fun F hF h hQ => ?_)
  subst hF
  show pv F 0 0 sz sk rf sg 0 [some (.ref M), some (.int (nI a)), some (.int (nI b)), some (.int (nI c)), some (.int (nI t)), none, none, none, none] []
  obtain ⟨hM0, hr1, hk1, hr2, hk2, hr3, hk3, hr4, hk4, hr5, hk5, hr6, hk6, hr7, hk7, hr8, hk8, hr9, hk9, hr10, hk10, hr11, hk11, hr12, hk12, hr13, hk13, hr14, hk14, hr15, hk15, hr16, hk16, hr17, hk17, hr18, hk18, hr19, hk19, hr20, hk20, hr21, hk21, hr22, hk22, hr23, hk23, hr24, hk24⟩ := id hm
  refine v_iload_n h (i := 1) dX8_mixes_0 (q := 1) rfl rfl rfl ?_
  refine v_iload h dX8_mixes_1 (q := 3) rfl rfl ?_
  refine v_callS1 h (c_X8_at hfl ) kX8_at rfl tw937 rfl rfl (by simp [Value.category]) (by decide) (Nat.zero_le _) (Nat.zero_le _) rfl dX8_mixes_3 (q := 6) rfl ?_
  refine v_istore h dX8_mixes_6 (q := 8) rfl (Nat.le_of_ble_eq_true rfl) rfl ?_
  refine v_iload_n h (i := 2) dX8_mixes_8 (q := 9) rfl rfl rfl ?_
  refine v_iload h dX8_mixes_9 (q := 11) rfl rfl ?_
  refine v_callS1 h (c_X8_at hfl ) kX8_at rfl tw937 rfl rfl (by simp [Value.category]) (by decide) (Nat.zero_le _) (Nat.zero_le _) rfl dX8_mixes_11 (q := 14) rfl ?_
  refine v_istore h dX8_mixes_14 (q := 16) rfl (Nat.le_of_ble_eq_true rfl) rfl ?_
  refine v_iload_n h (i := 3) dX8_mixes_16 (q := 17) rfl rfl rfl ?_
  refine v_iload h dX8_mixes_17 (q := 19) rfl rfl ?_
  refine v_callS1 h (c_X8_at hfl ) kX8_at rfl tw937 rfl rfl (by simp [Value.category]) (by decide) (Nat.zero_le _) (Nat.zero_le _) rfl dX8_mixes_19 (q := 22) rfl ?_
  refine v_istore h dX8_mixes_22 (q := 24) rfl (Nat.le_of_ble_eq_true rfl) rfl ?_
  refine v_aload_n h (i := 0) dX8_mixes_24 (q := 25) rfl rfl rfl ?_
  refine v_getr h fl_X8_19 (by assumption) rfl (by assumption) dX8_mixes_25 (q := 28) rfl ?_
  refine v_iload h dX8_mixes_28 (q := 30) rfl rfl ?_
  refine v_iald h (by assumption) rfl (by first | assumption | omega) (by decide) dX8_mixes_30 (q := 31) rfl ?_
  refine v_aload_n h (i := 0) dX8_mixes_31 (q := 32) rfl rfl rfl ?_
  refine v_getr h fl_X8_19 (by assumption) rfl (by assumption) dX8_mixes_32 (q := 35) rfl ?_
  refine v_iload h dX8_mixes_35 (q := 37) rfl rfl ?_
  refine v_iald h (by assumption) rfl (by first | assumption | omega) (by decide) dX8_mixes_37 (q := 38) rfl ?_
  refine v_ixor h dX8_mixes_38 (q := 39) rfl ?_
  refine v_istore h dX8_mixes_39 (q := 41) rfl (Nat.le_of_ble_eq_true rfl) rfl ?_
  refine v_aload_n h (i := 0) dX8_mixes_41 (q := 42) rfl rfl rfl ?_
  refine v_bipush h (v := nI 16) dX8_mixes_42 (q := 44) rfl (by decide +kernel) ?_
  refine v_iload h dX8_mixes_44 (q := 46) rfl rfl ?_
  refine v_aload_n h (i := 0) dX8_mixes_46 (q := 47) rfl rfl rfl ?_
  refine v_getr h fl_X8_7 (by assumption) rfl (by assumption) dX8_mixes_47 (q := 50) rfl ?_
  refine v_iload h dX8_mixes_50 (q := 52) rfl rfl ?_
  refine v_iald h (by assumption) rfl (by first | assumption | omega) (by decide) dX8_mixes_52 (q := 53) rfl ?_
  refine v_aload_n h (i := 0) dX8_mixes_53 (q := 54) rfl rfl rfl ?_
  refine v_getr h fl_X8_7 (by assumption) rfl (by assumption) dX8_mixes_54 (q := 57) rfl ?_
  refine v_iload h dX8_mixes_57 (q := 59) rfl rfl ?_
  refine v_iald h (by assumption) rfl (by first | assumption | omega) (by decide) dX8_mixes_59 (q := 60) rfl ?_
  refine v_aload_n h (i := 0) dX8_mixes_60 (q := 61) rfl rfl rfl ?_
  refine v_getr h fl_X8_7 (by assumption) rfl (by assumption) dX8_mixes_61 (q := 64) rfl ?_
  refine v_iload h dX8_mixes_64 (q := 66) rfl rfl ?_
  refine v_iald h (by assumption) rfl (by first | assumption | omega) (by decide) dX8_mixes_66 (q := 67) rfl ?_
  refine v_callS1 h (c_X8_mixed hfl ) kX8_mixed rfl tw1056 rfl rfl (by simp [Value.category]) (by decide) (Nat.zero_le _) (Nat.zero_le _) rfl dX8_mixes_67 (q := 70) rfl ?_
  refine v_aload_n h (i := 0) dX8_mixes_70 (q := 71) rfl rfl rfl ?_
  refine v_getr h fl_X8_13 (by assumption) rfl (by assumption) dX8_mixes_71 (q := 74) rfl ?_
  refine v_iload h dX8_mixes_74 (q := 76) rfl rfl ?_
  refine v_iald h (by assumption) rfl (by first | assumption | omega) (by decide) dX8_mixes_76 (q := 77) rfl ?_
  refine v_aload_n h (i := 0) dX8_mixes_77 (q := 78) rfl rfl rfl ?_
  refine v_getr h fl_X8_13 (by assumption) rfl (by assumption) dX8_mixes_78 (q := 81) rfl ?_
  refine v_iload h dX8_mixes_81 (q := 83) rfl rfl ?_
  refine v_iald h (by assumption) rfl (by first | assumption | omega) (by decide) dX8_mixes_83 (q := 84) rfl ?_
  refine v_aload_n h (i := 0) dX8_mixes_84 (q := 85) rfl rfl rfl ?_
  refine v_getr h fl_X8_13 (by assumption) rfl (by assumption) dX8_mixes_85 (q := 88) rfl ?_
  refine v_iload h dX8_mixes_88 (q := 90) rfl rfl ?_
  refine v_iald h (by assumption) rfl (by first | assumption | omega) (by decide) dX8_mixes_90 (q := 91) rfl ?_
  refine v_callS1 h (c_X8_mixed hfl ) kX8_mixed rfl tw1056 rfl rfl (by simp [Value.category]) (by decide) (Nat.zero_le _) (Nat.zero_le _) rfl dX8_mixes_91 (q := 94) rfl ?_
  refine v_aload_n h (i := 0) dX8_mixes_94 (q := 95) rfl rfl rfl ?_
  refine v_getr h fl_X8_16 (by assumption) rfl (by assumption) dX8_mixes_95 (q := 98) rfl ?_
  refine v_iload h dX8_mixes_98 (q := 100) rfl rfl ?_
  refine v_iald h (by assumption) rfl (by first | assumption | omega) (by decide) dX8_mixes_100 (q := 101) rfl ?_
  refine v_aload_n h (i := 0) dX8_mixes_101 (q := 102) rfl rfl rfl ?_
  refine v_getr h fl_X8_16 (by assumption) rfl (by assumption) dX8_mixes_102 (q := 105) rfl ?_
  refine v_iload h dX8_mixes_105 (q := 107) rfl rfl ?_
  refine v_iald h (by assumption) rfl (by first | assumption | omega) (by decide) dX8_mixes_107 (q := 108) rfl ?_
  refine v_aload_n h (i := 0) dX8_mixes_108 (q := 109) rfl rfl rfl ?_
  refine v_getr h fl_X8_16 (by assumption) rfl (by assumption) dX8_mixes_109 (q := 112) rfl ?_
  refine v_iload h dX8_mixes_112 (q := 114) rfl rfl ?_
  refine v_iald h (by assumption) rfl (by first | assumption | omega) (by decide) dX8_mixes_114 (q := 115) rfl ?_
  refine v_callS1 h (c_X8_mixed hfl ) kX8_mixed rfl tw1056 rfl rfl (by simp [Value.category]) (by decide) (Nat.zero_le _) (Nat.zero_le _) rfl dX8_mixes_115 (q := 118) rfl ?_
  refine v_aload_n h (i := 0) dX8_mixes_118 (q := 119) rfl rfl rfl ?_
  refine v_getr h fl_X8_19 (by assumption) rfl (by assumption) dX8_mixes_119 (q := 122) rfl ?_
  refine v_iload h dX8_mixes_122 (q := 124) rfl rfl ?_
  refine v_iald h (by assumption) rfl (by first | assumption | omega) (by decide) dX8_mixes_124 (q := 125) rfl ?_
  refine v_iload h dX8_mixes_125 (q := 127) rfl rfl ?_
  refine v_iand h dX8_mixes_127 (q := 128) rfl ?_
  refine v_aload_n h (i := 0) dX8_mixes_128 (q := 129) rfl rfl rfl ?_
  refine v_getr h fl_X8_19 (by assumption) rfl (by assumption) dX8_mixes_129 (q := 132) rfl ?_
  refine v_iload h dX8_mixes_132 (q := 134) rfl rfl ?_
  refine v_iald h (by assumption) rfl (by first | assumption | omega) (by decide) dX8_mixes_134 (q := 135) rfl ?_
  refine v_iload h dX8_mixes_135 (q := 137) rfl rfl ?_
  refine v_iconst h (v := (-1)) dX8_mixes_137 (q := 138) rfl (by decide +kernel) ?_
  refine v_ixor h dX8_mixes_138 (q := 139) rfl ?_
  refine v_iand h dX8_mixes_139 (q := 140) rfl ?_
  refine v_ior h dX8_mixes_140 (q := 141) rfl ?_
  refine v_callV0 h (c_X8_lays hfl hm (show 16 < 17 by omega) ht) kX8_lays tw944 tw17 (by assumption) (by decide) rfl rfl rfl (by simp [Value.category]) (by decide) (Nat.zero_le _) (Nat.zero_le _) rfl dX8_mixes_141 (q := 144) rfl ?_
  refine v_sg (sg' := (pb_mmx sg M a b c t)) rfl ?_
  refine v_aload_n h (i := 0) dX8_mixes_144 (q := 145) rfl rfl rfl ?_
  refine v_getr h fl_X8_7 (by assumption) rfl (by assumption) dX8_mixes_145 (q := 148) rfl ?_
  refine v_iload h dX8_mixes_148 (q := 150) rfl rfl ?_
  refine v_iald h (by assumption) rfl (by first | assumption | omega) (by decide) dX8_mixes_150 (q := 151) rfl ?_
  refine v_aload_n h (i := 0) dX8_mixes_151 (q := 152) rfl rfl rfl ?_
  refine v_getr h fl_X8_7 (by assumption) rfl (by assumption) dX8_mixes_152 (q := 155) rfl ?_
  refine v_iload h dX8_mixes_155 (q := 157) rfl rfl ?_
  refine v_iald h (by assumption) rfl (by first | assumption | omega) (by decide) dX8_mixes_157 (q := 158) rfl ?_
  refine v_aload_n h (i := 0) dX8_mixes_158 (q := 159) rfl rfl rfl ?_
  refine v_getr h fl_X8_7 (by assumption) rfl (by assumption) dX8_mixes_159 (q := 162) rfl ?_
  refine v_iload h dX8_mixes_162 (q := 164) rfl rfl ?_
  refine v_iald h (by assumption) rfl (by first | assumption | omega) (by decide) dX8_mixes_164 (q := 165) rfl ?_
  refine v_callS1 h (c_X8_isOpen hfl ) kX8_isOpen rfl tw1059 rfl rfl (by simp [Value.category]) (by decide) (Nat.zero_le _) (Nat.zero_le _) rfl dX8_mixes_165 (q := 168) rfl ?_
  refine v_if_ne h dX8_mixes_168 (q := 171) rfl (tgt := 225) (by decide) (fun c1 => ?_) (fun c1 => ?_)
  · skip
    have e7 := pb_ne_f (fun q => c1 (pb_b_0.mpr q))
    have e9 : pb_b (pb_mopn (pb_mmx sg M a b c t) M a b c t) = nI 1 := by unfold pb_mopn; rw [e7]; rfl
    refine v_iconst h (v := nI 1) dX8_mixes_225 (q := 226) rfl (by decide +kernel) ?_
    refine v_goto h dX8_mixes_226 (tgt := 230) (by decide) ?_
    refine v_iret h hQ rfl (by first | exact rfl | exact pb_b_nar _) dX8_mixes_230 (Nat.zero_le _) (Nat.zero_le _) ⟨by rw [e9], rfl, rfl, rfl, rfl⟩
  · skip
    have e7 := pb_b_0.mp c1
    refine v_aload_n h (i := 0) dX8_mixes_171 (q := 172) rfl rfl rfl ?_
    refine v_getr h fl_X8_13 (by assumption) rfl (by assumption) dX8_mixes_172 (q := 175) rfl ?_
    refine v_iload h dX8_mixes_175 (q := 177) rfl rfl ?_
    refine v_iald h (by assumption) rfl (by first | assumption | omega) (by decide) dX8_mixes_177 (q := 178) rfl ?_
    refine v_aload_n h (i := 0) dX8_mixes_178 (q := 179) rfl rfl rfl ?_
    refine v_getr h fl_X8_13 (by assumption) rfl (by assumption) dX8_mixes_179 (q := 182) rfl ?_
    refine v_iload h dX8_mixes_182 (q := 184) rfl rfl ?_
    refine v_iald h (by assumption) rfl (by first | assumption | omega) (by decide) dX8_mixes_184 (q := 185) rfl ?_
    refine v_aload_n h (i := 0) dX8_mixes_185 (q := 186) rfl rfl rfl ?_
    refine v_getr h fl_X8_13 (by assumption) rfl (by assumption) dX8_mixes_186 (q := 189) rfl ?_
    refine v_iload h dX8_mixes_189 (q := 191) rfl rfl ?_
    refine v_iald h (by assumption) rfl (by first | assumption | omega) (by decide) dX8_mixes_191 (q := 192) rfl ?_
    refine v_callS1 h (c_X8_isOpen hfl ) kX8_isOpen rfl tw1059 rfl rfl (by simp [Value.category]) (by decide) (Nat.zero_le _) (Nat.zero_le _) rfl dX8_mixes_192 (q := 195) rfl ?_
    refine v_if_ne h dX8_mixes_195 (q := 198) rfl (tgt := 225) (by decide) (fun c2 => ?_) (fun c2 => ?_)
    · skip
      have e8 := pb_ne_f (fun q => c2 (pb_b_0.mpr q))
      have e9 : pb_b (pb_mopn (pb_mmx sg M a b c t) M a b c t) = nI 1 := by unfold pb_mopn; rw [e7, e8]; rfl
      refine v_iconst h (v := nI 1) dX8_mixes_225 (q := 226) rfl (by decide +kernel) ?_
      refine v_goto h dX8_mixes_226 (tgt := 230) (by decide) ?_
      refine v_iret h hQ rfl (by first | exact rfl | exact pb_b_nar _) dX8_mixes_230 (Nat.zero_le _) (Nat.zero_le _) ⟨by rw [e9], rfl, rfl, rfl, rfl⟩
    · skip
      have e8 := pb_b_0.mp c2
      refine v_aload_n h (i := 0) dX8_mixes_198 (q := 199) rfl rfl rfl ?_
      refine v_getr h fl_X8_16 (by assumption) rfl (by assumption) dX8_mixes_199 (q := 202) rfl ?_
      refine v_iload h dX8_mixes_202 (q := 204) rfl rfl ?_
      refine v_iald h (by assumption) rfl (by first | assumption | omega) (by decide) dX8_mixes_204 (q := 205) rfl ?_
      refine v_aload_n h (i := 0) dX8_mixes_205 (q := 206) rfl rfl rfl ?_
      refine v_getr h fl_X8_16 (by assumption) rfl (by assumption) dX8_mixes_206 (q := 209) rfl ?_
      refine v_iload h dX8_mixes_209 (q := 211) rfl rfl ?_
      refine v_iald h (by assumption) rfl (by first | assumption | omega) (by decide) dX8_mixes_211 (q := 212) rfl ?_
      refine v_aload_n h (i := 0) dX8_mixes_212 (q := 213) rfl rfl rfl ?_
      refine v_getr h fl_X8_16 (by assumption) rfl (by assumption) dX8_mixes_213 (q := 216) rfl ?_
      refine v_iload h dX8_mixes_216 (q := 218) rfl rfl ?_
      refine v_iald h (by assumption) rfl (by first | assumption | omega) (by decide) dX8_mixes_218 (q := 219) rfl ?_
      refine v_callS1 h (c_X8_isOpen hfl ) kX8_isOpen rfl tw1059 rfl rfl (by simp [Value.category]) (by decide) (Nat.zero_le _) (Nat.zero_le _) rfl dX8_mixes_219 (q := 222) rfl ?_
      refine v_if_eq h dX8_mixes_222 (q := 225) rfl (tgt := 229) (by decide) (fun c3 => ?_) (fun c3 => ?_)
      · skip
        have ea := pb_b_0.mp c3
        have e9 : pb_b (pb_mopn (pb_mmx sg M a b c t) M a b c t) = nI 0 := by unfold pb_mopn; rw [e7, e8, ea]; rfl
        refine v_iconst h (v := nI 0) dX8_mixes_229 (q := 230) rfl (by decide +kernel) ?_
        refine v_iret h hQ rfl (by first | exact rfl | exact pb_b_nar _) dX8_mixes_230 (Nat.zero_le _) (Nat.zero_le _) ⟨by rw [e9], rfl, rfl, rfl, rfl⟩
      · skip
        have ea := pb_ne_f (fun q => c3 (pb_b_0.mpr q))
        have e9 : pb_b (pb_mopn (pb_mmx sg M a b c t) M a b c t) = nI 1 := by unfold pb_mopn; rw [e7, e8, ea]; rfl
        refine v_iconst h (v := nI 1) dX8_mixes_225 (q := 226) rfl (by decide +kernel) ?_
        refine v_goto h dX8_mixes_226 (tgt := 230) (by decide) ?_
        refine v_iret h hQ rfl (by first | exact rfl | exact pb_b_nar _) dX8_mixes_230 (Nat.zero_le _) (Nat.zero_le _) ⟨by rw [e9], rfl, rfl, rfl, rfl⟩
set_option maxHeartbeats 4000000 in
set_option maxRecDepth 100000 in
theorem c_X8_joinsTask {l : Launch} (hfl : l.stackTraces = false) {sz : Nat} {sk : pb_Sk} {rf : pb_Rf} {sg : pb_Sg} {M : Nat} (hm : pb_md sk rf M) {a b c t : Nat} (ha : a < 16) (hb : b < 16) (hc : c < 16) (ht : t < 16) : pb_Met l mX8_joinsTask 4 0 0 [.ref M, .int (nI a), .int (nI b), .int (nI c), .int (nI t)] sz sk rf sg (pb_is (some (.int (pb_b (pb_mjT sg M a b c t).2))) sz sk rf ((pb_mjT sg M a b c t).1)) := by
  refine pb_start hfl (by decide +kernel) rfl (pb_c1 rfl) (Nat.le_of_ble_eq_true rfl) (fun F hF h hQ => ?_)
  subst hF
  show pv F 0 0 sz sk rf sg 0 [some (.ref M), some (.int (nI a)), some (.int (nI b)), some (.int (nI c)), some (.int (nI t)), none, none] []
  obtain ⟨hM0, hr1, hk1, hr2, hk2, hr3, hk3, hr4, hk4, hr5, hk5, hr6, hk6, hr7, hk7, hr8, hk8, hr9, hk9, hr10, hk10, hr11, hk11, hr12, hk12, hr13, hk13, hr14, hk14, hr15, hk15, hr16, hk16, hr17, hk17, hr18, hk18, hr19, hk19, hr20, hk20, hr21, hk21, hr22, hk22, hr23, hk23, hr24, hk24⟩ := id hm
  refine v_aload_n h (i := 0) dX8_joinsTask_0 (q := 1) rfl rfl rfl ?_
  refine v_iload_n h (i := 1) dX8_joinsTask_1 (q := 2) rfl rfl rfl ?_
  refine v_iload_n h (i := 3) dX8_joinsTask_2 (q := 3) rfl rfl rfl ?_
  refine v_iload h dX8_joinsTask_3 (q := 5) rfl rfl ?_
  refine v_callV1 h (c_X8_isSame hfl hm (by omega) (by omega) ht) kX8_isSame tw1048 tw29 (by assumption) (by decide) rfl rfl rfl (by simp [Value.category]) (by decide) (Nat.zero_le _) (Nat.zero_le _) rfl dX8_joinsTask_5 (q := 8) rfl ?_
  refine v_istore h dX8_joinsTask_8 (q := 10) rfl (Nat.le_of_ble_eq_true rfl) rfl ?_
  refine v_iload h dX8_joinsTask_10 (q := 12) rfl rfl ?_
  refine v_if_ne h dX8_joinsTask_12 (q := 15) rfl (tgt := 37) (by decide) (fun c1 => ?_) (fun c1 => ?_)
  · skip
    have e1 := pb_ne_f (fun q => c1 (pb_b_0.mpr q))
    have e9 : (pb_mjT sg M a b c t) = (pb_mct sg M b 16 t, false) := by simp [pb_mjT, e1]
    refine v_aload_n h (i := 0) dX8_joinsTask_37 (q := 38) rfl rfl rfl ?_
    refine v_iload h dX8_joinsTask_38 (q := 40) rfl rfl ?_
    refine v_if_eq h dX8_joinsTask_40 (q := 43) rfl (tgt := 47) (by decide) (fun c2 => absurd (e1.symm.trans (pb_b_0.mp c2)) (by decide)) (fun c2 => ?_)
    refine v_iload_n h (i := 2) dX8_joinsTask_43 (q := 44) rfl rfl rfl ?_
    refine v_goto h dX8_joinsTask_44 (tgt := 48) (by decide) ?_
    refine v_bipush h (v := nI 16) dX8_joinsTask_48 (q := 50) rfl (by decide +kernel) ?_
    refine v_iload h dX8_joinsTask_50 (q := 52) rfl rfl ?_
    refine v_callV0 h (c_X8_copiesTask hfl hm (by omega) (by omega) ht) kX8_copiesTask tw1012 tw25 (by assumption) (by decide) rfl rfl rfl (by simp [Value.category]) (by decide) (Nat.zero_le _) (Nat.zero_le _) rfl dX8_joinsTask_52 (q := 55) rfl ?_
    refine v_iconst h (v := nI 0) dX8_joinsTask_55 (q := 56) rfl (by decide +kernel) ?_
    refine v_iret h hQ rfl (by first | exact rfl | exact pb_b_nar _) dX8_joinsTask_56 (Nat.zero_le _) (Nat.zero_le _) ⟨by rw [e9]; rfl, rfl, rfl, rfl, by rw [e9]⟩
  · skip
    have e1 := pb_b_0.mp c1
    refine v_aload_n h (i := 0) dX8_joinsTask_15 (q := 16) rfl rfl rfl ?_
    refine v_iload_n h (i := 2) dX8_joinsTask_16 (q := 17) rfl rfl rfl ?_
    refine v_iload_n h (i := 3) dX8_joinsTask_17 (q := 18) rfl rfl rfl ?_
    refine v_iload h dX8_joinsTask_18 (q := 20) rfl rfl ?_
    refine v_callV1 h (c_X8_isSame hfl hm (by omega) (by omega) ht) kX8_isSame tw1048 tw29 (by assumption) (by decide) rfl rfl rfl (by simp [Value.category]) (by decide) (Nat.zero_le _) (Nat.zero_le _) rfl dX8_joinsTask_20 (q := 23) rfl ?_
    refine v_if_ne h dX8_joinsTask_23 (q := 26) rfl (tgt := 37) (by decide) (fun c3 => ?_) (fun c3 => ?_)
    · skip
      have e2 := pb_ne_f (fun q => c3 (pb_b_0.mpr q))
      have e9 : (pb_mjT sg M a b c t) = (pb_mct sg M a 16 t, false) := by simp [pb_mjT, e1, e2]
      refine v_aload_n h (i := 0) dX8_joinsTask_37 (q := 38) rfl rfl rfl ?_
      refine v_iload h dX8_joinsTask_38 (q := 40) rfl rfl ?_
      refine v_if_eq h dX8_joinsTask_40 (q := 43) rfl (tgt := 47) (by decide) (fun c4 => ?_) (fun c4 => absurd (pb_b_0.mpr e1) c4)
      refine v_iload_n h (i := 1) dX8_joinsTask_47 (q := 48) rfl rfl rfl ?_
      refine v_bipush h (v := nI 16) dX8_joinsTask_48 (q := 50) rfl (by decide +kernel) ?_
      refine v_iload h dX8_joinsTask_50 (q := 52) rfl rfl ?_
      refine v_callV0 h (c_X8_copiesTask hfl hm (by omega) (by omega) ht) kX8_copiesTask tw1012 tw25 (by assumption) (by decide) rfl rfl rfl (by simp [Value.category]) (by decide) (Nat.zero_le _) (Nat.zero_le _) rfl dX8_joinsTask_52 (q := 55) rfl ?_
      refine v_iconst h (v := nI 0) dX8_joinsTask_55 (q := 56) rfl (by decide +kernel) ?_
      refine v_iret h hQ rfl (by first | exact rfl | exact pb_b_nar _) dX8_joinsTask_56 (Nat.zero_le _) (Nat.zero_le _) ⟨by rw [e9]; rfl, rfl, rfl, rfl, by rw [e9]⟩
    · skip
      have e2 := pb_b_0.mp c3
      refine v_aload_n h (i := 0) dX8_joinsTask_26 (q := 27) rfl rfl rfl ?_
      refine v_iload_n h (i := 1) dX8_joinsTask_27 (q := 28) rfl rfl rfl ?_
      refine v_iload_n h (i := 2) dX8_joinsTask_28 (q := 29) rfl rfl rfl ?_
      refine v_iload h dX8_joinsTask_29 (q := 31) rfl rfl ?_
      refine v_callV1 h (c_X8_isSame hfl hm (by omega) (by omega) ht) kX8_isSame tw1048 tw29 (by assumption) (by decide) rfl rfl rfl (by simp [Value.category]) (by decide) (Nat.zero_le _) (Nat.zero_le _) rfl dX8_joinsTask_31 (q := 34) rfl ?_
      refine v_if_eq h dX8_joinsTask_34 (q := 37) rfl (tgt := 57) (by decide) (fun c5 => ?_) (fun c5 => ?_)
      · skip
        have e3 := pb_b_0.mp c5
        refine v_aload_n h (i := 0) dX8_joinsTask_57 (q := 58) rfl rfl rfl ?_
        refine v_iload_n h (i := 1) dX8_joinsTask_58 (q := 59) rfl rfl rfl ?_
        refine v_iload h dX8_joinsTask_59 (q := 61) rfl rfl ?_
        refine v_callV1 h (c_X8_isThere hfl hm (by omega) ht) kX8_isThere tw940 tw16 (by assumption) (by decide) rfl rfl rfl (by simp [Value.category]) (by decide) (Nat.zero_le _) (Nat.zero_le _) rfl dX8_joinsTask_61 (q := 64) rfl ?_
        refine v_if_eq h dX8_joinsTask_64 (q := 67) rfl (tgt := 91) (by decide) (fun c6 => ?_) (fun c6 => ?_)
        · skip
          have e4 := pb_b_0.mp c6
          have e9 : (pb_mjT sg M a b c t) = (sg, true) := by simp [pb_mjT, e1, e2, e3, e4]
          refine v_iconst h (v := nI 0) dX8_joinsTask_91 (q := 92) rfl (by decide +kernel) ?_
          refine v_istore h dX8_joinsTask_92 (q := 94) rfl (Nat.le_of_ble_eq_true rfl) rfl ?_
          refine v_iload h dX8_joinsTask_94 (q := 96) rfl rfl ?_
          refine v_if_eq h dX8_joinsTask_96 (q := 99) rfl (tgt := 111) (by decide) (fun c7 => ?_) (fun c7 => absurd c7 (by decide))
          refine v_iconst h (v := nI 1) dX8_joinsTask_111 (q := 112) rfl (by decide +kernel) ?_
          refine v_goto h dX8_joinsTask_112 (tgt := 116) (by decide) ?_
          refine v_iret h hQ rfl (by first | exact rfl | exact pb_b_nar _) dX8_joinsTask_116 (Nat.zero_le _) (Nat.zero_le _) ⟨by rw [e9]; first | rfl | (simp only [e7]; rfl), rfl, rfl, rfl, by rw [e9]⟩
        · skip
          have e4 := pb_ne_f (fun q => c6 (pb_b_0.mpr q))
          refine v_aload_n h (i := 0) dX8_joinsTask_67 (q := 68) rfl rfl rfl ?_
          refine v_iload_n h (i := 2) dX8_joinsTask_68 (q := 69) rfl rfl rfl ?_
          refine v_iload h dX8_joinsTask_69 (q := 71) rfl rfl ?_
          refine v_callV1 h (c_X8_isThere hfl hm (by omega) ht) kX8_isThere tw940 tw16 (by assumption) (by decide) rfl rfl rfl (by simp [Value.category]) (by decide) (Nat.zero_le _) (Nat.zero_le _) rfl dX8_joinsTask_71 (q := 74) rfl ?_
          refine v_if_eq h dX8_joinsTask_74 (q := 77) rfl (tgt := 91) (by decide) (fun c8 => ?_) (fun c8 => ?_)
          · skip
            have e5 := pb_b_0.mp c8
            have e9 : (pb_mjT sg M a b c t) = (sg, true) := by simp [pb_mjT, e1, e2, e3, e4, e5]
            refine v_iconst h (v := nI 0) dX8_joinsTask_91 (q := 92) rfl (by decide +kernel) ?_
            refine v_istore h dX8_joinsTask_92 (q := 94) rfl (Nat.le_of_ble_eq_true rfl) rfl ?_
            refine v_iload h dX8_joinsTask_94 (q := 96) rfl rfl ?_
            refine v_if_eq h dX8_joinsTask_96 (q := 99) rfl (tgt := 111) (by decide) (fun c9 => ?_) (fun c9 => absurd c9 (by decide))
            refine v_iconst h (v := nI 1) dX8_joinsTask_111 (q := 112) rfl (by decide +kernel) ?_
            refine v_goto h dX8_joinsTask_112 (tgt := 116) (by decide) ?_
            refine v_iret h hQ rfl (by first | exact rfl | exact pb_b_nar _) dX8_joinsTask_116 (Nat.zero_le _) (Nat.zero_le _) ⟨by rw [e9]; first | rfl | (simp only [e7]; rfl), rfl, rfl, rfl, by rw [e9]⟩
          · skip
            have e5 := pb_ne_f (fun q => c8 (pb_b_0.mpr q))
            refine v_aload_n h (i := 0) dX8_joinsTask_77 (q := 78) rfl rfl rfl ?_
            refine v_iload_n h (i := 3) dX8_joinsTask_78 (q := 79) rfl rfl rfl ?_
            refine v_iload h dX8_joinsTask_79 (q := 81) rfl rfl ?_
            refine v_callV1 h (c_X8_isThere hfl hm (by omega) ht) kX8_isThere tw940 tw16 (by assumption) (by decide) rfl rfl rfl (by simp [Value.category]) (by decide) (Nat.zero_le _) (Nat.zero_le _) rfl dX8_joinsTask_81 (q := 84) rfl ?_
            refine v_if_eq h dX8_joinsTask_84 (q := 87) rfl (tgt := 91) (by decide) (fun c10 => ?_) (fun c10 => ?_)
            · skip
              have e6 := pb_b_0.mp c10
              have e9 : (pb_mjT sg M a b c t) = (sg, true) := by simp [pb_mjT, e1, e2, e3, e4, e5, e6]
              refine v_iconst h (v := nI 0) dX8_joinsTask_91 (q := 92) rfl (by decide +kernel) ?_
              refine v_istore h dX8_joinsTask_92 (q := 94) rfl (Nat.le_of_ble_eq_true rfl) rfl ?_
              refine v_iload h dX8_joinsTask_94 (q := 96) rfl rfl ?_
              refine v_if_eq h dX8_joinsTask_96 (q := 99) rfl (tgt := 111) (by decide) (fun c11 => ?_) (fun c11 => absurd c11 (by decide))
              refine v_iconst h (v := nI 1) dX8_joinsTask_111 (q := 112) rfl (by decide +kernel) ?_
              refine v_goto h dX8_joinsTask_112 (tgt := 116) (by decide) ?_
              refine v_iret h hQ rfl (by first | exact rfl | exact pb_b_nar _) dX8_joinsTask_116 (Nat.zero_le _) (Nat.zero_le _) ⟨by rw [e9]; first | rfl | (simp only [e7]; rfl), rfl, rfl, rfl, by rw [e9]⟩
            · skip
              have e6 := pb_ne_f (fun q => c10 (pb_b_0.mpr q))
              have e9 : (pb_mjT sg M a b c t) = ((pb_mmx sg M a b c t), (pb_mopn (pb_mmx sg M a b c t) M a b c t)) := by simp [pb_mjT, e1, e2, e3, e4, e5, e6]
              refine v_iconst h (v := nI 1) dX8_joinsTask_87 (q := 88) rfl (by decide +kernel) ?_
              refine v_goto h dX8_joinsTask_88 (tgt := 92) (by decide) ?_
              refine v_istore h dX8_joinsTask_92 (q := 94) rfl (Nat.le_of_ble_eq_true rfl) rfl ?_
              refine v_iload h dX8_joinsTask_94 (q := 96) rfl rfl ?_
              refine v_if_eq h dX8_joinsTask_96 (q := 99) rfl (tgt := 111) (by decide) (fun c12 => absurd c12 (by decide)) (fun c12 => ?_)
              refine v_aload_n h (i := 0) dX8_joinsTask_99 (q := 100) rfl rfl rfl ?_
              refine v_iload_n h (i := 1) dX8_joinsTask_100 (q := 101) rfl rfl rfl ?_
              refine v_iload_n h (i := 2) dX8_joinsTask_101 (q := 102) rfl rfl rfl ?_
              refine v_iload_n h (i := 3) dX8_joinsTask_102 (q := 103) rfl rfl rfl ?_
              refine v_iload h dX8_joinsTask_103 (q := 105) rfl rfl ?_
              refine v_callV1 h (c_X8_mixes hfl hm ha hb hc ht) kX8_mixes tw1052 tw30 (by assumption) (by decide) rfl rfl rfl (by simp [Value.category]) (by decide) (Nat.zero_le _) (Nat.zero_le _) rfl dX8_joinsTask_105 (q := 108) rfl ?_
              refine v_if_eq h dX8_joinsTask_108 (q := 111) rfl (tgt := 115) (by decide) (fun c13 => ?_) (fun c13 => ?_)
              · skip
                have e7 := pb_b_0.mp c13
                refine v_iconst h (v := nI 0) dX8_joinsTask_115 (q := 116) rfl (by decide +kernel) ?_
                refine v_iret h hQ rfl (by first | exact rfl | exact pb_b_nar _) dX8_joinsTask_116 (Nat.zero_le _) (Nat.zero_le _) ⟨by rw [e9]; first | rfl | (simp only [e7]; rfl), rfl, rfl, rfl, by rw [e9]⟩
              · skip
                have e7 := pb_ne_f (fun q => c13 (pb_b_0.mpr q))
                refine v_iconst h (v := nI 1) dX8_joinsTask_111 (q := 112) rfl (by decide +kernel) ?_
                refine v_goto h dX8_joinsTask_112 (tgt := 116) (by decide) ?_
                refine v_iret h hQ rfl (by first | exact rfl | exact pb_b_nar _) dX8_joinsTask_116 (Nat.zero_le _) (Nat.zero_le _) ⟨by rw [e9]; first | rfl | (simp only [e7]; rfl), rfl, rfl, rfl, by rw [e9]⟩
      · skip
        have e3 := pb_ne_f (fun q => c5 (pb_b_0.mpr q))
        have e9 : (pb_mjT sg M a b c t) = (pb_mct sg M a 16 t, false) := by simp [pb_mjT, e1, e2, e3]
        refine v_aload_n h (i := 0) dX8_joinsTask_37 (q := 38) rfl rfl rfl ?_
        refine v_iload h dX8_joinsTask_38 (q := 40) rfl rfl ?_
        refine v_if_eq h dX8_joinsTask_40 (q := 43) rfl (tgt := 47) (by decide) (fun c14 => ?_) (fun c14 => absurd (pb_b_0.mpr e1) c14)
        refine v_iload_n h (i := 1) dX8_joinsTask_47 (q := 48) rfl rfl rfl ?_
        refine v_bipush h (v := nI 16) dX8_joinsTask_48 (q := 50) rfl (by decide +kernel) ?_
        refine v_iload h dX8_joinsTask_50 (q := 52) rfl rfl ?_
        refine v_callV0 h (c_X8_copiesTask hfl hm (by omega) (by omega) ht) kX8_copiesTask tw1012 tw25 (by assumption) (by decide) rfl rfl rfl (by simp [Value.category]) (by decide) (Nat.zero_le _) (Nat.zero_le _) rfl dX8_joinsTask_52 (q := 55) rfl ?_
        refine v_iconst h (v := nI 0) dX8_joinsTask_55 (q := 56) rfl (by decide +kernel) ?_
        refine v_iret h hQ rfl (by first | exact rfl | exact pb_b_nar _) dX8_joinsTask_56 (Nat.zero_le _) (Nat.zero_le _) ⟨by rw [e9]; rfl, rfl, rfl, rfl, by rw [e9]⟩
