/-- a model as it is made -/
def pb_nMod (p : Nat) (sk : pb_Sk) (rf : pb_Rf) (sg : pb_Sg) (sk' : pb_Sk) (rf' : pb_Rf) (sg' : pb_Sg) : Prop := pb_md sk' rf' p ∧ (∀ j, j ≠ 8 → sg' p j = sg p j) ∧ sg' p 8 = nI 1 ∧ (∀ j, sg' (p + 1) j = 0) ∧ (∀ j, j < 272 → sg' (p + 2) j = -1) ∧ (∀ j, sg' (p + 3) j = 0) ∧ (∀ j, sg' (p + 4) j = 0) ∧ sg' (p + 5) 0 = -1 ∧ sg' (p + 6) 0 = 1000000 ∧ (∀ j, sg' (p + 13) j = 0) ∧ (∀ j, sg' (p + 14) j = 0) ∧ pb_fr p (p + 25) sk rf sg sk' rf' sg'

set_option maxHeartbeats 4000000 in
set_option maxRecDepth 100000 in
theorem c_X8_init {l : Launch} (hfl : l.stackTraces = false) {sz : Nat} {sk : pb_Sk} {rf : pb_Rf} {sg : pb_Sg} {p : Nat} (h0 : sk p = (14, 0)) (hz : sz = p + 1) : pb_Met l mX8_init 2 24 6659 [.ref p] sz sk rf sg (fun r sz9 sk9 rf9 sg9 => r = .inl none ∧ sz9 = p + 25 ∧ pb_nMod p sk rf sg sk9 rf9 sg9) := by
  refine pb_start hfl (by decide +kernel) rfl (pb_c1 rfl) (Nat.le_of_ble_eq_true rfl) (fun F hF h hQ => ?_)
  subst hF
  show pv F 0 0 sz sk rf sg 0 [some (.ref p), none] []
  subst hz
  refine v_aload_n h (i := 0) dX8_init_0 (q := 1) rfl rfl rfl ?_
  refine v_objInit h tw823 tw71 tw72 (by decide) (by simp [Value.category]) rfl dX8_init_1 (q := 4) rfl ?_
  refine v_aload_n h (i := 0) dX8_init_4 (q := 5) rfl rfl rfl ?_
  refine v_sipush h (v := nI 272) dX8_init_5 (q := 8) rfl (by decide +kernel) ?_
  refine v_newai h tw115 rfl (by decide) (by decide) (by decide) dX8_init_8 (q := 10) rfl ?_
  refine v_putFr h fl_X8_7 (by rw [pb_uk_ne (by omega)]; exact h0) rfl rfl rfl rfl dX8_init_10 (q := 13) rfl ?_
  refine v_aload_n h (i := 0) dX8_init_13 (q := 14) rfl rfl rfl ?_
  refine v_sipush h (v := nI 272) dX8_init_14 (q := 17) rfl (by decide +kernel) ?_
  refine v_newai h tw115 rfl (by decide) (by decide) (by decide) dX8_init_17 (q := 19) rfl ?_
  refine v_putFr h fl_X8_13 (by rw [pb_uk_ne (by omega), pb_uk_ne (by omega)]; exact h0) rfl rfl rfl rfl dX8_init_19 (q := 22) rfl ?_
  refine v_aload_n h (i := 0) dX8_init_22 (q := 23) rfl rfl rfl ?_
  refine v_sipush h (v := nI 272) dX8_init_23 (q := 26) rfl (by decide +kernel) ?_
  refine v_newai h tw115 rfl (by decide) (by decide) (by decide) dX8_init_26 (q := 28) rfl ?_
  refine v_putFr h fl_X8_16 (by rw [pb_uk_ne (by omega), pb_uk_ne (by omega), pb_uk_ne (by omega)]; exact h0) rfl rfl rfl rfl dX8_init_28 (q := 31) rfl ?_
  refine v_aload_n h (i := 0) dX8_init_31 (q := 32) rfl rfl rfl ?_
  refine v_sipush h (v := nI 272) dX8_init_32 (q := 35) rfl (by decide +kernel) ?_
  refine v_newai h tw115 rfl (by decide) (by decide) (by decide) dX8_init_35 (q := 37) rfl ?_
  refine v_putFr h fl_X8_19 (by rw [pb_uk_ne (by omega), pb_uk_ne (by omega), pb_uk_ne (by omega), pb_uk_ne (by omega)]; exact h0) rfl rfl rfl rfl dX8_init_37 (q := 40) rfl ?_
  refine v_aload_n h (i := 0) dX8_init_40 (q := 41) rfl rfl rfl ?_
  refine v_bipush h (v := nI 8) dX8_init_41 (q := 43) rfl (by decide +kernel) ?_
  refine v_newai h tw115 rfl (by decide) (by decide) (by decide) dX8_init_43 (q := 45) rfl ?_
  refine v_putFr h fl_X8_22 (by rw [pb_uk_ne (by omega), pb_uk_ne (by omega), pb_uk_ne (by omega), pb_uk_ne (by omega), pb_uk_ne (by omega)]; exact h0) rfl rfl rfl rfl dX8_init_45 (q := 48) rfl ?_
  refine v_aload_n h (i := 0) dX8_init_48 (q := 49) rfl rfl rfl ?_
  refine v_bipush h (v := nI 8) dX8_init_49 (q := 51) rfl (by decide +kernel) ?_
  refine v_newai h tw115 rfl (by decide) (by decide) (by decide) dX8_init_51 (q := 53) rfl ?_
  refine v_putFr h fl_X8_25 (by rw [pb_uk_ne (by omega), pb_uk_ne (by omega), pb_uk_ne (by omega), pb_uk_ne (by omega), pb_uk_ne (by omega), pb_uk_ne (by omega)]; exact h0) rfl rfl rfl rfl dX8_init_53 (q := 56) rfl ?_
  refine v_aload_n h (i := 0) dX8_init_56 (q := 57) rfl rfl rfl ?_
  refine v_sipush h (v := nI 128) dX8_init_57 (q := 60) rfl (by decide +kernel) ?_
  refine v_newai h tw115 rfl (by decide) (by decide) (by decide) dX8_init_60 (q := 62) rfl ?_
  refine v_putFr h fl_X8_28 (by rw [pb_uk_ne (by omega), pb_uk_ne (by omega), pb_uk_ne (by omega), pb_uk_ne (by omega), pb_uk_ne (by omega), pb_uk_ne (by omega), pb_uk_ne (by omega)]; exact h0) rfl rfl rfl rfl dX8_init_62 (q := 65) rfl ?_
  refine v_aload_n h (i := 0) dX8_init_65 (q := 66) rfl rfl rfl ?_
  refine v_iconst h (v := nI 1) dX8_init_66 (q := 67) rfl (by decide +kernel) ?_
  refine v_puti h fl_X8_31 (by rw [pb_uk_ne (by omega), pb_uk_ne (by omega), pb_uk_ne (by omega), pb_uk_ne (by omega), pb_uk_ne (by omega), pb_uk_ne (by omega), pb_uk_ne (by omega)]; exact h0) rfl rfl dX8_init_67 (q := 70) rfl ?_
  refine v_aload_n h (i := 0) dX8_init_70 (q := 71) rfl rfl rfl ?_
  refine v_sipush h (v := nI 240) dX8_init_71 (q := 74) rfl (by decide +kernel) ?_
  refine v_newai h tw115 rfl (by decide) (by decide) (by decide) dX8_init_74 (q := 76) rfl ?_
  refine v_putFr h fl_X8_35 (by rw [pb_uk_ne (by omega), pb_uk_ne (by omega), pb_uk_ne (by omega), pb_uk_ne (by omega), pb_uk_ne (by omega), pb_uk_ne (by omega), pb_uk_ne (by omega), pb_uk_ne (by omega)]; exact h0) rfl rfl rfl rfl dX8_init_76 (q := 79) rfl ?_
  refine v_aload_n h (i := 0) dX8_init_79 (q := 80) rfl rfl rfl ?_
  refine v_sipush h (v := nI 240) dX8_init_80 (q := 83) rfl (by decide +kernel) ?_
  refine v_newai h tw115 rfl (by decide) (by decide) (by decide) dX8_init_83 (q := 85) rfl ?_
  refine v_putFr h fl_X8_38 (by rw [pb_uk_ne (by omega), pb_uk_ne (by omega), pb_uk_ne (by omega), pb_uk_ne (by omega), pb_uk_ne (by omega), pb_uk_ne (by omega), pb_uk_ne (by omega), pb_uk_ne (by omega), pb_uk_ne (by omega)]; exact h0) rfl rfl rfl rfl dX8_init_85 (q := 88) rfl ?_
  refine v_aload_n h (i := 0) dX8_init_88 (q := 89) rfl rfl rfl ?_
  refine v_sipush h (v := nI 240) dX8_init_89 (q := 92) rfl (by decide +kernel) ?_
  refine v_newai h tw115 rfl (by decide) (by decide) (by decide) dX8_init_92 (q := 94) rfl ?_
  refine v_putFr h fl_X8_41 (by rw [pb_uk_ne (by omega), pb_uk_ne (by omega), pb_uk_ne (by omega), pb_uk_ne (by omega), pb_uk_ne (by omega), pb_uk_ne (by omega), pb_uk_ne (by omega), pb_uk_ne (by omega), pb_uk_ne (by omega), pb_uk_ne (by omega)]; exact h0) rfl rfl rfl rfl dX8_init_94 (q := 97) rfl ?_
  refine v_aload_n h (i := 0) dX8_init_97 (q := 98) rfl rfl rfl ?_
  refine v_sipush h (v := nI 240) dX8_init_98 (q := 101) rfl (by decide +kernel) ?_
  refine v_newai h tw115 rfl (by decide) (by decide) (by decide) dX8_init_101 (q := 103) rfl ?_
  refine v_putFr h fl_X8_44 (by rw [pb_uk_ne (by omega), pb_uk_ne (by omega), pb_uk_ne (by omega), pb_uk_ne (by omega), pb_uk_ne (by omega), pb_uk_ne (by omega), pb_uk_ne (by omega), pb_uk_ne (by omega), pb_uk_ne (by omega), pb_uk_ne (by omega), pb_uk_ne (by omega)]; exact h0) rfl rfl rfl rfl dX8_init_103 (q := 106) rfl ?_
  refine v_aload_n h (i := 0) dX8_init_106 (q := 107) rfl rfl rfl ?_
  refine v_sipush h (v := nI 240) dX8_init_107 (q := 110) rfl (by decide +kernel) ?_
  refine v_newai h tw115 rfl (by decide) (by decide) (by decide) dX8_init_110 (q := 112) rfl ?_
  refine v_putFr h fl_X8_47 (by rw [pb_uk_ne (by omega), pb_uk_ne (by omega), pb_uk_ne (by omega), pb_uk_ne (by omega), pb_uk_ne (by omega), pb_uk_ne (by omega), pb_uk_ne (by omega), pb_uk_ne (by omega), pb_uk_ne (by omega), pb_uk_ne (by omega), pb_uk_ne (by omega), pb_uk_ne (by omega)]; exact h0) rfl rfl rfl rfl dX8_init_112 (q := 115) rfl ?_
  refine v_aload_n h (i := 0) dX8_init_115 (q := 116) rfl rfl rfl ?_
  refine v_bipush h (v := nI 8) dX8_init_116 (q := 118) rfl (by decide +kernel) ?_
  refine v_newai h tw115 rfl (by decide) (by decide) (by decide) dX8_init_118 (q := 120) rfl ?_
  refine v_putFr h fl_X8_50 (by rw [pb_uk_ne (by omega), pb_uk_ne (by omega), pb_uk_ne (by omega), pb_uk_ne (by omega), pb_uk_ne (by omega), pb_uk_ne (by omega), pb_uk_ne (by omega), pb_uk_ne (by omega), pb_uk_ne (by omega), pb_uk_ne (by omega), pb_uk_ne (by omega), pb_uk_ne (by omega), pb_uk_ne (by omega)]; exact h0) rfl rfl rfl rfl dX8_init_120 (q := 123) rfl ?_
  refine v_aload_n h (i := 0) dX8_init_123 (q := 124) rfl rfl rfl ?_
  refine v_iconst h (v := nI 5) dX8_init_124 (q := 125) rfl (by decide +kernel) ?_
  refine v_newai h tw115 rfl (by decide) (by decide) (by decide) dX8_init_125 (q := 127) rfl ?_
  refine v_putFr h fl_X8_53 (by rw [pb_uk_ne (by omega), pb_uk_ne (by omega), pb_uk_ne (by omega), pb_uk_ne (by omega), pb_uk_ne (by omega), pb_uk_ne (by omega), pb_uk_ne (by omega), pb_uk_ne (by omega), pb_uk_ne (by omega), pb_uk_ne (by omega), pb_uk_ne (by omega), pb_uk_ne (by omega), pb_uk_ne (by omega), pb_uk_ne (by omega)]; exact h0) rfl rfl rfl rfl dX8_init_127 (q := 130) rfl ?_
  refine v_aload_n h (i := 0) dX8_init_130 (q := 131) rfl rfl rfl ?_
  refine v_bipush h (v := nI 40) dX8_init_131 (q := 133) rfl (by decide +kernel) ?_
  refine v_newai h tw115 rfl (by decide) (by decide) (by decide) dX8_init_133 (q := 135) rfl ?_
  refine v_putFr h fl_X8_56 (by rw [pb_uk_ne (by omega), pb_uk_ne (by omega), pb_uk_ne (by omega), pb_uk_ne (by omega), pb_uk_ne (by omega), pb_uk_ne (by omega), pb_uk_ne (by omega), pb_uk_ne (by omega), pb_uk_ne (by omega), pb_uk_ne (by omega), pb_uk_ne (by omega), pb_uk_ne (by omega), pb_uk_ne (by omega), pb_uk_ne (by omega), pb_uk_ne (by omega)]; exact h0) rfl rfl rfl rfl dX8_init_135 (q := 138) rfl ?_
  refine v_aload_n h (i := 0) dX8_init_138 (q := 139) rfl rfl rfl ?_
  refine v_bipush h (v := nI 40) dX8_init_139 (q := 141) rfl (by decide +kernel) ?_
  refine v_newai h tw115 rfl (by decide) (by decide) (by decide) dX8_init_141 (q := 143) rfl ?_
  refine v_putFr h fl_X8_59 (by rw [pb_uk_ne (by omega), pb_uk_ne (by omega), pb_uk_ne (by omega), pb_uk_ne (by omega), pb_uk_ne (by omega), pb_uk_ne (by omega), pb_uk_ne (by omega), pb_uk_ne (by omega), pb_uk_ne (by omega), pb_uk_ne (by omega), pb_uk_ne (by omega), pb_uk_ne (by omega), pb_uk_ne (by omega), pb_uk_ne (by omega), pb_uk_ne (by omega), pb_uk_ne (by omega)]; exact h0) rfl rfl rfl rfl dX8_init_143 (q := 146) rfl ?_
  refine v_aload_n h (i := 0) dX8_init_146 (q := 147) rfl rfl rfl ?_
  refine v_bipush h (v := nI 40) dX8_init_147 (q := 149) rfl (by decide +kernel) ?_
  refine v_newai h tw115 rfl (by decide) (by decide) (by decide) dX8_init_149 (q := 151) rfl ?_
  refine v_putFr h fl_X8_62 (by rw [pb_uk_ne (by omega), pb_uk_ne (by omega), pb_uk_ne (by omega), pb_uk_ne (by omega), pb_uk_ne (by omega), pb_uk_ne (by omega), pb_uk_ne (by omega), pb_uk_ne (by omega), pb_uk_ne (by omega), pb_uk_ne (by omega), pb_uk_ne (by omega), pb_uk_ne (by omega), pb_uk_ne (by omega), pb_uk_ne (by omega), pb_uk_ne (by omega), pb_uk_ne (by omega), pb_uk_ne (by omega)]; exact h0) rfl rfl rfl rfl dX8_init_151 (q := 154) rfl ?_
  refine v_aload_n h (i := 0) dX8_init_154 (q := 155) rfl rfl rfl ?_
  refine v_bipush h (v := nI 40) dX8_init_155 (q := 157) rfl (by decide +kernel) ?_
  refine v_newai h tw115 rfl (by decide) (by decide) (by decide) dX8_init_157 (q := 159) rfl ?_
  refine v_putFr h fl_X8_65 (by rw [pb_uk_ne (by omega), pb_uk_ne (by omega), pb_uk_ne (by omega), pb_uk_ne (by omega), pb_uk_ne (by omega), pb_uk_ne (by omega), pb_uk_ne (by omega), pb_uk_ne (by omega), pb_uk_ne (by omega), pb_uk_ne (by omega), pb_uk_ne (by omega), pb_uk_ne (by omega), pb_uk_ne (by omega), pb_uk_ne (by omega), pb_uk_ne (by omega), pb_uk_ne (by omega), pb_uk_ne (by omega), pb_uk_ne (by omega)]; exact h0) rfl rfl rfl rfl dX8_init_159 (q := 162) rfl ?_
  refine v_aload_n h (i := 0) dX8_init_162 (q := 163) rfl rfl rfl ?_
  refine v_bipush h (v := nI 16) dX8_init_163 (q := 165) rfl (by decide +kernel) ?_
  refine v_newai h tw115 rfl (by decide) (by decide) (by decide) dX8_init_165 (q := 167) rfl ?_
  refine v_putFr h fl_X8_68 (by rw [pb_uk_ne (by omega), pb_uk_ne (by omega), pb_uk_ne (by omega), pb_uk_ne (by omega), pb_uk_ne (by omega), pb_uk_ne (by omega), pb_uk_ne (by omega), pb_uk_ne (by omega), pb_uk_ne (by omega), pb_uk_ne (by omega), pb_uk_ne (by omega), pb_uk_ne (by omega), pb_uk_ne (by omega), pb_uk_ne (by omega), pb_uk_ne (by omega), pb_uk_ne (by omega), pb_uk_ne (by omega), pb_uk_ne (by omega), pb_uk_ne (by omega)]; exact h0) rfl rfl rfl rfl dX8_init_167 (q := 170) rfl ?_
  refine v_aload_n h (i := 0) dX8_init_170 (q := 171) rfl rfl rfl ?_
  refine v_bipush h (v := nI 16) dX8_init_171 (q := 173) rfl (by decide +kernel) ?_
  refine v_newai h tw115 rfl (by decide) (by decide) (by decide) dX8_init_173 (q := 175) rfl ?_
  refine v_putFr h fl_X8_71 (by rw [pb_uk_ne (by omega), pb_uk_ne (by omega), pb_uk_ne (by omega), pb_uk_ne (by omega), pb_uk_ne (by omega), pb_uk_ne (by omega), pb_uk_ne (by omega), pb_uk_ne (by omega), pb_uk_ne (by omega), pb_uk_ne (by omega), pb_uk_ne (by omega), pb_uk_ne (by omega), pb_uk_ne (by omega), pb_uk_ne (by omega), pb_uk_ne (by omega), pb_uk_ne (by omega), pb_uk_ne (by omega), pb_uk_ne (by omega), pb_uk_ne (by omega), pb_uk_ne (by omega)]; exact h0) rfl rfl rfl rfl dX8_init_175 (q := 178) rfl ?_
  refine v_aload_n h (i := 0) dX8_init_178 (q := 179) rfl rfl rfl ?_
  refine v_bipush h (v := nI 16) dX8_init_179 (q := 181) rfl (by decide +kernel) ?_
  refine v_newai h tw115 rfl (by decide) (by decide) (by decide) dX8_init_181 (q := 183) rfl ?_
  refine v_putFr h fl_X8_74 (by rw [pb_uk_ne (by omega), pb_uk_ne (by omega), pb_uk_ne (by omega), pb_uk_ne (by omega), pb_uk_ne (by omega), pb_uk_ne (by omega), pb_uk_ne (by omega), pb_uk_ne (by omega), pb_uk_ne (by omega), pb_uk_ne (by omega), pb_uk_ne (by omega), pb_uk_ne (by omega), pb_uk_ne (by omega), pb_uk_ne (by omega), pb_uk_ne (by omega), pb_uk_ne (by omega), pb_uk_ne (by omega), pb_uk_ne (by omega), pb_uk_ne (by omega), pb_uk_ne (by omega), pb_uk_ne (by omega)]; exact h0) rfl rfl rfl rfl dX8_init_183 (q := 186) rfl ?_
  refine v_aload_n h (i := 0) dX8_init_186 (q := 187) rfl rfl rfl ?_
  refine v_sipush h (v := nI 2000) dX8_init_187 (q := 190) rfl (by decide +kernel) ?_
  refine v_newai h tw115 rfl (by decide) (by decide) (by decide) dX8_init_190 (q := 192) rfl ?_
  refine v_putFr h fl_X8_77 (by rw [pb_uk_ne (by omega), pb_uk_ne (by omega), pb_uk_ne (by omega), pb_uk_ne (by omega), pb_uk_ne (by omega), pb_uk_ne (by omega), pb_uk_ne (by omega), pb_uk_ne (by omega), pb_uk_ne (by omega), pb_uk_ne (by omega), pb_uk_ne (by omega), pb_uk_ne (by omega), pb_uk_ne (by omega), pb_uk_ne (by omega), pb_uk_ne (by omega), pb_uk_ne (by omega), pb_uk_ne (by omega), pb_uk_ne (by omega), pb_uk_ne (by omega), pb_uk_ne (by omega), pb_uk_ne (by omega), pb_uk_ne (by omega)]; exact h0) rfl rfl rfl rfl dX8_init_192 (q := 195) rfl ?_
  refine v_aload_n h (i := 0) dX8_init_195 (q := 196) rfl rfl rfl ?_
  refine v_sipush h (v := nI 2000) dX8_init_196 (q := 199) rfl (by decide +kernel) ?_
  refine v_newaz h tw910 rfl (by decide) (by decide) (by decide) dX8_init_199 (q := 201) rfl ?_
  refine v_putFr h fl_X8_80 (by rw [pb_uk_ne (by omega), pb_uk_ne (by omega), pb_uk_ne (by omega), pb_uk_ne (by omega), pb_uk_ne (by omega), pb_uk_ne (by omega), pb_uk_ne (by omega), pb_uk_ne (by omega), pb_uk_ne (by omega), pb_uk_ne (by omega), pb_uk_ne (by omega), pb_uk_ne (by omega), pb_uk_ne (by omega), pb_uk_ne (by omega), pb_uk_ne (by omega), pb_uk_ne (by omega), pb_uk_ne (by omega), pb_uk_ne (by omega), pb_uk_ne (by omega), pb_uk_ne (by omega), pb_uk_ne (by omega), pb_uk_ne (by omega), pb_uk_ne (by omega)]; exact h0) rfl rfl rfl rfl dX8_init_201 (q := 204) rfl ?_
  refine v_aload_n h (i := 0) dX8_init_204 (q := 205) rfl rfl rfl ?_
  refine v_bipush h (v := nI 6) dX8_init_205 (q := 207) rfl (by decide +kernel) ?_
  refine v_newai h tw115 rfl (by decide) (by decide) (by decide) dX8_init_207 (q := 209) rfl ?_
  refine v_putFr h fl_X8_84 (by rw [pb_uk_ne (by omega), pb_uk_ne (by omega), pb_uk_ne (by omega), pb_uk_ne (by omega), pb_uk_ne (by omega), pb_uk_ne (by omega), pb_uk_ne (by omega), pb_uk_ne (by omega), pb_uk_ne (by omega), pb_uk_ne (by omega), pb_uk_ne (by omega), pb_uk_ne (by omega), pb_uk_ne (by omega), pb_uk_ne (by omega), pb_uk_ne (by omega), pb_uk_ne (by omega), pb_uk_ne (by omega), pb_uk_ne (by omega), pb_uk_ne (by omega), pb_uk_ne (by omega), pb_uk_ne (by omega), pb_uk_ne (by omega), pb_uk_ne (by omega), pb_uk_ne (by omega)]; exact h0) rfl rfl rfl rfl dX8_init_209 (q := 212) rfl ?_
  refine v_gen (fun sk1 rf1 sg1 e1 e2 e3 => ?_)
  have hmd : pb_md sk1 rf1 p := by
    unfold pb_md
    rw [e1, e2]
    simp [pb_uk, pb_ur, pb_u0, va_up, Nat.add_assoc, h0]
  have hp0 : ∀ j, j ≠ 8 → sg1 p j = sg p j := fun j hj => by rw [e3]; simp [pb_up_at, pb_u0, Nat.add_assoc, hj]
  have hp8 : sg1 p 8 = nI 1 := by rw [e3]; simp [pb_up_at, pb_u0, Nat.add_assoc]
  have hz1 : ∀ j, sg1 (p + 1) j = 0 := fun j => by rw [e3]; simp [pb_up_at, pb_u0, Nat.add_assoc]
  have hz3 : ∀ j, sg1 (p + 3) j = 0 := fun j => by rw [e3]; simp [pb_up_at, pb_u0, Nat.add_assoc]
  have hz4 : ∀ j, sg1 (p + 4) j = 0 := fun j => by rw [e3]; simp [pb_up_at, pb_u0, Nat.add_assoc]
  have hz13 : ∀ j, sg1 (p + 13) j = 0 := fun j => by rw [e3]; simp [pb_up_at, pb_u0, Nat.add_assoc]
  have hz14 : ∀ j, sg1 (p + 14) j = 0 := fun j => by rw [e3]; simp [pb_up_at, pb_u0, Nat.add_assoc]
  have hfr : pb_fr p (p + 25) sk rf sg sk1 rf1 sg1 := by
    intro a ha
    have g0 : ¬ a = p := fun q => ha ⟨by omega, by omega⟩
    have g1 : ¬ a = p + 1 := fun q => ha ⟨by omega, by omega⟩
    have g2 : ¬ a = p + 2 := fun q => ha ⟨by omega, by omega⟩
    have g3 : ¬ a = p + 3 := fun q => ha ⟨by omega, by omega⟩
    have g4 : ¬ a = p + 4 := fun q => ha ⟨by omega, by omega⟩
    have g5 : ¬ a = p + 5 := fun q => ha ⟨by omega, by omega⟩
    have g6 : ¬ a = p + 6 := fun q => ha ⟨by omega, by omega⟩
    have g7 : ¬ a = p + 7 := fun q => ha ⟨by omega, by omega⟩
    have g8 : ¬ a = p + 8 := fun q => ha ⟨by omega, by omega⟩
    have g9 : ¬ a = p + 9 := fun q => ha ⟨by omega, by omega⟩
    have g10 : ¬ a = p + 10 := fun q => ha ⟨by omega, by omega⟩
    have g11 : ¬ a = p + 11 := fun q => ha ⟨by omega, by omega⟩
    have g12 : ¬ a = p + 12 := fun q => ha ⟨by omega, by omega⟩
    have g13 : ¬ a = p + 13 := fun q => ha ⟨by omega, by omega⟩
    have g14 : ¬ a = p + 14 := fun q => ha ⟨by omega, by omega⟩
    have g15 : ¬ a = p + 15 := fun q => ha ⟨by omega, by omega⟩
    have g16 : ¬ a = p + 16 := fun q => ha ⟨by omega, by omega⟩
    have g17 : ¬ a = p + 17 := fun q => ha ⟨by omega, by omega⟩
    have g18 : ¬ a = p + 18 := fun q => ha ⟨by omega, by omega⟩
    have g19 : ¬ a = p + 19 := fun q => ha ⟨by omega, by omega⟩
    have g20 : ¬ a = p + 20 := fun q => ha ⟨by omega, by omega⟩
    have g21 : ¬ a = p + 21 := fun q => ha ⟨by omega, by omega⟩
    have g22 : ¬ a = p + 22 := fun q => ha ⟨by omega, by omega⟩
    have g23 : ¬ a = p + 23 := fun q => ha ⟨by omega, by omega⟩
    have g24 : ¬ a = p + 24 := fun q => ha ⟨by omega, by omega⟩
    refine ⟨by rw [e1]; simp [pb_uk, pb_ur, pb_u0, va_up, Nat.add_assoc, g0, g1, g2, g3, g4, g5, g6, g7, g8, g9, g10, g11, g12, g13, g14, g15, g16, g17, g18, g19, g20, g21, g22, g23, g24], by rw [e2]; simp [pb_uk, pb_ur, pb_u0, va_up, Nat.add_assoc, g0, g1, g2, g3, g4, g5, g6, g7, g8, g9, g10, g11, g12, g13, g14, g15, g16, g17, g18, g19, g20, g21, g22, g23, g24], by funext j; rw [e3]; simp [pb_up_at, pb_u0, Nat.add_assoc, g0, g1, g2, g3, g4, g5, g6, g7, g8, g9, g10, g11, g12, g13, g14, g15, g16, g17, g18, g19, g20, g21, g22, g23, g24]⟩
  obtain ⟨hM0, hr1, hk1, hr2, hk2, hr3, hk3, hr4, hk4, hr5, hk5, hr6, hk6, hr7, hk7, hr8, hk8, hr9, hk9, hr10, hk10, hr11, hk11, hr12, hk12, hr13, hk13, hr14, hk14, hr15, hk15, hr16, hk16, hr17, hk17, hr18, hk18, hr19, hk19, hr20, hk20, hr21, hk21, hr22, hk22, hr23, hk23, hr24, hk24⟩ := id hmd
  refine v_aload_n h (i := 0) dX8_init_212 (q := 213) rfl rfl rfl ?_
  refine v_getr h fl_X8_22 (by assumption) rfl (by assumption) dX8_init_213 (q := 216) rfl ?_
  refine v_iconst h (v := nI 0) dX8_init_216 (q := 217) rfl (by decide +kernel) ?_
  refine v_iconst h (v := (-1)) dX8_init_217 (q := 218) rfl (by decide +kernel) ?_
  refine v_iast h (by assumption) rfl (by first | assumption | omega) (by decide) dX8_init_218 (q := 219) rfl ?_
  refine v_aload_n h (i := 0) dX8_init_219 (q := 220) rfl rfl rfl ?_
  refine v_getr h fl_X8_25 (by assumption) rfl (by assumption) dX8_init_220 (q := 223) rfl ?_
  refine v_iconst h (v := nI 0) dX8_init_223 (q := 224) rfl (by decide +kernel) ?_
  refine v_ldc h dX8_init_224 (q := 226) rfl tw824 ?_
  refine v_iast h (by assumption) rfl (by first | assumption | omega) (by decide) dX8_init_226 (q := 227) rfl ?_
  refine v_iconst h (v := nI 0) dX8_init_227 (q := 228) rfl (by decide +kernel) ?_
  refine v_istore_n h (i := 1) dX8_init_228 (q := 229) rfl rfl (Nat.le_of_ble_eq_true rfl) rfl ?_
  have lp : ∀ (j i : Nat), i + j = 272 → pv F 24 6659 (p + 25) sk1 rf1 (pb_fillN (pb_up (pb_up sg1 (p + 5) 0 (-1)) (p + 6) 0 1000000) (p + 2) 0 (-1) i) 229 [some (.ref p), some (.int (nI i))] [] := by
    intro j
    induction j with
    | zero =>
      intro i  hi
      obtain rfl : i = 272 := by omega
      refine v_iload_n h (i := 1) dX8_init_229 (q := 230) rfl rfl rfl ?_
      refine v_sipush h (v := nI 272) dX8_init_230 (q := 233) rfl (by decide +kernel) ?_
      refine v_icmp_ge h dX8_init_233 (q := 236) rfl (tgt := 249) (by decide) (fun c1 => ?_) (fun c1 => pb_kle (Nat.le_refl _) (by decide) c1)
      refine v_vret h hQ rfl dX8_init_249 (by decide) (by decide) (by
          refine ⟨rfl, rfl, hmd, ?_, ?_, ?_, ?_, ?_, ?_, ?_, ?_, ?_, ?_, ?_⟩
          · intro j hj
            rw [pb_fill_at, if_neg (by omega), pb_up_ne2 (by omega), pb_up_ne2 (by omega)]
            exact hp0 j hj
          · rw [pb_fill_at, if_neg (by omega), pb_up_ne2 (by omega), pb_up_ne2 (by omega)]
            exact hp8
          · intro j
            rw [pb_fill_at, if_neg (by omega), pb_up_ne2 (by omega), pb_up_ne2 (by omega)]
            exact hz1 j
          · intro j hj
            rw [pb_fill_at, if_pos (by omega)]
          · intro j
            rw [pb_fill_at, if_neg (by omega), pb_up_ne2 (by omega), pb_up_ne2 (by omega)]
            exact hz3 j
          · intro j
            rw [pb_fill_at, if_neg (by omega), pb_up_ne2 (by omega), pb_up_ne2 (by omega)]
            exact hz4 j
          · rw [pb_fill_at, if_neg (by omega), pb_up_ne2 (by omega), pb_up_self]
          · rw [pb_fill_at, if_neg (by omega), pb_up_self]
          · intro j
            rw [pb_fill_at, if_neg (by omega), pb_up_ne2 (by omega), pb_up_ne2 (by omega)]
            exact hz13 j
          · intro j
            rw [pb_fill_at, if_neg (by omega), pb_up_ne2 (by omega), pb_up_ne2 (by omega)]
            exact hz14 j
          · intro a ha
            obtain ⟨q1, q2, q3⟩ := hfr a ha
            refine ⟨q1, q2, ?_⟩
            rw [← q3]
            funext j
            rw [pb_fill_at, if_neg (by omega), pb_up_ne2 (by omega), pb_up_ne2 (by omega)])
    | succ j ih =>
      intro i  hi
      have hi2 : i < 272 := by omega
      refine v_iload_n h (i := 1) dX8_init_229 (q := 230) rfl rfl rfl ?_
      refine v_sipush h (v := nI 272) dX8_init_230 (q := 233) rfl (by decide +kernel) ?_
      refine v_icmp_ge h dX8_init_233 (q := 236) rfl (tgt := 249) (by decide) (fun c2 => pb_kge hi2 (by decide) c2) (fun c2 => ?_)
      refine v_aload_n h (i := 0) dX8_init_236 (q := 237) rfl rfl rfl ?_
      refine v_getr h fl_X8_13 (by assumption) rfl (by assumption) dX8_init_237 (q := 240) rfl ?_
      refine v_iload_n h (i := 1) dX8_init_240 (q := 241) rfl rfl rfl ?_
      refine v_iconst h (v := (-1)) dX8_init_241 (q := 242) rfl (by decide +kernel) ?_
      refine v_iast h (by assumption) (show nI i = nI (0 + i) by rw [Nat.zero_add]) (by omega) (by decide) dX8_init_242 (q := 243) rfl ?_
      refine v_iinc h dX8_init_243 (q := 246) rfl rfl pb_inc rfl ?_
      refine v_goto h dX8_init_246 (tgt := 229) (by decide) ?_
      exact ih (i + 1) (by omega)
  exact lp 272 0 (by omega)
