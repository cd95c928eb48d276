def pb_msh1 (sg : pb_Sg) (M k : Nat) : pb_Sg :=
  let s1 := pb_up sg (M + 8) k (sg (M + 8) (k + 1))
  let s2 := pb_up s1 (M + 9) k (s1 (M + 9) (k + 1))
  let s3 := pb_up s2 (M + 10) k (s2 (M + 10) (k + 1))
  let s4 := pb_up s3 (M + 11) k (s3 (M + 11) (k + 1))
  pb_up s4 (M + 12) k (s4 (M + 12) (k + 1))
def pb_mshN (sg : pb_Sg) (M lo : Nat) : Nat → pb_Sg
  | 0 => sg
  | n + 1 => pb_msh1 (pb_mshN sg M lo n) M (lo + n)
theorem pb_msh1_ne {sg : pb_Sg} {M k a : Nat} (h : a < M + 8 ∨ M + 12 < a) : pb_msh1 sg M k a = sg a := by
  unfold pb_msh1
  rw [pb_up_neA (by omega), pb_up_neA (by omega), pb_up_neA (by omega), pb_up_neA (by omega), pb_up_neA (by omega)]
theorem pb_mshN_ne {sg : pb_Sg} {M lo a : Nat} (h : a < M + 8 ∨ M + 12 < a) (n : Nat) : pb_mshN sg M lo n a = sg a := by
  induction n with
  | zero => rfl
  | succ n ih => exact (pb_msh1_ne h).trans ih
def pb_mkp (sg : pb_Sg) (M b t s : Nat) : pb_Sg :=
  let k := 30 * b + s
  let s1 := pb_up sg (M + 8) k (nI t)
  let s2 := pb_up s1 (M + 9) k (s1 (M + 1) (16 * b + t))
  let s3 := pb_up s2 (M + 10) k (s2 (M + 2) (16 * b + t))
  let s4 := pb_up s3 (M + 11) k (s3 (M + 3) (16 * b + t))
  let s5 := pb_up s4 (M + 12) k (s4 (M + 4) (16 * b + t))
  pb_up s5 (M + 13) b (s5 (M + 13) b + nI 1)
def pb_mkk (sg : pb_Sg) (M b t s : Nat) : pb_Sg := if s = 30 then pb_mkp (pb_up (pb_mshN sg M (30 * b) 29) (M + 13) b (nI 29)) M b t 29 else pb_mkp sg M b t s
set_option maxHeartbeats 4000000 in
set_option maxRecDepth 100000 in
theorem c0_X8_keeps {l : Launch} (hfl : l.stackTraces = false) {sz : Nat} {sk : pb_Sk} {rf : pb_Rf} {sg : pb_Sg} {M : Nat} (hm : pb_md sk rf M) {b t s : Nat} (hb : b < 8) (ht : t < 16) (hs : sg (M + 13) b = nI s) (hs30 : s < 30) : pb_Met l mX8_keeps 2 0 0 [.ref M, .int (nI b), .int (nI t)] sz sk rf sg (pb_is none sz sk rf (pb_mkp sg M b t s)) := by
  refine pb_start hfl (by decide +kernel) rfl (pb_c1 rfl) (Nat.le_of_ble_eq_true rfl) (fun F hF h hQ => ?_)
  subst hF
  show pv F 0 0 sz sk rf sg 0 [some (.ref M), some (.int (nI b)), some (.int (nI t)), none] []
  obtain ⟨hM0, hr1, hk1, hr2, hk2, hr3, hk3, hr4, hk4, hr5, hk5, hr6, hk6, hr7, hk7, hr8, hk8, hr9, hk9, hr10, hk10, hr11, hk11, hr12, hk12, hr13, hk13, hr14, hk14, hr15, hk15, hr16, hk16, hr17, hk17, hr18, hk18, hr19, hk19, hr20, hk20, hr21, hk21, hr22, hk22, hr23, hk23, hr24, hk24⟩ := id hm
  refine v_aload_n h (i := 0) dX8_keeps_0 (q := 1) rfl rfl rfl ?_
  refine v_getr h fl_X8_50 (by assumption) rfl (by assumption) dX8_keeps_1 (q := 4) rfl ?_
  refine v_iload_n h (i := 1) dX8_keeps_4 (q := 5) rfl rfl rfl ?_
  refine v_iald h (by assumption) rfl (by first | assumption | omega) (by decide) dX8_keeps_5 (q := 6) rfl ?_
  refine v_bipush h (v := nI 30) dX8_keeps_6 (q := 8) rfl (by decide +kernel) ?_
  refine v_icmp_ne h dX8_keeps_8 (q := 11) rfl (tgt := 115) (by decide) (fun c1 => ?_) (fun c1 => absurd ((nI_eq (by omega) (by decide)).mp (hs.symm.trans c1)) (by omega))
  refine v_bipush h (v := nI 30) dX8_keeps_115 (q := 117) rfl (by decide +kernel) ?_
  refine v_iload_n h (i := 1) dX8_keeps_117 (q := 118) rfl rfl rfl ?_
  refine v_imul h dX8_keeps_118 (q := 119) rfl ?_
  refine v_aload_n h (i := 0) dX8_keeps_119 (q := 120) rfl rfl rfl ?_
  refine v_getr h fl_X8_50 (by assumption) rfl (by assumption) dX8_keeps_120 (q := 123) rfl ?_
  refine v_iload_n h (i := 1) dX8_keeps_123 (q := 124) rfl rfl rfl ?_
  refine v_iald h (by assumption) rfl (by first | assumption | omega) (by decide) dX8_keeps_124 (q := 125) rfl ?_
  refine v_iadd h dX8_keeps_125 (q := 126) rfl ?_
  refine v_eq (st' := [.int (nI (30 * b + s))]) (by rw [nI_mul, hs, nI_add]) ?_
  refine v_istore_n h (i := 3) dX8_keeps_126 (q := 127) rfl rfl (Nat.le_of_ble_eq_true rfl) rfl ?_
  refine v_aload_n h (i := 0) dX8_keeps_127 (q := 128) rfl rfl rfl ?_
  refine v_getr h fl_X8_35 (by assumption) rfl (by assumption) dX8_keeps_128 (q := 131) rfl ?_
  refine v_iload_n h (i := 3) dX8_keeps_131 (q := 132) rfl rfl rfl ?_
  refine v_iload_n h (i := 2) dX8_keeps_132 (q := 133) rfl rfl rfl ?_
  refine v_iast h (by assumption) rfl (by first | assumption | omega) (by decide) dX8_keeps_133 (q := 134) rfl ?_
  refine v_aload_n h (i := 0) dX8_keeps_134 (q := 135) rfl rfl rfl ?_
  refine v_getr h fl_X8_38 (by assumption) rfl (by assumption) dX8_keeps_135 (q := 138) rfl ?_
  refine v_iload_n h (i := 3) dX8_keeps_138 (q := 139) rfl rfl rfl ?_
  refine v_aload_n h (i := 0) dX8_keeps_139 (q := 140) rfl rfl rfl ?_
  refine v_getr h fl_X8_7 (by assumption) rfl (by assumption) dX8_keeps_140 (q := 143) rfl ?_
  refine v_iload_n h (i := 1) dX8_keeps_143 (q := 144) rfl rfl rfl ?_
  refine v_iload_n h (i := 2) dX8_keeps_144 (q := 145) rfl rfl rfl ?_
  refine v_callS1 h (c_X8_at hfl ) kX8_at rfl tw937 rfl rfl (by simp [Value.category]) (by decide) (Nat.zero_le _) (Nat.zero_le _) rfl dX8_keeps_145 (q := 148) rfl ?_
  refine v_iald h (by assumption) rfl (by first | assumption | omega) (by decide) dX8_keeps_148 (q := 149) rfl ?_
  refine v_iast h (by assumption) rfl (by first | assumption | omega) (by decide) dX8_keeps_149 (q := 150) rfl ?_
  refine v_aload_n h (i := 0) dX8_keeps_150 (q := 151) rfl rfl rfl ?_
  refine v_getr h fl_X8_41 (by assumption) rfl (by assumption) dX8_keeps_151 (q := 154) rfl ?_
  refine v_iload_n h (i := 3) dX8_keeps_154 (q := 155) rfl rfl rfl ?_
  refine v_aload_n h (i := 0) dX8_keeps_155 (q := 156) rfl rfl rfl ?_
  refine v_getr h fl_X8_13 (by assumption) rfl (by assumption) dX8_keeps_156 (q := 159) rfl ?_
  refine v_iload_n h (i := 1) dX8_keeps_159 (q := 160) rfl rfl rfl ?_
  refine v_iload_n h (i := 2) dX8_keeps_160 (q := 161) rfl rfl rfl ?_
  refine v_callS1 h (c_X8_at hfl ) kX8_at rfl tw937 rfl rfl (by simp [Value.category]) (by decide) (Nat.zero_le _) (Nat.zero_le _) rfl dX8_keeps_161 (q := 164) rfl ?_
  refine v_iald h (by assumption) rfl (by first | assumption | omega) (by decide) dX8_keeps_164 (q := 165) rfl ?_
  refine v_iast h (by assumption) rfl (by first | assumption | omega) (by decide) dX8_keeps_165 (q := 166) rfl ?_
  refine v_aload_n h (i := 0) dX8_keeps_166 (q := 167) rfl rfl rfl ?_
  refine v_getr h fl_X8_44 (by assumption) rfl (by assumption) dX8_keeps_167 (q := 170) rfl ?_
  refine v_iload_n h (i := 3) dX8_keeps_170 (q := 171) rfl rfl rfl ?_
  refine v_aload_n h (i := 0) dX8_keeps_171 (q := 172) rfl rfl rfl ?_
  refine v_getr h fl_X8_16 (by assumption) rfl (by assumption) dX8_keeps_172 (q := 175) rfl ?_
  refine v_iload_n h (i := 1) dX8_keeps_175 (q := 176) rfl rfl rfl ?_
  refine v_iload_n h (i := 2) dX8_keeps_176 (q := 177) rfl rfl rfl ?_
  refine v_callS1 h (c_X8_at hfl ) kX8_at rfl tw937 rfl rfl (by simp [Value.category]) (by decide) (Nat.zero_le _) (Nat.zero_le _) rfl dX8_keeps_177 (q := 180) rfl ?_
  refine v_iald h (by assumption) rfl (by first | assumption | omega) (by decide) dX8_keeps_180 (q := 181) rfl ?_
  refine v_iast h (by assumption) rfl (by first | assumption | omega) (by decide) dX8_keeps_181 (q := 182) rfl ?_
  refine v_aload_n h (i := 0) dX8_keeps_182 (q := 183) rfl rfl rfl ?_
  refine v_getr h fl_X8_47 (by assumption) rfl (by assumption) dX8_keeps_183 (q := 186) rfl ?_
  refine v_iload_n h (i := 3) dX8_keeps_186 (q := 187) rfl rfl rfl ?_
  refine v_aload_n h (i := 0) dX8_keeps_187 (q := 188) rfl rfl rfl ?_
  refine v_getr h fl_X8_19 (by assumption) rfl (by assumption) dX8_keeps_188 (q := 191) rfl ?_
  refine v_iload_n h (i := 1) dX8_keeps_191 (q := 192) rfl rfl rfl ?_
  refine v_iload_n h (i := 2) dX8_keeps_192 (q := 193) rfl rfl rfl ?_
  refine v_callS1 h (c_X8_at hfl ) kX8_at rfl tw937 rfl rfl (by simp [Value.category]) (by decide) (Nat.zero_le _) (Nat.zero_le _) rfl dX8_keeps_193 (q := 196) rfl ?_
  refine v_iald h (by assumption) rfl (by first | assumption | omega) (by decide) dX8_keeps_196 (q := 197) rfl ?_
  refine v_iast h (by assumption) rfl (by first | assumption | omega) (by decide) dX8_keeps_197 (q := 198) rfl ?_
  refine v_aload_n h (i := 0) dX8_keeps_198 (q := 199) rfl rfl rfl ?_
  refine v_getr h fl_X8_50 (by assumption) rfl (by assumption) dX8_keeps_199 (q := 202) rfl ?_
  refine v_iload_n h (i := 1) dX8_keeps_202 (q := 203) rfl rfl rfl ?_
  refine v_dup2 h dX8_keeps_203 (q := 204) rfl rfl rfl ?_
  refine v_iald h (by assumption) rfl (by first | assumption | omega) (by decide) dX8_keeps_204 (q := 205) rfl ?_
  refine v_iconst h (v := nI 1) dX8_keeps_205 (q := 206) rfl (by decide +kernel) ?_
  refine v_iadd h dX8_keeps_206 (q := 207) rfl ?_
  refine v_iast h (by assumption) rfl (by first | assumption | omega) (by decide) dX8_keeps_207 (q := 208) rfl ?_
  refine v_vret h hQ rfl dX8_keeps_208 (Nat.zero_le _) (Nat.zero_le _) ⟨rfl, rfl, rfl, rfl, rfl⟩
set_option maxHeartbeats 4000000 in
set_option maxRecDepth 100000 in
theorem c1_X8_keeps {l : Launch} (hfl : l.stackTraces = false) {sz : Nat} {sk : pb_Sk} {rf : pb_Rf} {sg : pb_Sg} {M : Nat} (hm : pb_md sk rf M) {b t s : Nat} (hb : b < 8) (ht : t < 16) (hs : sg (M + 13) b = nI s) (hs30 : s = 30) : pb_Met l mX8_keeps 2 0 0 [.ref M, .int (nI b), .int (nI t)] sz sk rf sg (pb_is none sz sk rf (pb_mkp (pb_up (pb_mshN sg M (30 * b) 29) (M + 13) b (nI 29)) M b t 29)) := by
  refine pb_start hfl (by decide +kernel) rfl (pb_c1 rfl) (Nat.le_of_ble_eq_true rfl) (fun F hF h hQ => ?_)
  subst hF
  show pv F 0 0 sz sk rf sg 0 [some (.ref M), some (.int (nI b)), some (.int (nI t)), none] []
  obtain ⟨hM0, hr1, hk1, hr2, hk2, hr3, hk3, hr4, hk4, hr5, hk5, hr6, hk6, hr7, hk7, hr8, hk8, hr9, hk9, hr10, hk10, hr11, hk11, hr12, hk12, hr13, hk13, hr14, hk14, hr15, hk15, hr16, hk16, hr17, hk17, hr18, hk18, hr19, hk19, hr20, hk20, hr21, hk21, hr22, hk22, hr23, hk23, hr24, hk24⟩ := id hm
  refine v_aload_n h (i := 0) dX8_keeps_0 (q := 1) rfl rfl rfl ?_
  refine v_getr h fl_X8_50 (by assumption) rfl (by assumption) dX8_keeps_1 (q := 4) rfl ?_
  refine v_iload_n h (i := 1) dX8_keeps_4 (q := 5) rfl rfl rfl ?_
  refine v_iald h (by assumption) rfl (by first | assumption | omega) (by decide) dX8_keeps_5 (q := 6) rfl ?_
  refine v_bipush h (v := nI 30) dX8_keeps_6 (q := 8) rfl (by decide +kernel) ?_
  refine v_icmp_ne h dX8_keeps_8 (q := 11) rfl (tgt := 115) (by decide) (fun c1 => absurd (hs.trans (by rw [hs30])) c1) (fun c1 => ?_)
  refine v_bipush h (v := nI 30) dX8_keeps_11 (q := 13) rfl (by decide +kernel) ?_
  refine v_iload_n h (i := 1) dX8_keeps_13 (q := 14) rfl rfl rfl ?_
  refine v_imul h dX8_keeps_14 (q := 15) rfl ?_
  refine v_eq (st' := [.int (nI (30 * b + 0))]) (by rw [nI_mul, Nat.add_zero]) ?_
  refine v_istore_n h (i := 3) dX8_keeps_15 (q := 16) rfl rfl (Nat.le_of_ble_eq_true rfl) rfl ?_
  have lp : ∀ (j i : Nat), i + j = 29 → pv F 0 0 sz sk rf (pb_mshN sg M (30 * b) i) 16 [some (.ref M), some (.int (nI b)), some (.int (nI t)), some (.int (nI (30 * b + i)))] [] := by
    intro j
    induction j with
    | zero =>
      intro i  hi
      obtain rfl : i = 29 := by omega
      refine v_iload_n h (i := 3) dX8_keeps_16 (q := 17) rfl rfl rfl ?_
      refine v_bipush h (v := nI 30) dX8_keeps_17 (q := 19) rfl (by decide +kernel) ?_
      refine v_iload_n h (i := 1) dX8_keeps_19 (q := 20) rfl rfl rfl ?_
      refine v_imul h dX8_keeps_20 (q := 21) rfl ?_
      refine v_bipush h (v := nI 30) dX8_keeps_21 (q := 23) rfl (by decide +kernel) ?_
      refine v_iadd h dX8_keeps_23 (q := 24) rfl ?_
      refine v_iconst h (v := nI 1) dX8_keeps_24 (q := 25) rfl (by decide +kernel) ?_
      refine v_isub h dX8_keeps_25 (q := 26) rfl ?_
      refine v_eq (st' := [.int (nI (30 * b + 29)), .int (nI (30 * b + 29))]) (by rw [nI_mul, nI_add, pb_n1 (by omega)]; rfl) ?_
      refine v_icmp_ge h dX8_keeps_26 (q := 29) rfl (tgt := 105) (by decide) (fun c2 => ?_) (fun c2 => pb_kle (Nat.le_refl _) (by omega) c2)
      refine v_aload_n h (i := 0) dX8_keeps_105 (q := 106) rfl rfl rfl ?_
      refine v_getr h fl_X8_50 (by assumption) rfl (by assumption) dX8_keeps_106 (q := 109) rfl ?_
      refine v_iload_n h (i := 1) dX8_keeps_109 (q := 110) rfl rfl rfl ?_
      refine v_dup2 h dX8_keeps_110 (q := 111) rfl rfl rfl ?_
      refine v_iald h (by assumption) rfl (by first | assumption | omega) (by decide) dX8_keeps_111 (q := 112) rfl ?_
      refine v_eq (st' := [.int (nI 30), .int (nI b), .ref (M + 13)]) (by rw [pb_mshN_ne (by omega), hs, hs30]) ?_
      refine v_iconst h (v := nI 1) dX8_keeps_112 (q := 113) rfl (by decide +kernel) ?_
      refine v_isub h dX8_keeps_113 (q := 114) rfl ?_
      refine v_iast h (by assumption) rfl (by first | assumption | omega) (by decide) dX8_keeps_114 (q := 115) rfl ?_
      refine v_bipush h (v := nI 30) dX8_keeps_115 (q := 117) rfl (by decide +kernel) ?_
      refine v_iload_n h (i := 1) dX8_keeps_117 (q := 118) rfl rfl rfl ?_
      refine v_imul h dX8_keeps_118 (q := 119) rfl ?_
      refine v_aload_n h (i := 0) dX8_keeps_119 (q := 120) rfl rfl rfl ?_
      refine v_getr h fl_X8_50 (by assumption) rfl (by assumption) dX8_keeps_120 (q := 123) rfl ?_
      refine v_iload_n h (i := 1) dX8_keeps_123 (q := 124) rfl rfl rfl ?_
      refine v_iald h (by assumption) rfl (by first | assumption | omega) (by decide) dX8_keeps_124 (q := 125) rfl ?_
      refine v_iadd h dX8_keeps_125 (q := 126) rfl ?_
      refine v_eq (st' := [.int (nI (30 * b + 29))]) (by rw [pb_up_self, nI_mul, show nI 30 - nI 1 = nI 29 from rfl, nI_add]) ?_
      refine v_istore_n h (i := 3) dX8_keeps_126 (q := 127) rfl rfl (Nat.le_of_ble_eq_true rfl) rfl ?_
      refine v_aload_n h (i := 0) dX8_keeps_127 (q := 128) rfl rfl rfl ?_
      refine v_getr h fl_X8_35 (by assumption) rfl (by assumption) dX8_keeps_128 (q := 131) rfl ?_
      refine v_iload_n h (i := 3) dX8_keeps_131 (q := 132) rfl rfl rfl ?_
      refine v_iload_n h (i := 2) dX8_keeps_132 (q := 133) rfl rfl rfl ?_
      refine v_iast h (by assumption) rfl (by first | assumption | omega) (by decide) dX8_keeps_133 (q := 134) rfl ?_
      refine v_aload_n h (i := 0) dX8_keeps_134 (q := 135) rfl rfl rfl ?_
      refine v_getr h fl_X8_38 (by assumption) rfl (by assumption) dX8_keeps_135 (q := 138) rfl ?_
      refine v_iload_n h (i := 3) dX8_keeps_138 (q := 139) rfl rfl rfl ?_
      refine v_aload_n h (i := 0) dX8_keeps_139 (q := 140) rfl rfl rfl ?_
      refine v_getr h fl_X8_7 (by assumption) rfl (by assumption) dX8_keeps_140 (q := 143) rfl ?_
      refine v_iload_n h (i := 1) dX8_keeps_143 (q := 144) rfl rfl rfl ?_
      refine v_iload_n h (i := 2) dX8_keeps_144 (q := 145) rfl rfl rfl ?_
      refine v_callS1 h (c_X8_at hfl ) kX8_at rfl tw937 rfl rfl (by simp [Value.category]) (by decide) (Nat.zero_le _) (Nat.zero_le _) rfl dX8_keeps_145 (q := 148) rfl ?_
      refine v_iald h (by assumption) rfl (by first | assumption | omega) (by decide) dX8_keeps_148 (q := 149) rfl ?_
      refine v_iast h (by assumption) rfl (by first | assumption | omega) (by decide) dX8_keeps_149 (q := 150) rfl ?_
      refine v_aload_n h (i := 0) dX8_keeps_150 (q := 151) rfl rfl rfl ?_
      refine v_getr h fl_X8_41 (by assumption) rfl (by assumption) dX8_keeps_151 (q := 154) rfl ?_
      refine v_iload_n h (i := 3) dX8_keeps_154 (q := 155) rfl rfl rfl ?_
      refine v_aload_n h (i := 0) dX8_keeps_155 (q := 156) rfl rfl rfl ?_
      refine v_getr h fl_X8_13 (by assumption) rfl (by assumption) dX8_keeps_156 (q := 159) rfl ?_
      refine v_iload_n h (i := 1) dX8_keeps_159 (q := 160) rfl rfl rfl ?_
      refine v_iload_n h (i := 2) dX8_keeps_160 (q := 161) rfl rfl rfl ?_
      refine v_callS1 h (c_X8_at hfl ) kX8_at rfl tw937 rfl rfl (by simp [Value.category]) (by decide) (Nat.zero_le _) (Nat.zero_le _) rfl dX8_keeps_161 (q := 164) rfl ?_
      refine v_iald h (by assumption) rfl (by first | assumption | omega) (by decide) dX8_keeps_164 (q := 165) rfl ?_
      refine v_iast h (by assumption) rfl (by first | assumption | omega) (by decide) dX8_keeps_165 (q := 166) rfl ?_
      refine v_aload_n h (i := 0) dX8_keeps_166 (q := 167) rfl rfl rfl ?_
      refine v_getr h fl_X8_44 (by assumption) rfl (by assumption) dX8_keeps_167 (q := 170) rfl ?_
      refine v_iload_n h (i := 3) dX8_keeps_170 (q := 171) rfl rfl rfl ?_
      refine v_aload_n h (i := 0) dX8_keeps_171 (q := 172) rfl rfl rfl ?_
      refine v_getr h fl_X8_16 (by assumption) rfl (by assumption) dX8_keeps_172 (q := 175) rfl ?_
      refine v_iload_n h (i := 1) dX8_keeps_175 (q := 176) rfl rfl rfl ?_
      refine v_iload_n h (i := 2) dX8_keeps_176 (q := 177) rfl rfl rfl ?_
      refine v_callS1 h (c_X8_at hfl ) kX8_at rfl tw937 rfl rfl (by simp [Value.category]) (by decide) (Nat.zero_le _) (Nat.zero_le _) rfl dX8_keeps_177 (q := 180) rfl ?_
      refine v_iald h (by assumption) rfl (by first | assumption | omega) (by decide) dX8_keeps_180 (q := 181) rfl ?_
      refine v_iast h (by assumption) rfl (by first | assumption | omega) (by decide) dX8_keeps_181 (q := 182) rfl ?_
      refine v_aload_n h (i := 0) dX8_keeps_182 (q := 183) rfl rfl rfl ?_
      refine v_getr h fl_X8_47 (by assumption) rfl (by assumption) dX8_keeps_183 (q := 186) rfl ?_
      refine v_iload_n h (i := 3) dX8_keeps_186 (q := 187) rfl rfl rfl ?_
      refine v_aload_n h (i := 0) dX8_keeps_187 (q := 188) rfl rfl rfl ?_
      refine v_getr h fl_X8_19 (by assumption) rfl (by assumption) dX8_keeps_188 (q := 191) rfl ?_
      refine v_iload_n h (i := 1) dX8_keeps_191 (q := 192) rfl rfl rfl ?_
      refine v_iload_n h (i := 2) dX8_keeps_192 (q := 193) rfl rfl rfl ?_
      refine v_callS1 h (c_X8_at hfl ) kX8_at rfl tw937 rfl rfl (by simp [Value.category]) (by decide) (Nat.zero_le _) (Nat.zero_le _) rfl dX8_keeps_193 (q := 196) rfl ?_
      refine v_iald h (by assumption) rfl (by first | assumption | omega) (by decide) dX8_keeps_196 (q := 197) rfl ?_
      refine v_iast h (by assumption) rfl (by first | assumption | omega) (by decide) dX8_keeps_197 (q := 198) rfl ?_
      refine v_aload_n h (i := 0) dX8_keeps_198 (q := 199) rfl rfl rfl ?_
      refine v_getr h fl_X8_50 (by assumption) rfl (by assumption) dX8_keeps_199 (q := 202) rfl ?_
      refine v_iload_n h (i := 1) dX8_keeps_202 (q := 203) rfl rfl rfl ?_
      refine v_dup2 h dX8_keeps_203 (q := 204) rfl rfl rfl ?_
      refine v_iald h (by assumption) rfl (by first | assumption | omega) (by decide) dX8_keeps_204 (q := 205) rfl ?_
      refine v_iconst h (v := nI 1) dX8_keeps_205 (q := 206) rfl (by decide +kernel) ?_
      refine v_iadd h dX8_keeps_206 (q := 207) rfl ?_
      refine v_iast h (by assumption) rfl (by first | assumption | omega) (by decide) dX8_keeps_207 (q := 208) rfl ?_
      refine v_vret h hQ rfl dX8_keeps_208 (Nat.zero_le _) (Nat.zero_le _) ⟨rfl, rfl, rfl, rfl, rfl⟩
    | succ j ih =>
      intro i  hi
      have hi2 : i < 29 := by omega
      refine v_iload_n h (i := 3) dX8_keeps_16 (q := 17) rfl rfl rfl ?_
      refine v_bipush h (v := nI 30) dX8_keeps_17 (q := 19) rfl (by decide +kernel) ?_
      refine v_iload_n h (i := 1) dX8_keeps_19 (q := 20) rfl rfl rfl ?_
      refine v_imul h dX8_keeps_20 (q := 21) rfl ?_
      refine v_bipush h (v := nI 30) dX8_keeps_21 (q := 23) rfl (by decide +kernel) ?_
      refine v_iadd h dX8_keeps_23 (q := 24) rfl ?_
      refine v_iconst h (v := nI 1) dX8_keeps_24 (q := 25) rfl (by decide +kernel) ?_
      refine v_isub h dX8_keeps_25 (q := 26) rfl ?_
      refine v_eq (st' := [.int (nI (30 * b + 29)), .int (nI (30 * b + i))]) (by rw [nI_mul, nI_add, pb_n1 (by omega)]; rfl) ?_
      refine v_icmp_ge h dX8_keeps_26 (q := 29) rfl (tgt := 105) (by decide) (fun c3 => pb_kge (show 30 * b + i < 30 * b + 29 by omega) (by omega) c3) (fun c3 => ?_)
      refine v_aload_n h (i := 0) dX8_keeps_29 (q := 30) rfl rfl rfl ?_
      refine v_getr h fl_X8_35 (by assumption) rfl (by assumption) dX8_keeps_30 (q := 33) rfl ?_
      refine v_iload_n h (i := 3) dX8_keeps_33 (q := 34) rfl rfl rfl ?_
      refine v_aload_n h (i := 0) dX8_keeps_34 (q := 35) rfl rfl rfl ?_
      refine v_getr h fl_X8_35 (by assumption) rfl (by assumption) dX8_keeps_35 (q := 38) rfl ?_
      refine v_iload_n h (i := 3) dX8_keeps_38 (q := 39) rfl rfl rfl ?_
      refine v_iconst h (v := nI 1) dX8_keeps_39 (q := 40) rfl (by decide +kernel) ?_
      refine v_iadd h dX8_keeps_40 (q := 41) rfl ?_
      refine v_iald h (by assumption) (nI_add _ _) (by first | assumption | omega) (by decide) dX8_keeps_41 (q := 42) rfl ?_
      refine v_iast h (by assumption) rfl (by first | assumption | omega) (by decide) dX8_keeps_42 (q := 43) rfl ?_
      refine v_aload_n h (i := 0) dX8_keeps_43 (q := 44) rfl rfl rfl ?_
      refine v_getr h fl_X8_38 (by assumption) rfl (by assumption) dX8_keeps_44 (q := 47) rfl ?_
      refine v_iload_n h (i := 3) dX8_keeps_47 (q := 48) rfl rfl rfl ?_
      refine v_aload_n h (i := 0) dX8_keeps_48 (q := 49) rfl rfl rfl ?_
      refine v_getr h fl_X8_38 (by assumption) rfl (by assumption) dX8_keeps_49 (q := 52) rfl ?_
      refine v_iload_n h (i := 3) dX8_keeps_52 (q := 53) rfl rfl rfl ?_
      refine v_iconst h (v := nI 1) dX8_keeps_53 (q := 54) rfl (by decide +kernel) ?_
      refine v_iadd h dX8_keeps_54 (q := 55) rfl ?_
      refine v_iald h (by assumption) (nI_add _ _) (by first | assumption | omega) (by decide) dX8_keeps_55 (q := 56) rfl ?_
      refine v_iast h (by assumption) rfl (by first | assumption | omega) (by decide) dX8_keeps_56 (q := 57) rfl ?_
      refine v_aload_n h (i := 0) dX8_keeps_57 (q := 58) rfl rfl rfl ?_
      refine v_getr h fl_X8_41 (by assumption) rfl (by assumption) dX8_keeps_58 (q := 61) rfl ?_
      refine v_iload_n h (i := 3) dX8_keeps_61 (q := 62) rfl rfl rfl ?_
      refine v_aload_n h (i := 0) dX8_keeps_62 (q := 63) rfl rfl rfl ?_
      refine v_getr h fl_X8_41 (by assumption) rfl (by assumption) dX8_keeps_63 (q := 66) rfl ?_
      refine v_iload_n h (i := 3) dX8_keeps_66 (q := 67) rfl rfl rfl ?_
      refine v_iconst h (v := nI 1) dX8_keeps_67 (q := 68) rfl (by decide +kernel) ?_
      refine v_iadd h dX8_keeps_68 (q := 69) rfl ?_
      refine v_iald h (by assumption) (nI_add _ _) (by first | assumption | omega) (by decide) dX8_keeps_69 (q := 70) rfl ?_
      refine v_iast h (by assumption) rfl (by first | assumption | omega) (by decide) dX8_keeps_70 (q := 71) rfl ?_
      refine v_aload_n h (i := 0) dX8_keeps_71 (q := 72) rfl rfl rfl ?_
      refine v_getr h fl_X8_44 (by assumption) rfl (by assumption) dX8_keeps_72 (q := 75) rfl ?_
      refine v_iload_n h (i := 3) dX8_keeps_75 (q := 76) rfl rfl rfl ?_
      refine v_aload_n h (i := 0) dX8_keeps_76 (q := 77) rfl rfl rfl ?_
      refine v_getr h fl_X8_44 (by assumption) rfl (by assumption) dX8_keeps_77 (q := 80) rfl ?_
      refine v_iload_n h (i := 3) dX8_keeps_80 (q := 81) rfl rfl rfl ?_
      refine v_iconst h (v := nI 1) dX8_keeps_81 (q := 82) rfl (by decide +kernel) ?_
      refine v_iadd h dX8_keeps_82 (q := 83) rfl ?_
      refine v_iald h (by assumption) (nI_add _ _) (by first | assumption | omega) (by decide) dX8_keeps_83 (q := 84) rfl ?_
      refine v_iast h (by assumption) rfl (by first | assumption | omega) (by decide) dX8_keeps_84 (q := 85) rfl ?_
      refine v_aload_n h (i := 0) dX8_keeps_85 (q := 86) rfl rfl rfl ?_
      refine v_getr h fl_X8_47 (by assumption) rfl (by assumption) dX8_keeps_86 (q := 89) rfl ?_
      refine v_iload_n h (i := 3) dX8_keeps_89 (q := 90) rfl rfl rfl ?_
      refine v_aload_n h (i := 0) dX8_keeps_90 (q := 91) rfl rfl rfl ?_
      refine v_getr h fl_X8_47 (by assumption) rfl (by assumption) dX8_keeps_91 (q := 94) rfl ?_
      refine v_iload_n h (i := 3) dX8_keeps_94 (q := 95) rfl rfl rfl ?_
      refine v_iconst h (v := nI 1) dX8_keeps_95 (q := 96) rfl (by decide +kernel) ?_
      refine v_iadd h dX8_keeps_96 (q := 97) rfl ?_
      refine v_iald h (by assumption) (nI_add _ _) (by first | assumption | omega) (by decide) dX8_keeps_97 (q := 98) rfl ?_
      refine v_iast h (by assumption) rfl (by first | assumption | omega) (by decide) dX8_keeps_98 (q := 99) rfl ?_
      refine v_iinc h dX8_keeps_99 (q := 102) rfl rfl pb_inc rfl ?_
      refine v_goto h dX8_keeps_102 (tgt := 16) (by decide) ?_
      exact ih (i + 1) (by omega)
  exact lp 29 0 (by omega)
theorem c_X8_keeps {l : Launch} (hfl : l.stackTraces = false) {sz : Nat} {sk : pb_Sk} {rf : pb_Rf} {sg : pb_Sg} {M : Nat} (hm : pb_md sk rf M) {b t s : Nat} (hb : b < 8) (ht : t < 16) (hs : sg (M + 13) b = nI s) (hs30 : s ≤ 30) : pb_Met l mX8_keeps 2 0 0 [.ref M, .int (nI b), .int (nI t)] sz sk rf sg (pb_is none sz sk rf (pb_mkk sg M b t s)) := by
  unfold pb_mkk
  by_cases e : s = 30
  · rw [if_pos e]; exact c1_X8_keeps hfl hm hb ht hs e
  · rw [if_neg e]; exact c0_X8_keeps hfl hm hb ht hs (by omega)
theorem pb_cnt_mono {c c' : Nat → Bool} {n : Nat} (h : ∀ j, j < n → c' j = true → c j = true) : pb_cnt c' n ≤ pb_cnt c n := by
  induction n with
  | zero => exact Nat.le_refl _
  | succ n ih =>
    have ih := ih (fun j hj => h j (by omega))
    have h9 := h n (by omega)
    unfold pb_cnt
    by_cases e : c' n = true
    · rw [if_pos e, if_pos (h9 e)]; omega
    · rw [if_neg e]; split <;> omega
theorem pb_cnt_lt {c c' : Nat → Bool} {n i : Nat} (h : ∀ j, j < n → c' j = true → c j = true) (hi : i < n) (h1 : c i = true) (h2 : c' i = false) : pb_cnt c' n < pb_cnt c n := by
  induction n with
  | zero => omega
  | succ n ih =>
    unfold pb_cnt
    by_cases e : i = n
    · subst e
      have := pb_cnt_mono (n := i) (fun j hj => h j (by omega))
      rw [if_pos h1, if_neg (by rw [h2]; decide)]; omega
    · have ih := ih (fun j hj => h j (by omega)) (by omega)
      have h9 := h n (by omega)
      by_cases e : c' n = true
      · rw [if_pos e, if_pos (h9 e)]; omega
      · rw [if_neg e]; split <;> omega
/-- needs of all in s, each at once -/
def pb_orP (f : Nat → Int32) (s : Int32) : Nat → Int32
  | 0 => s
  | n + 1 => if pb_in (pb_orP f s n) n = true then pb_orP f s n ||| f n else pb_orP f s n
def pb_mit (f : Nat → Int32) : Nat → Int32 → Int32
  | 0, s => s
  | n + 1, s => pb_mit f n (pb_orP f s 16)
theorem pb_orP_in {f : Nat → Int32} {s : Int32} {n j : Nat} (h : pb_in s j = true) : pb_in (pb_orP f s n) j = true := by
  induction n with
  | zero => exact h
  | succ n ih =>
    unfold pb_orP
    split
    · rw [pb_in_or, ih, Bool.true_or]
    · exact ih
theorem pb_mit_fix {f : Nat → Int32} {s : Int32} (h : pb_orP f s 16 = s) (n : Nat) : pb_mit f n s = s := by
  induction n with
  | zero => rfl
  | succ n ih => unfold pb_mit; rw [h]; exact ih
def pb_zc (s : Int32) : Nat := pb_cnt (fun j => !pb_in s j) 32
theorem pb_zc_lt {f : Nat → Int32} {s : Int32} (h : ¬ pb_orP f s 16 = s) : pb_zc (pb_orP f s 16) < pb_zc s := by
  have hx : ∃ i, i < 32 ∧ pb_in s i = false ∧ pb_in (pb_orP f s 16) i = true := by
    apply Classical.byContradiction
    intro q
    apply h
    apply pb_in_ext
    intro j hj
    cases e : pb_in s j
    · cases e2 : pb_in (pb_orP f s 16) j
      · rfl
      · exact absurd ⟨j, hj, e, e2⟩ q
    · exact pb_orP_in e
  obtain ⟨i, hi, h1, h2⟩ := hx
  refine pb_cnt_lt (i := i) (fun j hj h3 => ?_) hi (by rw [h1]; rfl) (by rw [h2]; rfl)
  cases e : pb_in s j
  · rfl
  · rw [pb_orP_in e] at h3; cases h3
theorem pb_orP_m1 {f : Nat → Int32} : pb_orP f (-1) 16 = -1 := by
  apply pb_in_ext
  intro j hj
  rw [pb_orP_in (pb_in_m1 hj), pb_in_m1 hj]
theorem pb_orP_t {f : Nat → Int32} {s : Int32} {n : Nat} (h : pb_in (pb_orP f s n) n = true) : pb_orP f s (n + 1) = pb_orP f s n ||| f n := if_pos h
theorem pb_orP_f {f : Nat → Int32} {s : Int32} {n : Nat} (h : ¬ pb_in (pb_orP f s n) n = true) : pb_orP f s (n + 1) = pb_orP f s n := if_neg h
def pb_mall (f : Nat → Int32) (t : Nat) : Int32 := pb_mit f 33 (f t)
def pb_mah (f : Nat → Int32) (t j : Nat) (S H : Int32) : Prop := pb_mit f j S = pb_mall f t ∧ (S = H → pb_orP f S 16 = S) ∧ (¬ S = H → pb_zc S < j)
set_option maxHeartbeats 4000000 in
set_option maxRecDepth 100000 in
theorem c_X8_allNeeds {l : Launch} (hfl : l.stackTraces = false) {sz : Nat} {sk : pb_Sk} {rf : pb_Rf} {sg : pb_Sg} {M : Nat} (hm : pb_md sk rf M) {q t : Nat} (hq : q < 17) (ht : t < 16) : pb_Met l mX8_allNeeds 2 0 0 [.ref M, .int (nI q), .int (nI t)] sz sk rf sg (pb_is (some (.int (pb_mall (fun t => sg (M + 4) (16 * q + t)) t))) sz sk rf sg) := by
  refine pb_start hfl (by decide +kernel) rfl (pb_c1 rfl) (Nat.le_of_ble_eq_true rfl) (fun F hF h hQ => ?_)
  subst hF
  show pv F 0 0 sz sk rf sg 0 [some (.ref M), some (.int (nI q)), some (.int (nI t)), none, none, none] []
  obtain ⟨hM0, hr1, hk1, hr2, hk2, hr3, hk3, hr4, hk4, hr5, hk5, hr6, hk6, hr7, hk7, hr8, hk8, hr9, hk9, hr10, hk10, hr11, hk11, hr12, hk12, hr13, hk13, hr14, hk14, hr15, hk15, hr16, hk16, hr17, hk17, hr18, hk18, hr19, hk19, hr20, hk20, hr21, hk21, hr22, hk22, hr23, hk23, hr24, hk24⟩ := id hm
  refine v_aload_n h (i := 0) dX8_allNeeds_0 (q := 1) rfl rfl rfl ?_
  refine v_getr h fl_X8_19 (by assumption) rfl (by assumption) dX8_allNeeds_1 (q := 4) rfl ?_
  refine v_iload_n h (i := 1) dX8_allNeeds_4 (q := 5) rfl rfl rfl ?_
  refine v_iload_n h (i := 2) dX8_allNeeds_5 (q := 6) rfl rfl rfl ?_
  refine v_callS1 h (c_X8_at hfl ) kX8_at rfl tw937 rfl rfl (by simp [Value.category]) (by decide) (Nat.zero_le _) (Nat.zero_le _) rfl dX8_allNeeds_6 (q := 9) rfl ?_
  refine v_iald h (by assumption) rfl (by first | assumption | omega) (by decide) dX8_allNeeds_9 (q := 10) rfl ?_
  refine v_istore_n h (i := 3) dX8_allNeeds_10 (q := 11) rfl rfl (Nat.le_of_ble_eq_true rfl) rfl ?_
  refine v_iconst h (v := (-1)) dX8_allNeeds_11 (q := 12) rfl (by decide +kernel) ?_
  refine v_istore h dX8_allNeeds_12 (q := 14) rfl (Nat.le_of_ble_eq_true rfl) rfl ?_
  have lp : ∀ (j i : Nat) (S H : Int32), i + j = 33 → pb_mah (fun t => sg (M + 4) (16 * q + t)) t j S H → pv F 0 0 sz sk rf sg 14 [some (.ref M), some (.int (nI q)), some (.int (nI t)), some (.int S), some (.int H), none] [] := by
    intro j
    induction j with
    | zero =>
      intro i S H hi hy0
      obtain rfl : i = 33 := by omega
      refine v_iload_n h (i := 3) dX8_allNeeds_14 (q := 15) rfl rfl rfl ?_
      refine v_iload h dX8_allNeeds_15 (q := 17) rfl rfl ?_
      refine v_icmp_eq h dX8_allNeeds_17 (q := 20) rfl (tgt := 70) (by decide) (fun c1 => ?_) (fun c1 => absurd (hy0.2.2 c1) (Nat.not_lt_zero _))
      refine v_iload_n h (i := 3) dX8_allNeeds_70 (q := 71) rfl rfl rfl ?_
      refine v_iret h hQ rfl rfl dX8_allNeeds_71 (Nat.zero_le _) (Nat.zero_le _) ⟨by rw [← hy0.1]; rfl, rfl, rfl, rfl, rfl⟩
    | succ j ih =>
      intro i S H hi hy0
      have hi2 : i < 33 := by omega
      refine v_iload_n h (i := 3) dX8_allNeeds_14 (q := 15) rfl rfl rfl ?_
      refine v_iload h dX8_allNeeds_15 (q := 17) rfl rfl ?_
      refine v_icmp_eq h dX8_allNeeds_17 (q := 20) rfl (tgt := 70) (by decide) (fun c2 => ?_) (fun c2 => ?_)
      · skip
        have e9 : pb_mall (fun t => sg (M + 4) (16 * q + t)) t = S := by rw [← hy0.1]; exact pb_mit_fix (hy0.2.1 c2) _
        refine v_iload_n h (i := 3) dX8_allNeeds_70 (q := 71) rfl rfl rfl ?_
        refine v_iret h hQ rfl rfl dX8_allNeeds_71 (Nat.zero_le _) (Nat.zero_le _) ⟨by rw [e9], rfl, rfl, rfl, rfl⟩
      · skip
        have hne := c2
        refine v_iload_n h (i := 3) dX8_allNeeds_20 (q := 21) rfl rfl rfl ?_
        refine v_istore h dX8_allNeeds_21 (q := 23) rfl (Nat.le_of_ble_eq_true rfl) rfl ?_
        refine v_iconst h (v := nI 0) dX8_allNeeds_23 (q := 24) rfl (by decide +kernel) ?_
        refine v_istore h dX8_allNeeds_24 (q := 26) rfl (Nat.le_of_ble_eq_true rfl) rfl ?_
        have lpb : ∀ (jb ib : Nat), ib + jb = 16 → pv F 0 0 sz sk rf sg 26 [some (.ref M), some (.int (nI q)), some (.int (nI t)), some (.int (pb_orP (fun t => sg (M + 4) (16 * q + t)) S ib)), some (.int S), some (.int (nI ib))] [] := by
          intro jb
          induction jb with
          | zero =>
            intro ib  hib
            obtain rfl : ib = 16 := by omega
            refine v_iload h dX8_allNeeds_26 (q := 28) rfl rfl ?_
            refine v_bipush h (v := nI 16) dX8_allNeeds_28 (q := 30) rfl (by decide +kernel) ?_
            refine v_icmp_ge h dX8_allNeeds_30 (q := 33) rfl (tgt := 67) (by decide) (fun c3 => ?_) (fun c3 => pb_kle (Nat.le_refl _) (by decide) c3)
            refine v_goto h dX8_allNeeds_67 (tgt := 14) (by decide) ?_
            refine v_wk (by simp [pb_wk]) (ih (i + 1) (pb_orP (fun t => sg (M + 4) (16 * q + t)) S 16) S (by omega) ⟨hy0.1, fun q => by rw [q]; exact q, fun q => ?_⟩)
            have h7 := hy0.2.2 hne
            have h8 := pb_zc_lt q
            omega
          | succ jb ihb =>
            intro ib  hib
            have hi2b : ib < 16 := by omega
            refine v_iload h dX8_allNeeds_26 (q := 28) rfl rfl ?_
            refine v_bipush h (v := nI 16) dX8_allNeeds_28 (q := 30) rfl (by decide +kernel) ?_
            refine v_icmp_ge h dX8_allNeeds_30 (q := 33) rfl (tgt := 67) (by decide) (fun c4 => pb_kge hi2b (by decide) c4) (fun c4 => ?_)
            refine v_iload_n h (i := 3) dX8_allNeeds_33 (q := 34) rfl rfl rfl ?_
            refine v_iload_n h (i := 3) dX8_allNeeds_34 (q := 35) rfl rfl rfl ?_
            refine v_iload h dX8_allNeeds_35 (q := 37) rfl rfl ?_
            refine v_ishr h dX8_allNeeds_37 (q := 38) rfl ?_
            refine v_iconst h (v := nI 1) dX8_allNeeds_38 (q := 39) rfl (by decide +kernel) ?_
            refine v_iand h dX8_allNeeds_39 (q := 40) rfl ?_
            refine v_iconst h (v := nI 1) dX8_allNeeds_40 (q := 41) rfl (by decide +kernel) ?_
            refine v_icmp_ne h dX8_allNeeds_41 (q := 44) rfl (tgt := 58) (by decide) (fun c5 => ?_) (fun c5 => ?_)
            · skip
              have e9 := pb_orP_f (f := (fun t => sg (M + 4) (16 * q + t))) (s := S) (n := ib) (fun q => c5 ((pb_in_sh1 (by omega)).mpr q))
              rw [← pb_or0 (pb_orP (fun t => sg (M + 4) (16 * q + t)) S ib)] at e9
              refine v_iconst h (v := nI 0) dX8_allNeeds_58 (q := 59) rfl (by decide +kernel) ?_
              refine v_ior h dX8_allNeeds_59 (q := 60) rfl ?_
              refine v_istore_n h (i := 3) dX8_allNeeds_60 (q := 61) rfl rfl (Nat.le_of_ble_eq_true rfl) rfl ?_
              refine v_iinc h dX8_allNeeds_61 (q := 64) rfl rfl pb_inc rfl ?_
              refine v_goto h dX8_allNeeds_64 (tgt := 26) (by decide) ?_
              have h9 := ihb (ib + 1) (by omega)
              rw [e9] at h9
              exact h9
            · skip
              have e9 := pb_orP_t (f := (fun t => sg (M + 4) (16 * q + t))) (s := S) (n := ib) ((pb_in_sh1 (by omega)).mp c5)
              refine v_aload_n h (i := 0) dX8_allNeeds_44 (q := 45) rfl rfl rfl ?_
              refine v_getr h fl_X8_19 (by assumption) rfl (by assumption) dX8_allNeeds_45 (q := 48) rfl ?_
              refine v_iload_n h (i := 1) dX8_allNeeds_48 (q := 49) rfl rfl rfl ?_
              refine v_iload h dX8_allNeeds_49 (q := 51) rfl rfl ?_
              refine v_callS1 h (c_X8_at hfl ) kX8_at rfl tw937 rfl rfl (by simp [Value.category]) (by decide) (Nat.zero_le _) (Nat.zero_le _) rfl dX8_allNeeds_51 (q := 54) rfl ?_
              refine v_iald h (by assumption) rfl (by first | assumption | omega) (by decide) dX8_allNeeds_54 (q := 55) rfl ?_
              refine v_goto h dX8_allNeeds_55 (tgt := 59) (by decide) ?_
              refine v_ior h dX8_allNeeds_59 (q := 60) rfl ?_
              refine v_istore_n h (i := 3) dX8_allNeeds_60 (q := 61) rfl rfl (Nat.le_of_ble_eq_true rfl) rfl ?_
              refine v_iinc h dX8_allNeeds_61 (q := 64) rfl rfl pb_inc rfl ?_
              refine v_goto h dX8_allNeeds_64 (tgt := 26) (by decide) ?_
              have h9 := ihb (ib + 1) (by omega)
              rw [e9] at h9
              exact h9
        exact lpb 16 0 (by omega)
  exact lp 33 0 _ (-1) (by omega) ⟨rfl, fun q => by rw [q]; exact pb_orP_m1, fun _ => Nat.lt_of_le_of_lt (pb_cnt_le _ 32) (by decide)⟩
