def pb_gi (sg : pb_Sg) (M q : Nat) : Nat → pb_Sg
  | 0 => sg
  | n + 1 => pb_up (pb_up (pb_gi sg M q n) (M + 19) n (pb_gi sg M q n (M + 1) (16 * q + n))) (M + 20) n (nI 0)
def pb_ga (sg : pb_Sg) (M q t n : Nat) : pb_Sg := pb_up sg (M + 19) n (pb_mx (sg (M + 19) n) (sg (M + 19) t + sg (M + 1) (16 * q + n)))
def pb_g1 (sg : pb_Sg) (M q t n : Nat) : pb_Sg := pb_up (pb_ga sg M q t n) (M + 20) t (pb_mx (pb_ga sg M q t n (M + 20) t) (pb_ga sg M q t n (M + 20) n + sg (M + 1) (16 * q + n)))
def pb_gN (sg : pb_Sg) (M q t : Nat) : Nat → pb_Sg
  | 0 => sg
  | n + 1 => if pb_in (pb_gN sg M q t n (M + 4) (16 * q + t)) n = true then pb_g1 (pb_gN sg M q t n) M q t n else pb_gN sg M q t n
def pb_gR (sg : pb_Sg) (M q : Nat) : Nat → pb_Sg
  | 0 => sg
  | n + 1 => pb_gN (pb_gR sg M q n) M q n 16
def pb_gK (sg : pb_Sg) (M q : Nat) : Nat → pb_Sg
  | 0 => pb_gi sg M q 16
  | n + 1 => pb_gR (pb_gK sg M q n) M q 16
def pb_gmx (T : Nat → Int32) : Nat → Int32
  | 0 => nI 0
  | n + 1 => pb_mx (pb_gmx T n) (T n)
theorem pb_mx_le {x y : Int32} (h : y ≤ x) : pb_mx x y = x := if_neg (Int32.not_lt.mpr h)
theorem pb_mx_gt {x y : Int32} (h : ¬ y ≤ x) : pb_mx x y = y := if_pos (Int32.not_le.mp h)
set_option maxHeartbeats 4000000 in
set_option maxRecDepth 100000 in
theorem c_X8_goes {l : Launch} (hfl : l.stackTraces = false) {sz : Nat} {sk : pb_Sk} {rf : pb_Rf} {sg : pb_Sg} {M : Nat} (hm : pb_md sk rf M) {q : Nat} (hq : q < 17) : pb_Met l mX8_goes 3 0 0 [.ref M, .int (nI q)] sz sk rf sg (pb_is (some (.int (pb_gmx ((pb_gK sg M q 16) (M + 19)) 16))) sz sk rf ((pb_gK sg M q 16))) := by
  refine pb_start hfl (by decide +kernel) rfl (pb_c1 rfl) (Nat.le_of_ble_eq_true rfl) (fun F hF h hQ => ?_)
  subst hF
  show pv F 0 0 sz sk rf sg 0 [some (.ref M), some (.int (nI q)), none, none, none, none] []
  obtain ⟨hM0, hr1, hk1, hr2, hk2, hr3, hk3, hr4, hk4, hr5, hk5, hr6, hk6, hr7, hk7, hr8, hk8, hr9, hk9, hr10, hk10, hr11, hk11, hr12, hk12, hr13, hk13, hr14, hk14, hr15, hk15, hr16, hk16, hr17, hk17, hr18, hk18, hr19, hk19, hr20, hk20, hr21, hk21, hr22, hk22, hr23, hk23, hr24, hk24⟩ := id hm
  have tail : pv F 0 0 sz sk rf (pb_gK sg M q 16) 194 [some (.ref M), some (.int (nI q)), none, none, none, none] [] := by
    refine v_iconst h (v := nI 0) dX8_goes_194 (q := 195) rfl (by decide +kernel) ?_
    refine v_istore_n h (i := 2) dX8_goes_195 (q := 196) rfl rfl (Nat.le_of_ble_eq_true rfl) rfl ?_
    refine v_iconst h (v := nI 0) dX8_goes_196 (q := 197) rfl (by decide +kernel) ?_
    refine v_istore_n h (i := 3) dX8_goes_197 (q := 198) rfl rfl (Nat.le_of_ble_eq_true rfl) rfl ?_
    have lp : ∀ (j i : Nat), i + j = 16 → pv F 0 0 sz sk rf (pb_gK sg M q 16) 198 [some (.ref M), some (.int (nI q)), some (.int (pb_gmx ((pb_gK sg M q 16) (M + 19)) i)), some (.int (nI i)), none, none] [] := by
      intro j
      induction j with
      | zero =>
        intro i  hi
        obtain rfl : i = 16 := by omega
        refine v_iload_n h (i := 3) dX8_goes_198 (q := 199) rfl rfl rfl ?_
        refine v_bipush h (v := nI 16) dX8_goes_199 (q := 201) rfl (by decide +kernel) ?_
        refine v_icmp_ge h dX8_goes_201 (q := 204) rfl (tgt := 231) (by decide) (fun c1 => ?_) (fun c1 => pb_kle (Nat.le_refl _) (by decide) c1)
        refine v_iload_n h (i := 2) dX8_goes_231 (q := 232) rfl rfl rfl ?_
        refine v_iret h hQ rfl rfl dX8_goes_232 (Nat.zero_le _) (Nat.zero_le _) ⟨rfl, rfl, rfl, rfl, rfl⟩
      | succ j ih =>
        intro i  hi
        have hi2 : i < 16 := by omega
        refine v_iload_n h (i := 3) dX8_goes_198 (q := 199) rfl rfl rfl ?_
        refine v_bipush h (v := nI 16) dX8_goes_199 (q := 201) rfl (by decide +kernel) ?_
        refine v_icmp_ge h dX8_goes_201 (q := 204) rfl (tgt := 231) (by decide) (fun c2 => pb_kge hi2 (by decide) c2) (fun c2 => ?_)
        refine v_aload_n h (i := 0) dX8_goes_204 (q := 205) rfl rfl rfl ?_
        refine v_getr h fl_X8_68 (by assumption) rfl (by assumption) dX8_goes_205 (q := 208) rfl ?_
        refine v_iload_n h (i := 3) dX8_goes_208 (q := 209) rfl rfl rfl ?_
        refine v_iald h (by assumption) rfl (by first | assumption | omega) (by decide) dX8_goes_209 (q := 210) rfl ?_
        refine v_iload_n h (i := 2) dX8_goes_210 (q := 211) rfl rfl rfl ?_
        refine v_icmp_le h dX8_goes_211 (q := 214) rfl (tgt := 223) (by decide) (fun c3 => ?_) (fun c3 => ?_)
        · skip
          have e9 : pb_gmx ((pb_gK sg M q 16) (M + 19)) (i + 1) = (pb_gmx ((pb_gK sg M q 16) (M + 19)) i) := pb_mx_le c3
          refine v_iload_n h (i := 2) dX8_goes_223 (q := 224) rfl rfl rfl ?_
          refine v_istore_n h (i := 2) dX8_goes_224 (q := 225) rfl rfl (Nat.le_of_ble_eq_true rfl) rfl ?_
          refine v_iinc h dX8_goes_225 (q := 228) rfl rfl pb_inc rfl ?_
          refine v_goto h dX8_goes_228 (tgt := 198) (by decide) ?_
          have h9 := ih (i + 1) (by omega)
          rw [e9] at h9
          exact h9
        · skip
          have e9 : pb_gmx ((pb_gK sg M q 16) (M + 19)) (i + 1) = (pb_gK sg M q 16) (M + 19) i := pb_mx_gt c3
          refine v_aload_n h (i := 0) dX8_goes_214 (q := 215) rfl rfl rfl ?_
          refine v_getr h fl_X8_68 (by assumption) rfl (by assumption) dX8_goes_215 (q := 218) rfl ?_
          refine v_iload_n h (i := 3) dX8_goes_218 (q := 219) rfl rfl rfl ?_
          refine v_iald h (by assumption) rfl (by first | assumption | omega) (by decide) dX8_goes_219 (q := 220) rfl ?_
          refine v_goto h dX8_goes_220 (tgt := 224) (by decide) ?_
          refine v_istore_n h (i := 2) dX8_goes_224 (q := 225) rfl rfl (Nat.le_of_ble_eq_true rfl) rfl ?_
          refine v_iinc h dX8_goes_225 (q := 228) rfl rfl pb_inc rfl ?_
          refine v_goto h dX8_goes_228 (tgt := 198) (by decide) ?_
          have h9 := ih (i + 1) (by omega)
          rw [e9] at h9
          exact h9
    exact v_wk (by simp [pb_wk]; rfl) (lp 16 0 (by omega))
  refine v_iconst h (v := nI 0) dX8_goes_0 (q := 1) rfl (by decide +kernel) ?_
  refine v_istore_n h (i := 2) dX8_goes_1 (q := 2) rfl rfl (Nat.le_of_ble_eq_true rfl) rfl ?_
  have lp : ∀ (j i : Nat), i + j = 16 → pv F 0 0 sz sk rf (pb_gi sg M q i) 2 [some (.ref M), some (.int (nI q)), some (.int (nI i)), none, none, none] [] := by
    intro j
    induction j with
    | zero =>
      intro i  hi
      obtain rfl : i = 16 := by omega
      refine v_iload_n h (i := 2) dX8_goes_2 (q := 3) rfl rfl rfl ?_
      refine v_bipush h (v := nI 16) dX8_goes_3 (q := 5) rfl (by decide +kernel) ?_
      refine v_icmp_ge h dX8_goes_5 (q := 8) rfl (tgt := 37) (by decide) (fun c4 => ?_) (fun c4 => pb_kle (Nat.le_refl _) (by decide) c4)
      refine v_iconst h (v := nI 0) dX8_goes_37 (q := 38) rfl (by decide +kernel) ?_
      refine v_istore_n h (i := 2) dX8_goes_38 (q := 39) rfl rfl (Nat.le_of_ble_eq_true rfl) rfl ?_
      have lp : ∀ (j i : Nat), i + j = 16 → pv F 0 0 sz sk rf (pb_gK sg M q i) 39 [some (.ref M), some (.int (nI q)), some (.int (nI i)), none, none, none] [] := by
        intro j
        induction j with
        | zero =>
          intro i  hi
          obtain rfl : i = 16 := by omega
          refine v_iload_n h (i := 2) dX8_goes_39 (q := 40) rfl rfl rfl ?_
          refine v_bipush h (v := nI 16) dX8_goes_40 (q := 42) rfl (by decide +kernel) ?_
          refine v_icmp_ge h dX8_goes_42 (q := 45) rfl (tgt := 194) (by decide) (fun c5 => ?_) (fun c5 => pb_kle (Nat.le_refl _) (by decide) c5)
          exact v_wk (by simp [pb_wk]) tail
        | succ j ih =>
          intro i  hi
          have hi2 : i < 16 := by omega
          refine v_iload_n h (i := 2) dX8_goes_39 (q := 40) rfl rfl rfl ?_
          refine v_bipush h (v := nI 16) dX8_goes_40 (q := 42) rfl (by decide +kernel) ?_
          refine v_icmp_ge h dX8_goes_42 (q := 45) rfl (tgt := 194) (by decide) (fun c6 => pb_kge hi2 (by decide) c6) (fun c6 => ?_)
          refine v_iconst h (v := nI 0) dX8_goes_45 (q := 46) rfl (by decide +kernel) ?_
          refine v_istore_n h (i := 3) dX8_goes_46 (q := 47) rfl rfl (Nat.le_of_ble_eq_true rfl) rfl ?_
          have lpb : ∀ (jb ib : Nat), ib + jb = 16 → pv F 0 0 sz sk rf (pb_gR (pb_gK sg M q i) M q ib) 47 [some (.ref M), some (.int (nI q)), some (.int (nI i)), some (.int (nI ib)), none, none] [] := by
            intro jb
            induction jb with
            | zero =>
              intro ib  hib
              obtain rfl : ib = 16 := by omega
              refine v_iload_n h (i := 3) dX8_goes_47 (q := 48) rfl rfl rfl ?_
              refine v_bipush h (v := nI 16) dX8_goes_48 (q := 50) rfl (by decide +kernel) ?_
              refine v_icmp_ge h dX8_goes_50 (q := 53) rfl (tgt := 188) (by decide) (fun c7 => ?_) (fun c7 => pb_kle (Nat.le_refl _) (by decide) c7)
              refine v_iinc h dX8_goes_188 (q := 191) rfl rfl pb_inc rfl ?_
              refine v_goto h dX8_goes_191 (tgt := 39) (by decide) ?_
              exact v_wk (by simp [pb_wk]) (ih (i + 1) (by omega))
            | succ jb ihb =>
              intro ib  hib
              have hi2b : ib < 16 := by omega
              refine v_iload_n h (i := 3) dX8_goes_47 (q := 48) rfl rfl rfl ?_
              refine v_bipush h (v := nI 16) dX8_goes_48 (q := 50) rfl (by decide +kernel) ?_
              refine v_icmp_ge h dX8_goes_50 (q := 53) rfl (tgt := 188) (by decide) (fun c8 => pb_kge hi2b (by decide) c8) (fun c8 => ?_)
              refine v_iconst h (v := nI 0) dX8_goes_53 (q := 54) rfl (by decide +kernel) ?_
              refine v_istore h dX8_goes_54 (q := 56) rfl (Nat.le_of_ble_eq_true rfl) rfl ?_
              have lpc : ∀ (jc ic : Nat), ic + jc = 16 → pv F 0 0 sz sk rf (pb_gN (pb_gR (pb_gK sg M q i) M q ib) M q ib ic) 56 [some (.ref M), some (.int (nI q)), some (.int (nI i)), some (.int (nI ib)), some (.int (nI ic)), none] [] := by
                intro jc
                induction jc with
                | zero =>
                  intro ic  hic
                  obtain rfl : ic = 16 := by omega
                  refine v_iload h dX8_goes_56 (q := 58) rfl rfl ?_
                  refine v_bipush h (v := nI 16) dX8_goes_58 (q := 60) rfl (by decide +kernel) ?_
                  refine v_icmp_ge h dX8_goes_60 (q := 63) rfl (tgt := 182) (by decide) (fun c9 => ?_) (fun c9 => pb_kle (Nat.le_refl _) (by decide) c9)
                  refine v_iinc h dX8_goes_182 (q := 185) rfl rfl pb_inc rfl ?_
                  refine v_goto h dX8_goes_185 (tgt := 47) (by decide) ?_
                  exact v_wk (by simp [pb_wk]) (ihb (ib + 1) (by omega))
                | succ jc ihc =>
                  intro ic  hic
                  have hi2c : ic < 16 := by omega
                  refine v_iload h dX8_goes_56 (q := 58) rfl rfl ?_
                  refine v_bipush h (v := nI 16) dX8_goes_58 (q := 60) rfl (by decide +kernel) ?_
                  refine v_icmp_ge h dX8_goes_60 (q := 63) rfl (tgt := 182) (by decide) (fun c10 => pb_kge hi2c (by decide) c10) (fun c10 => ?_)
                  refine v_aload_n h (i := 0) dX8_goes_63 (q := 64) rfl rfl rfl ?_
                  refine v_iload_n h (i := 1) dX8_goes_64 (q := 65) rfl rfl rfl ?_
                  refine v_iload_n h (i := 3) dX8_goes_65 (q := 66) rfl rfl rfl ?_
                  refine v_iload h dX8_goes_66 (q := 68) rfl rfl ?_
                  refine v_callV1 h (c_X8_doesNeed hfl hm hq hi2b hi2c) kX8_doesNeed tw956 tw19 (by assumption) (by decide) rfl rfl rfl (by simp [Value.category]) (by decide) (Nat.zero_le _) (Nat.zero_le _) rfl dX8_goes_68 (q := 71) rfl ?_
                  refine v_if_eq h dX8_goes_71 (q := 74) rfl (tgt := 176) (by decide) (fun c11 => ?_) (fun c11 => ?_)
                  · skip
                    have e8 := pb_b_0.mp c11
                    have e9 : pb_gN (pb_gR (pb_gK sg M q i) M q ib) M q ib (ic + 1) = (pb_gN (pb_gR (pb_gK sg M q i) M q ib) M q ib ic) := if_neg (by rw [e8]; decide)
                    refine v_iinc h dX8_goes_176 (q := 179) rfl rfl pb_inc rfl ?_
                    refine v_goto h dX8_goes_179 (tgt := 56) (by decide) ?_
                    have h9 := ihc (ic + 1) (by omega)
                    rw [e9] at h9
                    exact v_wk (by simp [pb_wk]) h9
                  · skip
                    have e8 := pb_ne_f (fun q => c11 (pb_b_0.mpr q))
                    have e9 : pb_gN (pb_gR (pb_gK sg M q i) M q ib) M q ib (ic + 1) = pb_g1 (pb_gN (pb_gR (pb_gK sg M q i) M q ib) M q ib ic) M q ib ic := if_pos e8
                    refine v_aload_n h (i := 0) dX8_goes_74 (q := 75) rfl rfl rfl ?_
                    refine v_getr h fl_X8_7 (by assumption) rfl (by assumption) dX8_goes_75 (q := 78) rfl ?_
                    refine v_iload_n h (i := 1) dX8_goes_78 (q := 79) rfl rfl rfl ?_
                    refine v_iload h dX8_goes_79 (q := 81) rfl rfl ?_
                    refine v_callS1 h (c_X8_at hfl ) kX8_at rfl tw937 rfl rfl (by simp [Value.category]) (by decide) (Nat.zero_le _) (Nat.zero_le _) rfl dX8_goes_81 (q := 84) rfl ?_
                    refine v_iald h (by assumption) rfl (by first | assumption | omega) (by decide) dX8_goes_84 (q := 85) rfl ?_
                    refine v_istore h dX8_goes_85 (q := 87) rfl (Nat.le_of_ble_eq_true rfl) rfl ?_
                    refine v_aload_n h (i := 0) dX8_goes_87 (q := 88) rfl rfl rfl ?_
                    refine v_getr h fl_X8_68 (by assumption) rfl (by assumption) dX8_goes_88 (q := 91) rfl ?_
                    refine v_iload h dX8_goes_91 (q := 93) rfl rfl ?_
                    refine v_aload_n h (i := 0) dX8_goes_93 (q := 94) rfl rfl rfl ?_
                    refine v_getr h fl_X8_68 (by assumption) rfl (by assumption) dX8_goes_94 (q := 97) rfl ?_
                    refine v_iload_n h (i := 3) dX8_goes_97 (q := 98) rfl rfl rfl ?_
                    refine v_iald h (by assumption) rfl (by first | assumption | omega) (by decide) dX8_goes_98 (q := 99) rfl ?_
                    refine v_iload h dX8_goes_99 (q := 101) rfl rfl ?_
                    refine v_iadd h dX8_goes_101 (q := 102) rfl ?_
                    refine v_aload_n h (i := 0) dX8_goes_102 (q := 103) rfl rfl rfl ?_
                    refine v_getr h fl_X8_68 (by assumption) rfl (by assumption) dX8_goes_103 (q := 106) rfl ?_
                    refine v_iload h dX8_goes_106 (q := 108) rfl rfl ?_
                    refine v_iald h (by assumption) rfl (by first | assumption | omega) (by decide) dX8_goes_108 (q := 109) rfl ?_
                    refine v_icmp_le h dX8_goes_109 (q := 112) rfl (tgt := 124) (by decide) (fun c12 => ?_) (fun c12 => ?_)
                    · skip
                      have e1 := pb_mx_le c12
                      refine v_aload_n h (i := 0) dX8_goes_124 (q := 125) rfl rfl rfl ?_
                      refine v_getr h fl_X8_68 (by assumption) rfl (by assumption) dX8_goes_125 (q := 128) rfl ?_
                      refine v_iload h dX8_goes_128 (q := 130) rfl rfl ?_
                      refine v_iald h (by assumption) rfl (by first | assumption | omega) (by decide) dX8_goes_130 (q := 131) rfl ?_
                      refine v_eq (st' := [.int (pb_mx ((pb_gN (pb_gR (pb_gK sg M q i) M q ib) M q ib ic) (M + 19) ic) ((pb_gN (pb_gR (pb_gK sg M q i) M q ib) M q ib ic) (M + 19) ib + (pb_gN (pb_gR (pb_gK sg M q i) M q ib) M q ib ic) (M + 1) (16 * q + ic))), .int (nI ic), .ref (M + 19)]) (by rw [e1]) ?_
                      refine v_iast h (by assumption) rfl (by first | assumption | omega) (by decide) dX8_goes_131 (q := 132) rfl ?_
                      refine v_sg (sg' := (pb_ga (pb_gN (pb_gR (pb_gK sg M q i) M q ib) M q ib ic) M q ib ic)) rfl ?_
                      refine v_aload_n h (i := 0) dX8_goes_132 (q := 133) rfl rfl rfl ?_
                      refine v_getr h fl_X8_71 (by assumption) rfl (by assumption) dX8_goes_133 (q := 136) rfl ?_
                      refine v_iload_n h (i := 3) dX8_goes_136 (q := 137) rfl rfl rfl ?_
                      refine v_aload_n h (i := 0) dX8_goes_137 (q := 138) rfl rfl rfl ?_
                      refine v_getr h fl_X8_71 (by assumption) rfl (by assumption) dX8_goes_138 (q := 141) rfl ?_
                      refine v_iload h dX8_goes_141 (q := 143) rfl rfl ?_
                      refine v_iald h (by assumption) rfl (by first | assumption | omega) (by decide) dX8_goes_143 (q := 144) rfl ?_
                      refine v_iload h dX8_goes_144 (q := 146) rfl rfl ?_
                      refine v_iadd h dX8_goes_146 (q := 147) rfl ?_
                      refine v_aload_n h (i := 0) dX8_goes_147 (q := 148) rfl rfl rfl ?_
                      refine v_getr h fl_X8_71 (by assumption) rfl (by assumption) dX8_goes_148 (q := 151) rfl ?_
                      refine v_iload_n h (i := 3) dX8_goes_151 (q := 152) rfl rfl rfl ?_
                      refine v_iald h (by assumption) rfl (by first | assumption | omega) (by decide) dX8_goes_152 (q := 153) rfl ?_
                      refine v_icmp_le h dX8_goes_153 (q := 156) rfl (tgt := 169) (by decide) (fun c13 => ?_) (fun c13 => ?_)
                      · skip
                        have e2 := pb_mx_le c13
                        refine v_aload_n h (i := 0) dX8_goes_169 (q := 170) rfl rfl rfl ?_
                        refine v_getr h fl_X8_71 (by assumption) rfl (by assumption) dX8_goes_170 (q := 173) rfl ?_
                        refine v_iload_n h (i := 3) dX8_goes_173 (q := 174) rfl rfl rfl ?_
                        refine v_iald h (by assumption) rfl (by first | assumption | omega) (by decide) dX8_goes_174 (q := 175) rfl ?_
                        refine v_eq (st' := [.int (pb_mx ((pb_ga (pb_gN (pb_gR (pb_gK sg M q i) M q ib) M q ib ic) M q ib ic) (M + 20) ib) ((pb_ga (pb_gN (pb_gR (pb_gK sg M q i) M q ib) M q ib ic) M q ib ic) (M + 20) ic + (pb_gN (pb_gR (pb_gK sg M q i) M q ib) M q ib ic) (M + 1) (16 * q + ic))), .int (nI ib), .ref (M + 20)]) (by rw [e2]) ?_
                        refine v_iast h (by assumption) rfl (by first | assumption | omega) (by decide) dX8_goes_175 (q := 176) rfl ?_
                        refine v_sg (sg' := pb_g1 (pb_gN (pb_gR (pb_gK sg M q i) M q ib) M q ib ic) M q ib ic) rfl ?_
                        refine v_iinc h dX8_goes_176 (q := 179) rfl rfl pb_inc rfl ?_
                        refine v_goto h dX8_goes_179 (tgt := 56) (by decide) ?_
                        have h9 := ihc (ic + 1) (by omega)
                        rw [e9] at h9
                        exact v_wk (by simp [pb_wk]) h9
                      · skip
                        have e2 := pb_mx_gt c13
                        refine v_aload_n h (i := 0) dX8_goes_156 (q := 157) rfl rfl rfl ?_
                        refine v_getr h fl_X8_71 (by assumption) rfl (by assumption) dX8_goes_157 (q := 160) rfl ?_
                        refine v_iload h dX8_goes_160 (q := 162) rfl rfl ?_
                        refine v_iald h (by assumption) rfl (by first | assumption | omega) (by decide) dX8_goes_162 (q := 163) rfl ?_
                        refine v_iload h dX8_goes_163 (q := 165) rfl rfl ?_
                        refine v_iadd h dX8_goes_165 (q := 166) rfl ?_
                        refine v_goto h dX8_goes_166 (tgt := 175) (by decide) ?_
                        refine v_eq (st' := [.int (pb_mx ((pb_ga (pb_gN (pb_gR (pb_gK sg M q i) M q ib) M q ib ic) M q ib ic) (M + 20) ib) ((pb_ga (pb_gN (pb_gR (pb_gK sg M q i) M q ib) M q ib ic) M q ib ic) (M + 20) ic + (pb_gN (pb_gR (pb_gK sg M q i) M q ib) M q ib ic) (M + 1) (16 * q + ic))), .int (nI ib), .ref (M + 20)]) (by rw [e2]) ?_
                        refine v_iast h (by assumption) rfl (by first | assumption | omega) (by decide) dX8_goes_175 (q := 176) rfl ?_
                        refine v_sg (sg' := pb_g1 (pb_gN (pb_gR (pb_gK sg M q i) M q ib) M q ib ic) M q ib ic) rfl ?_
                        refine v_iinc h dX8_goes_176 (q := 179) rfl rfl pb_inc rfl ?_
                        refine v_goto h dX8_goes_179 (tgt := 56) (by decide) ?_
                        have h9 := ihc (ic + 1) (by omega)
                        rw [e9] at h9
                        exact v_wk (by simp [pb_wk]) h9
                    · skip
                      have e1 := pb_mx_gt c12
                      refine v_aload_n h (i := 0) dX8_goes_112 (q := 113) rfl rfl rfl ?_
                      refine v_getr h fl_X8_68 (by assumption) rfl (by assumption) dX8_goes_113 (q := 116) rfl ?_
                      refine v_iload_n h (i := 3) dX8_goes_116 (q := 117) rfl rfl rfl ?_
                      refine v_iald h (by assumption) rfl (by first | assumption | omega) (by decide) dX8_goes_117 (q := 118) rfl ?_
                      refine v_iload h dX8_goes_118 (q := 120) rfl rfl ?_
                      refine v_iadd h dX8_goes_120 (q := 121) rfl ?_
                      refine v_goto h dX8_goes_121 (tgt := 131) (by decide) ?_
                      refine v_eq (st' := [.int (pb_mx ((pb_gN (pb_gR (pb_gK sg M q i) M q ib) M q ib ic) (M + 19) ic) ((pb_gN (pb_gR (pb_gK sg M q i) M q ib) M q ib ic) (M + 19) ib + (pb_gN (pb_gR (pb_gK sg M q i) M q ib) M q ib ic) (M + 1) (16 * q + ic))), .int (nI ic), .ref (M + 19)]) (by rw [e1]) ?_
                      refine v_iast h (by assumption) rfl (by first | assumption | omega) (by decide) dX8_goes_131 (q := 132) rfl ?_
                      refine v_sg (sg' := (pb_ga (pb_gN (pb_gR (pb_gK sg M q i) M q ib) M q ib ic) M q ib ic)) rfl ?_
                      refine v_aload_n h (i := 0) dX8_goes_132 (q := 133) rfl rfl rfl ?_
                      refine v_getr h fl_X8_71 (by assumption) rfl (by assumption) dX8_goes_133 (q := 136) rfl ?_
                      refine v_iload_n h (i := 3) dX8_goes_136 (q := 137) rfl rfl rfl ?_
                      refine v_aload_n h (i := 0) dX8_goes_137 (q := 138) rfl rfl rfl ?_
                      refine v_getr h fl_X8_71 (by assumption) rfl (by assumption) dX8_goes_138 (q := 141) rfl ?_
                      refine v_iload h dX8_goes_141 (q := 143) rfl rfl ?_
                      refine v_iald h (by assumption) rfl (by first | assumption | omega) (by decide) dX8_goes_143 (q := 144) rfl ?_
                      refine v_iload h dX8_goes_144 (q := 146) rfl rfl ?_
                      refine v_iadd h dX8_goes_146 (q := 147) rfl ?_
                      refine v_aload_n h (i := 0) dX8_goes_147 (q := 148) rfl rfl rfl ?_
                      refine v_getr h fl_X8_71 (by assumption) rfl (by assumption) dX8_goes_148 (q := 151) rfl ?_
                      refine v_iload_n h (i := 3) dX8_goes_151 (q := 152) rfl rfl rfl ?_
                      refine v_iald h (by assumption) rfl (by first | assumption | omega) (by decide) dX8_goes_152 (q := 153) rfl ?_
                      refine v_icmp_le h dX8_goes_153 (q := 156) rfl (tgt := 169) (by decide) (fun c14 => ?_) (fun c14 => ?_)
                      · skip
                        have e2 := pb_mx_le c14
                        refine v_aload_n h (i := 0) dX8_goes_169 (q := 170) rfl rfl rfl ?_
                        refine v_getr h fl_X8_71 (by assumption) rfl (by assumption) dX8_goes_170 (q := 173) rfl ?_
                        refine v_iload_n h (i := 3) dX8_goes_173 (q := 174) rfl rfl rfl ?_
                        refine v_iald h (by assumption) rfl (by first | assumption | omega) (by decide) dX8_goes_174 (q := 175) rfl ?_
                        refine v_eq (st' := [.int (pb_mx ((pb_ga (pb_gN (pb_gR (pb_gK sg M q i) M q ib) M q ib ic) M q ib ic) (M + 20) ib) ((pb_ga (pb_gN (pb_gR (pb_gK sg M q i) M q ib) M q ib ic) M q ib ic) (M + 20) ic + (pb_gN (pb_gR (pb_gK sg M q i) M q ib) M q ib ic) (M + 1) (16 * q + ic))), .int (nI ib), .ref (M + 20)]) (by rw [e2]) ?_
                        refine v_iast h (by assumption) rfl (by first | assumption | omega) (by decide) dX8_goes_175 (q := 176) rfl ?_
                        refine v_sg (sg' := pb_g1 (pb_gN (pb_gR (pb_gK sg M q i) M q ib) M q ib ic) M q ib ic) rfl ?_
                        refine v_iinc h dX8_goes_176 (q := 179) rfl rfl pb_inc rfl ?_
                        refine v_goto h dX8_goes_179 (tgt := 56) (by decide) ?_
                        have h9 := ihc (ic + 1) (by omega)
                        rw [e9] at h9
                        exact v_wk (by simp [pb_wk]) h9
                      · skip
                        have e2 := pb_mx_gt c14
                        refine v_aload_n h (i := 0) dX8_goes_156 (q := 157) rfl rfl rfl ?_
                        refine v_getr h fl_X8_71 (by assumption) rfl (by assumption) dX8_goes_157 (q := 160) rfl ?_
                        refine v_iload h dX8_goes_160 (q := 162) rfl rfl ?_
                        refine v_iald h (by assumption) rfl (by first | assumption | omega) (by decide) dX8_goes_162 (q := 163) rfl ?_
                        refine v_iload h dX8_goes_163 (q := 165) rfl rfl ?_
                        refine v_iadd h dX8_goes_165 (q := 166) rfl ?_
                        refine v_goto h dX8_goes_166 (tgt := 175) (by decide) ?_
                        refine v_eq (st' := [.int (pb_mx ((pb_ga (pb_gN (pb_gR (pb_gK sg M q i) M q ib) M q ib ic) M q ib ic) (M + 20) ib) ((pb_ga (pb_gN (pb_gR (pb_gK sg M q i) M q ib) M q ib ic) M q ib ic) (M + 20) ic + (pb_gN (pb_gR (pb_gK sg M q i) M q ib) M q ib ic) (M + 1) (16 * q + ic))), .int (nI ib), .ref (M + 20)]) (by rw [e2]) ?_
                        refine v_iast h (by assumption) rfl (by first | assumption | omega) (by decide) dX8_goes_175 (q := 176) rfl ?_
                        refine v_sg (sg' := pb_g1 (pb_gN (pb_gR (pb_gK sg M q i) M q ib) M q ib ic) M q ib ic) rfl ?_
                        refine v_iinc h dX8_goes_176 (q := 179) rfl rfl pb_inc rfl ?_
                        refine v_goto h dX8_goes_179 (tgt := 56) (by decide) ?_
                        have h9 := ihc (ic + 1) (by omega)
                        rw [e9] at h9
                        exact v_wk (by simp [pb_wk]) h9
              exact lpc 16 0 (by omega)
          exact lpb 16 0 (by omega)
      exact lp 16 0 (by omega)
    | succ j ih =>
      intro i  hi
      have hi2 : i < 16 := by omega
      refine v_iload_n h (i := 2) dX8_goes_2 (q := 3) rfl rfl rfl ?_
      refine v_bipush h (v := nI 16) dX8_goes_3 (q := 5) rfl (by decide +kernel) ?_
      refine v_icmp_ge h dX8_goes_5 (q := 8) rfl (tgt := 37) (by decide) (fun c15 => pb_kge hi2 (by decide) c15) (fun c15 => ?_)
      refine v_aload_n h (i := 0) dX8_goes_8 (q := 9) rfl rfl rfl ?_
      refine v_getr h fl_X8_68 (by assumption) rfl (by assumption) dX8_goes_9 (q := 12) rfl ?_
      refine v_iload_n h (i := 2) dX8_goes_12 (q := 13) rfl rfl rfl ?_
      refine v_aload_n h (i := 0) dX8_goes_13 (q := 14) rfl rfl rfl ?_
      refine v_getr h fl_X8_7 (by assumption) rfl (by assumption) dX8_goes_14 (q := 17) rfl ?_
      refine v_iload_n h (i := 1) dX8_goes_17 (q := 18) rfl rfl rfl ?_
      refine v_iload_n h (i := 2) dX8_goes_18 (q := 19) rfl rfl rfl ?_
      refine v_callS1 h (c_X8_at hfl ) kX8_at rfl tw937 rfl rfl (by simp [Value.category]) (by decide) (Nat.zero_le _) (Nat.zero_le _) rfl dX8_goes_19 (q := 22) rfl ?_
      refine v_iald h (by assumption) rfl (by first | assumption | omega) (by decide) dX8_goes_22 (q := 23) rfl ?_
      refine v_iast h (by assumption) rfl (by first | assumption | omega) (by decide) dX8_goes_23 (q := 24) rfl ?_
      refine v_aload_n h (i := 0) dX8_goes_24 (q := 25) rfl rfl rfl ?_
      refine v_getr h fl_X8_71 (by assumption) rfl (by assumption) dX8_goes_25 (q := 28) rfl ?_
      refine v_iload_n h (i := 2) dX8_goes_28 (q := 29) rfl rfl rfl ?_
      refine v_iconst h (v := nI 0) dX8_goes_29 (q := 30) rfl (by decide +kernel) ?_
      refine v_iast h (by assumption) rfl (by first | assumption | omega) (by decide) dX8_goes_30 (q := 31) rfl ?_
      refine v_iinc h dX8_goes_31 (q := 34) rfl rfl pb_inc rfl ?_
      refine v_goto h dX8_goes_34 (tgt := 2) (by decide) ?_
      exact ih (i + 1) (by omega)
  exact lp 16 0 (by omega)
set_option maxHeartbeats 4000000 in
set_option maxRecDepth 100000 in
theorem c_X8_clears {l : Launch} (hfl : l.stackTraces = false) {sz : Nat} {sk : pb_Sk} {rf : pb_Rf} {sg : pb_Sg} {M : Nat} (hm : pb_md sk rf M) : pb_Met l mX8_clears 1 0 0 [.ref M] sz sk rf sg (pb_is none sz sk rf ((pb_fillN (pb_fillN sg (M + 21) 0 (-1) 16) (M + 22) 0 (-1) 2000))) := by
  refine pb_start hfl (by decide +kernel) rfl (pb_c1 rfl) (Nat.le_of_ble_eq_true rfl) (fun F hF h hQ => ?_)
  subst hF
  show pv F 0 0 sz sk rf sg 0 [some (.ref M), none] []
  obtain ⟨hM0, hr1, hk1, hr2, hk2, hr3, hk3, hr4, hk4, hr5, hk5, hr6, hk6, hr7, hk7, hr8, hk8, hr9, hk9, hr10, hk10, hr11, hk11, hr12, hk12, hr13, hk13, hr14, hk14, hr15, hk15, hr16, hk16, hr17, hk17, hr18, hk18, hr19, hk19, hr20, hk20, hr21, hk21, hr22, hk22, hr23, hk23, hr24, hk24⟩ := id hm
  refine v_iconst h (v := nI 0) dX8_clears_0 (q := 1) rfl (by decide +kernel) ?_
  refine v_istore_n h (i := 1) dX8_clears_1 (q := 2) rfl rfl (Nat.le_of_ble_eq_true rfl) rfl ?_
  have lp : ∀ (j i : Nat), i + j = 16 → pv F 0 0 sz sk rf (pb_fillN sg (M + 21) 0 (-1) i) 2 [some (.ref M), some (.int (nI i))] [] := by
    intro j
    induction j with
    | zero =>
      intro i  hi
      obtain rfl : i = 16 := by omega
      refine v_iload_n h (i := 1) dX8_clears_2 (q := 3) rfl rfl rfl ?_
      refine v_bipush h (v := nI 16) dX8_clears_3 (q := 5) rfl (by decide +kernel) ?_
      refine v_icmp_ge h dX8_clears_5 (q := 8) rfl (tgt := 21) (by decide) (fun c1 => ?_) (fun c1 => pb_kle (Nat.le_refl _) (by decide) c1)
      refine v_iconst h (v := nI 0) dX8_clears_21 (q := 22) rfl (by decide +kernel) ?_
      refine v_istore_n h (i := 1) dX8_clears_22 (q := 23) rfl rfl (Nat.le_of_ble_eq_true rfl) rfl ?_
      have lp : ∀ (j i : Nat), i + j = 2000 → pv F 0 0 sz sk rf (pb_fillN (pb_fillN sg (M + 21) 0 (-1) 16) (M + 22) 0 (-1) i) 23 [some (.ref M), some (.int (nI i))] [] := by
        intro j
        induction j with
        | zero =>
          intro i  hi
          obtain rfl : i = 2000 := by omega
          refine v_iload_n h (i := 1) dX8_clears_23 (q := 24) rfl rfl rfl ?_
          refine v_sipush h (v := nI 2000) dX8_clears_24 (q := 27) rfl (by decide +kernel) ?_
          refine v_icmp_ge h dX8_clears_27 (q := 30) rfl (tgt := 43) (by decide) (fun c2 => ?_) (fun c2 => pb_kle (Nat.le_refl _) (by decide) c2)
          refine v_vret h hQ rfl dX8_clears_43 (Nat.zero_le _) (Nat.zero_le _) ⟨rfl, rfl, rfl, rfl, rfl⟩
        | succ j ih =>
          intro i  hi
          have hi2 : i < 2000 := by omega
          refine v_iload_n h (i := 1) dX8_clears_23 (q := 24) rfl rfl rfl ?_
          refine v_sipush h (v := nI 2000) dX8_clears_24 (q := 27) rfl (by decide +kernel) ?_
          refine v_icmp_ge h dX8_clears_27 (q := 30) rfl (tgt := 43) (by decide) (fun c3 => pb_kge hi2 (by decide) c3) (fun c3 => ?_)
          refine v_aload_n h (i := 0) dX8_clears_30 (q := 31) rfl rfl rfl ?_
          refine v_getr h fl_X8_77 (by assumption) rfl (by assumption) dX8_clears_31 (q := 34) rfl ?_
          refine v_iload_n h (i := 1) dX8_clears_34 (q := 35) rfl rfl rfl ?_
          refine v_iconst h (v := (-1)) dX8_clears_35 (q := 36) rfl (by decide +kernel) ?_
          refine v_iast h (by assumption) (show nI i = nI (0 + i) by rw [Nat.zero_add]) (by omega) (by decide) dX8_clears_36 (q := 37) rfl ?_
          refine v_iinc h dX8_clears_37 (q := 40) rfl rfl pb_inc rfl ?_
          refine v_goto h dX8_clears_40 (tgt := 23) (by decide) ?_
          exact ih (i + 1) (by omega)
      exact lp 2000 0 (by omega)
    | succ j ih =>
      intro i  hi
      have hi2 : i < 16 := by omega
      refine v_iload_n h (i := 1) dX8_clears_2 (q := 3) rfl rfl rfl ?_
      refine v_bipush h (v := nI 16) dX8_clears_3 (q := 5) rfl (by decide +kernel) ?_
      refine v_icmp_ge h dX8_clears_5 (q := 8) rfl (tgt := 21) (by decide) (fun c4 => pb_kge hi2 (by decide) c4) (fun c4 => ?_)
      refine v_aload_n h (i := 0) dX8_clears_8 (q := 9) rfl rfl rfl ?_
      refine v_getr h fl_X8_74 (by assumption) rfl (by assumption) dX8_clears_9 (q := 12) rfl ?_
      refine v_iload_n h (i := 1) dX8_clears_12 (q := 13) rfl rfl rfl ?_
      refine v_iconst h (v := (-1)) dX8_clears_13 (q := 14) rfl (by decide +kernel) ?_
      refine v_iast h (by assumption) (show nI i = nI (0 + i) by rw [Nat.zero_add]) (by omega) (by decide) dX8_clears_14 (q := 15) rfl ?_
      refine v_iinc h dX8_clears_15 (q := 18) rfl rfl pb_inc rfl ?_
      refine v_goto h dX8_clears_18 (tgt := 2) (by decide) ?_
      exact ih (i + 1) (by omega)
  exact lp 16 0 (by omega)
def pb_mfd (sg : pb_Sg) (M b L : Nat) : Nat → pb_Sg
  | 0 => sg
  | n + 1 => pb_up (pb_mfd sg M b L n) (M + 23) n (pb_b (decide (pb_mh (pb_mfd sg M b L n) M (n / 400) (nI (n % 400)) L = nI b)))
theorem pb_mfd_ne {sg : pb_Sg} {M b L x : Nat} (h : x ≠ M + 23) (n : Nat) : pb_mfd sg M b L n x = sg x := by
  induction n with
  | zero => rfl
  | succ n ih => exact (pb_up_neA h).trans ih
theorem pb_d400 : ∀ i, i < 2000 → nI i / nI 400 = nI (i / 400) ∧ nI i - nI i / nI 400 * nI 400 = nI (i % 400) := by decide +kernel
set_option maxHeartbeats 4000000 in
set_option maxRecDepth 100000 in
theorem c_X8_finds {l : Launch} (hfl : l.stackTraces = false) {sz : Nat} {sk : pb_Sk} {rf : pb_Rf} {sg : pb_Sg} {M : Nat} (hm : pb_md sk rf M) {b L : Nat} (hb : b < 8) (hL : sg M 20 = nI L) (hL40 : L ≤ 40) : pb_Met l mX8_finds 3 0 0 [.ref M, .int (nI b)] sz sk rf sg (pb_is none sz sk rf (pb_mfd sg M b L 2000)) := by
  refine pb_start hfl (by decide +kernel) rfl (pb_c1 rfl) (Nat.le_of_ble_eq_true rfl) (fun F hF h hQ => ?_)
  subst hF
  show pv F 0 0 sz sk rf sg 0 [some (.ref M), some (.int (nI b)), none] []
  obtain ⟨hM0, hr1, hk1, hr2, hk2, hr3, hk3, hr4, hk4, hr5, hk5, hr6, hk6, hr7, hk7, hr8, hk8, hr9, hk9, hr10, hk10, hr11, hk11, hr12, hk12, hr13, hk13, hr14, hk14, hr15, hk15, hr16, hk16, hr17, hk17, hr18, hk18, hr19, hk19, hr20, hk20, hr21, hk21, hr22, hk22, hr23, hk23, hr24, hk24⟩ := id hm
  refine v_iconst h (v := nI 0) dX8_finds_0 (q := 1) rfl (by decide +kernel) ?_
  refine v_istore_n h (i := 2) dX8_finds_1 (q := 2) rfl rfl (Nat.le_of_ble_eq_true rfl) rfl ?_
  have lp : ∀ (j i : Nat), i + j = 2000 → pv F 0 0 sz sk rf (pb_mfd sg M b L i) 2 [some (.ref M), some (.int (nI b)), some (.int (nI i))] [] := by
    intro j
    induction j with
    | zero =>
      intro i  hi
      obtain rfl : i = 2000 := by omega
      refine v_iload_n h (i := 2) dX8_finds_2 (q := 3) rfl rfl rfl ?_
      refine v_sipush h (v := nI 2000) dX8_finds_3 (q := 6) rfl (by decide +kernel) ?_
      refine v_icmp_ge h dX8_finds_6 (q := 9) rfl (tgt := 44) (by decide) (fun c1 => ?_) (fun c1 => pb_kle (Nat.le_refl _) (by decide) c1)
      refine v_vret h hQ rfl dX8_finds_44 (Nat.zero_le _) (Nat.zero_le _) ⟨rfl, rfl, rfl, rfl, rfl⟩
    | succ j ih =>
      intro i  hi
      have hi2 : i < 2000 := by omega
      refine v_iload_n h (i := 2) dX8_finds_2 (q := 3) rfl rfl rfl ?_
      refine v_sipush h (v := nI 2000) dX8_finds_3 (q := 6) rfl (by decide +kernel) ?_
      refine v_icmp_ge h dX8_finds_6 (q := 9) rfl (tgt := 44) (by decide) (fun c2 => pb_kge hi2 (by decide) c2) (fun c2 => ?_)
      refine v_aload_n h (i := 0) dX8_finds_9 (q := 10) rfl rfl rfl ?_
      refine v_getr h fl_X8_80 (by assumption) rfl (by assumption) dX8_finds_10 (q := 13) rfl ?_
      refine v_iload_n h (i := 2) dX8_finds_13 (q := 14) rfl rfl rfl ?_
      refine v_aload_n h (i := 0) dX8_finds_14 (q := 15) rfl rfl rfl ?_
      refine v_iload_n h (i := 2) dX8_finds_15 (q := 16) rfl rfl rfl ?_
      refine v_sipush h (v := nI 400) dX8_finds_16 (q := 19) rfl (by decide +kernel) ?_
      refine v_idiv h dX8_finds_19 (q := 20) rfl (by decide) ?_
      refine v_eq (st' := [.int (nI (i / 400)), .ref M, .int (nI i), .ref (M + 23)]) (by rw [(pb_d400 i hi2).1]) ?_
      refine v_iload_n h (i := 2) dX8_finds_20 (q := 21) rfl rfl rfl ?_
      refine v_sipush h (v := nI 400) dX8_finds_21 (q := 24) rfl (by decide +kernel) ?_
      refine v_irem h dX8_finds_24 (q := 25) rfl (by decide) ?_
      refine v_eq (st' := [.int (nI (i % 400)), .int (nI (i / 400)), .ref M, .int (nI i), .ref (M + 23)]) (by rw [(pb_d400 i hi2).2]) ?_
      refine v_callV1 h (c_X8_holds hfl hm (show i / 400 < 5 by omega) (by rw [pb_mfd_ne (by omega)]; exact hL) hL40) kX8_holds tw1098 tw39 (by assumption) (by decide) rfl rfl rfl (by simp [Value.category]) (by decide) (Nat.zero_le _) (Nat.zero_le _) rfl dX8_finds_25 (q := 28) rfl ?_
      refine v_iload_n h (i := 1) dX8_finds_28 (q := 29) rfl rfl rfl ?_
      refine v_icmp_ne h dX8_finds_29 (q := 32) rfl (tgt := 36) (by decide) (fun c3 => ?_) (fun c3 => ?_)
      · skip
        have e8 : pb_b (decide (pb_mh (pb_mfd sg M b L i) M (i / 400) (nI (i % 400)) L = nI b)) = nI 0 := by rw [decide_eq_false c3]; rfl
        refine v_iconst h (v := nI 0) dX8_finds_36 (q := 37) rfl (by decide +kernel) ?_
        refine v_zast h (by assumption) rfl (by first | assumption | omega) (by decide) (by decide) dX8_finds_37 (q := 38) rfl ?_
        refine v_sg (sg' := pb_mfd sg M b L (i + 1)) (by rw [← e8]; rfl) ?_
        refine v_iinc h dX8_finds_38 (q := 41) rfl rfl pb_inc rfl ?_
        refine v_goto h dX8_finds_41 (tgt := 2) (by decide) ?_
        exact ih (i + 1) (by omega)
      · skip
        have e8 : pb_b (decide (pb_mh (pb_mfd sg M b L i) M (i / 400) (nI (i % 400)) L = nI b)) = nI 1 := by rw [decide_eq_true c3]; rfl
        refine v_iconst h (v := nI 1) dX8_finds_32 (q := 33) rfl (by decide +kernel) ?_
        refine v_goto h dX8_finds_33 (tgt := 37) (by decide) ?_
        refine v_zast h (by assumption) rfl (by first | assumption | omega) (by decide) (by decide) dX8_finds_37 (q := 38) rfl ?_
        refine v_sg (sg' := pb_mfd sg M b L (i + 1)) (by rw [← e8]; rfl) ?_
        refine v_iinc h dX8_finds_38 (q := 41) rfl rfl pb_inc rfl ?_
        refine v_goto h dX8_finds_41 (tgt := 2) (by decide) ?_
        exact ih (i + 1) (by omega)
  exact lp 2000 0 (by omega)
def pb_mrd (sg : pb_Sg) (M q t : Nat) : Nat → Bool
  | 0 => true
  | n + 1 => pb_mrd sg M q t n && (!pb_in (sg (M + 4) (16 * q + t)) n || !decide (sg (M + 21) n = -1))
set_option maxHeartbeats 4000000 in
set_option maxRecDepth 100000 in
theorem c_X8_isReady {l : Launch} (hfl : l.stackTraces = false) {sz : Nat} {sk : pb_Sk} {rf : pb_Rf} {sg : pb_Sg} {M : Nat} (hm : pb_md sk rf M) {q t : Nat} (hq : q < 17) (ht : t < 16) : pb_Met l mX8_isReady 3 0 0 [.ref M, .int (nI q), .int (nI t)] sz sk rf sg (pb_is (some (.int (pb_b (pb_mrd sg M q t 16)))) sz sk rf sg) := by
  refine pb_start hfl (by decide +kernel) rfl (pb_c1 rfl) (Nat.le_of_ble_eq_true rfl) (fun F hF h hQ => ?_)
  subst hF
  show pv F 0 0 sz sk rf sg 0 [some (.ref M), some (.int (nI q)), some (.int (nI t)), none, none] []
  obtain ⟨hM0, hr1, hk1, hr2, hk2, hr3, hk3, hr4, hk4, hr5, hk5, hr6, hk6, hr7, hk7, hr8, hk8, hr9, hk9, hr10, hk10, hr11, hk11, hr12, hk12, hr13, hk13, hr14, hk14, hr15, hk15, hr16, hk16, hr17, hk17, hr18, hk18, hr19, hk19, hr20, hk20, hr21, hk21, hr22, hk22, hr23, hk23, hr24, hk24⟩ := id hm
  refine v_iconst h (v := nI 1) dX8_isReady_0 (q := 1) rfl (by decide +kernel) ?_
  refine v_istore_n h (i := 3) dX8_isReady_1 (q := 2) rfl rfl (Nat.le_of_ble_eq_true rfl) rfl ?_
  refine v_iconst h (v := nI 0) dX8_isReady_2 (q := 3) rfl (by decide +kernel) ?_
  refine v_istore h dX8_isReady_3 (q := 5) rfl (Nat.le_of_ble_eq_true rfl) rfl ?_
  have lp : ∀ (j i : Nat), i + j = 16 → pv F 0 0 sz sk rf sg 5 [some (.ref M), some (.int (nI q)), some (.int (nI t)), some (.int (pb_b (pb_mrd sg M q t i))), some (.int (nI i))] [] := by
    intro j
    induction j with
    | zero =>
      intro i  hi
      obtain rfl : i = 16 := by omega
      refine v_iload h dX8_isReady_5 (q := 7) rfl rfl ?_
      refine v_bipush h (v := nI 16) dX8_isReady_7 (q := 9) rfl (by decide +kernel) ?_
      refine v_icmp_ge h dX8_isReady_9 (q := 12) rfl (tgt := 50) (by decide) (fun c1 => ?_) (fun c1 => pb_kle (Nat.le_refl _) (by decide) c1)
      refine v_iload_n h (i := 3) dX8_isReady_50 (q := 51) rfl rfl rfl ?_
      refine v_iret h hQ rfl (by first | exact rfl | exact pb_b_nar _) dX8_isReady_51 (Nat.zero_le _) (Nat.zero_le _) ⟨rfl, rfl, rfl, rfl, rfl⟩
    | succ j ih =>
      intro i  hi
      have hi2 : i < 16 := by omega
      refine v_iload h dX8_isReady_5 (q := 7) rfl rfl ?_
      refine v_bipush h (v := nI 16) dX8_isReady_7 (q := 9) rfl (by decide +kernel) ?_
      refine v_icmp_ge h dX8_isReady_9 (q := 12) rfl (tgt := 50) (by decide) (fun c2 => pb_kge hi2 (by decide) c2) (fun c2 => ?_)
      refine v_iload_n h (i := 3) dX8_isReady_12 (q := 13) rfl rfl rfl ?_
      refine v_if_eq h dX8_isReady_13 (q := 16) rfl (tgt := 42) (by decide) (fun c3 => ?_) (fun c3 => ?_)
      · skip
        have e1 := pb_b_0.mp c3
        have e9 : pb_b (pb_mrd sg M q t (i + 1)) = nI 0 := by unfold pb_mrd; simp only [e1]; rfl
        refine v_iconst h (v := nI 0) dX8_isReady_42 (q := 43) rfl (by decide +kernel) ?_
        refine v_istore_n h (i := 3) dX8_isReady_43 (q := 44) rfl rfl (Nat.le_of_ble_eq_true rfl) rfl ?_
        refine v_iinc h dX8_isReady_44 (q := 47) rfl rfl pb_inc rfl ?_
        refine v_goto h dX8_isReady_47 (tgt := 5) (by decide) ?_
        have h9 := ih (i + 1) (by omega)
        rw [e9] at h9
        exact h9
      · skip
        have e1 := pb_ne_f (fun q => c3 (pb_b_0.mpr q))
        refine v_aload_n h (i := 0) dX8_isReady_16 (q := 17) rfl rfl rfl ?_
        refine v_iload_n h (i := 1) dX8_isReady_17 (q := 18) rfl rfl rfl ?_
        refine v_iload_n h (i := 2) dX8_isReady_18 (q := 19) rfl rfl rfl ?_
        refine v_iload h dX8_isReady_19 (q := 21) rfl rfl ?_
        refine v_callV1 h (c_X8_doesNeed hfl hm hq ht hi2) kX8_doesNeed tw956 tw19 (by assumption) (by decide) rfl rfl rfl (by simp [Value.category]) (by decide) (Nat.zero_le _) (Nat.zero_le _) rfl dX8_isReady_21 (q := 24) rfl ?_
        refine v_if_eq h dX8_isReady_24 (q := 27) rfl (tgt := 38) (by decide) (fun c4 => ?_) (fun c4 => ?_)
        · skip
          have e2 := pb_b_0.mp c4
          have e9 : pb_b (pb_mrd sg M q t (i + 1)) = nI 1 := by unfold pb_mrd; simp only [e1, e2]; rfl
          refine v_iconst h (v := nI 1) dX8_isReady_38 (q := 39) rfl (by decide +kernel) ?_
          refine v_goto h dX8_isReady_39 (tgt := 43) (by decide) ?_
          refine v_istore_n h (i := 3) dX8_isReady_43 (q := 44) rfl rfl (Nat.le_of_ble_eq_true rfl) rfl ?_
          refine v_iinc h dX8_isReady_44 (q := 47) rfl rfl pb_inc rfl ?_
          refine v_goto h dX8_isReady_47 (tgt := 5) (by decide) ?_
          have h9 := ih (i + 1) (by omega)
          rw [e9] at h9
          exact h9
        · skip
          have e2 := pb_ne_f (fun q => c4 (pb_b_0.mpr q))
          refine v_aload_n h (i := 0) dX8_isReady_27 (q := 28) rfl rfl rfl ?_
          refine v_getr h fl_X8_74 (by assumption) rfl (by assumption) dX8_isReady_28 (q := 31) rfl ?_
          refine v_iload h dX8_isReady_31 (q := 33) rfl rfl ?_
          refine v_iald h (by assumption) rfl (by first | assumption | omega) (by decide) dX8_isReady_33 (q := 34) rfl ?_
          refine v_iconst h (v := (-1)) dX8_isReady_34 (q := 35) rfl (by decide +kernel) ?_
          refine v_icmp_eq h dX8_isReady_35 (q := 38) rfl (tgt := 42) (by decide) (fun c5 => ?_) (fun c5 => ?_)
          · skip
            have e3 := decide_eq_true c5
            have e9 : pb_b (pb_mrd sg M q t (i + 1)) = nI 0 := by unfold pb_mrd; simp only [e1, e2, e3]; rfl
            refine v_iconst h (v := nI 0) dX8_isReady_42 (q := 43) rfl (by decide +kernel) ?_
            refine v_istore_n h (i := 3) dX8_isReady_43 (q := 44) rfl rfl (Nat.le_of_ble_eq_true rfl) rfl ?_
            refine v_iinc h dX8_isReady_44 (q := 47) rfl rfl pb_inc rfl ?_
            refine v_goto h dX8_isReady_47 (tgt := 5) (by decide) ?_
            have h9 := ih (i + 1) (by omega)
            rw [e9] at h9
            exact h9
          · skip
            have e3 := decide_eq_false c5
            have e9 : pb_b (pb_mrd sg M q t (i + 1)) = nI 1 := by unfold pb_mrd; simp only [e1, e2, e3]; rfl
            refine v_iconst h (v := nI 1) dX8_isReady_38 (q := 39) rfl (by decide +kernel) ?_
            refine v_goto h dX8_isReady_39 (tgt := 43) (by decide) ?_
            refine v_istore_n h (i := 3) dX8_isReady_43 (q := 44) rfl rfl (Nat.le_of_ble_eq_true rfl) rfl ?_
            refine v_iinc h dX8_isReady_44 (q := 47) rfl rfl pb_inc rfl ?_
            refine v_goto h dX8_isReady_47 (tgt := 5) (by decide) ?_
            have h9 := ih (i + 1) (by omega)
            rw [e9] at h9
            exact h9
  exact lp 16 0 (by omega)
def pb_mle (sg : pb_Sg) (M q n : Nat) : Int32 := if sg (M + 21) n = -1 then -1 else sg (M + 21) n + sg (M + 1) (16 * q + n) - nI 1
def pb_mlast (sg : pb_Sg) (M q : Nat) : Nat → Int32
  | 0 => -1
  | n + 1 => pb_mx (pb_mlast sg M q n) (pb_mle sg M q n)
set_option maxHeartbeats 4000000 in
set_option maxRecDepth 100000 in
theorem c_X8_last {l : Launch} (hfl : l.stackTraces = false) {sz : Nat} {sk : pb_Sk} {rf : pb_Rf} {sg : pb_Sg} {M : Nat} (hm : pb_md sk rf M) {q : Nat} (hq : q < 17) : pb_Met l mX8_last 2 0 0 [.ref M, .int (nI q)] sz sk rf sg (pb_is (some (.int (pb_mlast sg M q 16))) sz sk rf sg) := by
  refine pb_start hfl (by decide +kernel) rfl (pb_c1 rfl) (Nat.le_of_ble_eq_true rfl) (fun F hF h hQ => ?_)
  subst hF
  show pv F 0 0 sz sk rf sg 0 [some (.ref M), some (.int (nI q)), none, none, none] []
  obtain ⟨hM0, hr1, hk1, hr2, hk2, hr3, hk3, hr4, hk4, hr5, hk5, hr6, hk6, hr7, hk7, hr8, hk8, hr9, hk9, hr10, hk10, hr11, hk11, hr12, hk12, hr13, hk13, hr14, hk14, hr15, hk15, hr16, hk16, hr17, hk17, hr18, hk18, hr19, hk19, hr20, hk20, hr21, hk21, hr22, hk22, hr23, hk23, hr24, hk24⟩ := id hm
  refine v_iconst h (v := (-1)) dX8_last_0 (q := 1) rfl (by decide +kernel) ?_
  refine v_istore_n h (i := 2) dX8_last_1 (q := 2) rfl rfl (Nat.le_of_ble_eq_true rfl) rfl ?_
  refine v_iconst h (v := nI 0) dX8_last_2 (q := 3) rfl (by decide +kernel) ?_
  refine v_istore_n h (i := 3) dX8_last_3 (q := 4) rfl rfl (Nat.le_of_ble_eq_true rfl) rfl ?_
  have lp : ∀ (j i : Nat), i + j = 16 → pv F 0 0 sz sk rf sg 4 [some (.ref M), some (.int (nI q)), some (.int (pb_mlast sg M q i)), some (.int (nI i)), none] [] := by
    intro j
    induction j with
    | zero =>
      intro i  hi
      obtain rfl : i = 16 := by omega
      refine v_iload_n h (i := 3) dX8_last_4 (q := 5) rfl rfl rfl ?_
      refine v_bipush h (v := nI 16) dX8_last_5 (q := 7) rfl (by decide +kernel) ?_
      refine v_icmp_ge h dX8_last_7 (q := 10) rfl (tgt := 64) (by decide) (fun c1 => ?_) (fun c1 => pb_kle (Nat.le_refl _) (by decide) c1)
      refine v_iload_n h (i := 2) dX8_last_64 (q := 65) rfl rfl rfl ?_
      refine v_iret h hQ rfl rfl dX8_last_65 (Nat.zero_le _) (Nat.zero_le _) ⟨rfl, rfl, rfl, rfl, rfl⟩
    | succ j ih =>
      intro i  hi
      have hi2 : i < 16 := by omega
      refine v_iload_n h (i := 3) dX8_last_4 (q := 5) rfl rfl rfl ?_
      refine v_bipush h (v := nI 16) dX8_last_5 (q := 7) rfl (by decide +kernel) ?_
      refine v_icmp_ge h dX8_last_7 (q := 10) rfl (tgt := 64) (by decide) (fun c2 => pb_kge hi2 (by decide) c2) (fun c2 => ?_)
      refine v_aload_n h (i := 0) dX8_last_10 (q := 11) rfl rfl rfl ?_
      refine v_getr h fl_X8_74 (by assumption) rfl (by assumption) dX8_last_11 (q := 14) rfl ?_
      refine v_iload_n h (i := 3) dX8_last_14 (q := 15) rfl rfl rfl ?_
      refine v_iald h (by assumption) rfl (by first | assumption | omega) (by decide) dX8_last_15 (q := 16) rfl ?_
      refine v_iconst h (v := (-1)) dX8_last_16 (q := 17) rfl (by decide +kernel) ?_
      refine v_icmp_ne h dX8_last_17 (q := 20) rfl (tgt := 24) (by decide) (fun c3 => ?_) (fun c3 => ?_)
      · skip
        have e1 : pb_mle sg M q i = sg (M + 21) i + sg (M + 1) (16 * q + i) - nI 1 := if_neg c3
        refine v_aload_n h (i := 0) dX8_last_24 (q := 25) rfl rfl rfl ?_
        refine v_getr h fl_X8_74 (by assumption) rfl (by assumption) dX8_last_25 (q := 28) rfl ?_
        refine v_iload_n h (i := 3) dX8_last_28 (q := 29) rfl rfl rfl ?_
        refine v_iald h (by assumption) rfl (by first | assumption | omega) (by decide) dX8_last_29 (q := 30) rfl ?_
        refine v_aload_n h (i := 0) dX8_last_30 (q := 31) rfl rfl rfl ?_
        refine v_getr h fl_X8_7 (by assumption) rfl (by assumption) dX8_last_31 (q := 34) rfl ?_
        refine v_iload_n h (i := 1) dX8_last_34 (q := 35) rfl rfl rfl ?_
        refine v_iload_n h (i := 3) dX8_last_35 (q := 36) rfl rfl rfl ?_
        refine v_callS1 h (c_X8_at hfl ) kX8_at rfl tw937 rfl rfl (by simp [Value.category]) (by decide) (Nat.zero_le _) (Nat.zero_le _) rfl dX8_last_36 (q := 39) rfl ?_
        refine v_iald h (by assumption) rfl (by first | assumption | omega) (by decide) dX8_last_39 (q := 40) rfl ?_
        refine v_iadd h dX8_last_40 (q := 41) rfl ?_
        refine v_iconst h (v := nI 1) dX8_last_41 (q := 42) rfl (by decide +kernel) ?_
        refine v_isub h dX8_last_42 (q := 43) rfl ?_
        refine v_eq (st' := [.int (pb_mle sg M q i)]) (by rw [e1]) ?_
        refine v_istore h dX8_last_43 (q := 45) rfl (Nat.le_of_ble_eq_true rfl) rfl ?_
        refine v_iload h dX8_last_45 (q := 47) rfl rfl ?_
        refine v_iload_n h (i := 2) dX8_last_47 (q := 48) rfl rfl rfl ?_
        refine v_icmp_le h dX8_last_48 (q := 51) rfl (tgt := 56) (by decide) (fun c4 => ?_) (fun c4 => ?_)
        · skip
          have e9 : pb_mlast sg M q (i + 1) = pb_mlast sg M q i := pb_mx_le c4
          refine v_iload_n h (i := 2) dX8_last_56 (q := 57) rfl rfl rfl ?_
          refine v_istore_n h (i := 2) dX8_last_57 (q := 58) rfl rfl (Nat.le_of_ble_eq_true rfl) rfl ?_
          refine v_iinc h dX8_last_58 (q := 61) rfl rfl pb_inc rfl ?_
          refine v_goto h dX8_last_61 (tgt := 4) (by decide) ?_
          have h9 := ih (i + 1) (by omega)
          rw [e9] at h9
          exact v_wk (by simp [pb_wk]) h9
        · skip
          have e9 : pb_mlast sg M q (i + 1) = pb_mle sg M q i := pb_mx_gt c4
          refine v_iload h dX8_last_51 (q := 53) rfl rfl ?_
          refine v_goto h dX8_last_53 (tgt := 57) (by decide) ?_
          refine v_istore_n h (i := 2) dX8_last_57 (q := 58) rfl rfl (Nat.le_of_ble_eq_true rfl) rfl ?_
          refine v_iinc h dX8_last_58 (q := 61) rfl rfl pb_inc rfl ?_
          refine v_goto h dX8_last_61 (tgt := 4) (by decide) ?_
          have h9 := ih (i + 1) (by omega)
          rw [e9] at h9
          exact v_wk (by simp [pb_wk]) h9
      · skip
        have e1 : pb_mle sg M q i = -1 := if_pos c3
        refine v_iconst h (v := (-1)) dX8_last_20 (q := 21) rfl (by decide +kernel) ?_
        refine v_goto h dX8_last_21 (tgt := 43) (by decide) ?_
        refine v_eq (st' := [.int (pb_mle sg M q i)]) (by rw [e1]) ?_
        refine v_istore h dX8_last_43 (q := 45) rfl (Nat.le_of_ble_eq_true rfl) rfl ?_
        refine v_iload h dX8_last_45 (q := 47) rfl rfl ?_
        refine v_iload_n h (i := 2) dX8_last_47 (q := 48) rfl rfl rfl ?_
        refine v_icmp_le h dX8_last_48 (q := 51) rfl (tgt := 56) (by decide) (fun c5 => ?_) (fun c5 => ?_)
        · skip
          have e9 : pb_mlast sg M q (i + 1) = pb_mlast sg M q i := pb_mx_le c5
          refine v_iload_n h (i := 2) dX8_last_56 (q := 57) rfl rfl rfl ?_
          refine v_istore_n h (i := 2) dX8_last_57 (q := 58) rfl rfl (Nat.le_of_ble_eq_true rfl) rfl ?_
          refine v_iinc h dX8_last_58 (q := 61) rfl rfl pb_inc rfl ?_
          refine v_goto h dX8_last_61 (tgt := 4) (by decide) ?_
          have h9 := ih (i + 1) (by omega)
          rw [e9] at h9
          exact v_wk (by simp [pb_wk]) h9
        · skip
          have e9 : pb_mlast sg M q (i + 1) = pb_mle sg M q i := pb_mx_gt c5
          refine v_iload h dX8_last_51 (q := 53) rfl rfl ?_
          refine v_goto h dX8_last_53 (tgt := 57) (by decide) ?_
          refine v_istore_n h (i := 2) dX8_last_57 (q := 58) rfl rfl (Nat.le_of_ble_eq_true rfl) rfl ?_
          refine v_iinc h dX8_last_58 (q := 61) rfl rfl pb_inc rfl ?_
          refine v_goto h dX8_last_61 (tgt := 4) (by decide) ?_
          have h9 := ih (i + 1) (by omega)
          rw [e9] at h9
          exact v_wk (by simp [pb_wk]) h9
  exact lp 16 0 (by omega)
