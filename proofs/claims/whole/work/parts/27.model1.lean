def pb_md (sk : pb_Sk) (rf : pb_Rf) (M : Nat) : Prop := sk M = (14, 0) ∧ rf M 1 = some (M + 1) ∧ sk (M + 1) = (1, 272) ∧ rf M 2 = some (M + 2) ∧ sk (M + 2) = (1, 272) ∧ rf M 3 = some (M + 3) ∧ sk (M + 3) = (1, 272) ∧ rf M 4 = some (M + 4) ∧ sk (M + 4) = (1, 272) ∧ rf M 5 = some (M + 5) ∧ sk (M + 5) = (1, 8) ∧ rf M 6 = some (M + 6) ∧ sk (M + 6) = (1, 8) ∧ rf M 7 = some (M + 7) ∧ sk (M + 7) = (1, 128) ∧ rf M 9 = some (M + 8) ∧ sk (M + 8) = (1, 240) ∧ rf M 10 = some (M + 9) ∧ sk (M + 9) = (1, 240) ∧ rf M 11 = some (M + 10) ∧ sk (M + 10) = (1, 240) ∧ rf M 12 = some (M + 11) ∧ sk (M + 11) = (1, 240) ∧ rf M 13 = some (M + 12) ∧ sk (M + 12) = (1, 240) ∧ rf M 14 = some (M + 13) ∧ sk (M + 13) = (1, 8) ∧ rf M 15 = some (M + 14) ∧ sk (M + 14) = (1, 5) ∧ rf M 16 = some (M + 15) ∧ sk (M + 15) = (1, 40) ∧ rf M 17 = some (M + 16) ∧ sk (M + 16) = (1, 40) ∧ rf M 18 = some (M + 17) ∧ sk (M + 17) = (1, 40) ∧ rf M 19 = some (M + 18) ∧ sk (M + 18) = (1, 40) ∧ rf M 21 = some (M + 19) ∧ sk (M + 19) = (1, 16) ∧ rf M 22 = some (M + 20) ∧ sk (M + 20) = (1, 16) ∧ rf M 23 = some (M + 21) ∧ sk (M + 21) = (1, 16) ∧ rf M 24 = some (M + 22) ∧ sk (M + 22) = (1, 2000) ∧ rf M 25 = some (M + 23) ∧ sk (M + 23) = (2, 2000) ∧ rf M 26 = some (M + 24) ∧ sk (M + 24) = (1, 6)
theorem nI_mul (a b : Nat) : nI a * nI b = nI (a * b) := (Int32.ofNat_mul a b).symm
theorem pb_n1 {n : Nat} (h : 1 ≤ n) : nI n - nI 1 = nI (n - 1) := by
  obtain ⟨m, rfl⟩ : ∃ m, n = m + 1 := ⟨n - 1, by omega⟩
  exact nI_pred m
theorem pb_rngN {x : Int32} {m : Nat} (hm : m < 2147483648) (h : ¬ ∃ j, j ≤ m ∧ x = nI j) : ¬ (nI 0 ≤ x ∧ x ≤ nI m) := fun q => h (nI_of2 (nI_toInt hm) (Int32.not_lt.mpr q.1) q.2)
theorem pb_rngY {j m : Nat} (h : j ≤ m) (hm : m < 2147483648) : nI 0 ≤ nI j ∧ nI j ≤ nI m := ⟨nI_le (Nat.zero_le j) (by omega), nI_le h hm⟩
theorem pb_wrU {sg : pb_Sg} {a k : Nat} {x : Int32} : pb_up sg a k x a = va_up (sg a) k x := by
  funext j
  rw [pb_up_at]
  unfold va_up
  by_cases e : j = k
  · rw [if_pos ⟨rfl, e⟩, if_pos e]
  · rw [if_neg (fun q => e q.2), if_neg e]
theorem pb_up_neA {sg : pb_Sg} {a k b : Nat} {x : Int32} (h : b ≠ a) : pb_up sg a k x b = sg b := by
  funext j
  exact pb_up_ne2 h
theorem dX8_thrown_0 : decode cX8_thrown 0 = .ok (.aload_n 0, 1) := by decide +kernel
theorem dX8_thrown_1 : decode cX8_thrown 1 = .ok (.getfield 88, 3) := by decide +kernel
theorem dX8_thrown_4 : decode cX8_thrown 4 = .ok (.ireturn, 1) := by decide +kernel
theorem dX8_isFine_0 : decode cX8_isFine 0 = .ok (.aload_n 0, 1) := by decide +kernel
theorem dX8_isFine_1 : decode cX8_isFine 1 = .ok (.iload_n 1, 1) := by decide +kernel
theorem dX8_isFine_2 : decode cX8_isFine 2 = .ok (.putfield 88, 3) := by decide +kernel
theorem dX8_isFine_5 : decode cX8_isFine 5 = .ok (.iload_n 1, 1) := by decide +kernel
theorem dX8_isFine_6 : decode cX8_isFine 6 = .ok (.ifCond .ne 7, 3) := by decide +kernel
theorem dX8_isFine_9 : decode cX8_isFine 9 = .ok (.iconst 1, 1) := by decide +kernel
theorem dX8_isFine_10 : decode cX8_isFine 10 = .ok (.goto 4, 3) := by decide +kernel
theorem dX8_isFine_13 : decode cX8_isFine 13 = .ok (.iconst 0, 1) := by decide +kernel
theorem dX8_isFine_14 : decode cX8_isFine 14 = .ok (.ireturn, 1) := by decide +kernel
theorem dX8_isIn_0 : decode cX8_isIn 0 = .ok (.iload_n 0, 1) := by decide +kernel
theorem dX8_isIn_1 : decode cX8_isIn 1 = .ok (.iload_n 1, 1) := by decide +kernel
theorem dX8_isIn_2 : decode cX8_isIn 2 = .ok (.if_icmp .lt 12, 3) := by decide +kernel
theorem dX8_isIn_5 : decode cX8_isIn 5 = .ok (.iload_n 0, 1) := by decide +kernel
theorem dX8_isIn_6 : decode cX8_isIn 6 = .ok (.iload_n 2, 1) := by decide +kernel
theorem dX8_isIn_7 : decode cX8_isIn 7 = .ok (.if_icmp .gt 7, 3) := by decide +kernel
theorem dX8_isIn_10 : decode cX8_isIn 10 = .ok (.iconst 1, 1) := by decide +kernel
theorem dX8_isIn_11 : decode cX8_isIn 11 = .ok (.goto 4, 3) := by decide +kernel
theorem dX8_isIn_14 : decode cX8_isIn 14 = .ok (.iconst 0, 1) := by decide +kernel
theorem dX8_isIn_15 : decode cX8_isIn 15 = .ok (.ireturn, 1) := by decide +kernel
theorem dX8_isBranch_0 : decode cX8_isBranch 0 = .ok (.iload_n 1, 1) := by decide +kernel
theorem dX8_isBranch_1 : decode cX8_isBranch 1 = .ok (.iconst 0, 1) := by decide +kernel
theorem dX8_isBranch_2 : decode cX8_isBranch 2 = .ok (.aload_n 0, 1) := by decide +kernel
theorem dX8_isBranch_3 : decode cX8_isBranch 3 = .ok (.getfield 31, 3) := by decide +kernel
theorem dX8_isBranch_6 : decode cX8_isBranch 6 = .ok (.iconst 1, 1) := by decide +kernel
theorem dX8_isBranch_7 : decode cX8_isBranch 7 = .ok (.isub, 1) := by decide +kernel
theorem dX8_isBranch_8 : decode cX8_isBranch 8 = .ok (.invokestatic 91, 3) := by decide +kernel
theorem dX8_isBranch_11 : decode cX8_isBranch 11 = .ok (.ireturn, 1) := by decide +kernel
theorem dX8_isTask_0 : decode cX8_isTask 0 = .ok (.iload_n 0, 1) := by decide +kernel
theorem dX8_isTask_1 : decode cX8_isTask 1 = .ok (.iconst 0, 1) := by decide +kernel
theorem dX8_isTask_2 : decode cX8_isTask 2 = .ok (.bipush 15, 2) := by decide +kernel
theorem dX8_isTask_4 : decode cX8_isTask 4 = .ok (.invokestatic 91, 3) := by decide +kernel
theorem dX8_isTask_7 : decode cX8_isTask 7 = .ok (.ireturn, 1) := by decide +kernel
theorem dX8_at_0 : decode cX8_at 0 = .ok (.bipush 16, 2) := by decide +kernel
theorem dX8_at_2 : decode cX8_at 2 = .ok (.iload_n 0, 1) := by decide +kernel
theorem dX8_at_3 : decode cX8_at 3 = .ok (.imul, 1) := by decide +kernel
theorem dX8_at_4 : decode cX8_at 4 = .ok (.iload_n 1, 1) := by decide +kernel
theorem dX8_at_5 : decode cX8_at 5 = .ok (.iadd, 1) := by decide +kernel
theorem dX8_at_6 : decode cX8_at 6 = .ok (.ireturn, 1) := by decide +kernel
theorem dX8_isThere_0 : decode cX8_isThere 0 = .ok (.aload_n 0, 1) := by decide +kernel
theorem dX8_isThere_1 : decode cX8_isThere 1 = .ok (.getfield 7, 3) := by decide +kernel
theorem dX8_isThere_4 : decode cX8_isThere 4 = .ok (.iload_n 1, 1) := by decide +kernel
theorem dX8_isThere_5 : decode cX8_isThere 5 = .ok (.iload_n 2, 1) := by decide +kernel
theorem dX8_isThere_6 : decode cX8_isThere 6 = .ok (.invokestatic 95, 3) := by decide +kernel
theorem dX8_isThere_9 : decode cX8_isThere 9 = .ok (.iaload, 1) := by decide +kernel
theorem dX8_isThere_10 : decode cX8_isThere 10 = .ok (.ifCond .le 7, 3) := by decide +kernel
theorem dX8_isThere_13 : decode cX8_isThere 13 = .ok (.iconst 1, 1) := by decide +kernel
theorem dX8_isThere_14 : decode cX8_isThere 14 = .ok (.goto 4, 3) := by decide +kernel
theorem dX8_isThere_17 : decode cX8_isThere 17 = .ok (.iconst 0, 1) := by decide +kernel
theorem dX8_isThere_18 : decode cX8_isThere 18 = .ok (.ireturn, 1) := by decide +kernel
theorem dX8_doesNeed_0 : decode cX8_doesNeed 0 = .ok (.aload_n 0, 1) := by decide +kernel
theorem dX8_doesNeed_1 : decode cX8_doesNeed 1 = .ok (.getfield 19, 3) := by decide +kernel
theorem dX8_doesNeed_4 : decode cX8_doesNeed 4 = .ok (.iload_n 1, 1) := by decide +kernel
theorem dX8_doesNeed_5 : decode cX8_doesNeed 5 = .ok (.iload_n 2, 1) := by decide +kernel
theorem dX8_doesNeed_6 : decode cX8_doesNeed 6 = .ok (.invokestatic 95, 3) := by decide +kernel
theorem dX8_doesNeed_9 : decode cX8_doesNeed 9 = .ok (.iaload, 1) := by decide +kernel
theorem dX8_doesNeed_10 : decode cX8_doesNeed 10 = .ok (.iload_n 3, 1) := by decide +kernel
theorem dX8_doesNeed_11 : decode cX8_doesNeed 11 = .ok (.ishr, 1) := by decide +kernel
theorem dX8_doesNeed_12 : decode cX8_doesNeed 12 = .ok (.iconst 1, 1) := by decide +kernel
theorem dX8_doesNeed_13 : decode cX8_doesNeed 13 = .ok (.iand, 1) := by decide +kernel
theorem dX8_doesNeed_14 : decode cX8_doesNeed 14 = .ok (.iconst 1, 1) := by decide +kernel
theorem dX8_doesNeed_15 : decode cX8_doesNeed 15 = .ok (.if_icmp .ne 7, 3) := by decide +kernel
theorem dX8_doesNeed_18 : decode cX8_doesNeed 18 = .ok (.iconst 1, 1) := by decide +kernel
theorem dX8_doesNeed_19 : decode cX8_doesNeed 19 = .ok (.goto 4, 3) := by decide +kernel
theorem dX8_doesNeed_22 : decode cX8_doesNeed 22 = .ok (.iconst 0, 1) := by decide +kernel
theorem dX8_doesNeed_23 : decode cX8_doesNeed 23 = .ok (.ireturn, 1) := by decide +kernel
theorem dX8_keeps_0 : decode cX8_keeps 0 = .ok (.aload_n 0, 1) := by decide +kernel
theorem dX8_keeps_1 : decode cX8_keeps 1 = .ok (.getfield 50, 3) := by decide +kernel
theorem dX8_keeps_4 : decode cX8_keeps 4 = .ok (.iload_n 1, 1) := by decide +kernel
theorem dX8_keeps_5 : decode cX8_keeps 5 = .ok (.iaload, 1) := by decide +kernel
theorem dX8_keeps_6 : decode cX8_keeps 6 = .ok (.bipush 30, 2) := by decide +kernel
theorem dX8_keeps_8 : decode cX8_keeps 8 = .ok (.if_icmp .ne 107, 3) := by decide +kernel
theorem dX8_keeps_11 : decode cX8_keeps 11 = .ok (.bipush 30, 2) := by decide +kernel
theorem dX8_keeps_13 : decode cX8_keeps 13 = .ok (.iload_n 1, 1) := by decide +kernel
theorem dX8_keeps_14 : decode cX8_keeps 14 = .ok (.imul, 1) := by decide +kernel
theorem dX8_keeps_15 : decode cX8_keeps 15 = .ok (.istore_n 3, 1) := by decide +kernel
theorem dX8_keeps_16 : decode cX8_keeps 16 = .ok (.iload_n 3, 1) := by decide +kernel
theorem dX8_keeps_17 : decode cX8_keeps 17 = .ok (.bipush 30, 2) := by decide +kernel
theorem dX8_keeps_19 : decode cX8_keeps 19 = .ok (.iload_n 1, 1) := by decide +kernel
theorem dX8_keeps_20 : decode cX8_keeps 20 = .ok (.imul, 1) := by decide +kernel
theorem dX8_keeps_21 : decode cX8_keeps 21 = .ok (.bipush 30, 2) := by decide +kernel
theorem dX8_keeps_23 : decode cX8_keeps 23 = .ok (.iadd, 1) := by decide +kernel
theorem dX8_keeps_24 : decode cX8_keeps 24 = .ok (.iconst 1, 1) := by decide +kernel
theorem dX8_keeps_25 : decode cX8_keeps 25 = .ok (.isub, 1) := by decide +kernel
theorem dX8_keeps_26 : decode cX8_keeps 26 = .ok (.if_icmp .ge 79, 3) := by decide +kernel
theorem dX8_keeps_29 : decode cX8_keeps 29 = .ok (.aload_n 0, 1) := by decide +kernel
theorem dX8_keeps_30 : decode cX8_keeps 30 = .ok (.getfield 35, 3) := by decide +kernel
theorem dX8_keeps_33 : decode cX8_keeps 33 = .ok (.iload_n 3, 1) := by decide +kernel
theorem dX8_keeps_34 : decode cX8_keeps 34 = .ok (.aload_n 0, 1) := by decide +kernel
theorem dX8_keeps_35 : decode cX8_keeps 35 = .ok (.getfield 35, 3) := by decide +kernel
theorem dX8_keeps_38 : decode cX8_keeps 38 = .ok (.iload_n 3, 1) := by decide +kernel
theorem dX8_keeps_39 : decode cX8_keeps 39 = .ok (.iconst 1, 1) := by decide +kernel
theorem dX8_keeps_40 : decode cX8_keeps 40 = .ok (.iadd, 1) := by decide +kernel
theorem dX8_keeps_41 : decode cX8_keeps 41 = .ok (.iaload, 1) := by decide +kernel
theorem dX8_keeps_42 : decode cX8_keeps 42 = .ok (.iastore, 1) := by decide +kernel
theorem dX8_keeps_43 : decode cX8_keeps 43 = .ok (.aload_n 0, 1) := by decide +kernel
theorem dX8_keeps_44 : decode cX8_keeps 44 = .ok (.getfield 38, 3) := by decide +kernel
theorem dX8_keeps_47 : decode cX8_keeps 47 = .ok (.iload_n 3, 1) := by decide +kernel
theorem dX8_keeps_48 : decode cX8_keeps 48 = .ok (.aload_n 0, 1) := by decide +kernel
theorem dX8_keeps_49 : decode cX8_keeps 49 = .ok (.getfield 38, 3) := by decide +kernel
theorem dX8_keeps_52 : decode cX8_keeps 52 = .ok (.iload_n 3, 1) := by decide +kernel
theorem dX8_keeps_53 : decode cX8_keeps 53 = .ok (.iconst 1, 1) := by decide +kernel
theorem dX8_keeps_54 : decode cX8_keeps 54 = .ok (.iadd, 1) := by decide +kernel
theorem dX8_keeps_55 : decode cX8_keeps 55 = .ok (.iaload, 1) := by decide +kernel
theorem dX8_keeps_56 : decode cX8_keeps 56 = .ok (.iastore, 1) := by decide +kernel
theorem dX8_keeps_57 : decode cX8_keeps 57 = .ok (.aload_n 0, 1) := by decide +kernel
theorem dX8_keeps_58 : decode cX8_keeps 58 = .ok (.getfield 41, 3) := by decide +kernel
theorem dX8_keeps_61 : decode cX8_keeps 61 = .ok (.iload_n 3, 1) := by decide +kernel
theorem dX8_keeps_62 : decode cX8_keeps 62 = .ok (.aload_n 0, 1) := by decide +kernel
theorem dX8_keeps_63 : decode cX8_keeps 63 = .ok (.getfield 41, 3) := by decide +kernel
theorem dX8_keeps_66 : decode cX8_keeps 66 = .ok (.iload_n 3, 1) := by decide +kernel
theorem dX8_keeps_67 : decode cX8_keeps 67 = .ok (.iconst 1, 1) := by decide +kernel
theorem dX8_keeps_68 : decode cX8_keeps 68 = .ok (.iadd, 1) := by decide +kernel
theorem dX8_keeps_69 : decode cX8_keeps 69 = .ok (.iaload, 1) := by decide +kernel
theorem dX8_keeps_70 : decode cX8_keeps 70 = .ok (.iastore, 1) := by decide +kernel
theorem dX8_keeps_71 : decode cX8_keeps 71 = .ok (.aload_n 0, 1) := by decide +kernel
theorem dX8_keeps_72 : decode cX8_keeps 72 = .ok (.getfield 44, 3) := by decide +kernel
theorem dX8_keeps_75 : decode cX8_keeps 75 = .ok (.iload_n 3, 1) := by decide +kernel
theorem dX8_keeps_76 : decode cX8_keeps 76 = .ok (.aload_n 0, 1) := by decide +kernel
theorem dX8_keeps_77 : decode cX8_keeps 77 = .ok (.getfield 44, 3) := by decide +kernel
theorem dX8_keeps_80 : decode cX8_keeps 80 = .ok (.iload_n 3, 1) := by decide +kernel
theorem dX8_keeps_81 : decode cX8_keeps 81 = .ok (.iconst 1, 1) := by decide +kernel
theorem dX8_keeps_82 : decode cX8_keeps 82 = .ok (.iadd, 1) := by decide +kernel
theorem dX8_keeps_83 : decode cX8_keeps 83 = .ok (.iaload, 1) := by decide +kernel
theorem dX8_keeps_84 : decode cX8_keeps 84 = .ok (.iastore, 1) := by decide +kernel
theorem dX8_keeps_85 : decode cX8_keeps 85 = .ok (.aload_n 0, 1) := by decide +kernel
theorem dX8_keeps_86 : decode cX8_keeps 86 = .ok (.getfield 47, 3) := by decide +kernel
theorem dX8_keeps_89 : decode cX8_keeps 89 = .ok (.iload_n 3, 1) := by decide +kernel
theorem dX8_keeps_90 : decode cX8_keeps 90 = .ok (.aload_n 0, 1) := by decide +kernel
theorem dX8_keeps_91 : decode cX8_keeps 91 = .ok (.getfield 47, 3) := by decide +kernel
theorem dX8_keeps_94 : decode cX8_keeps 94 = .ok (.iload_n 3, 1) := by decide +kernel
theorem dX8_keeps_95 : decode cX8_keeps 95 = .ok (.iconst 1, 1) := by decide +kernel
theorem dX8_keeps_96 : decode cX8_keeps 96 = .ok (.iadd, 1) := by decide +kernel
theorem dX8_keeps_97 : decode cX8_keeps 97 = .ok (.iaload, 1) := by decide +kernel
theorem dX8_keeps_98 : decode cX8_keeps 98 = .ok (.iastore, 1) := by decide +kernel
theorem dX8_keeps_99 : decode cX8_keeps 99 = .ok (.iinc 3 1, 3) := by decide +kernel
theorem dX8_keeps_102 : decode cX8_keeps 102 = .ok (.goto (-86), 3) := by decide +kernel
theorem dX8_keeps_105 : decode cX8_keeps 105 = .ok (.aload_n 0, 1) := by decide +kernel
theorem dX8_keeps_106 : decode cX8_keeps 106 = .ok (.getfield 50, 3) := by decide +kernel
theorem dX8_keeps_109 : decode cX8_keeps 109 = .ok (.iload_n 1, 1) := by decide +kernel
theorem dX8_keeps_110 : decode cX8_keeps 110 = .ok (.dup2, 1) := by decide +kernel
theorem dX8_keeps_111 : decode cX8_keeps 111 = .ok (.iaload, 1) := by decide +kernel
theorem dX8_keeps_112 : decode cX8_keeps 112 = .ok (.iconst 1, 1) := by decide +kernel
theorem dX8_keeps_113 : decode cX8_keeps 113 = .ok (.isub, 1) := by decide +kernel
theorem dX8_keeps_114 : decode cX8_keeps 114 = .ok (.iastore, 1) := by decide +kernel
theorem dX8_keeps_115 : decode cX8_keeps 115 = .ok (.bipush 30, 2) := by decide +kernel
theorem dX8_keeps_117 : decode cX8_keeps 117 = .ok (.iload_n 1, 1) := by decide +kernel
theorem dX8_keeps_118 : decode cX8_keeps 118 = .ok (.imul, 1) := by decide +kernel
theorem dX8_keeps_119 : decode cX8_keeps 119 = .ok (.aload_n 0, 1) := by decide +kernel
theorem dX8_keeps_120 : decode cX8_keeps 120 = .ok (.getfield 50, 3) := by decide +kernel
theorem dX8_keeps_123 : decode cX8_keeps 123 = .ok (.iload_n 1, 1) := by decide +kernel
theorem dX8_keeps_124 : decode cX8_keeps 124 = .ok (.iaload, 1) := by decide +kernel
theorem dX8_keeps_125 : decode cX8_keeps 125 = .ok (.iadd, 1) := by decide +kernel
theorem dX8_keeps_126 : decode cX8_keeps 126 = .ok (.istore_n 3, 1) := by decide +kernel
theorem dX8_keeps_127 : decode cX8_keeps 127 = .ok (.aload_n 0, 1) := by decide +kernel
theorem dX8_keeps_128 : decode cX8_keeps 128 = .ok (.getfield 35, 3) := by decide +kernel
theorem dX8_keeps_131 : decode cX8_keeps 131 = .ok (.iload_n 3, 1) := by decide +kernel
theorem dX8_keeps_132 : decode cX8_keeps 132 = .ok (.iload_n 2, 1) := by decide +kernel
theorem dX8_keeps_133 : decode cX8_keeps 133 = .ok (.iastore, 1) := by decide +kernel
theorem dX8_keeps_134 : decode cX8_keeps 134 = .ok (.aload_n 0, 1) := by decide +kernel
theorem dX8_keeps_135 : decode cX8_keeps 135 = .ok (.getfield 38, 3) := by decide +kernel
theorem dX8_keeps_138 : decode cX8_keeps 138 = .ok (.iload_n 3, 1) := by decide +kernel
theorem dX8_keeps_139 : decode cX8_keeps 139 = .ok (.aload_n 0, 1) := by decide +kernel
theorem dX8_keeps_140 : decode cX8_keeps 140 = .ok (.getfield 7, 3) := by decide +kernel
theorem dX8_keeps_143 : decode cX8_keeps 143 = .ok (.iload_n 1, 1) := by decide +kernel
theorem dX8_keeps_144 : decode cX8_keeps 144 = .ok (.iload_n 2, 1) := by decide +kernel
theorem dX8_keeps_145 : decode cX8_keeps 145 = .ok (.invokestatic 95, 3) := by decide +kernel
theorem dX8_keeps_148 : decode cX8_keeps 148 = .ok (.iaload, 1) := by decide +kernel
theorem dX8_keeps_149 : decode cX8_keeps 149 = .ok (.iastore, 1) := by decide +kernel
theorem dX8_keeps_150 : decode cX8_keeps 150 = .ok (.aload_n 0, 1) := by decide +kernel
theorem dX8_keeps_151 : decode cX8_keeps 151 = .ok (.getfield 41, 3) := by decide +kernel
theorem dX8_keeps_154 : decode cX8_keeps 154 = .ok (.iload_n 3, 1) := by decide +kernel
theorem dX8_keeps_155 : decode cX8_keeps 155 = .ok (.aload_n 0, 1) := by decide +kernel
theorem dX8_keeps_156 : decode cX8_keeps 156 = .ok (.getfield 13, 3) := by decide +kernel
theorem dX8_keeps_159 : decode cX8_keeps 159 = .ok (.iload_n 1, 1) := by decide +kernel
theorem dX8_keeps_160 : decode cX8_keeps 160 = .ok (.iload_n 2, 1) := by decide +kernel
theorem dX8_keeps_161 : decode cX8_keeps 161 = .ok (.invokestatic 95, 3) := by decide +kernel
theorem dX8_keeps_164 : decode cX8_keeps 164 = .ok (.iaload, 1) := by decide +kernel
theorem dX8_keeps_165 : decode cX8_keeps 165 = .ok (.iastore, 1) := by decide +kernel
theorem dX8_keeps_166 : decode cX8_keeps 166 = .ok (.aload_n 0, 1) := by decide +kernel
theorem dX8_keeps_167 : decode cX8_keeps 167 = .ok (.getfield 44, 3) := by decide +kernel
theorem dX8_keeps_170 : decode cX8_keeps 170 = .ok (.iload_n 3, 1) := by decide +kernel
theorem dX8_keeps_171 : decode cX8_keeps 171 = .ok (.aload_n 0, 1) := by decide +kernel
theorem dX8_keeps_172 : decode cX8_keeps 172 = .ok (.getfield 16, 3) := by decide +kernel
theorem dX8_keeps_175 : decode cX8_keeps 175 = .ok (.iload_n 1, 1) := by decide +kernel
theorem dX8_keeps_176 : decode cX8_keeps 176 = .ok (.iload_n 2, 1) := by decide +kernel
theorem dX8_keeps_177 : decode cX8_keeps 177 = .ok (.invokestatic 95, 3) := by decide +kernel
theorem dX8_keeps_180 : decode cX8_keeps 180 = .ok (.iaload, 1) := by decide +kernel
theorem dX8_keeps_181 : decode cX8_keeps 181 = .ok (.iastore, 1) := by decide +kernel
theorem dX8_keeps_182 : decode cX8_keeps 182 = .ok (.aload_n 0, 1) := by decide +kernel
theorem dX8_keeps_183 : decode cX8_keeps 183 = .ok (.getfield 47, 3) := by decide +kernel
theorem dX8_keeps_186 : decode cX8_keeps 186 = .ok (.iload_n 3, 1) := by decide +kernel
theorem dX8_keeps_187 : decode cX8_keeps 187 = .ok (.aload_n 0, 1) := by decide +kernel
theorem dX8_keeps_188 : decode cX8_keeps 188 = .ok (.getfield 19, 3) := by decide +kernel
theorem dX8_keeps_191 : decode cX8_keeps 191 = .ok (.iload_n 1, 1) := by decide +kernel
theorem dX8_keeps_192 : decode cX8_keeps 192 = .ok (.iload_n 2, 1) := by decide +kernel
theorem dX8_keeps_193 : decode cX8_keeps 193 = .ok (.invokestatic 95, 3) := by decide +kernel
theorem dX8_keeps_196 : decode cX8_keeps 196 = .ok (.iaload, 1) := by decide +kernel
theorem dX8_keeps_197 : decode cX8_keeps 197 = .ok (.iastore, 1) := by decide +kernel
theorem dX8_keeps_198 : decode cX8_keeps 198 = .ok (.aload_n 0, 1) := by decide +kernel
theorem dX8_keeps_199 : decode cX8_keeps 199 = .ok (.getfield 50, 3) := by decide +kernel
theorem dX8_keeps_202 : decode cX8_keeps 202 = .ok (.iload_n 1, 1) := by decide +kernel
theorem dX8_keeps_203 : decode cX8_keeps 203 = .ok (.dup2, 1) := by decide +kernel
theorem dX8_keeps_204 : decode cX8_keeps 204 = .ok (.iaload, 1) := by decide +kernel
theorem dX8_keeps_205 : decode cX8_keeps 205 = .ok (.iconst 1, 1) := by decide +kernel
theorem dX8_keeps_206 : decode cX8_keeps 206 = .ok (.iadd, 1) := by decide +kernel
theorem dX8_keeps_207 : decode cX8_keeps 207 = .ok (.iastore, 1) := by decide +kernel
theorem dX8_keeps_208 : decode cX8_keeps 208 = .ok (.return_, 1) := by decide +kernel
theorem dX8_lays_0 : decode cX8_lays 0 = .ok (.aload_n 0, 1) := by decide +kernel
theorem dX8_lays_1 : decode cX8_lays 1 = .ok (.getfield 7, 3) := by decide +kernel
theorem dX8_lays_4 : decode cX8_lays 4 = .ok (.iload_n 1, 1) := by decide +kernel
theorem dX8_lays_5 : decode cX8_lays 5 = .ok (.iload_n 2, 1) := by decide +kernel
theorem dX8_lays_6 : decode cX8_lays 6 = .ok (.invokestatic 95, 3) := by decide +kernel
theorem dX8_lays_9 : decode cX8_lays 9 = .ok (.iload_n 3, 1) := by decide +kernel
theorem dX8_lays_10 : decode cX8_lays 10 = .ok (.iastore, 1) := by decide +kernel
theorem dX8_lays_11 : decode cX8_lays 11 = .ok (.aload_n 0, 1) := by decide +kernel
theorem dX8_lays_12 : decode cX8_lays 12 = .ok (.getfield 13, 3) := by decide +kernel
theorem dX8_lays_15 : decode cX8_lays 15 = .ok (.iload_n 1, 1) := by decide +kernel
theorem dX8_lays_16 : decode cX8_lays 16 = .ok (.iload_n 2, 1) := by decide +kernel
theorem dX8_lays_17 : decode cX8_lays 17 = .ok (.invokestatic 95, 3) := by decide +kernel
theorem dX8_lays_20 : decode cX8_lays 20 = .ok (.iload 4, 2) := by decide +kernel
theorem dX8_lays_22 : decode cX8_lays 22 = .ok (.iastore, 1) := by decide +kernel
theorem dX8_lays_23 : decode cX8_lays 23 = .ok (.aload_n 0, 1) := by decide +kernel
theorem dX8_lays_24 : decode cX8_lays 24 = .ok (.getfield 16, 3) := by decide +kernel
theorem dX8_lays_27 : decode cX8_lays 27 = .ok (.iload_n 1, 1) := by decide +kernel
theorem dX8_lays_28 : decode cX8_lays 28 = .ok (.iload_n 2, 1) := by decide +kernel
theorem dX8_lays_29 : decode cX8_lays 29 = .ok (.invokestatic 95, 3) := by decide +kernel
theorem dX8_lays_32 : decode cX8_lays 32 = .ok (.iload 5, 2) := by decide +kernel
theorem dX8_lays_34 : decode cX8_lays 34 = .ok (.iastore, 1) := by decide +kernel
theorem dX8_lays_35 : decode cX8_lays 35 = .ok (.aload_n 0, 1) := by decide +kernel
theorem dX8_lays_36 : decode cX8_lays 36 = .ok (.getfield 19, 3) := by decide +kernel
theorem dX8_lays_39 : decode cX8_lays 39 = .ok (.iload_n 1, 1) := by decide +kernel
theorem dX8_lays_40 : decode cX8_lays 40 = .ok (.iload_n 2, 1) := by decide +kernel
theorem dX8_lays_41 : decode cX8_lays 41 = .ok (.invokestatic 95, 3) := by decide +kernel
theorem dX8_lays_44 : decode cX8_lays 44 = .ok (.iload 6, 2) := by decide +kernel
theorem dX8_lays_46 : decode cX8_lays 46 = .ok (.iastore, 1) := by decide +kernel
theorem dX8_lays_47 : decode cX8_lays 47 = .ok (.return_, 1) := by decide +kernel
theorem dX8_copiesTask_0 : decode cX8_copiesTask 0 = .ok (.aload_n 0, 1) := by decide +kernel
theorem dX8_copiesTask_1 : decode cX8_copiesTask 1 = .ok (.iload_n 2, 1) := by decide +kernel
theorem dX8_copiesTask_2 : decode cX8_copiesTask 2 = .ok (.iload_n 3, 1) := by decide +kernel
theorem dX8_copiesTask_3 : decode cX8_copiesTask 3 = .ok (.aload_n 0, 1) := by decide +kernel
theorem dX8_copiesTask_4 : decode cX8_copiesTask 4 = .ok (.getfield 7, 3) := by decide +kernel
theorem dX8_copiesTask_7 : decode cX8_copiesTask 7 = .ok (.iload_n 1, 1) := by decide +kernel
theorem dX8_copiesTask_8 : decode cX8_copiesTask 8 = .ok (.iload_n 3, 1) := by decide +kernel
theorem dX8_copiesTask_9 : decode cX8_copiesTask 9 = .ok (.invokestatic 95, 3) := by decide +kernel
theorem dX8_copiesTask_12 : decode cX8_copiesTask 12 = .ok (.iaload, 1) := by decide +kernel
theorem dX8_copiesTask_13 : decode cX8_copiesTask 13 = .ok (.aload_n 0, 1) := by decide +kernel
theorem dX8_copiesTask_14 : decode cX8_copiesTask 14 = .ok (.getfield 13, 3) := by decide +kernel
theorem dX8_copiesTask_17 : decode cX8_copiesTask 17 = .ok (.iload_n 1, 1) := by decide +kernel
theorem dX8_copiesTask_18 : decode cX8_copiesTask 18 = .ok (.iload_n 3, 1) := by decide +kernel
theorem dX8_copiesTask_19 : decode cX8_copiesTask 19 = .ok (.invokestatic 95, 3) := by decide +kernel
theorem dX8_copiesTask_22 : decode cX8_copiesTask 22 = .ok (.iaload, 1) := by decide +kernel
theorem dX8_copiesTask_23 : decode cX8_copiesTask 23 = .ok (.aload_n 0, 1) := by decide +kernel
theorem dX8_copiesTask_24 : decode cX8_copiesTask 24 = .ok (.getfield 16, 3) := by decide +kernel
theorem dX8_copiesTask_27 : decode cX8_copiesTask 27 = .ok (.iload_n 1, 1) := by decide +kernel
theorem dX8_copiesTask_28 : decode cX8_copiesTask 28 = .ok (.iload_n 3, 1) := by decide +kernel
theorem dX8_copiesTask_29 : decode cX8_copiesTask 29 = .ok (.invokestatic 95, 3) := by decide +kernel
theorem dX8_copiesTask_32 : decode cX8_copiesTask 32 = .ok (.iaload, 1) := by decide +kernel
theorem dX8_copiesTask_33 : decode cX8_copiesTask 33 = .ok (.aload_n 0, 1) := by decide +kernel
theorem dX8_copiesTask_34 : decode cX8_copiesTask 34 = .ok (.getfield 19, 3) := by decide +kernel
theorem dX8_copiesTask_37 : decode cX8_copiesTask 37 = .ok (.iload_n 1, 1) := by decide +kernel
theorem dX8_copiesTask_38 : decode cX8_copiesTask 38 = .ok (.iload_n 3, 1) := by decide +kernel
theorem dX8_copiesTask_39 : decode cX8_copiesTask 39 = .ok (.invokestatic 95, 3) := by decide +kernel
theorem dX8_copiesTask_42 : decode cX8_copiesTask 42 = .ok (.iaload, 1) := by decide +kernel
theorem dX8_copiesTask_43 : decode cX8_copiesTask 43 = .ok (.invokevirtual 99, 3) := by decide +kernel
theorem dX8_copiesTask_46 : decode cX8_copiesTask 46 = .ok (.return_, 1) := by decide +kernel
theorem dX8_copies_0 : decode cX8_copies 0 = .ok (.iconst 0, 1) := by decide +kernel
theorem dX8_copies_1 : decode cX8_copies 1 = .ok (.istore_n 3, 1) := by decide +kernel
theorem dX8_copies_2 : decode cX8_copies 2 = .ok (.iload_n 3, 1) := by decide +kernel
theorem dX8_copies_3 : decode cX8_copies 3 = .ok (.bipush 16, 2) := by decide +kernel
theorem dX8_copies_5 : decode cX8_copies 5 = .ok (.if_icmp .ge 16, 3) := by decide +kernel
theorem dX8_copies_8 : decode cX8_copies 8 = .ok (.aload_n 0, 1) := by decide +kernel
theorem dX8_copies_9 : decode cX8_copies 9 = .ok (.iload_n 1, 1) := by decide +kernel
theorem dX8_copies_10 : decode cX8_copies 10 = .ok (.iload_n 2, 1) := by decide +kernel
theorem dX8_copies_11 : decode cX8_copies 11 = .ok (.iload_n 3, 1) := by decide +kernel
theorem dX8_copies_12 : decode cX8_copies 12 = .ok (.invokevirtual 103, 3) := by decide +kernel
theorem dX8_copies_15 : decode cX8_copies 15 = .ok (.iinc 3 1, 3) := by decide +kernel
theorem dX8_copies_18 : decode cX8_copies 18 = .ok (.goto (-16), 3) := by decide +kernel
theorem dX8_copies_21 : decode cX8_copies 21 = .ok (.return_, 1) := by decide +kernel
theorem dX8_setTask_0 : decode cX8_setTask 0 = .ok (.iload_n 2, 1) := by decide +kernel
theorem dX8_setTask_1 : decode cX8_setTask 1 = .ok (.invokestatic 107, 3) := by decide +kernel
theorem dX8_setTask_4 : decode cX8_setTask 4 = .ok (.ifCond .eq 39, 3) := by decide +kernel
theorem dX8_setTask_7 : decode cX8_setTask 7 = .ok (.iload_n 3, 1) := by decide +kernel
theorem dX8_setTask_8 : decode cX8_setTask 8 = .ok (.iconst 1, 1) := by decide +kernel
theorem dX8_setTask_9 : decode cX8_setTask 9 = .ok (.bipush 20, 2) := by decide +kernel
theorem dX8_setTask_11 : decode cX8_setTask 11 = .ok (.invokestatic 91, 3) := by decide +kernel
theorem dX8_setTask_14 : decode cX8_setTask 14 = .ok (.ifCond .eq 29, 3) := by decide +kernel
theorem dX8_setTask_17 : decode cX8_setTask 17 = .ok (.iload 4, 2) := by decide +kernel
theorem dX8_setTask_19 : decode cX8_setTask 19 = .ok (.iconst (-1), 1) := by decide +kernel
theorem dX8_setTask_20 : decode cX8_setTask 20 = .ok (.iconst 4, 1) := by decide +kernel
theorem dX8_setTask_21 : decode cX8_setTask 21 = .ok (.invokestatic 91, 3) := by decide +kernel
theorem dX8_setTask_24 : decode cX8_setTask 24 = .ok (.ifCond .eq 19, 3) := by decide +kernel
theorem dX8_setTask_27 : decode cX8_setTask 27 = .ok (.iload 5, 2) := by decide +kernel
theorem dX8_setTask_29 : decode cX8_setTask 29 = .ok (.iconst 0, 1) := by decide +kernel
theorem dX8_setTask_30 : decode cX8_setTask 30 = .ok (.sipush 1000, 3) := by decide +kernel
theorem dX8_setTask_33 : decode cX8_setTask 33 = .ok (.invokestatic 91, 3) := by decide +kernel
theorem dX8_setTask_36 : decode cX8_setTask 36 = .ok (.ifCond .eq 7, 3) := by decide +kernel
theorem dX8_setTask_39 : decode cX8_setTask 39 = .ok (.iconst 1, 1) := by decide +kernel
theorem dX8_setTask_40 : decode cX8_setTask 40 = .ok (.goto 4, 3) := by decide +kernel
theorem dX8_setTask_43 : decode cX8_setTask 43 = .ok (.iconst 0, 1) := by decide +kernel
theorem dX8_setTask_44 : decode cX8_setTask 44 = .ok (.istore 6, 2) := by decide +kernel
theorem dX8_setTask_46 : decode cX8_setTask 46 = .ok (.aload_n 0, 1) := by decide +kernel
theorem dX8_setTask_47 : decode cX8_setTask 47 = .ok (.aload_n 0, 1) := by decide +kernel
theorem dX8_setTask_48 : decode cX8_setTask 48 = .ok (.iload_n 1, 1) := by decide +kernel
theorem dX8_setTask_49 : decode cX8_setTask 49 = .ok (.invokevirtual 111, 3) := by decide +kernel
theorem dX8_setTask_52 : decode cX8_setTask 52 = .ok (.ifCond .ne 7, 3) := by decide +kernel
theorem dX8_setTask_55 : decode cX8_setTask 55 = .ok (.iconst 1, 1) := by decide +kernel
theorem dX8_setTask_56 : decode cX8_setTask 56 = .ok (.goto 13, 3) := by decide +kernel
theorem dX8_setTask_59 : decode cX8_setTask 59 = .ok (.iload 6, 2) := by decide +kernel
theorem dX8_setTask_61 : decode cX8_setTask 61 = .ok (.ifCond .ne 7, 3) := by decide +kernel
theorem dX8_setTask_64 : decode cX8_setTask 64 = .ok (.iconst 2, 1) := by decide +kernel
theorem dX8_setTask_65 : decode cX8_setTask 65 = .ok (.goto 4, 3) := by decide +kernel
theorem dX8_setTask_68 : decode cX8_setTask 68 = .ok (.iconst 0, 1) := by decide +kernel
theorem dX8_setTask_69 : decode cX8_setTask 69 = .ok (.invokevirtual 114, 3) := by decide +kernel
theorem dX8_setTask_72 : decode cX8_setTask 72 = .ok (.ifCond .ne 5, 3) := by decide +kernel
theorem dX8_setTask_75 : decode cX8_setTask 75 = .ok (.iconst 0, 1) := by decide +kernel
theorem dX8_setTask_76 : decode cX8_setTask 76 = .ok (.ireturn, 1) := by decide +kernel
theorem dX8_setTask_77 : decode cX8_setTask 77 = .ok (.aload_n 0, 1) := by decide +kernel
theorem dX8_setTask_78 : decode cX8_setTask 78 = .ok (.iload_n 1, 1) := by decide +kernel
theorem dX8_setTask_79 : decode cX8_setTask 79 = .ok (.iload_n 2, 1) := by decide +kernel
theorem dX8_setTask_80 : decode cX8_setTask 80 = .ok (.invokevirtual 117, 3) := by decide +kernel
theorem dX8_setTask_83 : decode cX8_setTask 83 = .ok (.aload_n 0, 1) := by decide +kernel
theorem dX8_setTask_84 : decode cX8_setTask 84 = .ok (.iload_n 1, 1) := by decide +kernel
theorem dX8_setTask_85 : decode cX8_setTask 85 = .ok (.iload_n 2, 1) := by decide +kernel
theorem dX8_setTask_86 : decode cX8_setTask 86 = .ok (.invokevirtual 121, 3) := by decide +kernel
theorem dX8_setTask_89 : decode cX8_setTask 89 = .ok (.istore 7, 2) := by decide +kernel
theorem dX8_setTask_91 : decode cX8_setTask 91 = .ok (.aload_n 0, 1) := by decide +kernel
theorem dX8_setTask_92 : decode cX8_setTask 92 = .ok (.iload_n 1, 1) := by decide +kernel
theorem dX8_setTask_93 : decode cX8_setTask 93 = .ok (.iload_n 2, 1) := by decide +kernel
theorem dX8_setTask_94 : decode cX8_setTask 94 = .ok (.iload_n 3, 1) := by decide +kernel
theorem dX8_setTask_95 : decode cX8_setTask 95 = .ok (.iload 4, 2) := by decide +kernel
theorem dX8_setTask_97 : decode cX8_setTask 97 = .ok (.iload 5, 2) := by decide +kernel
theorem dX8_setTask_99 : decode cX8_setTask 99 = .ok (.aload_n 0, 1) := by decide +kernel
theorem dX8_setTask_100 : decode cX8_setTask 100 = .ok (.getfield 19, 3) := by decide +kernel
theorem dX8_setTask_103 : decode cX8_setTask 103 = .ok (.iload_n 1, 1) := by decide +kernel
theorem dX8_setTask_104 : decode cX8_setTask 104 = .ok (.iload_n 2, 1) := by decide +kernel
theorem dX8_setTask_105 : decode cX8_setTask 105 = .ok (.invokestatic 95, 3) := by decide +kernel
theorem dX8_setTask_108 : decode cX8_setTask 108 = .ok (.iaload, 1) := by decide +kernel
theorem dX8_setTask_109 : decode cX8_setTask 109 = .ok (.invokevirtual 99, 3) := by decide +kernel
theorem dX8_setTask_112 : decode cX8_setTask 112 = .ok (.iload 7, 2) := by decide +kernel
theorem dX8_setTask_114 : decode cX8_setTask 114 = .ok (.ireturn, 1) := by decide +kernel
theorem dX8_isNeeded_0 : decode cX8_isNeeded 0 = .ok (.iconst 0, 1) := by decide +kernel
theorem dX8_isNeeded_1 : decode cX8_isNeeded 1 = .ok (.istore_n 3, 1) := by decide +kernel
theorem dX8_isNeeded_2 : decode cX8_isNeeded 2 = .ok (.iconst 0, 1) := by decide +kernel
theorem dX8_isNeeded_3 : decode cX8_isNeeded 3 = .ok (.istore 4, 2) := by decide +kernel
theorem dX8_isNeeded_5 : decode cX8_isNeeded 5 = .ok (.iload 4, 2) := by decide +kernel
theorem dX8_isNeeded_7 : decode cX8_isNeeded 7 = .ok (.bipush 16, 2) := by decide +kernel
theorem dX8_isNeeded_9 : decode cX8_isNeeded 9 = .ok (.if_icmp .ge 30, 3) := by decide +kernel
theorem dX8_isNeeded_12 : decode cX8_isNeeded 12 = .ok (.iload_n 3, 1) := by decide +kernel
theorem dX8_isNeeded_13 : decode cX8_isNeeded 13 = .ok (.ifCond .ne 14, 3) := by decide +kernel
theorem dX8_isNeeded_16 : decode cX8_isNeeded 16 = .ok (.aload_n 0, 1) := by decide +kernel
theorem dX8_isNeeded_17 : decode cX8_isNeeded 17 = .ok (.iload_n 1, 1) := by decide +kernel
theorem dX8_isNeeded_18 : decode cX8_isNeeded 18 = .ok (.iload 4, 2) := by decide +kernel
theorem dX8_isNeeded_20 : decode cX8_isNeeded 20 = .ok (.iload_n 2, 1) := by decide +kernel
theorem dX8_isNeeded_21 : decode cX8_isNeeded 21 = .ok (.invokevirtual 125, 3) := by decide +kernel
theorem dX8_isNeeded_24 : decode cX8_isNeeded 24 = .ok (.ifCond .eq 7, 3) := by decide +kernel
theorem dX8_isNeeded_27 : decode cX8_isNeeded 27 = .ok (.iconst 1, 1) := by decide +kernel
theorem dX8_isNeeded_28 : decode cX8_isNeeded 28 = .ok (.goto 4, 3) := by decide +kernel
theorem dX8_isNeeded_31 : decode cX8_isNeeded 31 = .ok (.iconst 0, 1) := by decide +kernel
theorem dX8_isNeeded_32 : decode cX8_isNeeded 32 = .ok (.istore_n 3, 1) := by decide +kernel
theorem dX8_isNeeded_33 : decode cX8_isNeeded 33 = .ok (.iinc 4 1, 3) := by decide +kernel
theorem dX8_isNeeded_36 : decode cX8_isNeeded 36 = .ok (.goto (-31), 3) := by decide +kernel
theorem dX8_isNeeded_39 : decode cX8_isNeeded 39 = .ok (.iload_n 3, 1) := by decide +kernel
theorem dX8_isNeeded_40 : decode cX8_isNeeded 40 = .ok (.ireturn, 1) := by decide +kernel
theorem dX8_removeTask_0 : decode cX8_removeTask 0 = .ok (.aload_n 0, 1) := by decide +kernel
theorem dX8_removeTask_1 : decode cX8_removeTask 1 = .ok (.iload_n 1, 1) := by decide +kernel
theorem dX8_removeTask_2 : decode cX8_removeTask 2 = .ok (.invokevirtual 111, 3) := by decide +kernel
theorem dX8_removeTask_5 : decode cX8_removeTask 5 = .ok (.ifCond .eq 14, 3) := by decide +kernel
theorem dX8_removeTask_8 : decode cX8_removeTask 8 = .ok (.iload_n 2, 1) := by decide +kernel
theorem dX8_removeTask_9 : decode cX8_removeTask 9 = .ok (.invokestatic 107, 3) := by decide +kernel
theorem dX8_removeTask_12 : decode cX8_removeTask 12 = .ok (.ifCond .eq 7, 3) := by decide +kernel
theorem dX8_removeTask_15 : decode cX8_removeTask 15 = .ok (.iconst 1, 1) := by decide +kernel
theorem dX8_removeTask_16 : decode cX8_removeTask 16 = .ok (.goto 4, 3) := by decide +kernel
theorem dX8_removeTask_19 : decode cX8_removeTask 19 = .ok (.iconst 0, 1) := by decide +kernel
theorem dX8_removeTask_20 : decode cX8_removeTask 20 = .ok (.istore_n 3, 1) := by decide +kernel
theorem dX8_removeTask_21 : decode cX8_removeTask 21 = .ok (.iload_n 3, 1) := by decide +kernel
theorem dX8_removeTask_22 : decode cX8_removeTask 22 = .ok (.ifCond .eq 25, 3) := by decide +kernel
theorem dX8_removeTask_25 : decode cX8_removeTask 25 = .ok (.aload_n 0, 1) := by decide +kernel
theorem dX8_removeTask_26 : decode cX8_removeTask 26 = .ok (.iload_n 1, 1) := by decide +kernel
theorem dX8_removeTask_27 : decode cX8_removeTask 27 = .ok (.iload_n 2, 1) := by decide +kernel
theorem dX8_removeTask_28 : decode cX8_removeTask 28 = .ok (.invokevirtual 121, 3) := by decide +kernel
theorem dX8_removeTask_31 : decode cX8_removeTask 31 = .ok (.ifCond .eq 16, 3) := by decide +kernel
theorem dX8_removeTask_34 : decode cX8_removeTask 34 = .ok (.aload_n 0, 1) := by decide +kernel
theorem dX8_removeTask_35 : decode cX8_removeTask 35 = .ok (.iload_n 1, 1) := by decide +kernel
theorem dX8_removeTask_36 : decode cX8_removeTask 36 = .ok (.iload_n 2, 1) := by decide +kernel
theorem dX8_removeTask_37 : decode cX8_removeTask 37 = .ok (.invokevirtual 128, 3) := by decide +kernel
theorem dX8_removeTask_40 : decode cX8_removeTask 40 = .ok (.ifCond .ne 7, 3) := by decide +kernel
theorem dX8_removeTask_43 : decode cX8_removeTask 43 = .ok (.iconst 1, 1) := by decide +kernel
theorem dX8_removeTask_44 : decode cX8_removeTask 44 = .ok (.goto 4, 3) := by decide +kernel
theorem dX8_removeTask_47 : decode cX8_removeTask 47 = .ok (.iconst 0, 1) := by decide +kernel
theorem dX8_removeTask_48 : decode cX8_removeTask 48 = .ok (.istore 4, 2) := by decide +kernel
theorem dX8_removeTask_50 : decode cX8_removeTask 50 = .ok (.aload_n 0, 1) := by decide +kernel
theorem dX8_removeTask_51 : decode cX8_removeTask 51 = .ok (.aload_n 0, 1) := by decide +kernel
theorem dX8_removeTask_52 : decode cX8_removeTask 52 = .ok (.iload_n 1, 1) := by decide +kernel
theorem dX8_removeTask_53 : decode cX8_removeTask 53 = .ok (.invokevirtual 111, 3) := by decide +kernel
theorem dX8_removeTask_56 : decode cX8_removeTask 56 = .ok (.ifCond .ne 7, 3) := by decide +kernel
theorem dX8_removeTask_59 : decode cX8_removeTask 59 = .ok (.iconst 1, 1) := by decide +kernel
theorem dX8_removeTask_60 : decode cX8_removeTask 60 = .ok (.goto 21, 3) := by decide +kernel
theorem dX8_removeTask_63 : decode cX8_removeTask 63 = .ok (.iload_n 3, 1) := by decide +kernel
theorem dX8_removeTask_64 : decode cX8_removeTask 64 = .ok (.ifCond .ne 7, 3) := by decide +kernel
theorem dX8_removeTask_67 : decode cX8_removeTask 67 = .ok (.iconst 2, 1) := by decide +kernel
theorem dX8_removeTask_68 : decode cX8_removeTask 68 = .ok (.goto 13, 3) := by decide +kernel
theorem dX8_removeTask_71 : decode cX8_removeTask 71 = .ok (.iload 4, 2) := by decide +kernel
theorem dX8_removeTask_73 : decode cX8_removeTask 73 = .ok (.ifCond .ne 7, 3) := by decide +kernel
theorem dX8_removeTask_76 : decode cX8_removeTask 76 = .ok (.iconst 3, 1) := by decide +kernel
theorem dX8_removeTask_77 : decode cX8_removeTask 77 = .ok (.goto 4, 3) := by decide +kernel
theorem dX8_removeTask_80 : decode cX8_removeTask 80 = .ok (.iconst 0, 1) := by decide +kernel
theorem dX8_removeTask_81 : decode cX8_removeTask 81 = .ok (.invokevirtual 114, 3) := by decide +kernel
theorem dX8_removeTask_84 : decode cX8_removeTask 84 = .ok (.ifCond .ne 5, 3) := by decide +kernel
theorem dX8_removeTask_87 : decode cX8_removeTask 87 = .ok (.iconst 0, 1) := by decide +kernel
theorem dX8_removeTask_88 : decode cX8_removeTask 88 = .ok (.ireturn, 1) := by decide +kernel
theorem dX8_removeTask_89 : decode cX8_removeTask 89 = .ok (.aload_n 0, 1) := by decide +kernel
theorem dX8_removeTask_90 : decode cX8_removeTask 90 = .ok (.iload_n 1, 1) := by decide +kernel
theorem dX8_removeTask_91 : decode cX8_removeTask 91 = .ok (.iload_n 2, 1) := by decide +kernel
theorem dX8_removeTask_92 : decode cX8_removeTask 92 = .ok (.invokevirtual 117, 3) := by decide +kernel
theorem dX8_removeTask_95 : decode cX8_removeTask 95 = .ok (.aload_n 0, 1) := by decide +kernel
theorem dX8_removeTask_96 : decode cX8_removeTask 96 = .ok (.getfield 7, 3) := by decide +kernel
theorem dX8_removeTask_99 : decode cX8_removeTask 99 = .ok (.iload_n 1, 1) := by decide +kernel
theorem dX8_removeTask_100 : decode cX8_removeTask 100 = .ok (.iload_n 2, 1) := by decide +kernel
theorem dX8_removeTask_101 : decode cX8_removeTask 101 = .ok (.invokestatic 95, 3) := by decide +kernel
theorem dX8_removeTask_104 : decode cX8_removeTask 104 = .ok (.iaload, 1) := by decide +kernel
theorem dX8_removeTask_105 : decode cX8_removeTask 105 = .ok (.istore 5, 2) := by decide +kernel
theorem dX8_removeTask_107 : decode cX8_removeTask 107 = .ok (.aload_n 0, 1) := by decide +kernel
theorem dX8_removeTask_108 : decode cX8_removeTask 108 = .ok (.iload_n 1, 1) := by decide +kernel
theorem dX8_removeTask_109 : decode cX8_removeTask 109 = .ok (.iload_n 2, 1) := by decide +kernel
theorem dX8_removeTask_110 : decode cX8_removeTask 110 = .ok (.iconst 0, 1) := by decide +kernel
theorem dX8_removeTask_111 : decode cX8_removeTask 111 = .ok (.iconst (-1), 1) := by decide +kernel
theorem dX8_removeTask_112 : decode cX8_removeTask 112 = .ok (.iconst 0, 1) := by decide +kernel
theorem dX8_removeTask_113 : decode cX8_removeTask 113 = .ok (.iconst 0, 1) := by decide +kernel
theorem dX8_removeTask_114 : decode cX8_removeTask 114 = .ok (.invokevirtual 99, 3) := by decide +kernel
theorem dX8_removeTask_117 : decode cX8_removeTask 117 = .ok (.iload 5, 2) := by decide +kernel
theorem dX8_removeTask_119 : decode cX8_removeTask 119 = .ok (.ireturn, 1) := by decide +kernel
theorem dX8_allNeeds_0 : decode cX8_allNeeds 0 = .ok (.aload_n 0, 1) := by decide +kernel
theorem dX8_allNeeds_1 : decode cX8_allNeeds 1 = .ok (.getfield 19, 3) := by decide +kernel
theorem dX8_allNeeds_4 : decode cX8_allNeeds 4 = .ok (.iload_n 1, 1) := by decide +kernel
theorem dX8_allNeeds_5 : decode cX8_allNeeds 5 = .ok (.iload_n 2, 1) := by decide +kernel
theorem dX8_allNeeds_6 : decode cX8_allNeeds 6 = .ok (.invokestatic 95, 3) := by decide +kernel
theorem dX8_allNeeds_9 : decode cX8_allNeeds 9 = .ok (.iaload, 1) := by decide +kernel
theorem dX8_allNeeds_10 : decode cX8_allNeeds 10 = .ok (.istore_n 3, 1) := by decide +kernel
theorem dX8_allNeeds_11 : decode cX8_allNeeds 11 = .ok (.iconst (-1), 1) := by decide +kernel
theorem dX8_allNeeds_12 : decode cX8_allNeeds 12 = .ok (.istore 4, 2) := by decide +kernel
theorem dX8_allNeeds_14 : decode cX8_allNeeds 14 = .ok (.iload_n 3, 1) := by decide +kernel
theorem dX8_allNeeds_15 : decode cX8_allNeeds 15 = .ok (.iload 4, 2) := by decide +kernel
theorem dX8_allNeeds_17 : decode cX8_allNeeds 17 = .ok (.if_icmp .eq 53, 3) := by decide +kernel
theorem dX8_allNeeds_20 : decode cX8_allNeeds 20 = .ok (.iload_n 3, 1) := by decide +kernel
theorem dX8_allNeeds_21 : decode cX8_allNeeds 21 = .ok (.istore 4, 2) := by decide +kernel
theorem dX8_allNeeds_23 : decode cX8_allNeeds 23 = .ok (.iconst 0, 1) := by decide +kernel
theorem dX8_allNeeds_24 : decode cX8_allNeeds 24 = .ok (.istore 5, 2) := by decide +kernel
theorem dX8_allNeeds_26 : decode cX8_allNeeds 26 = .ok (.iload 5, 2) := by decide +kernel
theorem dX8_allNeeds_28 : decode cX8_allNeeds 28 = .ok (.bipush 16, 2) := by decide +kernel
theorem dX8_allNeeds_30 : decode cX8_allNeeds 30 = .ok (.if_icmp .ge 37, 3) := by decide +kernel
theorem dX8_allNeeds_33 : decode cX8_allNeeds 33 = .ok (.iload_n 3, 1) := by decide +kernel
theorem dX8_allNeeds_34 : decode cX8_allNeeds 34 = .ok (.iload_n 3, 1) := by decide +kernel
theorem dX8_allNeeds_35 : decode cX8_allNeeds 35 = .ok (.iload 5, 2) := by decide +kernel
theorem dX8_allNeeds_37 : decode cX8_allNeeds 37 = .ok (.ishr, 1) := by decide +kernel
theorem dX8_allNeeds_38 : decode cX8_allNeeds 38 = .ok (.iconst 1, 1) := by decide +kernel
theorem dX8_allNeeds_39 : decode cX8_allNeeds 39 = .ok (.iand, 1) := by decide +kernel
theorem dX8_allNeeds_40 : decode cX8_allNeeds 40 = .ok (.iconst 1, 1) := by decide +kernel
theorem dX8_allNeeds_41 : decode cX8_allNeeds 41 = .ok (.if_icmp .ne 17, 3) := by decide +kernel
theorem dX8_allNeeds_44 : decode cX8_allNeeds 44 = .ok (.aload_n 0, 1) := by decide +kernel
theorem dX8_allNeeds_45 : decode cX8_allNeeds 45 = .ok (.getfield 19, 3) := by decide +kernel
theorem dX8_allNeeds_48 : decode cX8_allNeeds 48 = .ok (.iload_n 1, 1) := by decide +kernel
theorem dX8_allNeeds_49 : decode cX8_allNeeds 49 = .ok (.iload 5, 2) := by decide +kernel
theorem dX8_allNeeds_51 : decode cX8_allNeeds 51 = .ok (.invokestatic 95, 3) := by decide +kernel
theorem dX8_allNeeds_54 : decode cX8_allNeeds 54 = .ok (.iaload, 1) := by decide +kernel
theorem dX8_allNeeds_55 : decode cX8_allNeeds 55 = .ok (.goto 4, 3) := by decide +kernel
theorem dX8_allNeeds_58 : decode cX8_allNeeds 58 = .ok (.iconst 0, 1) := by decide +kernel
theorem dX8_allNeeds_59 : decode cX8_allNeeds 59 = .ok (.ior, 1) := by decide +kernel
theorem dX8_allNeeds_60 : decode cX8_allNeeds 60 = .ok (.istore_n 3, 1) := by decide +kernel
theorem dX8_allNeeds_61 : decode cX8_allNeeds 61 = .ok (.iinc 5 1, 3) := by decide +kernel
theorem dX8_allNeeds_64 : decode cX8_allNeeds 64 = .ok (.goto (-38), 3) := by decide +kernel
theorem dX8_allNeeds_67 : decode cX8_allNeeds 67 = .ok (.goto (-53), 3) := by decide +kernel
theorem dX8_allNeeds_70 : decode cX8_allNeeds 70 = .ok (.iload_n 3, 1) := by decide +kernel
theorem dX8_allNeeds_71 : decode cX8_allNeeds 71 = .ok (.ireturn, 1) := by decide +kernel
theorem dX8_setNeed_0 : decode cX8_setNeed 0 = .ok (.iload_n 2, 1) := by decide +kernel
theorem dX8_setNeed_1 : decode cX8_setNeed 1 = .ok (.invokestatic 107, 3) := by decide +kernel
theorem dX8_setNeed_4 : decode cX8_setNeed 4 = .ok (.ifCond .eq 19, 3) := by decide +kernel
theorem dX8_setNeed_7 : decode cX8_setNeed 7 = .ok (.iload_n 3, 1) := by decide +kernel
theorem dX8_setNeed_8 : decode cX8_setNeed 8 = .ok (.invokestatic 107, 3) := by decide +kernel
theorem dX8_setNeed_11 : decode cX8_setNeed 11 = .ok (.ifCond .eq 12, 3) := by decide +kernel
theorem dX8_setNeed_14 : decode cX8_setNeed 14 = .ok (.iload_n 2, 1) := by decide +kernel
theorem dX8_setNeed_15 : decode cX8_setNeed 15 = .ok (.iload_n 3, 1) := by decide +kernel
theorem dX8_setNeed_16 : decode cX8_setNeed 16 = .ok (.if_icmp .eq 7, 3) := by decide +kernel
theorem dX8_setNeed_19 : decode cX8_setNeed 19 = .ok (.iconst 1, 1) := by decide +kernel
theorem dX8_setNeed_20 : decode cX8_setNeed 20 = .ok (.goto 4, 3) := by decide +kernel
theorem dX8_setNeed_23 : decode cX8_setNeed 23 = .ok (.iconst 0, 1) := by decide +kernel
theorem dX8_setNeed_24 : decode cX8_setNeed 24 = .ok (.istore 5, 2) := by decide +kernel
theorem dX8_setNeed_26 : decode cX8_setNeed 26 = .ok (.aload_n 0, 1) := by decide +kernel
theorem dX8_setNeed_27 : decode cX8_setNeed 27 = .ok (.iload_n 1, 1) := by decide +kernel
theorem dX8_setNeed_28 : decode cX8_setNeed 28 = .ok (.invokevirtual 111, 3) := by decide +kernel
theorem dX8_setNeed_31 : decode cX8_setNeed 31 = .ok (.ifCond .eq 12, 3) := by decide +kernel
theorem dX8_setNeed_34 : decode cX8_setNeed 34 = .ok (.iload 5, 2) := by decide +kernel
theorem dX8_setNeed_36 : decode cX8_setNeed 36 = .ok (.ifCond .eq 7, 3) := by decide +kernel
theorem dX8_setNeed_39 : decode cX8_setNeed 39 = .ok (.iconst 1, 1) := by decide +kernel
theorem dX8_setNeed_40 : decode cX8_setNeed 40 = .ok (.goto 4, 3) := by decide +kernel
theorem dX8_setNeed_43 : decode cX8_setNeed 43 = .ok (.iconst 0, 1) := by decide +kernel
theorem dX8_setNeed_44 : decode cX8_setNeed 44 = .ok (.istore 6, 2) := by decide +kernel
theorem dX8_setNeed_46 : decode cX8_setNeed 46 = .ok (.iload 6, 2) := by decide +kernel
theorem dX8_setNeed_48 : decode cX8_setNeed 48 = .ok (.ifCond .eq 43, 3) := by decide +kernel
theorem dX8_setNeed_51 : decode cX8_setNeed 51 = .ok (.aload_n 0, 1) := by decide +kernel
theorem dX8_setNeed_52 : decode cX8_setNeed 52 = .ok (.iload_n 1, 1) := by decide +kernel
theorem dX8_setNeed_53 : decode cX8_setNeed 53 = .ok (.iload_n 2, 1) := by decide +kernel
theorem dX8_setNeed_54 : decode cX8_setNeed 54 = .ok (.invokevirtual 121, 3) := by decide +kernel
theorem dX8_setNeed_57 : decode cX8_setNeed 57 = .ok (.ifCond .eq 34, 3) := by decide +kernel
theorem dX8_setNeed_60 : decode cX8_setNeed 60 = .ok (.aload_n 0, 1) := by decide +kernel
theorem dX8_setNeed_61 : decode cX8_setNeed 61 = .ok (.iload_n 1, 1) := by decide +kernel
theorem dX8_setNeed_62 : decode cX8_setNeed 62 = .ok (.iload_n 3, 1) := by decide +kernel
theorem dX8_setNeed_63 : decode cX8_setNeed 63 = .ok (.invokevirtual 121, 3) := by decide +kernel
theorem dX8_setNeed_66 : decode cX8_setNeed 66 = .ok (.ifCond .eq 25, 3) := by decide +kernel
theorem dX8_setNeed_69 : decode cX8_setNeed 69 = .ok (.iload 4, 2) := by decide +kernel
theorem dX8_setNeed_71 : decode cX8_setNeed 71 = .ok (.ifCond .eq 16, 3) := by decide +kernel
theorem dX8_setNeed_74 : decode cX8_setNeed 74 = .ok (.aload_n 0, 1) := by decide +kernel
theorem dX8_setNeed_75 : decode cX8_setNeed 75 = .ok (.iload_n 1, 1) := by decide +kernel
theorem dX8_setNeed_76 : decode cX8_setNeed 76 = .ok (.iload_n 3, 1) := by decide +kernel
theorem dX8_setNeed_77 : decode cX8_setNeed 77 = .ok (.invokevirtual 131, 3) := by decide +kernel
theorem dX8_setNeed_80 : decode cX8_setNeed 80 = .ok (.iload_n 2, 1) := by decide +kernel
theorem dX8_setNeed_81 : decode cX8_setNeed 81 = .ok (.ishr, 1) := by decide +kernel
theorem dX8_setNeed_82 : decode cX8_setNeed 82 = .ok (.iconst 1, 1) := by decide +kernel
theorem dX8_setNeed_83 : decode cX8_setNeed 83 = .ok (.iand, 1) := by decide +kernel
theorem dX8_setNeed_84 : decode cX8_setNeed 84 = .ok (.ifCond .ne 7, 3) := by decide +kernel
theorem dX8_setNeed_87 : decode cX8_setNeed 87 = .ok (.iconst 1, 1) := by decide +kernel
theorem dX8_setNeed_88 : decode cX8_setNeed 88 = .ok (.goto 4, 3) := by decide +kernel
theorem dX8_setNeed_91 : decode cX8_setNeed 91 = .ok (.iconst 0, 1) := by decide +kernel
theorem dX8_setNeed_92 : decode cX8_setNeed 92 = .ok (.istore 7, 2) := by decide +kernel
theorem dX8_setNeed_94 : decode cX8_setNeed 94 = .ok (.aload_n 0, 1) := by decide +kernel
theorem dX8_setNeed_95 : decode cX8_setNeed 95 = .ok (.aload_n 0, 1) := by decide +kernel
theorem dX8_setNeed_96 : decode cX8_setNeed 96 = .ok (.iload_n 1, 1) := by decide +kernel
theorem dX8_setNeed_97 : decode cX8_setNeed 97 = .ok (.invokevirtual 111, 3) := by decide +kernel
theorem dX8_setNeed_100 : decode cX8_setNeed 100 = .ok (.ifCond .ne 7, 3) := by decide +kernel
theorem dX8_setNeed_103 : decode cX8_setNeed 103 = .ok (.iconst 1, 1) := by decide +kernel
theorem dX8_setNeed_104 : decode cX8_setNeed 104 = .ok (.goto 22, 3) := by decide +kernel
theorem dX8_setNeed_107 : decode cX8_setNeed 107 = .ok (.iload 5, 2) := by decide +kernel
theorem dX8_setNeed_109 : decode cX8_setNeed 109 = .ok (.ifCond .ne 7, 3) := by decide +kernel
theorem dX8_setNeed_112 : decode cX8_setNeed 112 = .ok (.iconst 2, 1) := by decide +kernel
theorem dX8_setNeed_113 : decode cX8_setNeed 113 = .ok (.goto 13, 3) := by decide +kernel
theorem dX8_setNeed_116 : decode cX8_setNeed 116 = .ok (.iload 7, 2) := by decide +kernel
theorem dX8_setNeed_118 : decode cX8_setNeed 118 = .ok (.ifCond .ne 7, 3) := by decide +kernel
theorem dX8_setNeed_121 : decode cX8_setNeed 121 = .ok (.iconst 3, 1) := by decide +kernel
theorem dX8_setNeed_122 : decode cX8_setNeed 122 = .ok (.goto 4, 3) := by decide +kernel
theorem dX8_setNeed_125 : decode cX8_setNeed 125 = .ok (.iconst 0, 1) := by decide +kernel
theorem dX8_setNeed_126 : decode cX8_setNeed 126 = .ok (.invokevirtual 114, 3) := by decide +kernel
theorem dX8_setNeed_129 : decode cX8_setNeed 129 = .ok (.ifCond .ne 5, 3) := by decide +kernel
theorem dX8_setNeed_132 : decode cX8_setNeed 132 = .ok (.iconst 0, 1) := by decide +kernel
theorem dX8_setNeed_133 : decode cX8_setNeed 133 = .ok (.ireturn, 1) := by decide +kernel
theorem dX8_setNeed_134 : decode cX8_setNeed 134 = .ok (.aload_n 0, 1) := by decide +kernel
theorem dX8_setNeed_135 : decode cX8_setNeed 135 = .ok (.iload_n 1, 1) := by decide +kernel
theorem dX8_setNeed_136 : decode cX8_setNeed 136 = .ok (.iload_n 2, 1) := by decide +kernel
theorem dX8_setNeed_137 : decode cX8_setNeed 137 = .ok (.invokevirtual 117, 3) := by decide +kernel
theorem dX8_setNeed_140 : decode cX8_setNeed 140 = .ok (.aload_n 0, 1) := by decide +kernel
theorem dX8_setNeed_141 : decode cX8_setNeed 141 = .ok (.iload_n 1, 1) := by decide +kernel
theorem dX8_setNeed_142 : decode cX8_setNeed 142 = .ok (.iload_n 2, 1) := by decide +kernel
theorem dX8_setNeed_143 : decode cX8_setNeed 143 = .ok (.iload_n 3, 1) := by decide +kernel
theorem dX8_setNeed_144 : decode cX8_setNeed 144 = .ok (.invokevirtual 125, 3) := by decide +kernel
theorem dX8_setNeed_147 : decode cX8_setNeed 147 = .ok (.istore 8, 2) := by decide +kernel
theorem dX8_setNeed_149 : decode cX8_setNeed 149 = .ok (.aload_n 0, 1) := by decide +kernel
theorem dX8_setNeed_150 : decode cX8_setNeed 150 = .ok (.getfield 19, 3) := by decide +kernel
theorem dX8_setNeed_153 : decode cX8_setNeed 153 = .ok (.iload_n 1, 1) := by decide +kernel
theorem dX8_setNeed_154 : decode cX8_setNeed 154 = .ok (.iload_n 2, 1) := by decide +kernel
theorem dX8_setNeed_155 : decode cX8_setNeed 155 = .ok (.invokestatic 95, 3) := by decide +kernel
theorem dX8_setNeed_158 : decode cX8_setNeed 158 = .ok (.iaload, 1) := by decide +kernel
theorem dX8_setNeed_159 : decode cX8_setNeed 159 = .ok (.iconst 1, 1) := by decide +kernel
theorem dX8_setNeed_160 : decode cX8_setNeed 160 = .ok (.iload_n 3, 1) := by decide +kernel
theorem dX8_setNeed_161 : decode cX8_setNeed 161 = .ok (.ishl, 1) := by decide +kernel
theorem dX8_setNeed_162 : decode cX8_setNeed 162 = .ok (.iconst (-1), 1) := by decide +kernel
theorem dX8_setNeed_163 : decode cX8_setNeed 163 = .ok (.ixor, 1) := by decide +kernel
theorem dX8_setNeed_164 : decode cX8_setNeed 164 = .ok (.iand, 1) := by decide +kernel
theorem dX8_setNeed_165 : decode cX8_setNeed 165 = .ok (.istore 9, 2) := by decide +kernel
theorem dX8_setNeed_167 : decode cX8_setNeed 167 = .ok (.aload_n 0, 1) := by decide +kernel
theorem dX8_setNeed_168 : decode cX8_setNeed 168 = .ok (.getfield 19, 3) := by decide +kernel
theorem dX8_setNeed_171 : decode cX8_setNeed 171 = .ok (.iload_n 1, 1) := by decide +kernel
theorem dX8_setNeed_172 : decode cX8_setNeed 172 = .ok (.iload_n 2, 1) := by decide +kernel
theorem dX8_setNeed_173 : decode cX8_setNeed 173 = .ok (.invokestatic 95, 3) := by decide +kernel
theorem dX8_setNeed_176 : decode cX8_setNeed 176 = .ok (.iload 4, 2) := by decide +kernel
theorem dX8_setNeed_178 : decode cX8_setNeed 178 = .ok (.ifCond .eq 12, 3) := by decide +kernel
theorem dX8_setNeed_181 : decode cX8_setNeed 181 = .ok (.iload 9, 2) := by decide +kernel
theorem dX8_setNeed_183 : decode cX8_setNeed 183 = .ok (.iconst 1, 1) := by decide +kernel
theorem dX8_setNeed_184 : decode cX8_setNeed 184 = .ok (.iload_n 3, 1) := by decide +kernel
theorem dX8_setNeed_185 : decode cX8_setNeed 185 = .ok (.ishl, 1) := by decide +kernel
theorem dX8_setNeed_186 : decode cX8_setNeed 186 = .ok (.ior, 1) := by decide +kernel
theorem dX8_setNeed_187 : decode cX8_setNeed 187 = .ok (.goto 5, 3) := by decide +kernel
theorem dX8_setNeed_190 : decode cX8_setNeed 190 = .ok (.iload 9, 2) := by decide +kernel
theorem dX8_setNeed_192 : decode cX8_setNeed 192 = .ok (.iastore, 1) := by decide +kernel
theorem dX8_setNeed_193 : decode cX8_setNeed 193 = .ok (.iload 8, 2) := by decide +kernel
theorem dX8_setNeed_195 : decode cX8_setNeed 195 = .ok (.ireturn, 1) := by decide +kernel
theorem dX8_undo_0 : decode cX8_undo 0 = .ok (.aload_n 0, 1) := by decide +kernel
theorem dX8_undo_1 : decode cX8_undo 1 = .ok (.aload_n 0, 1) := by decide +kernel
theorem dX8_undo_2 : decode cX8_undo 2 = .ok (.iload_n 1, 1) := by decide +kernel
theorem dX8_undo_3 : decode cX8_undo 3 = .ok (.invokevirtual 111, 3) := by decide +kernel
theorem dX8_undo_6 : decode cX8_undo 6 = .ok (.ifCond .ne 7, 3) := by decide +kernel
theorem dX8_undo_9 : decode cX8_undo 9 = .ok (.iconst 1, 1) := by decide +kernel
theorem dX8_undo_10 : decode cX8_undo 10 = .ok (.goto 17, 3) := by decide +kernel
theorem dX8_undo_13 : decode cX8_undo 13 = .ok (.aload_n 0, 1) := by decide +kernel
theorem dX8_undo_14 : decode cX8_undo 14 = .ok (.getfield 50, 3) := by decide +kernel
theorem dX8_undo_17 : decode cX8_undo 17 = .ok (.iload_n 1, 1) := by decide +kernel
theorem dX8_undo_18 : decode cX8_undo 18 = .ok (.iaload, 1) := by decide +kernel
theorem dX8_undo_19 : decode cX8_undo 19 = .ok (.ifCond .ne 7, 3) := by decide +kernel
theorem dX8_undo_22 : decode cX8_undo 22 = .ok (.iconst 2, 1) := by decide +kernel
theorem dX8_undo_23 : decode cX8_undo 23 = .ok (.goto 4, 3) := by decide +kernel
theorem dX8_undo_26 : decode cX8_undo 26 = .ok (.iconst 0, 1) := by decide +kernel
theorem dX8_undo_27 : decode cX8_undo 27 = .ok (.invokevirtual 114, 3) := by decide +kernel
theorem dX8_undo_30 : decode cX8_undo 30 = .ok (.ifCond .ne 5, 3) := by decide +kernel
theorem dX8_undo_33 : decode cX8_undo 33 = .ok (.iconst 0, 1) := by decide +kernel
theorem dX8_undo_34 : decode cX8_undo 34 = .ok (.ireturn, 1) := by decide +kernel
theorem dX8_undo_35 : decode cX8_undo 35 = .ok (.aload_n 0, 1) := by decide +kernel
theorem dX8_undo_36 : decode cX8_undo 36 = .ok (.getfield 50, 3) := by decide +kernel
theorem dX8_undo_39 : decode cX8_undo 39 = .ok (.iload_n 1, 1) := by decide +kernel
theorem dX8_undo_40 : decode cX8_undo 40 = .ok (.dup2, 1) := by decide +kernel
theorem dX8_undo_41 : decode cX8_undo 41 = .ok (.iaload, 1) := by decide +kernel
theorem dX8_undo_42 : decode cX8_undo 42 = .ok (.iconst 1, 1) := by decide +kernel
theorem dX8_undo_43 : decode cX8_undo 43 = .ok (.isub, 1) := by decide +kernel
theorem dX8_undo_44 : decode cX8_undo 44 = .ok (.iastore, 1) := by decide +kernel
theorem dX8_undo_45 : decode cX8_undo 45 = .ok (.bipush 30, 2) := by decide +kernel
theorem dX8_undo_47 : decode cX8_undo 47 = .ok (.iload_n 1, 1) := by decide +kernel
theorem dX8_undo_48 : decode cX8_undo 48 = .ok (.imul, 1) := by decide +kernel
theorem dX8_undo_49 : decode cX8_undo 49 = .ok (.aload_n 0, 1) := by decide +kernel
theorem dX8_undo_50 : decode cX8_undo 50 = .ok (.getfield 50, 3) := by decide +kernel
theorem dX8_undo_53 : decode cX8_undo 53 = .ok (.iload_n 1, 1) := by decide +kernel
theorem dX8_undo_54 : decode cX8_undo 54 = .ok (.iaload, 1) := by decide +kernel
theorem dX8_undo_55 : decode cX8_undo 55 = .ok (.iadd, 1) := by decide +kernel
theorem dX8_undo_56 : decode cX8_undo 56 = .ok (.istore_n 2, 1) := by decide +kernel
theorem dX8_undo_57 : decode cX8_undo 57 = .ok (.aload_n 0, 1) := by decide +kernel
theorem dX8_undo_58 : decode cX8_undo 58 = .ok (.iload_n 1, 1) := by decide +kernel
theorem dX8_undo_59 : decode cX8_undo 59 = .ok (.aload_n 0, 1) := by decide +kernel
theorem dX8_undo_60 : decode cX8_undo 60 = .ok (.getfield 35, 3) := by decide +kernel
theorem dX8_undo_63 : decode cX8_undo 63 = .ok (.iload_n 2, 1) := by decide +kernel
theorem dX8_undo_64 : decode cX8_undo 64 = .ok (.iaload, 1) := by decide +kernel
theorem dX8_undo_65 : decode cX8_undo 65 = .ok (.aload_n 0, 1) := by decide +kernel
theorem dX8_undo_66 : decode cX8_undo 66 = .ok (.getfield 38, 3) := by decide +kernel
theorem dX8_undo_69 : decode cX8_undo 69 = .ok (.iload_n 2, 1) := by decide +kernel
theorem dX8_undo_70 : decode cX8_undo 70 = .ok (.iaload, 1) := by decide +kernel
theorem dX8_undo_71 : decode cX8_undo 71 = .ok (.aload_n 0, 1) := by decide +kernel
theorem dX8_undo_72 : decode cX8_undo 72 = .ok (.getfield 41, 3) := by decide +kernel
theorem dX8_undo_75 : decode cX8_undo 75 = .ok (.iload_n 2, 1) := by decide +kernel
theorem dX8_undo_76 : decode cX8_undo 76 = .ok (.iaload, 1) := by decide +kernel
theorem dX8_undo_77 : decode cX8_undo 77 = .ok (.aload_n 0, 1) := by decide +kernel
theorem dX8_undo_78 : decode cX8_undo 78 = .ok (.getfield 44, 3) := by decide +kernel
theorem dX8_undo_81 : decode cX8_undo 81 = .ok (.iload_n 2, 1) := by decide +kernel
theorem dX8_undo_82 : decode cX8_undo 82 = .ok (.iaload, 1) := by decide +kernel
theorem dX8_undo_83 : decode cX8_undo 83 = .ok (.aload_n 0, 1) := by decide +kernel
theorem dX8_undo_84 : decode cX8_undo 84 = .ok (.getfield 47, 3) := by decide +kernel
theorem dX8_undo_87 : decode cX8_undo 87 = .ok (.iload_n 2, 1) := by decide +kernel
theorem dX8_undo_88 : decode cX8_undo 88 = .ok (.iaload, 1) := by decide +kernel
theorem dX8_undo_89 : decode cX8_undo 89 = .ok (.invokevirtual 99, 3) := by decide +kernel
theorem dX8_undo_92 : decode cX8_undo 92 = .ok (.aload_n 0, 1) := by decide +kernel
theorem dX8_undo_93 : decode cX8_undo 93 = .ok (.getfield 50, 3) := by decide +kernel
theorem dX8_undo_96 : decode cX8_undo 96 = .ok (.iload_n 1, 1) := by decide +kernel
theorem dX8_undo_97 : decode cX8_undo 97 = .ok (.iaload, 1) := by decide +kernel
theorem dX8_undo_98 : decode cX8_undo 98 = .ok (.ireturn, 1) := by decide +kernel
theorem dX8_tasks0_0 : decode cX8_tasks0 0 = .ok (.iconst 0, 1) := by decide +kernel
theorem dX8_tasks0_1 : decode cX8_tasks0 1 = .ok (.istore_n 2, 1) := by decide +kernel
theorem dX8_tasks0_2 : decode cX8_tasks0 2 = .ok (.iconst 0, 1) := by decide +kernel
theorem dX8_tasks0_3 : decode cX8_tasks0 3 = .ok (.istore_n 3, 1) := by decide +kernel
theorem dX8_tasks0_4 : decode cX8_tasks0 4 = .ok (.iload_n 3, 1) := by decide +kernel
theorem dX8_tasks0_5 : decode cX8_tasks0 5 = .ok (.bipush 16, 2) := by decide +kernel
theorem dX8_tasks0_7 : decode cX8_tasks0 7 = .ok (.if_icmp .ge 28, 3) := by decide +kernel
theorem dX8_tasks0_10 : decode cX8_tasks0 10 = .ok (.iload_n 2, 1) := by decide +kernel
theorem dX8_tasks0_11 : decode cX8_tasks0 11 = .ok (.aload_n 0, 1) := by decide +kernel
theorem dX8_tasks0_12 : decode cX8_tasks0 12 = .ok (.iload_n 1, 1) := by decide +kernel
theorem dX8_tasks0_13 : decode cX8_tasks0 13 = .ok (.iload_n 3, 1) := by decide +kernel
theorem dX8_tasks0_14 : decode cX8_tasks0 14 = .ok (.invokevirtual 121, 3) := by decide +kernel
theorem dX8_tasks0_17 : decode cX8_tasks0 17 = .ok (.ifCond .eq 9, 3) := by decide +kernel
theorem dX8_tasks0_20 : decode cX8_tasks0 20 = .ok (.iconst 1, 1) := by decide +kernel
theorem dX8_tasks0_21 : decode cX8_tasks0 21 = .ok (.iload_n 3, 1) := by decide +kernel
theorem dX8_tasks0_22 : decode cX8_tasks0 22 = .ok (.ishl, 1) := by decide +kernel
theorem dX8_tasks0_23 : decode cX8_tasks0 23 = .ok (.goto 4, 3) := by decide +kernel
theorem dX8_tasks0_26 : decode cX8_tasks0 26 = .ok (.iconst 0, 1) := by decide +kernel
theorem dX8_tasks0_27 : decode cX8_tasks0 27 = .ok (.ior, 1) := by decide +kernel
theorem dX8_tasks0_28 : decode cX8_tasks0 28 = .ok (.istore_n 2, 1) := by decide +kernel
theorem dX8_tasks0_29 : decode cX8_tasks0 29 = .ok (.iinc 3 1, 3) := by decide +kernel
theorem dX8_tasks0_32 : decode cX8_tasks0 32 = .ok (.goto (-28), 3) := by decide +kernel
theorem dX8_tasks0_35 : decode cX8_tasks0 35 = .ok (.iload_n 2, 1) := by decide +kernel
theorem dX8_tasks0_36 : decode cX8_tasks0 36 = .ok (.ireturn, 1) := by decide +kernel
theorem dX8_tasks_0 : decode cX8_tasks 0 = .ok (.aload_n 0, 1) := by decide +kernel
theorem dX8_tasks_1 : decode cX8_tasks 1 = .ok (.aload_n 0, 1) := by decide +kernel
theorem dX8_tasks_2 : decode cX8_tasks 2 = .ok (.iload_n 1, 1) := by decide +kernel
theorem dX8_tasks_3 : decode cX8_tasks 3 = .ok (.invokevirtual 111, 3) := by decide +kernel
theorem dX8_tasks_6 : decode cX8_tasks 6 = .ok (.ifCond .eq 7, 3) := by decide +kernel
theorem dX8_tasks_9 : decode cX8_tasks 9 = .ok (.iconst 0, 1) := by decide +kernel
theorem dX8_tasks_10 : decode cX8_tasks 10 = .ok (.goto 4, 3) := by decide +kernel
theorem dX8_tasks_13 : decode cX8_tasks 13 = .ok (.iconst 1, 1) := by decide +kernel
theorem dX8_tasks_14 : decode cX8_tasks 14 = .ok (.invokevirtual 114, 3) := by decide +kernel
theorem dX8_tasks_17 : decode cX8_tasks 17 = .ok (.ifCond .eq 11, 3) := by decide +kernel
theorem dX8_tasks_20 : decode cX8_tasks 20 = .ok (.aload_n 0, 1) := by decide +kernel
theorem dX8_tasks_21 : decode cX8_tasks 21 = .ok (.iload_n 1, 1) := by decide +kernel
theorem dX8_tasks_22 : decode cX8_tasks 22 = .ok (.invokevirtual 134, 3) := by decide +kernel
theorem dX8_tasks_25 : decode cX8_tasks 25 = .ok (.goto 4, 3) := by decide +kernel
theorem dX8_tasks_28 : decode cX8_tasks 28 = .ok (.iconst 0, 1) := by decide +kernel
theorem dX8_tasks_29 : decode cX8_tasks 29 = .ok (.ireturn, 1) := by decide +kernel
theorem dX8_asks_0 : decode cX8_asks 0 = .ok (.aload_n 0, 1) := by decide +kernel
theorem dX8_asks_1 : decode cX8_asks 1 = .ok (.aload_n 0, 1) := by decide +kernel
theorem dX8_asks_2 : decode cX8_asks 2 = .ok (.iload_n 1, 1) := by decide +kernel
theorem dX8_asks_3 : decode cX8_asks 3 = .ok (.invokevirtual 111, 3) := by decide +kernel
theorem dX8_asks_6 : decode cX8_asks 6 = .ok (.ifCond .ne 7, 3) := by decide +kernel
theorem dX8_asks_9 : decode cX8_asks 9 = .ok (.iconst 1, 1) := by decide +kernel
theorem dX8_asks_10 : decode cX8_asks 10 = .ok (.goto 15, 3) := by decide +kernel
theorem dX8_asks_13 : decode cX8_asks 13 = .ok (.iload_n 2, 1) := by decide +kernel
theorem dX8_asks_14 : decode cX8_asks 14 = .ok (.invokestatic 107, 3) := by decide +kernel
theorem dX8_asks_17 : decode cX8_asks 17 = .ok (.ifCond .ne 7, 3) := by decide +kernel
theorem dX8_asks_20 : decode cX8_asks 20 = .ok (.iconst 2, 1) := by decide +kernel
theorem dX8_asks_21 : decode cX8_asks 21 = .ok (.goto 4, 3) := by decide +kernel
theorem dX8_asks_24 : decode cX8_asks 24 = .ok (.iconst 0, 1) := by decide +kernel
theorem dX8_asks_25 : decode cX8_asks 25 = .ok (.invokevirtual 114, 3) := by decide +kernel
theorem dX8_asks_28 : decode cX8_asks 28 = .ok (.ireturn, 1) := by decide +kernel
theorem dX8_length_0 : decode cX8_length 0 = .ok (.aload_n 0, 1) := by decide +kernel
theorem dX8_length_1 : decode cX8_length 1 = .ok (.iload_n 1, 1) := by decide +kernel
theorem dX8_length_2 : decode cX8_length 2 = .ok (.iload_n 2, 1) := by decide +kernel
theorem dX8_length_3 : decode cX8_length 3 = .ok (.invokevirtual 138, 3) := by decide +kernel
theorem dX8_length_6 : decode cX8_length 6 = .ok (.ifCond .eq 16, 3) := by decide +kernel
theorem dX8_length_9 : decode cX8_length 9 = .ok (.aload_n 0, 1) := by decide +kernel
theorem dX8_length_10 : decode cX8_length 10 = .ok (.getfield 7, 3) := by decide +kernel
theorem dX8_length_13 : decode cX8_length 13 = .ok (.iload_n 1, 1) := by decide +kernel
theorem dX8_length_14 : decode cX8_length 14 = .ok (.iload_n 2, 1) := by decide +kernel
theorem dX8_length_15 : decode cX8_length 15 = .ok (.invokestatic 95, 3) := by decide +kernel
theorem dX8_length_18 : decode cX8_length 18 = .ok (.iaload, 1) := by decide +kernel
theorem dX8_length_19 : decode cX8_length 19 = .ok (.goto 4, 3) := by decide +kernel
theorem dX8_length_22 : decode cX8_length 22 = .ok (.iconst 0, 1) := by decide +kernel
theorem dX8_length_23 : decode cX8_length 23 = .ok (.ireturn, 1) := by decide +kernel
theorem dX8_crew_0 : decode cX8_crew 0 = .ok (.aload_n 0, 1) := by decide +kernel
theorem dX8_crew_1 : decode cX8_crew 1 = .ok (.iload_n 1, 1) := by decide +kernel
theorem dX8_crew_2 : decode cX8_crew 2 = .ok (.iload_n 2, 1) := by decide +kernel
theorem dX8_crew_3 : decode cX8_crew 3 = .ok (.invokevirtual 138, 3) := by decide +kernel
theorem dX8_crew_6 : decode cX8_crew 6 = .ok (.ifCond .eq 16, 3) := by decide +kernel
theorem dX8_crew_9 : decode cX8_crew 9 = .ok (.aload_n 0, 1) := by decide +kernel
theorem dX8_crew_10 : decode cX8_crew 10 = .ok (.getfield 13, 3) := by decide +kernel
theorem dX8_crew_13 : decode cX8_crew 13 = .ok (.iload_n 1, 1) := by decide +kernel
theorem dX8_crew_14 : decode cX8_crew 14 = .ok (.iload_n 2, 1) := by decide +kernel
theorem dX8_crew_15 : decode cX8_crew 15 = .ok (.invokestatic 95, 3) := by decide +kernel
theorem dX8_crew_18 : decode cX8_crew 18 = .ok (.iaload, 1) := by decide +kernel
theorem dX8_crew_19 : decode cX8_crew 19 = .ok (.goto 4, 3) := by decide +kernel
theorem dX8_crew_22 : decode cX8_crew 22 = .ok (.iconst 0, 1) := by decide +kernel
theorem dX8_crew_23 : decode cX8_crew 23 = .ok (.ireturn, 1) := by decide +kernel
theorem dX8_needs_0 : decode cX8_needs 0 = .ok (.aload_n 0, 1) := by decide +kernel
theorem dX8_needs_1 : decode cX8_needs 1 = .ok (.iload_n 1, 1) := by decide +kernel
theorem dX8_needs_2 : decode cX8_needs 2 = .ok (.iload_n 2, 1) := by decide +kernel
theorem dX8_needs_3 : decode cX8_needs 3 = .ok (.invokevirtual 138, 3) := by decide +kernel
theorem dX8_needs_6 : decode cX8_needs 6 = .ok (.ifCond .eq 16, 3) := by decide +kernel
theorem dX8_needs_9 : decode cX8_needs 9 = .ok (.aload_n 0, 1) := by decide +kernel
theorem dX8_needs_10 : decode cX8_needs 10 = .ok (.getfield 19, 3) := by decide +kernel
theorem dX8_needs_13 : decode cX8_needs 13 = .ok (.iload_n 1, 1) := by decide +kernel
theorem dX8_needs_14 : decode cX8_needs 14 = .ok (.iload_n 2, 1) := by decide +kernel
theorem dX8_needs_15 : decode cX8_needs 15 = .ok (.invokestatic 95, 3) := by decide +kernel
theorem dX8_needs_18 : decode cX8_needs 18 = .ok (.iaload, 1) := by decide +kernel
theorem dX8_needs_19 : decode cX8_needs 19 = .ok (.goto 4, 3) := by decide +kernel
theorem dX8_needs_22 : decode cX8_needs 22 = .ok (.iconst 0, 1) := by decide +kernel
theorem dX8_needs_23 : decode cX8_needs 23 = .ok (.ireturn, 1) := by decide +kernel
theorem dX8_cost0_0 : decode cX8_cost0 0 = .ok (.iconst 0, 1) := by decide +kernel
theorem dX8_cost0_1 : decode cX8_cost0 1 = .ok (.istore_n 2, 1) := by decide +kernel
theorem dX8_cost0_2 : decode cX8_cost0 2 = .ok (.iconst 0, 1) := by decide +kernel
theorem dX8_cost0_3 : decode cX8_cost0 3 = .ok (.istore_n 3, 1) := by decide +kernel
theorem dX8_cost0_4 : decode cX8_cost0 4 = .ok (.iload_n 3, 1) := by decide +kernel
theorem dX8_cost0_5 : decode cX8_cost0 5 = .ok (.bipush 16, 2) := by decide +kernel
theorem dX8_cost0_7 : decode cX8_cost0 7 = .ok (.if_icmp .ge 33, 3) := by decide +kernel
theorem dX8_cost0_10 : decode cX8_cost0 10 = .ok (.iload_n 2, 1) := by decide +kernel
theorem dX8_cost0_11 : decode cX8_cost0 11 = .ok (.aload_n 0, 1) := by decide +kernel
theorem dX8_cost0_12 : decode cX8_cost0 12 = .ok (.getfield 7, 3) := by decide +kernel
theorem dX8_cost0_15 : decode cX8_cost0 15 = .ok (.iload_n 1, 1) := by decide +kernel
theorem dX8_cost0_16 : decode cX8_cost0 16 = .ok (.iload_n 3, 1) := by decide +kernel
theorem dX8_cost0_17 : decode cX8_cost0 17 = .ok (.invokestatic 95, 3) := by decide +kernel
theorem dX8_cost0_20 : decode cX8_cost0 20 = .ok (.iaload, 1) := by decide +kernel
theorem dX8_cost0_21 : decode cX8_cost0 21 = .ok (.aload_n 0, 1) := by decide +kernel
theorem dX8_cost0_22 : decode cX8_cost0 22 = .ok (.getfield 16, 3) := by decide +kernel
theorem dX8_cost0_25 : decode cX8_cost0 25 = .ok (.iload_n 1, 1) := by decide +kernel
theorem dX8_cost0_26 : decode cX8_cost0 26 = .ok (.iload_n 3, 1) := by decide +kernel
theorem dX8_cost0_27 : decode cX8_cost0 27 = .ok (.invokestatic 95, 3) := by decide +kernel
theorem dX8_cost0_30 : decode cX8_cost0 30 = .ok (.iaload, 1) := by decide +kernel
theorem dX8_cost0_31 : decode cX8_cost0 31 = .ok (.imul, 1) := by decide +kernel
theorem dX8_cost0_32 : decode cX8_cost0 32 = .ok (.iadd, 1) := by decide +kernel
theorem dX8_cost0_33 : decode cX8_cost0 33 = .ok (.istore_n 2, 1) := by decide +kernel
theorem dX8_cost0_34 : decode cX8_cost0 34 = .ok (.iinc 3 1, 3) := by decide +kernel
theorem dX8_cost0_37 : decode cX8_cost0 37 = .ok (.goto (-33), 3) := by decide +kernel
theorem dX8_cost0_40 : decode cX8_cost0 40 = .ok (.iload_n 2, 1) := by decide +kernel
theorem dX8_cost0_41 : decode cX8_cost0 41 = .ok (.ireturn, 1) := by decide +kernel
theorem dX8_cost_0 : decode cX8_cost 0 = .ok (.aload_n 0, 1) := by decide +kernel
theorem dX8_cost_1 : decode cX8_cost 1 = .ok (.aload_n 0, 1) := by decide +kernel
theorem dX8_cost_2 : decode cX8_cost 2 = .ok (.iload_n 1, 1) := by decide +kernel
theorem dX8_cost_3 : decode cX8_cost 3 = .ok (.invokevirtual 111, 3) := by decide +kernel
theorem dX8_cost_6 : decode cX8_cost 6 = .ok (.ifCond .eq 7, 3) := by decide +kernel
theorem dX8_cost_9 : decode cX8_cost 9 = .ok (.iconst 0, 1) := by decide +kernel
theorem dX8_cost_10 : decode cX8_cost 10 = .ok (.goto 4, 3) := by decide +kernel
theorem dX8_cost_13 : decode cX8_cost 13 = .ok (.iconst 1, 1) := by decide +kernel
theorem dX8_cost_14 : decode cX8_cost 14 = .ok (.invokevirtual 114, 3) := by decide +kernel
theorem dX8_cost_17 : decode cX8_cost 17 = .ok (.ifCond .eq 11, 3) := by decide +kernel
theorem dX8_cost_20 : decode cX8_cost 20 = .ok (.aload_n 0, 1) := by decide +kernel
theorem dX8_cost_21 : decode cX8_cost 21 = .ok (.iload_n 1, 1) := by decide +kernel
theorem dX8_cost_22 : decode cX8_cost 22 = .ok (.invokevirtual 141, 3) := by decide +kernel
theorem dX8_cost_25 : decode cX8_cost 25 = .ok (.goto 4, 3) := by decide +kernel
theorem dX8_cost_28 : decode cX8_cost 28 = .ok (.iconst 0, 1) := by decide +kernel
theorem dX8_cost_29 : decode cX8_cost 29 = .ok (.ireturn, 1) := by decide +kernel
theorem dX8_forgets_0 : decode cX8_forgets 0 = .ok (.iconst 0, 1) := by decide +kernel
theorem dX8_forgets_1 : decode cX8_forgets 1 = .ok (.istore_n 2, 1) := by decide +kernel
theorem dX8_forgets_2 : decode cX8_forgets 2 = .ok (.iload_n 2, 1) := by decide +kernel
theorem dX8_forgets_3 : decode cX8_forgets 3 = .ok (.bipush 16, 2) := by decide +kernel
theorem dX8_forgets_5 : decode cX8_forgets 5 = .ok (.if_icmp .ge 20, 3) := by decide +kernel
theorem dX8_forgets_8 : decode cX8_forgets 8 = .ok (.aload_n 0, 1) := by decide +kernel
theorem dX8_forgets_9 : decode cX8_forgets 9 = .ok (.getfield 28, 3) := by decide +kernel
theorem dX8_forgets_12 : decode cX8_forgets 12 = .ok (.iload_n 1, 1) := by decide +kernel
theorem dX8_forgets_13 : decode cX8_forgets 13 = .ok (.iload_n 2, 1) := by decide +kernel
theorem dX8_forgets_14 : decode cX8_forgets 14 = .ok (.invokestatic 95, 3) := by decide +kernel
theorem dX8_forgets_17 : decode cX8_forgets 17 = .ok (.iconst (-1), 1) := by decide +kernel
theorem dX8_forgets_18 : decode cX8_forgets 18 = .ok (.iastore, 1) := by decide +kernel
theorem dX8_forgets_19 : decode cX8_forgets 19 = .ok (.iinc 2 1, 3) := by decide +kernel
theorem dX8_forgets_22 : decode cX8_forgets 22 = .ok (.goto (-20), 3) := by decide +kernel
theorem dX8_forgets_25 : decode cX8_forgets 25 = .ok (.return_, 1) := by decide +kernel
theorem dX8_begin_0 : decode cX8_begin 0 = .ok (.aload_n 0, 1) := by decide +kernel
theorem dX8_begin_1 : decode cX8_begin 1 = .ok (.aload_n 0, 1) := by decide +kernel
theorem dX8_begin_2 : decode cX8_begin 2 = .ok (.iload_n 1, 1) := by decide +kernel
theorem dX8_begin_3 : decode cX8_begin 3 = .ok (.invokevirtual 111, 3) := by decide +kernel
theorem dX8_begin_6 : decode cX8_begin 6 = .ok (.ifCond .ne 7, 3) := by decide +kernel
theorem dX8_begin_9 : decode cX8_begin 9 = .ok (.iconst 1, 1) := by decide +kernel
theorem dX8_begin_10 : decode cX8_begin 10 = .ok (.goto 17, 3) := by decide +kernel
theorem dX8_begin_13 : decode cX8_begin 13 = .ok (.aload_n 0, 1) := by decide +kernel
theorem dX8_begin_14 : decode cX8_begin 14 = .ok (.getfield 31, 3) := by decide +kernel
theorem dX8_begin_17 : decode cX8_begin 17 = .ok (.bipush 8, 2) := by decide +kernel
theorem dX8_begin_19 : decode cX8_begin 19 = .ok (.if_icmp .ne 7, 3) := by decide +kernel
theorem dX8_begin_22 : decode cX8_begin 22 = .ok (.iconst 2, 1) := by decide +kernel
theorem dX8_begin_23 : decode cX8_begin 23 = .ok (.goto 4, 3) := by decide +kernel
theorem dX8_begin_26 : decode cX8_begin 26 = .ok (.iconst 0, 1) := by decide +kernel
theorem dX8_begin_27 : decode cX8_begin 27 = .ok (.invokevirtual 114, 3) := by decide +kernel
theorem dX8_begin_30 : decode cX8_begin 30 = .ok (.ifCond .ne 5, 3) := by decide +kernel
theorem dX8_begin_33 : decode cX8_begin 33 = .ok (.iconst 0, 1) := by decide +kernel
theorem dX8_begin_34 : decode cX8_begin 34 = .ok (.ireturn, 1) := by decide +kernel
theorem dX8_begin_35 : decode cX8_begin 35 = .ok (.aload_n 0, 1) := by decide +kernel
theorem dX8_begin_36 : decode cX8_begin 36 = .ok (.getfield 31, 3) := by decide +kernel
theorem dX8_begin_39 : decode cX8_begin 39 = .ok (.istore_n 2, 1) := by decide +kernel
theorem dX8_begin_40 : decode cX8_begin 40 = .ok (.aload_n 0, 1) := by decide +kernel
theorem dX8_begin_41 : decode cX8_begin 41 = .ok (.getfield 22, 3) := by decide +kernel
theorem dX8_begin_44 : decode cX8_begin 44 = .ok (.iload_n 2, 1) := by decide +kernel
theorem dX8_begin_45 : decode cX8_begin 45 = .ok (.iload_n 1, 1) := by decide +kernel
theorem dX8_begin_46 : decode cX8_begin 46 = .ok (.iastore, 1) := by decide +kernel
theorem dX8_begin_47 : decode cX8_begin 47 = .ok (.aload_n 0, 1) := by decide +kernel
theorem dX8_begin_48 : decode cX8_begin 48 = .ok (.getfield 25, 3) := by decide +kernel
theorem dX8_begin_51 : decode cX8_begin 51 = .ok (.iload_n 2, 1) := by decide +kernel
theorem dX8_begin_52 : decode cX8_begin 52 = .ok (.ldc 87, 2) := by decide +kernel
theorem dX8_begin_54 : decode cX8_begin 54 = .ok (.iastore, 1) := by decide +kernel
theorem dX8_begin_55 : decode cX8_begin 55 = .ok (.aload_n 0, 1) := by decide +kernel
theorem dX8_begin_56 : decode cX8_begin 56 = .ok (.iload_n 1, 1) := by decide +kernel
theorem dX8_begin_57 : decode cX8_begin 57 = .ok (.iload_n 2, 1) := by decide +kernel
theorem dX8_begin_58 : decode cX8_begin 58 = .ok (.invokevirtual 144, 3) := by decide +kernel
theorem dX8_begin_61 : decode cX8_begin 61 = .ok (.aload_n 0, 1) := by decide +kernel
theorem dX8_begin_62 : decode cX8_begin 62 = .ok (.iload_n 1, 1) := by decide +kernel
theorem dX8_begin_63 : decode cX8_begin 63 = .ok (.bipush 8, 2) := by decide +kernel
theorem dX8_begin_65 : decode cX8_begin 65 = .ok (.iload_n 2, 1) := by decide +kernel
theorem dX8_begin_66 : decode cX8_begin 66 = .ok (.iadd, 1) := by decide +kernel
theorem dX8_begin_67 : decode cX8_begin 67 = .ok (.invokevirtual 144, 3) := by decide +kernel
theorem dX8_begin_70 : decode cX8_begin 70 = .ok (.aload_n 0, 1) := by decide +kernel
theorem dX8_begin_71 : decode cX8_begin 71 = .ok (.iload_n 2, 1) := by decide +kernel
theorem dX8_begin_72 : decode cX8_begin 72 = .ok (.invokevirtual 147, 3) := by decide +kernel
theorem dX8_begin_75 : decode cX8_begin 75 = .ok (.aload_n 0, 1) := by decide +kernel
theorem dX8_begin_76 : decode cX8_begin 76 = .ok (.getfield 50, 3) := by decide +kernel
theorem dX8_begin_79 : decode cX8_begin 79 = .ok (.iload_n 1, 1) := by decide +kernel
theorem dX8_begin_80 : decode cX8_begin 80 = .ok (.iconst 0, 1) := by decide +kernel
theorem dX8_begin_81 : decode cX8_begin 81 = .ok (.iastore, 1) := by decide +kernel
theorem dX8_begin_82 : decode cX8_begin 82 = .ok (.aload_n 0, 1) := by decide +kernel
theorem dX8_begin_83 : decode cX8_begin 83 = .ok (.dup, 1) := by decide +kernel
theorem dX8_begin_84 : decode cX8_begin 84 = .ok (.getfield 31, 3) := by decide +kernel
theorem dX8_begin_87 : decode cX8_begin 87 = .ok (.iconst 1, 1) := by decide +kernel
theorem dX8_begin_88 : decode cX8_begin 88 = .ok (.iadd, 1) := by decide +kernel
theorem dX8_begin_89 : decode cX8_begin 89 = .ok (.putfield 31, 3) := by decide +kernel
theorem dX8_begin_92 : decode cX8_begin 92 = .ok (.iload_n 2, 1) := by decide +kernel
theorem dX8_begin_93 : decode cX8_begin 93 = .ok (.ireturn, 1) := by decide +kernel
theorem dX8_branches_0 : decode cX8_branches 0 = .ok (.aload_n 0, 1) := by decide +kernel
theorem dX8_branches_1 : decode cX8_branches 1 = .ok (.iconst 0, 1) := by decide +kernel
theorem dX8_branches_2 : decode cX8_branches 2 = .ok (.putfield 88, 3) := by decide +kernel
theorem dX8_branches_5 : decode cX8_branches 5 = .ok (.aload_n 0, 1) := by decide +kernel
theorem dX8_branches_6 : decode cX8_branches 6 = .ok (.getfield 31, 3) := by decide +kernel
theorem dX8_branches_9 : decode cX8_branches 9 = .ok (.ireturn, 1) := by decide +kernel
theorem dX8_parent_0 : decode cX8_parent 0 = .ok (.aload_n 0, 1) := by decide +kernel
theorem dX8_parent_1 : decode cX8_parent 1 = .ok (.aload_n 0, 1) := by decide +kernel
theorem dX8_parent_2 : decode cX8_parent 2 = .ok (.iload_n 1, 1) := by decide +kernel
theorem dX8_parent_3 : decode cX8_parent 3 = .ok (.invokevirtual 111, 3) := by decide +kernel
theorem dX8_parent_6 : decode cX8_parent 6 = .ok (.ifCond .eq 7, 3) := by decide +kernel
theorem dX8_parent_9 : decode cX8_parent 9 = .ok (.iconst 0, 1) := by decide +kernel
theorem dX8_parent_10 : decode cX8_parent 10 = .ok (.goto 4, 3) := by decide +kernel
theorem dX8_parent_13 : decode cX8_parent 13 = .ok (.iconst 1, 1) := by decide +kernel
theorem dX8_parent_14 : decode cX8_parent 14 = .ok (.invokevirtual 114, 3) := by decide +kernel
theorem dX8_parent_17 : decode cX8_parent 17 = .ok (.ifCond .eq 12, 3) := by decide +kernel
theorem dX8_parent_20 : decode cX8_parent 20 = .ok (.aload_n 0, 1) := by decide +kernel
theorem dX8_parent_21 : decode cX8_parent 21 = .ok (.getfield 22, 3) := by decide +kernel
theorem dX8_parent_24 : decode cX8_parent 24 = .ok (.iload_n 1, 1) := by decide +kernel
theorem dX8_parent_25 : decode cX8_parent 25 = .ok (.iaload, 1) := by decide +kernel
theorem dX8_parent_26 : decode cX8_parent 26 = .ok (.goto 4, 3) := by decide +kernel
theorem dX8_parent_29 : decode cX8_parent 29 = .ok (.iconst 0, 1) := by decide +kernel
theorem dX8_parent_30 : decode cX8_parent 30 = .ok (.ireturn, 1) := by decide +kernel
theorem dX8_setBudget_0 : decode cX8_setBudget 0 = .ok (.aload_n 0, 1) := by decide +kernel
theorem dX8_setBudget_1 : decode cX8_setBudget 1 = .ok (.aload_n 0, 1) := by decide +kernel
theorem dX8_setBudget_2 : decode cX8_setBudget 2 = .ok (.iload_n 1, 1) := by decide +kernel
theorem dX8_setBudget_3 : decode cX8_setBudget 3 = .ok (.invokevirtual 111, 3) := by decide +kernel
theorem dX8_setBudget_6 : decode cX8_setBudget 6 = .ok (.ifCond .ne 7, 3) := by decide +kernel
theorem dX8_setBudget_9 : decode cX8_setBudget 9 = .ok (.iconst 1, 1) := by decide +kernel
theorem dX8_setBudget_10 : decode cX8_setBudget 10 = .ok (.goto 18, 3) := by decide +kernel
theorem dX8_setBudget_13 : decode cX8_setBudget 13 = .ok (.iload_n 2, 1) := by decide +kernel
theorem dX8_setBudget_14 : decode cX8_setBudget 14 = .ok (.iconst 0, 1) := by decide +kernel
theorem dX8_setBudget_15 : decode cX8_setBudget 15 = .ok (.ldc 87, 2) := by decide +kernel
theorem dX8_setBudget_17 : decode cX8_setBudget 17 = .ok (.invokestatic 91, 3) := by decide +kernel
theorem dX8_setBudget_20 : decode cX8_setBudget 20 = .ok (.ifCond .ne 7, 3) := by decide +kernel
theorem dX8_setBudget_23 : decode cX8_setBudget 23 = .ok (.iconst 2, 1) := by decide +kernel
theorem dX8_setBudget_24 : decode cX8_setBudget 24 = .ok (.goto 4, 3) := by decide +kernel
theorem dX8_setBudget_27 : decode cX8_setBudget 27 = .ok (.iconst 0, 1) := by decide +kernel
theorem dX8_setBudget_28 : decode cX8_setBudget 28 = .ok (.invokevirtual 114, 3) := by decide +kernel
theorem dX8_setBudget_31 : decode cX8_setBudget 31 = .ok (.ifCond .ne 5, 3) := by decide +kernel
theorem dX8_setBudget_34 : decode cX8_setBudget 34 = .ok (.iconst 0, 1) := by decide +kernel
theorem dX8_setBudget_35 : decode cX8_setBudget 35 = .ok (.ireturn, 1) := by decide +kernel
theorem dX8_setBudget_36 : decode cX8_setBudget 36 = .ok (.aload_n 0, 1) := by decide +kernel
theorem dX8_setBudget_37 : decode cX8_setBudget 37 = .ok (.getfield 25, 3) := by decide +kernel
theorem dX8_setBudget_40 : decode cX8_setBudget 40 = .ok (.iload_n 1, 1) := by decide +kernel
theorem dX8_setBudget_41 : decode cX8_setBudget 41 = .ok (.iaload, 1) := by decide +kernel
theorem dX8_setBudget_42 : decode cX8_setBudget 42 = .ok (.istore_n 3, 1) := by decide +kernel
theorem dX8_setBudget_43 : decode cX8_setBudget 43 = .ok (.aload_n 0, 1) := by decide +kernel
theorem dX8_setBudget_44 : decode cX8_setBudget 44 = .ok (.getfield 25, 3) := by decide +kernel
theorem dX8_setBudget_47 : decode cX8_setBudget 47 = .ok (.iload_n 1, 1) := by decide +kernel
theorem dX8_setBudget_48 : decode cX8_setBudget 48 = .ok (.iload_n 2, 1) := by decide +kernel
theorem dX8_setBudget_49 : decode cX8_setBudget 49 = .ok (.iastore, 1) := by decide +kernel
theorem dX8_setBudget_50 : decode cX8_setBudget 50 = .ok (.iload_n 3, 1) := by decide +kernel
theorem dX8_setBudget_51 : decode cX8_setBudget 51 = .ok (.ireturn, 1) := by decide +kernel
theorem dX8_resolve_0 : decode cX8_resolve 0 = .ok (.iload_n 2, 1) := by decide +kernel
theorem dX8_resolve_1 : decode cX8_resolve 1 = .ok (.invokestatic 107, 3) := by decide +kernel
theorem dX8_resolve_4 : decode cX8_resolve 4 = .ok (.ifCond .eq 16, 3) := by decide +kernel
theorem dX8_resolve_7 : decode cX8_resolve 7 = .ok (.iload_n 3, 1) := by decide +kernel
theorem dX8_resolve_8 : decode cX8_resolve 8 = .ok (.iconst (-1), 1) := by decide +kernel
theorem dX8_resolve_9 : decode cX8_resolve 9 = .ok (.iconst 1, 1) := by decide +kernel
theorem dX8_resolve_10 : decode cX8_resolve 10 = .ok (.invokestatic 91, 3) := by decide +kernel
theorem dX8_resolve_13 : decode cX8_resolve 13 = .ok (.ifCond .eq 7, 3) := by decide +kernel
theorem dX8_resolve_16 : decode cX8_resolve 16 = .ok (.iconst 1, 1) := by decide +kernel
theorem dX8_resolve_17 : decode cX8_resolve 17 = .ok (.goto 4, 3) := by decide +kernel
theorem dX8_resolve_20 : decode cX8_resolve 20 = .ok (.iconst 0, 1) := by decide +kernel
theorem dX8_resolve_21 : decode cX8_resolve 21 = .ok (.istore 4, 2) := by decide +kernel
theorem dX8_resolve_23 : decode cX8_resolve 23 = .ok (.aload_n 0, 1) := by decide +kernel
theorem dX8_resolve_24 : decode cX8_resolve 24 = .ok (.aload_n 0, 1) := by decide +kernel
theorem dX8_resolve_25 : decode cX8_resolve 25 = .ok (.iload_n 1, 1) := by decide +kernel
theorem dX8_resolve_26 : decode cX8_resolve 26 = .ok (.invokevirtual 111, 3) := by decide +kernel
theorem dX8_resolve_29 : decode cX8_resolve 29 = .ok (.ifCond .ne 7, 3) := by decide +kernel
theorem dX8_resolve_32 : decode cX8_resolve 32 = .ok (.iconst 1, 1) := by decide +kernel
theorem dX8_resolve_33 : decode cX8_resolve 33 = .ok (.goto 21, 3) := by decide +kernel
theorem dX8_resolve_36 : decode cX8_resolve 36 = .ok (.iload 4, 2) := by decide +kernel
theorem dX8_resolve_38 : decode cX8_resolve 38 = .ok (.ifCond .ne 7, 3) := by decide +kernel
theorem dX8_resolve_41 : decode cX8_resolve 41 = .ok (.iconst 2, 1) := by decide +kernel
theorem dX8_resolve_42 : decode cX8_resolve 42 = .ok (.goto 12, 3) := by decide +kernel
theorem dX8_resolve_45 : decode cX8_resolve 45 = .ok (.iload_n 1, 1) := by decide +kernel
theorem dX8_resolve_46 : decode cX8_resolve 46 = .ok (.ifCond .ne 7, 3) := by decide +kernel
theorem dX8_resolve_49 : decode cX8_resolve 49 = .ok (.iconst 3, 1) := by decide +kernel
theorem dX8_resolve_50 : decode cX8_resolve 50 = .ok (.goto 4, 3) := by decide +kernel
theorem dX8_resolve_53 : decode cX8_resolve 53 = .ok (.iconst 0, 1) := by decide +kernel
theorem dX8_resolve_54 : decode cX8_resolve 54 = .ok (.invokevirtual 114, 3) := by decide +kernel
theorem dX8_resolve_57 : decode cX8_resolve 57 = .ok (.ifCond .ne 5, 3) := by decide +kernel
theorem dX8_resolve_60 : decode cX8_resolve 60 = .ok (.iconst 0, 1) := by decide +kernel
theorem dX8_resolve_61 : decode cX8_resolve 61 = .ok (.ireturn, 1) := by decide +kernel
theorem dX8_resolve_62 : decode cX8_resolve 62 = .ok (.aload_n 0, 1) := by decide +kernel
theorem dX8_resolve_63 : decode cX8_resolve 63 = .ok (.getfield 28, 3) := by decide +kernel
theorem dX8_resolve_66 : decode cX8_resolve 66 = .ok (.iload_n 1, 1) := by decide +kernel
theorem dX8_resolve_67 : decode cX8_resolve 67 = .ok (.iload_n 2, 1) := by decide +kernel
theorem dX8_resolve_68 : decode cX8_resolve 68 = .ok (.invokestatic 95, 3) := by decide +kernel
theorem dX8_resolve_71 : decode cX8_resolve 71 = .ok (.iaload, 1) := by decide +kernel
theorem dX8_resolve_72 : decode cX8_resolve 72 = .ok (.istore 5, 2) := by decide +kernel
theorem dX8_resolve_74 : decode cX8_resolve 74 = .ok (.aload_n 0, 1) := by decide +kernel
theorem dX8_resolve_75 : decode cX8_resolve 75 = .ok (.getfield 28, 3) := by decide +kernel
theorem dX8_resolve_78 : decode cX8_resolve 78 = .ok (.iload_n 1, 1) := by decide +kernel
theorem dX8_resolve_79 : decode cX8_resolve 79 = .ok (.iload_n 2, 1) := by decide +kernel
theorem dX8_resolve_80 : decode cX8_resolve 80 = .ok (.invokestatic 95, 3) := by decide +kernel
theorem dX8_resolve_83 : decode cX8_resolve 83 = .ok (.iload_n 3, 1) := by decide +kernel
theorem dX8_resolve_84 : decode cX8_resolve 84 = .ok (.iastore, 1) := by decide +kernel
theorem dX8_resolve_85 : decode cX8_resolve 85 = .ok (.iload 5, 2) := by decide +kernel
theorem dX8_resolve_87 : decode cX8_resolve 87 = .ok (.ireturn, 1) := by decide +kernel
theorem dX8_isSame_0 : decode cX8_isSame 0 = .ok (.iload_n 1, 1) := by decide +kernel
theorem dX8_isSame_1 : decode cX8_isSame 1 = .ok (.iload_n 3, 1) := by decide +kernel
theorem dX8_isSame_2 : decode cX8_isSame 2 = .ok (.invokestatic 95, 3) := by decide +kernel
theorem dX8_isSame_5 : decode cX8_isSame 5 = .ok (.istore 4, 2) := by decide +kernel
theorem dX8_isSame_7 : decode cX8_isSame 7 = .ok (.iload_n 2, 1) := by decide +kernel
theorem dX8_isSame_8 : decode cX8_isSame 8 = .ok (.iload_n 3, 1) := by decide +kernel
theorem dX8_isSame_9 : decode cX8_isSame 9 = .ok (.invokestatic 95, 3) := by decide +kernel
theorem dX8_isSame_12 : decode cX8_isSame 12 = .ok (.istore 5, 2) := by decide +kernel
theorem dX8_isSame_14 : decode cX8_isSame 14 = .ok (.aload_n 0, 1) := by decide +kernel
theorem dX8_isSame_15 : decode cX8_isSame 15 = .ok (.getfield 7, 3) := by decide +kernel
theorem dX8_isSame_18 : decode cX8_isSame 18 = .ok (.iload 4, 2) := by decide +kernel
theorem dX8_isSame_20 : decode cX8_isSame 20 = .ok (.iaload, 1) := by decide +kernel
theorem dX8_isSame_21 : decode cX8_isSame 21 = .ok (.aload_n 0, 1) := by decide +kernel
theorem dX8_isSame_22 : decode cX8_isSame 22 = .ok (.getfield 7, 3) := by decide +kernel
theorem dX8_isSame_25 : decode cX8_isSame 25 = .ok (.iload 5, 2) := by decide +kernel
theorem dX8_isSame_27 : decode cX8_isSame 27 = .ok (.iaload, 1) := by decide +kernel
theorem dX8_isSame_28 : decode cX8_isSame 28 = .ok (.if_icmp .ne 58, 3) := by decide +kernel
theorem dX8_isSame_31 : decode cX8_isSame 31 = .ok (.aload_n 0, 1) := by decide +kernel
theorem dX8_isSame_32 : decode cX8_isSame 32 = .ok (.getfield 13, 3) := by decide +kernel
theorem dX8_isSame_35 : decode cX8_isSame 35 = .ok (.iload 4, 2) := by decide +kernel
theorem dX8_isSame_37 : decode cX8_isSame 37 = .ok (.iaload, 1) := by decide +kernel
theorem dX8_isSame_38 : decode cX8_isSame 38 = .ok (.aload_n 0, 1) := by decide +kernel
theorem dX8_isSame_39 : decode cX8_isSame 39 = .ok (.getfield 13, 3) := by decide +kernel
theorem dX8_isSame_42 : decode cX8_isSame 42 = .ok (.iload 5, 2) := by decide +kernel
theorem dX8_isSame_44 : decode cX8_isSame 44 = .ok (.iaload, 1) := by decide +kernel
theorem dX8_isSame_45 : decode cX8_isSame 45 = .ok (.if_icmp .ne 41, 3) := by decide +kernel
theorem dX8_isSame_48 : decode cX8_isSame 48 = .ok (.aload_n 0, 1) := by decide +kernel
theorem dX8_isSame_49 : decode cX8_isSame 49 = .ok (.getfield 16, 3) := by decide +kernel
theorem dX8_isSame_52 : decode cX8_isSame 52 = .ok (.iload 4, 2) := by decide +kernel
theorem dX8_isSame_54 : decode cX8_isSame 54 = .ok (.iaload, 1) := by decide +kernel
theorem dX8_isSame_55 : decode cX8_isSame 55 = .ok (.aload_n 0, 1) := by decide +kernel
theorem dX8_isSame_56 : decode cX8_isSame 56 = .ok (.getfield 16, 3) := by decide +kernel
theorem dX8_isSame_59 : decode cX8_isSame 59 = .ok (.iload 5, 2) := by decide +kernel
theorem dX8_isSame_61 : decode cX8_isSame 61 = .ok (.iaload, 1) := by decide +kernel
theorem dX8_isSame_62 : decode cX8_isSame 62 = .ok (.if_icmp .ne 24, 3) := by decide +kernel
theorem dX8_isSame_65 : decode cX8_isSame 65 = .ok (.aload_n 0, 1) := by decide +kernel
theorem dX8_isSame_66 : decode cX8_isSame 66 = .ok (.getfield 19, 3) := by decide +kernel
theorem dX8_isSame_69 : decode cX8_isSame 69 = .ok (.iload 4, 2) := by decide +kernel
theorem dX8_isSame_71 : decode cX8_isSame 71 = .ok (.iaload, 1) := by decide +kernel
theorem dX8_isSame_72 : decode cX8_isSame 72 = .ok (.aload_n 0, 1) := by decide +kernel
theorem dX8_isSame_73 : decode cX8_isSame 73 = .ok (.getfield 19, 3) := by decide +kernel
theorem dX8_isSame_76 : decode cX8_isSame 76 = .ok (.iload 5, 2) := by decide +kernel
theorem dX8_isSame_78 : decode cX8_isSame 78 = .ok (.iaload, 1) := by decide +kernel
theorem dX8_isSame_79 : decode cX8_isSame 79 = .ok (.if_icmp .ne 7, 3) := by decide +kernel
theorem dX8_isSame_82 : decode cX8_isSame 82 = .ok (.iconst 1, 1) := by decide +kernel
theorem dX8_isSame_83 : decode cX8_isSame 83 = .ok (.goto 4, 3) := by decide +kernel
theorem dX8_isSame_86 : decode cX8_isSame 86 = .ok (.iconst 0, 1) := by decide +kernel
theorem dX8_isSame_87 : decode cX8_isSame 87 = .ok (.ireturn, 1) := by decide +kernel
theorem dX8_isOpen_0 : decode cX8_isOpen 0 = .ok (.iload_n 0, 1) := by decide +kernel
theorem dX8_isOpen_1 : decode cX8_isOpen 1 = .ok (.iload_n 2, 1) := by decide +kernel
theorem dX8_isOpen_2 : decode cX8_isOpen 2 = .ok (.if_icmp .eq 17, 3) := by decide +kernel
theorem dX8_isOpen_5 : decode cX8_isOpen 5 = .ok (.iload_n 1, 1) := by decide +kernel
theorem dX8_isOpen_6 : decode cX8_isOpen 6 = .ok (.iload_n 2, 1) := by decide +kernel
theorem dX8_isOpen_7 : decode cX8_isOpen 7 = .ok (.if_icmp .eq 12, 3) := by decide +kernel
theorem dX8_isOpen_10 : decode cX8_isOpen 10 = .ok (.iload_n 0, 1) := by decide +kernel
theorem dX8_isOpen_11 : decode cX8_isOpen 11 = .ok (.iload_n 1, 1) := by decide +kernel
theorem dX8_isOpen_12 : decode cX8_isOpen 12 = .ok (.if_icmp .eq 7, 3) := by decide +kernel
theorem dX8_isOpen_15 : decode cX8_isOpen 15 = .ok (.iconst 1, 1) := by decide +kernel
theorem dX8_isOpen_16 : decode cX8_isOpen 16 = .ok (.goto 4, 3) := by decide +kernel
theorem dX8_isOpen_19 : decode cX8_isOpen 19 = .ok (.iconst 0, 1) := by decide +kernel
theorem dX8_isOpen_20 : decode cX8_isOpen 20 = .ok (.ireturn, 1) := by decide +kernel
theorem dX8_mixed_0 : decode cX8_mixed 0 = .ok (.iload_n 0, 1) := by decide +kernel
theorem dX8_mixed_1 : decode cX8_mixed 1 = .ok (.iload_n 2, 1) := by decide +kernel
theorem dX8_mixed_2 : decode cX8_mixed 2 = .ok (.if_icmp .ne 7, 3) := by decide +kernel
theorem dX8_mixed_5 : decode cX8_mixed 5 = .ok (.iload_n 1, 1) := by decide +kernel
theorem dX8_mixed_6 : decode cX8_mixed 6 = .ok (.goto 4, 3) := by decide +kernel
theorem dX8_mixed_9 : decode cX8_mixed 9 = .ok (.iload_n 0, 1) := by decide +kernel
theorem dX8_mixed_10 : decode cX8_mixed 10 = .ok (.ireturn, 1) := by decide +kernel
theorem dX8_mixes_0 : decode cX8_mixes 0 = .ok (.iload_n 1, 1) := by decide +kernel
theorem dX8_mixes_1 : decode cX8_mixes 1 = .ok (.iload 4, 2) := by decide +kernel
theorem dX8_mixes_3 : decode cX8_mixes 3 = .ok (.invokestatic 95, 3) := by decide +kernel
theorem dX8_mixes_6 : decode cX8_mixes 6 = .ok (.istore 5, 2) := by decide +kernel
theorem dX8_mixes_8 : decode cX8_mixes 8 = .ok (.iload_n 2, 1) := by decide +kernel
theorem dX8_mixes_9 : decode cX8_mixes 9 = .ok (.iload 4, 2) := by decide +kernel
theorem dX8_mixes_11 : decode cX8_mixes 11 = .ok (.invokestatic 95, 3) := by decide +kernel
theorem dX8_mixes_14 : decode cX8_mixes 14 = .ok (.istore 6, 2) := by decide +kernel
theorem dX8_mixes_16 : decode cX8_mixes 16 = .ok (.iload_n 3, 1) := by decide +kernel
theorem dX8_mixes_17 : decode cX8_mixes 17 = .ok (.iload 4, 2) := by decide +kernel
theorem dX8_mixes_19 : decode cX8_mixes 19 = .ok (.invokestatic 95, 3) := by decide +kernel
theorem dX8_mixes_22 : decode cX8_mixes 22 = .ok (.istore 7, 2) := by decide +kernel
theorem dX8_mixes_24 : decode cX8_mixes 24 = .ok (.aload_n 0, 1) := by decide +kernel
theorem dX8_mixes_25 : decode cX8_mixes 25 = .ok (.getfield 19, 3) := by decide +kernel
theorem dX8_mixes_28 : decode cX8_mixes 28 = .ok (.iload 5, 2) := by decide +kernel
theorem dX8_mixes_30 : decode cX8_mixes 30 = .ok (.iaload, 1) := by decide +kernel
theorem dX8_mixes_31 : decode cX8_mixes 31 = .ok (.aload_n 0, 1) := by decide +kernel
theorem dX8_mixes_32 : decode cX8_mixes 32 = .ok (.getfield 19, 3) := by decide +kernel
theorem dX8_mixes_35 : decode cX8_mixes 35 = .ok (.iload 7, 2) := by decide +kernel
theorem dX8_mixes_37 : decode cX8_mixes 37 = .ok (.iaload, 1) := by decide +kernel
theorem dX8_mixes_38 : decode cX8_mixes 38 = .ok (.ixor, 1) := by decide +kernel
theorem dX8_mixes_39 : decode cX8_mixes 39 = .ok (.istore 8, 2) := by decide +kernel
theorem dX8_mixes_41 : decode cX8_mixes 41 = .ok (.aload_n 0, 1) := by decide +kernel
theorem dX8_mixes_42 : decode cX8_mixes 42 = .ok (.bipush 16, 2) := by decide +kernel
theorem dX8_mixes_44 : decode cX8_mixes 44 = .ok (.iload 4, 2) := by decide +kernel
theorem dX8_mixes_46 : decode cX8_mixes 46 = .ok (.aload_n 0, 1) := by decide +kernel
theorem dX8_mixes_47 : decode cX8_mixes 47 = .ok (.getfield 7, 3) := by decide +kernel
theorem dX8_mixes_50 : decode cX8_mixes 50 = .ok (.iload 5, 2) := by decide +kernel
theorem dX8_mixes_52 : decode cX8_mixes 52 = .ok (.iaload, 1) := by decide +kernel
theorem dX8_mixes_53 : decode cX8_mixes 53 = .ok (.aload_n 0, 1) := by decide +kernel
theorem dX8_mixes_54 : decode cX8_mixes 54 = .ok (.getfield 7, 3) := by decide +kernel
theorem dX8_mixes_57 : decode cX8_mixes 57 = .ok (.iload 6, 2) := by decide +kernel
theorem dX8_mixes_59 : decode cX8_mixes 59 = .ok (.iaload, 1) := by decide +kernel
theorem dX8_mixes_60 : decode cX8_mixes 60 = .ok (.aload_n 0, 1) := by decide +kernel
theorem dX8_mixes_61 : decode cX8_mixes 61 = .ok (.getfield 7, 3) := by decide +kernel
theorem dX8_mixes_64 : decode cX8_mixes 64 = .ok (.iload 7, 2) := by decide +kernel
theorem dX8_mixes_66 : decode cX8_mixes 66 = .ok (.iaload, 1) := by decide +kernel
theorem dX8_mixes_67 : decode cX8_mixes 67 = .ok (.invokestatic 151, 3) := by decide +kernel
theorem dX8_mixes_70 : decode cX8_mixes 70 = .ok (.aload_n 0, 1) := by decide +kernel
theorem dX8_mixes_71 : decode cX8_mixes 71 = .ok (.getfield 13, 3) := by decide +kernel
theorem dX8_mixes_74 : decode cX8_mixes 74 = .ok (.iload 5, 2) := by decide +kernel
theorem dX8_mixes_76 : decode cX8_mixes 76 = .ok (.iaload, 1) := by decide +kernel
theorem dX8_mixes_77 : decode cX8_mixes 77 = .ok (.aload_n 0, 1) := by decide +kernel
theorem dX8_mixes_78 : decode cX8_mixes 78 = .ok (.getfield 13, 3) := by decide +kernel
theorem dX8_mixes_81 : decode cX8_mixes 81 = .ok (.iload 6, 2) := by decide +kernel
theorem dX8_mixes_83 : decode cX8_mixes 83 = .ok (.iaload, 1) := by decide +kernel
theorem dX8_mixes_84 : decode cX8_mixes 84 = .ok (.aload_n 0, 1) := by decide +kernel
theorem dX8_mixes_85 : decode cX8_mixes 85 = .ok (.getfield 13, 3) := by decide +kernel
theorem dX8_mixes_88 : decode cX8_mixes 88 = .ok (.iload 7, 2) := by decide +kernel
theorem dX8_mixes_90 : decode cX8_mixes 90 = .ok (.iaload, 1) := by decide +kernel
theorem dX8_mixes_91 : decode cX8_mixes 91 = .ok (.invokestatic 151, 3) := by decide +kernel
theorem dX8_mixes_94 : decode cX8_mixes 94 = .ok (.aload_n 0, 1) := by decide +kernel
theorem dX8_mixes_95 : decode cX8_mixes 95 = .ok (.getfield 16, 3) := by decide +kernel
theorem dX8_mixes_98 : decode cX8_mixes 98 = .ok (.iload 5, 2) := by decide +kernel
theorem dX8_mixes_100 : decode cX8_mixes 100 = .ok (.iaload, 1) := by decide +kernel
theorem dX8_mixes_101 : decode cX8_mixes 101 = .ok (.aload_n 0, 1) := by decide +kernel
theorem dX8_mixes_102 : decode cX8_mixes 102 = .ok (.getfield 16, 3) := by decide +kernel
theorem dX8_mixes_105 : decode cX8_mixes 105 = .ok (.iload 6, 2) := by decide +kernel
theorem dX8_mixes_107 : decode cX8_mixes 107 = .ok (.iaload, 1) := by decide +kernel
theorem dX8_mixes_108 : decode cX8_mixes 108 = .ok (.aload_n 0, 1) := by decide +kernel
theorem dX8_mixes_109 : decode cX8_mixes 109 = .ok (.getfield 16, 3) := by decide +kernel
theorem dX8_mixes_112 : decode cX8_mixes 112 = .ok (.iload 7, 2) := by decide +kernel
theorem dX8_mixes_114 : decode cX8_mixes 114 = .ok (.iaload, 1) := by decide +kernel
theorem dX8_mixes_115 : decode cX8_mixes 115 = .ok (.invokestatic 151, 3) := by decide +kernel
theorem dX8_mixes_118 : decode cX8_mixes 118 = .ok (.aload_n 0, 1) := by decide +kernel
theorem dX8_mixes_119 : decode cX8_mixes 119 = .ok (.getfield 19, 3) := by decide +kernel
theorem dX8_mixes_122 : decode cX8_mixes 122 = .ok (.iload 5, 2) := by decide +kernel
theorem dX8_mixes_124 : decode cX8_mixes 124 = .ok (.iaload, 1) := by decide +kernel
theorem dX8_mixes_125 : decode cX8_mixes 125 = .ok (.iload 8, 2) := by decide +kernel
theorem dX8_mixes_127 : decode cX8_mixes 127 = .ok (.iand, 1) := by decide +kernel
theorem dX8_mixes_128 : decode cX8_mixes 128 = .ok (.aload_n 0, 1) := by decide +kernel
theorem dX8_mixes_129 : decode cX8_mixes 129 = .ok (.getfield 19, 3) := by decide +kernel
theorem dX8_mixes_132 : decode cX8_mixes 132 = .ok (.iload 6, 2) := by decide +kernel
theorem dX8_mixes_134 : decode cX8_mixes 134 = .ok (.iaload, 1) := by decide +kernel
theorem dX8_mixes_135 : decode cX8_mixes 135 = .ok (.iload 8, 2) := by decide +kernel
theorem dX8_mixes_137 : decode cX8_mixes 137 = .ok (.iconst (-1), 1) := by decide +kernel
theorem dX8_mixes_138 : decode cX8_mixes 138 = .ok (.ixor, 1) := by decide +kernel
theorem dX8_mixes_139 : decode cX8_mixes 139 = .ok (.iand, 1) := by decide +kernel
theorem dX8_mixes_140 : decode cX8_mixes 140 = .ok (.ior, 1) := by decide +kernel
theorem dX8_mixes_141 : decode cX8_mixes 141 = .ok (.invokevirtual 99, 3) := by decide +kernel
theorem dX8_mixes_144 : decode cX8_mixes 144 = .ok (.aload_n 0, 1) := by decide +kernel
theorem dX8_mixes_145 : decode cX8_mixes 145 = .ok (.getfield 7, 3) := by decide +kernel
theorem dX8_mixes_148 : decode cX8_mixes 148 = .ok (.iload 5, 2) := by decide +kernel
theorem dX8_mixes_150 : decode cX8_mixes 150 = .ok (.iaload, 1) := by decide +kernel
theorem dX8_mixes_151 : decode cX8_mixes 151 = .ok (.aload_n 0, 1) := by decide +kernel
theorem dX8_mixes_152 : decode cX8_mixes 152 = .ok (.getfield 7, 3) := by decide +kernel
theorem dX8_mixes_155 : decode cX8_mixes 155 = .ok (.iload 6, 2) := by decide +kernel
theorem dX8_mixes_157 : decode cX8_mixes 157 = .ok (.iaload, 1) := by decide +kernel
theorem dX8_mixes_158 : decode cX8_mixes 158 = .ok (.aload_n 0, 1) := by decide +kernel
theorem dX8_mixes_159 : decode cX8_mixes 159 = .ok (.getfield 7, 3) := by decide +kernel
theorem dX8_mixes_162 : decode cX8_mixes 162 = .ok (.iload 7, 2) := by decide +kernel
theorem dX8_mixes_164 : decode cX8_mixes 164 = .ok (.iaload, 1) := by decide +kernel
theorem dX8_mixes_165 : decode cX8_mixes 165 = .ok (.invokestatic 155, 3) := by decide +kernel
theorem dX8_mixes_168 : decode cX8_mixes 168 = .ok (.ifCond .ne 57, 3) := by decide +kernel
theorem dX8_mixes_171 : decode cX8_mixes 171 = .ok (.aload_n 0, 1) := by decide +kernel
theorem dX8_mixes_172 : decode cX8_mixes 172 = .ok (.getfield 13, 3) := by decide +kernel
theorem dX8_mixes_175 : decode cX8_mixes 175 = .ok (.iload 5, 2) := by decide +kernel
theorem dX8_mixes_177 : decode cX8_mixes 177 = .ok (.iaload, 1) := by decide +kernel
theorem dX8_mixes_178 : decode cX8_mixes 178 = .ok (.aload_n 0, 1) := by decide +kernel
theorem dX8_mixes_179 : decode cX8_mixes 179 = .ok (.getfield 13, 3) := by decide +kernel
theorem dX8_mixes_182 : decode cX8_mixes 182 = .ok (.iload 6, 2) := by decide +kernel
theorem dX8_mixes_184 : decode cX8_mixes 184 = .ok (.iaload, 1) := by decide +kernel
theorem dX8_mixes_185 : decode cX8_mixes 185 = .ok (.aload_n 0, 1) := by decide +kernel
theorem dX8_mixes_186 : decode cX8_mixes 186 = .ok (.getfield 13, 3) := by decide +kernel
theorem dX8_mixes_189 : decode cX8_mixes 189 = .ok (.iload 7, 2) := by decide +kernel
theorem dX8_mixes_191 : decode cX8_mixes 191 = .ok (.iaload, 1) := by decide +kernel
theorem dX8_mixes_192 : decode cX8_mixes 192 = .ok (.invokestatic 155, 3) := by decide +kernel
theorem dX8_mixes_195 : decode cX8_mixes 195 = .ok (.ifCond .ne 30, 3) := by decide +kernel
theorem dX8_mixes_198 : decode cX8_mixes 198 = .ok (.aload_n 0, 1) := by decide +kernel
theorem dX8_mixes_199 : decode cX8_mixes 199 = .ok (.getfield 16, 3) := by decide +kernel
theorem dX8_mixes_202 : decode cX8_mixes 202 = .ok (.iload 5, 2) := by decide +kernel
theorem dX8_mixes_204 : decode cX8_mixes 204 = .ok (.iaload, 1) := by decide +kernel
theorem dX8_mixes_205 : decode cX8_mixes 205 = .ok (.aload_n 0, 1) := by decide +kernel
theorem dX8_mixes_206 : decode cX8_mixes 206 = .ok (.getfield 16, 3) := by decide +kernel
theorem dX8_mixes_209 : decode cX8_mixes 209 = .ok (.iload 6, 2) := by decide +kernel
theorem dX8_mixes_211 : decode cX8_mixes 211 = .ok (.iaload, 1) := by decide +kernel
theorem dX8_mixes_212 : decode cX8_mixes 212 = .ok (.aload_n 0, 1) := by decide +kernel
theorem dX8_mixes_213 : decode cX8_mixes 213 = .ok (.getfield 16, 3) := by decide +kernel
theorem dX8_mixes_216 : decode cX8_mixes 216 = .ok (.iload 7, 2) := by decide +kernel
theorem dX8_mixes_218 : decode cX8_mixes 218 = .ok (.iaload, 1) := by decide +kernel
theorem dX8_mixes_219 : decode cX8_mixes 219 = .ok (.invokestatic 155, 3) := by decide +kernel
theorem dX8_mixes_222 : decode cX8_mixes 222 = .ok (.ifCond .eq 7, 3) := by decide +kernel
theorem dX8_mixes_225 : decode cX8_mixes 225 = .ok (.iconst 1, 1) := by decide +kernel
theorem dX8_mixes_226 : decode cX8_mixes 226 = .ok (.goto 4, 3) := by decide +kernel
theorem dX8_mixes_229 : decode cX8_mixes 229 = .ok (.iconst 0, 1) := by decide +kernel
theorem dX8_mixes_230 : decode cX8_mixes 230 = .ok (.ireturn, 1) := by decide +kernel
theorem dX8_joinsTask_0 : decode cX8_joinsTask 0 = .ok (.aload_n 0, 1) := by decide +kernel
theorem dX8_joinsTask_1 : decode cX8_joinsTask 1 = .ok (.iload_n 1, 1) := by decide +kernel
theorem dX8_joinsTask_2 : decode cX8_joinsTask 2 = .ok (.iload_n 3, 1) := by decide +kernel
theorem dX8_joinsTask_3 : decode cX8_joinsTask 3 = .ok (.iload 4, 2) := by decide +kernel
theorem dX8_joinsTask_5 : decode cX8_joinsTask 5 = .ok (.invokevirtual 158, 3) := by decide +kernel
theorem dX8_joinsTask_8 : decode cX8_joinsTask 8 = .ok (.istore 5, 2) := by decide +kernel
theorem dX8_joinsTask_10 : decode cX8_joinsTask 10 = .ok (.iload 5, 2) := by decide +kernel
theorem dX8_joinsTask_12 : decode cX8_joinsTask 12 = .ok (.ifCond .ne 25, 3) := by decide +kernel
theorem dX8_joinsTask_15 : decode cX8_joinsTask 15 = .ok (.aload_n 0, 1) := by decide +kernel
theorem dX8_joinsTask_16 : decode cX8_joinsTask 16 = .ok (.iload_n 2, 1) := by decide +kernel
theorem dX8_joinsTask_17 : decode cX8_joinsTask 17 = .ok (.iload_n 3, 1) := by decide +kernel
theorem dX8_joinsTask_18 : decode cX8_joinsTask 18 = .ok (.iload 4, 2) := by decide +kernel
theorem dX8_joinsTask_20 : decode cX8_joinsTask 20 = .ok (.invokevirtual 158, 3) := by decide +kernel
theorem dX8_joinsTask_23 : decode cX8_joinsTask 23 = .ok (.ifCond .ne 14, 3) := by decide +kernel
theorem dX8_joinsTask_26 : decode cX8_joinsTask 26 = .ok (.aload_n 0, 1) := by decide +kernel
theorem dX8_joinsTask_27 : decode cX8_joinsTask 27 = .ok (.iload_n 1, 1) := by decide +kernel
theorem dX8_joinsTask_28 : decode cX8_joinsTask 28 = .ok (.iload_n 2, 1) := by decide +kernel
theorem dX8_joinsTask_29 : decode cX8_joinsTask 29 = .ok (.iload 4, 2) := by decide +kernel
theorem dX8_joinsTask_31 : decode cX8_joinsTask 31 = .ok (.invokevirtual 158, 3) := by decide +kernel
theorem dX8_joinsTask_34 : decode cX8_joinsTask 34 = .ok (.ifCond .eq 23, 3) := by decide +kernel
theorem dX8_joinsTask_37 : decode cX8_joinsTask 37 = .ok (.aload_n 0, 1) := by decide +kernel
theorem dX8_joinsTask_38 : decode cX8_joinsTask 38 = .ok (.iload 5, 2) := by decide +kernel
theorem dX8_joinsTask_40 : decode cX8_joinsTask 40 = .ok (.ifCond .eq 7, 3) := by decide +kernel
theorem dX8_joinsTask_43 : decode cX8_joinsTask 43 = .ok (.iload_n 2, 1) := by decide +kernel
theorem dX8_joinsTask_44 : decode cX8_joinsTask 44 = .ok (.goto 4, 3) := by decide +kernel
theorem dX8_joinsTask_47 : decode cX8_joinsTask 47 = .ok (.iload_n 1, 1) := by decide +kernel
theorem dX8_joinsTask_48 : decode cX8_joinsTask 48 = .ok (.bipush 16, 2) := by decide +kernel
theorem dX8_joinsTask_50 : decode cX8_joinsTask 50 = .ok (.iload 4, 2) := by decide +kernel
theorem dX8_joinsTask_52 : decode cX8_joinsTask 52 = .ok (.invokevirtual 103, 3) := by decide +kernel
theorem dX8_joinsTask_55 : decode cX8_joinsTask 55 = .ok (.iconst 0, 1) := by decide +kernel
theorem dX8_joinsTask_56 : decode cX8_joinsTask 56 = .ok (.ireturn, 1) := by decide +kernel
theorem dX8_joinsTask_57 : decode cX8_joinsTask 57 = .ok (.aload_n 0, 1) := by decide +kernel
theorem dX8_joinsTask_58 : decode cX8_joinsTask 58 = .ok (.iload_n 1, 1) := by decide +kernel
theorem dX8_joinsTask_59 : decode cX8_joinsTask 59 = .ok (.iload 4, 2) := by decide +kernel
theorem dX8_joinsTask_61 : decode cX8_joinsTask 61 = .ok (.invokevirtual 121, 3) := by decide +kernel
theorem dX8_joinsTask_64 : decode cX8_joinsTask 64 = .ok (.ifCond .eq 27, 3) := by decide +kernel
theorem dX8_joinsTask_67 : decode cX8_joinsTask 67 = .ok (.aload_n 0, 1) := by decide +kernel
theorem dX8_joinsTask_68 : decode cX8_joinsTask 68 = .ok (.iload_n 2, 1) := by decide +kernel
theorem dX8_joinsTask_69 : decode cX8_joinsTask 69 = .ok (.iload 4, 2) := by decide +kernel
theorem dX8_joinsTask_71 : decode cX8_joinsTask 71 = .ok (.invokevirtual 121, 3) := by decide +kernel
theorem dX8_joinsTask_74 : decode cX8_joinsTask 74 = .ok (.ifCond .eq 17, 3) := by decide +kernel
theorem dX8_joinsTask_77 : decode cX8_joinsTask 77 = .ok (.aload_n 0, 1) := by decide +kernel
theorem dX8_joinsTask_78 : decode cX8_joinsTask 78 = .ok (.iload_n 3, 1) := by decide +kernel
theorem dX8_joinsTask_79 : decode cX8_joinsTask 79 = .ok (.iload 4, 2) := by decide +kernel
theorem dX8_joinsTask_81 : decode cX8_joinsTask 81 = .ok (.invokevirtual 121, 3) := by decide +kernel
theorem dX8_joinsTask_84 : decode cX8_joinsTask 84 = .ok (.ifCond .eq 7, 3) := by decide +kernel
theorem dX8_joinsTask_87 : decode cX8_joinsTask 87 = .ok (.iconst 1, 1) := by decide +kernel
theorem dX8_joinsTask_88 : decode cX8_joinsTask 88 = .ok (.goto 4, 3) := by decide +kernel
theorem dX8_joinsTask_91 : decode cX8_joinsTask 91 = .ok (.iconst 0, 1) := by decide +kernel
theorem dX8_joinsTask_92 : decode cX8_joinsTask 92 = .ok (.istore 6, 2) := by decide +kernel
theorem dX8_joinsTask_94 : decode cX8_joinsTask 94 = .ok (.iload 6, 2) := by decide +kernel
theorem dX8_joinsTask_96 : decode cX8_joinsTask 96 = .ok (.ifCond .eq 15, 3) := by decide +kernel
theorem dX8_joinsTask_99 : decode cX8_joinsTask 99 = .ok (.aload_n 0, 1) := by decide +kernel
theorem dX8_joinsTask_100 : decode cX8_joinsTask 100 = .ok (.iload_n 1, 1) := by decide +kernel
theorem dX8_joinsTask_101 : decode cX8_joinsTask 101 = .ok (.iload_n 2, 1) := by decide +kernel
theorem dX8_joinsTask_102 : decode cX8_joinsTask 102 = .ok (.iload_n 3, 1) := by decide +kernel
theorem dX8_joinsTask_103 : decode cX8_joinsTask 103 = .ok (.iload 4, 2) := by decide +kernel
theorem dX8_joinsTask_105 : decode cX8_joinsTask 105 = .ok (.invokevirtual 161, 3) := by decide +kernel
theorem dX8_joinsTask_108 : decode cX8_joinsTask 108 = .ok (.ifCond .eq 7, 3) := by decide +kernel
theorem dX8_joinsTask_111 : decode cX8_joinsTask 111 = .ok (.iconst 1, 1) := by decide +kernel
theorem dX8_joinsTask_112 : decode cX8_joinsTask 112 = .ok (.goto 4, 3) := by decide +kernel
theorem dX8_joinsTask_115 : decode cX8_joinsTask 115 = .ok (.iconst 0, 1) := by decide +kernel
theorem dX8_joinsTask_116 : decode cX8_joinsTask 116 = .ok (.ireturn, 1) := by decide +kernel
theorem dX8_joins_0 : decode cX8_joins 0 = .ok (.iconst 0, 1) := by decide +kernel
theorem dX8_joins_1 : decode cX8_joins 1 = .ok (.istore_n 2, 1) := by decide +kernel
theorem dX8_joins_2 : decode cX8_joins 2 = .ok (.aload_n 0, 1) := by decide +kernel
theorem dX8_joins_3 : decode cX8_joins 3 = .ok (.iconst 0, 1) := by decide +kernel
theorem dX8_joins_4 : decode cX8_joins 4 = .ok (.putfield 165, 3) := by decide +kernel
theorem dX8_joins_7 : decode cX8_joins 7 = .ok (.iconst 0, 1) := by decide +kernel
theorem dX8_joins_8 : decode cX8_joins 8 = .ok (.istore_n 3, 1) := by decide +kernel
theorem dX8_joins_9 : decode cX8_joins 9 = .ok (.iload_n 3, 1) := by decide +kernel
theorem dX8_joins_10 : decode cX8_joins 10 = .ok (.bipush 16, 2) := by decide +kernel
theorem dX8_joins_12 : decode cX8_joins 12 = .ok (.if_icmp .ge 91, 3) := by decide +kernel
theorem dX8_joins_15 : decode cX8_joins 15 = .ok (.aload_n 0, 1) := by decide +kernel
theorem dX8_joins_16 : decode cX8_joins 16 = .ok (.iload_n 1, 1) := by decide +kernel
theorem dX8_joins_17 : decode cX8_joins 17 = .ok (.aload_n 0, 1) := by decide +kernel
theorem dX8_joins_18 : decode cX8_joins 18 = .ok (.getfield 22, 3) := by decide +kernel
theorem dX8_joins_21 : decode cX8_joins 21 = .ok (.iload_n 1, 1) := by decide +kernel
theorem dX8_joins_22 : decode cX8_joins 22 = .ok (.iaload, 1) := by decide +kernel
theorem dX8_joins_23 : decode cX8_joins 23 = .ok (.bipush 8, 2) := by decide +kernel
theorem dX8_joins_25 : decode cX8_joins 25 = .ok (.iload_n 1, 1) := by decide +kernel
theorem dX8_joins_26 : decode cX8_joins 26 = .ok (.iadd, 1) := by decide +kernel
theorem dX8_joins_27 : decode cX8_joins 27 = .ok (.iload_n 3, 1) := by decide +kernel
theorem dX8_joins_28 : decode cX8_joins 28 = .ok (.invokevirtual 168, 3) := by decide +kernel
theorem dX8_joins_31 : decode cX8_joins 31 = .ok (.ifCond .eq 66, 3) := by decide +kernel
theorem dX8_joins_34 : decode cX8_joins 34 = .ok (.aload_n 0, 1) := by decide +kernel
theorem dX8_joins_35 : decode cX8_joins 35 = .ok (.getfield 28, 3) := by decide +kernel
theorem dX8_joins_38 : decode cX8_joins 38 = .ok (.iload_n 1, 1) := by decide +kernel
theorem dX8_joins_39 : decode cX8_joins 39 = .ok (.iload_n 3, 1) := by decide +kernel
theorem dX8_joins_40 : decode cX8_joins 40 = .ok (.invokestatic 95, 3) := by decide +kernel
theorem dX8_joins_43 : decode cX8_joins 43 = .ok (.iaload, 1) := by decide +kernel
theorem dX8_joins_44 : decode cX8_joins 44 = .ok (.istore 4, 2) := by decide +kernel
theorem dX8_joins_46 : decode cX8_joins 46 = .ok (.iload_n 2, 1) := by decide +kernel
theorem dX8_joins_47 : decode cX8_joins 47 = .ok (.iconst 1, 1) := by decide +kernel
theorem dX8_joins_48 : decode cX8_joins 48 = .ok (.iload_n 3, 1) := by decide +kernel
theorem dX8_joins_49 : decode cX8_joins 49 = .ok (.ishl, 1) := by decide +kernel
theorem dX8_joins_50 : decode cX8_joins 50 = .ok (.ior, 1) := by decide +kernel
theorem dX8_joins_51 : decode cX8_joins 51 = .ok (.istore_n 2, 1) := by decide +kernel
theorem dX8_joins_52 : decode cX8_joins 52 = .ok (.aload_n 0, 1) := by decide +kernel
theorem dX8_joins_53 : decode cX8_joins 53 = .ok (.dup, 1) := by decide +kernel
theorem dX8_joins_54 : decode cX8_joins 54 = .ok (.getfield 165, 3) := by decide +kernel
theorem dX8_joins_57 : decode cX8_joins 57 = .ok (.iload 4, 2) := by decide +kernel
theorem dX8_joins_59 : decode cX8_joins 59 = .ok (.iconst (-1), 1) := by decide +kernel
theorem dX8_joins_60 : decode cX8_joins 60 = .ok (.if_icmp .ne 9, 3) := by decide +kernel
theorem dX8_joins_63 : decode cX8_joins 63 = .ok (.iconst 1, 1) := by decide +kernel
theorem dX8_joins_64 : decode cX8_joins 64 = .ok (.iload_n 3, 1) := by decide +kernel
theorem dX8_joins_65 : decode cX8_joins 65 = .ok (.ishl, 1) := by decide +kernel
theorem dX8_joins_66 : decode cX8_joins 66 = .ok (.goto 4, 3) := by decide +kernel
theorem dX8_joins_69 : decode cX8_joins 69 = .ok (.iconst 0, 1) := by decide +kernel
theorem dX8_joins_70 : decode cX8_joins 70 = .ok (.ior, 1) := by decide +kernel
theorem dX8_joins_71 : decode cX8_joins 71 = .ok (.putfield 165, 3) := by decide +kernel
theorem dX8_joins_74 : decode cX8_joins 74 = .ok (.aload_n 0, 1) := by decide +kernel
theorem dX8_joins_75 : decode cX8_joins 75 = .ok (.iload 4, 2) := by decide +kernel
theorem dX8_joins_77 : decode cX8_joins 77 = .ok (.iconst 1, 1) := by decide +kernel
theorem dX8_joins_78 : decode cX8_joins 78 = .ok (.if_icmp .ne 12, 3) := by decide +kernel
theorem dX8_joins_81 : decode cX8_joins 81 = .ok (.aload_n 0, 1) := by decide +kernel
theorem dX8_joins_82 : decode cX8_joins 82 = .ok (.getfield 22, 3) := by decide +kernel
theorem dX8_joins_85 : decode cX8_joins 85 = .ok (.iload_n 1, 1) := by decide +kernel
theorem dX8_joins_86 : decode cX8_joins 86 = .ok (.iaload, 1) := by decide +kernel
theorem dX8_joins_87 : decode cX8_joins 87 = .ok (.goto 4, 3) := by decide +kernel
theorem dX8_joins_90 : decode cX8_joins 90 = .ok (.iload_n 1, 1) := by decide +kernel
theorem dX8_joins_91 : decode cX8_joins 91 = .ok (.bipush 16, 2) := by decide +kernel
theorem dX8_joins_93 : decode cX8_joins 93 = .ok (.iload_n 3, 1) := by decide +kernel
theorem dX8_joins_94 : decode cX8_joins 94 = .ok (.invokevirtual 103, 3) := by decide +kernel
theorem dX8_joins_97 : decode cX8_joins 97 = .ok (.iinc 3 1, 3) := by decide +kernel
theorem dX8_joins_100 : decode cX8_joins 100 = .ok (.goto (-91), 3) := by decide +kernel
theorem dX8_joins_103 : decode cX8_joins 103 = .ok (.iload_n 2, 1) := by decide +kernel
theorem dX8_joins_104 : decode cX8_joins 104 = .ok (.ireturn, 1) := by decide +kernel
theorem dX8_clashes_0 : decode cX8_clashes 0 = .ok (.aload_n 0, 1) := by decide +kernel
theorem dX8_clashes_1 : decode cX8_clashes 1 = .ok (.aload_n 0, 1) := by decide +kernel
theorem dX8_clashes_2 : decode cX8_clashes 2 = .ok (.iload_n 1, 1) := by decide +kernel
theorem dX8_clashes_3 : decode cX8_clashes 3 = .ok (.invokevirtual 111, 3) := by decide +kernel
theorem dX8_clashes_6 : decode cX8_clashes 6 = .ok (.ifCond .eq 7, 3) := by decide +kernel
theorem dX8_clashes_9 : decode cX8_clashes 9 = .ok (.iconst 0, 1) := by decide +kernel
theorem dX8_clashes_10 : decode cX8_clashes 10 = .ok (.goto 4, 3) := by decide +kernel
theorem dX8_clashes_13 : decode cX8_clashes 13 = .ok (.iconst 1, 1) := by decide +kernel
theorem dX8_clashes_14 : decode cX8_clashes 14 = .ok (.invokevirtual 114, 3) := by decide +kernel
theorem dX8_clashes_17 : decode cX8_clashes 17 = .ok (.ifCond .ne 5, 3) := by decide +kernel
theorem dX8_clashes_20 : decode cX8_clashes 20 = .ok (.iconst 0, 1) := by decide +kernel
theorem dX8_clashes_21 : decode cX8_clashes 21 = .ok (.ireturn, 1) := by decide +kernel
theorem dX8_clashes_22 : decode cX8_clashes 22 = .ok (.iload_n 1, 1) := by decide +kernel
theorem dX8_clashes_23 : decode cX8_clashes 23 = .ok (.ifCond .ne 7, 3) := by decide +kernel
theorem dX8_clashes_26 : decode cX8_clashes 26 = .ok (.iconst 0, 1) := by decide +kernel
theorem dX8_clashes_27 : decode cX8_clashes 27 = .ok (.goto 8, 3) := by decide +kernel
theorem dX8_clashes_30 : decode cX8_clashes 30 = .ok (.aload_n 0, 1) := by decide +kernel
theorem dX8_clashes_31 : decode cX8_clashes 31 = .ok (.iload_n 1, 1) := by decide +kernel
theorem dX8_clashes_32 : decode cX8_clashes 32 = .ok (.invokevirtual 171, 3) := by decide +kernel
theorem dX8_clashes_35 : decode cX8_clashes 35 = .ok (.ireturn, 1) := by decide +kernel
theorem dX8_lowest_0 : decode cX8_lowest 0 = .ok (.iconst 0, 1) := by decide +kernel
theorem dX8_lowest_1 : decode cX8_lowest 1 = .ok (.istore_n 1, 1) := by decide +kernel
theorem dX8_lowest_2 : decode cX8_lowest 2 = .ok (.iload_n 1, 1) := by decide +kernel
theorem dX8_lowest_3 : decode cX8_lowest 3 = .ok (.bipush 16, 2) := by decide +kernel
theorem dX8_lowest_5 : decode cX8_lowest 5 = .ok (.if_icmp .ge 17, 3) := by decide +kernel
theorem dX8_lowest_8 : decode cX8_lowest 8 = .ok (.iload_n 0, 1) := by decide +kernel
theorem dX8_lowest_9 : decode cX8_lowest 9 = .ok (.iload_n 1, 1) := by decide +kernel
theorem dX8_lowest_10 : decode cX8_lowest 10 = .ok (.ishr, 1) := by decide +kernel
theorem dX8_lowest_11 : decode cX8_lowest 11 = .ok (.iconst 1, 1) := by decide +kernel
theorem dX8_lowest_12 : decode cX8_lowest 12 = .ok (.iand, 1) := by decide +kernel
theorem dX8_lowest_13 : decode cX8_lowest 13 = .ok (.ifCond .ne 9, 3) := by decide +kernel
theorem dX8_lowest_16 : decode cX8_lowest 16 = .ok (.iinc 1 1, 3) := by decide +kernel
theorem dX8_lowest_19 : decode cX8_lowest 19 = .ok (.goto (-17), 3) := by decide +kernel
theorem dX8_lowest_22 : decode cX8_lowest 22 = .ok (.iload_n 1, 1) := by decide +kernel
theorem dX8_lowest_23 : decode cX8_lowest 23 = .ok (.bipush 16, 2) := by decide +kernel
theorem dX8_lowest_25 : decode cX8_lowest 25 = .ok (.if_icmp .ne 7, 3) := by decide +kernel
theorem dX8_lowest_28 : decode cX8_lowest 28 = .ok (.iconst (-1), 1) := by decide +kernel
theorem dX8_lowest_29 : decode cX8_lowest 29 = .ok (.goto 4, 3) := by decide +kernel
theorem dX8_lowest_32 : decode cX8_lowest 32 = .ok (.iload_n 1, 1) := by decide +kernel
theorem dX8_lowest_33 : decode cX8_lowest 33 = .ok (.ireturn, 1) := by decide +kernel
theorem dX8_missing_0 : decode cX8_missing 0 = .ok (.aload_n 0, 1) := by decide +kernel
theorem dX8_missing_1 : decode cX8_missing 1 = .ok (.bipush 16, 2) := by decide +kernel
theorem dX8_missing_3 : decode cX8_missing 3 = .ok (.invokevirtual 134, 3) := by decide +kernel
theorem dX8_missing_6 : decode cX8_missing 6 = .ok (.istore_n 1, 1) := by decide +kernel
theorem dX8_missing_7 : decode cX8_missing 7 = .ok (.iconst 0, 1) := by decide +kernel
theorem dX8_missing_8 : decode cX8_missing 8 = .ok (.istore_n 2, 1) := by decide +kernel
theorem dX8_missing_9 : decode cX8_missing 9 = .ok (.iconst 0, 1) := by decide +kernel
theorem dX8_missing_10 : decode cX8_missing 10 = .ok (.istore_n 3, 1) := by decide +kernel
theorem dX8_missing_11 : decode cX8_missing 11 = .ok (.iload_n 3, 1) := by decide +kernel
theorem dX8_missing_12 : decode cX8_missing 12 = .ok (.bipush 16, 2) := by decide +kernel
theorem dX8_missing_14 : decode cX8_missing 14 = .ok (.if_icmp .ge 37, 3) := by decide +kernel
theorem dX8_missing_17 : decode cX8_missing 17 = .ok (.iload_n 2, 1) := by decide +kernel
theorem dX8_missing_18 : decode cX8_missing 18 = .ok (.aload_n 0, 1) := by decide +kernel
theorem dX8_missing_19 : decode cX8_missing 19 = .ok (.getfield 19, 3) := by decide +kernel
theorem dX8_missing_22 : decode cX8_missing 22 = .ok (.bipush 16, 2) := by decide +kernel
theorem dX8_missing_24 : decode cX8_missing 24 = .ok (.iload_n 3, 1) := by decide +kernel
theorem dX8_missing_25 : decode cX8_missing 25 = .ok (.invokestatic 95, 3) := by decide +kernel
theorem dX8_missing_28 : decode cX8_missing 28 = .ok (.iaload, 1) := by decide +kernel
theorem dX8_missing_29 : decode cX8_missing 29 = .ok (.iload_n 1, 1) := by decide +kernel
theorem dX8_missing_30 : decode cX8_missing 30 = .ok (.iconst (-1), 1) := by decide +kernel
theorem dX8_missing_31 : decode cX8_missing 31 = .ok (.ixor, 1) := by decide +kernel
theorem dX8_missing_32 : decode cX8_missing 32 = .ok (.iand, 1) := by decide +kernel
theorem dX8_missing_33 : decode cX8_missing 33 = .ok (.ifCond .eq 9, 3) := by decide +kernel
theorem dX8_missing_36 : decode cX8_missing 36 = .ok (.iconst 1, 1) := by decide +kernel
theorem dX8_missing_37 : decode cX8_missing 37 = .ok (.iload_n 3, 1) := by decide +kernel
theorem dX8_missing_38 : decode cX8_missing 38 = .ok (.ishl, 1) := by decide +kernel
theorem dX8_missing_39 : decode cX8_missing 39 = .ok (.goto 4, 3) := by decide +kernel
theorem dX8_missing_42 : decode cX8_missing 42 = .ok (.iconst 0, 1) := by decide +kernel
theorem dX8_missing_43 : decode cX8_missing 43 = .ok (.ior, 1) := by decide +kernel
theorem dX8_missing_44 : decode cX8_missing 44 = .ok (.istore_n 2, 1) := by decide +kernel
theorem dX8_missing_45 : decode cX8_missing 45 = .ok (.iinc 3 1, 3) := by decide +kernel
theorem dX8_missing_48 : decode cX8_missing 48 = .ok (.goto (-37), 3) := by decide +kernel
theorem dX8_missing_51 : decode cX8_missing 51 = .ok (.iload_n 2, 1) := by decide +kernel
theorem dX8_missing_52 : decode cX8_missing 52 = .ok (.ireturn, 1) := by decide +kernel
theorem dX8_rings_0 : decode cX8_rings 0 = .ok (.iconst 0, 1) := by decide +kernel
theorem dX8_rings_1 : decode cX8_rings 1 = .ok (.istore_n 1, 1) := by decide +kernel
theorem dX8_rings_2 : decode cX8_rings 2 = .ok (.iconst 0, 1) := by decide +kernel
theorem dX8_rings_3 : decode cX8_rings 3 = .ok (.istore_n 2, 1) := by decide +kernel
theorem dX8_rings_4 : decode cX8_rings 4 = .ok (.iload_n 2, 1) := by decide +kernel
theorem dX8_rings_5 : decode cX8_rings 5 = .ok (.bipush 16, 2) := by decide +kernel
theorem dX8_rings_7 : decode cX8_rings 7 = .ok (.if_icmp .ge 23, 3) := by decide +kernel
theorem dX8_rings_10 : decode cX8_rings 10 = .ok (.iload_n 1, 1) := by decide +kernel
theorem dX8_rings_11 : decode cX8_rings 11 = .ok (.aload_n 0, 1) := by decide +kernel
theorem dX8_rings_12 : decode cX8_rings 12 = .ok (.bipush 16, 2) := by decide +kernel
theorem dX8_rings_14 : decode cX8_rings 14 = .ok (.iload_n 2, 1) := by decide +kernel
theorem dX8_rings_15 : decode cX8_rings 15 = .ok (.invokevirtual 131, 3) := by decide +kernel
theorem dX8_rings_18 : decode cX8_rings 18 = .ok (.iconst 1, 1) := by decide +kernel
theorem dX8_rings_19 : decode cX8_rings 19 = .ok (.iload_n 2, 1) := by decide +kernel
theorem dX8_rings_20 : decode cX8_rings 20 = .ok (.ishl, 1) := by decide +kernel
theorem dX8_rings_21 : decode cX8_rings 21 = .ok (.iand, 1) := by decide +kernel
theorem dX8_rings_22 : decode cX8_rings 22 = .ok (.ior, 1) := by decide +kernel
theorem dX8_rings_23 : decode cX8_rings 23 = .ok (.istore_n 1, 1) := by decide +kernel
theorem dX8_rings_24 : decode cX8_rings 24 = .ok (.iinc 2 1, 3) := by decide +kernel
theorem dX8_rings_27 : decode cX8_rings 27 = .ok (.goto (-23), 3) := by decide +kernel
theorem dX8_rings_30 : decode cX8_rings 30 = .ok (.iload_n 1, 1) := by decide +kernel
theorem dX8_rings_31 : decode cX8_rings 31 = .ok (.ireturn, 1) := by decide +kernel
theorem dX8_reasonNow_0 : decode cX8_reasonNow 0 = .ok (.iload_n 2, 1) := by decide +kernel
theorem dX8_reasonNow_1 : decode cX8_reasonNow 1 = .ok (.ifCond .eq 12, 3) := by decide +kernel
theorem dX8_reasonNow_4 : decode cX8_reasonNow 4 = .ok (.aload_n 0, 1) := by decide +kernel
theorem dX8_reasonNow_5 : decode cX8_reasonNow 5 = .ok (.getfield 22, 3) := by decide +kernel
theorem dX8_reasonNow_8 : decode cX8_reasonNow 8 = .ok (.iload_n 1, 1) := by decide +kernel
theorem dX8_reasonNow_9 : decode cX8_reasonNow 9 = .ok (.iaload, 1) := by decide +kernel
theorem dX8_reasonNow_10 : decode cX8_reasonNow 10 = .ok (.goto 4, 3) := by decide +kernel
theorem dX8_reasonNow_13 : decode cX8_reasonNow 13 = .ok (.iload_n 1, 1) := by decide +kernel
theorem dX8_reasonNow_14 : decode cX8_reasonNow 14 = .ok (.istore_n 3, 1) := by decide +kernel
theorem dX8_reasonNow_15 : decode cX8_reasonNow 15 = .ok (.aload_n 0, 1) := by decide +kernel
theorem dX8_reasonNow_16 : decode cX8_reasonNow 16 = .ok (.iload_n 1, 1) := by decide +kernel
theorem dX8_reasonNow_17 : decode cX8_reasonNow 17 = .ok (.invokevirtual 171, 3) := by decide +kernel
theorem dX8_reasonNow_20 : decode cX8_reasonNow 20 = .ok (.pop, 1) := by decide +kernel
theorem dX8_reasonNow_21 : decode cX8_reasonNow 21 = .ok (.aload_n 0, 1) := by decide +kernel
theorem dX8_reasonNow_22 : decode cX8_reasonNow 22 = .ok (.getfield 165, 3) := by decide +kernel
theorem dX8_reasonNow_25 : decode cX8_reasonNow 25 = .ok (.ifCond .ne 10, 3) := by decide +kernel
theorem dX8_reasonNow_28 : decode cX8_reasonNow 28 = .ok (.aload_n 0, 1) := by decide +kernel
theorem dX8_reasonNow_29 : decode cX8_reasonNow 29 = .ok (.invokevirtual 174, 3) := by decide +kernel
theorem dX8_reasonNow_32 : decode cX8_reasonNow 32 = .ok (.ifCond .eq 16, 3) := by decide +kernel
theorem dX8_reasonNow_35 : decode cX8_reasonNow 35 = .ok (.aload_n 0, 1) := by decide +kernel
theorem dX8_reasonNow_36 : decode cX8_reasonNow 36 = .ok (.getfield 165, 3) := by decide +kernel
theorem dX8_reasonNow_39 : decode cX8_reasonNow 39 = .ok (.ifCond .eq 7, 3) := by decide +kernel
theorem dX8_reasonNow_42 : decode cX8_reasonNow 42 = .ok (.iconst 1, 1) := by decide +kernel
theorem dX8_reasonNow_43 : decode cX8_reasonNow 43 = .ok (.goto 4, 3) := by decide +kernel
theorem dX8_reasonNow_46 : decode cX8_reasonNow 46 = .ok (.iconst 2, 1) := by decide +kernel
theorem dX8_reasonNow_47 : decode cX8_reasonNow 47 = .ok (.ireturn, 1) := by decide +kernel
theorem dX8_reasonNow_48 : decode cX8_reasonNow 48 = .ok (.aload_n 0, 1) := by decide +kernel
theorem dX8_reasonNow_49 : decode cX8_reasonNow 49 = .ok (.invokevirtual 178, 3) := by decide +kernel
theorem dX8_reasonNow_52 : decode cX8_reasonNow 52 = .ok (.ifCond .eq 5, 3) := by decide +kernel
theorem dX8_reasonNow_55 : decode cX8_reasonNow 55 = .ok (.iconst 3, 1) := by decide +kernel
theorem dX8_reasonNow_56 : decode cX8_reasonNow 56 = .ok (.ireturn, 1) := by decide +kernel
theorem dX8_reasonNow_57 : decode cX8_reasonNow 57 = .ok (.aload_n 0, 1) := by decide +kernel
theorem dX8_reasonNow_58 : decode cX8_reasonNow 58 = .ok (.bipush 16, 2) := by decide +kernel
theorem dX8_reasonNow_60 : decode cX8_reasonNow 60 = .ok (.invokevirtual 141, 3) := by decide +kernel
theorem dX8_reasonNow_63 : decode cX8_reasonNow 63 = .ok (.aload_n 0, 1) := by decide +kernel
theorem dX8_reasonNow_64 : decode cX8_reasonNow 64 = .ok (.getfield 25, 3) := by decide +kernel
theorem dX8_reasonNow_67 : decode cX8_reasonNow 67 = .ok (.iload_n 3, 1) := by decide +kernel
theorem dX8_reasonNow_68 : decode cX8_reasonNow 68 = .ok (.iaload, 1) := by decide +kernel
theorem dX8_reasonNow_69 : decode cX8_reasonNow 69 = .ok (.if_icmp .le 7, 3) := by decide +kernel
theorem dX8_reasonNow_72 : decode cX8_reasonNow 72 = .ok (.iconst 4, 1) := by decide +kernel
theorem dX8_reasonNow_73 : decode cX8_reasonNow 73 = .ok (.goto 18, 3) := by decide +kernel
theorem dX8_reasonNow_76 : decode cX8_reasonNow 76 = .ok (.aload_n 0, 1) := by decide +kernel
theorem dX8_reasonNow_77 : decode cX8_reasonNow 77 = .ok (.bipush 16, 2) := by decide +kernel
theorem dX8_reasonNow_79 : decode cX8_reasonNow 79 = .ok (.iload_n 3, 1) := by decide +kernel
theorem dX8_reasonNow_80 : decode cX8_reasonNow 80 = .ok (.invokevirtual 181, 3) := by decide +kernel
theorem dX8_reasonNow_83 : decode cX8_reasonNow 83 = .ok (.ifCond .eq 7, 3) := by decide +kernel
theorem dX8_reasonNow_86 : decode cX8_reasonNow 86 = .ok (.iconst 5, 1) := by decide +kernel
theorem dX8_reasonNow_87 : decode cX8_reasonNow 87 = .ok (.goto 4, 3) := by decide +kernel
theorem dX8_reasonNow_90 : decode cX8_reasonNow 90 = .ok (.iconst 0, 1) := by decide +kernel
theorem dX8_reasonNow_91 : decode cX8_reasonNow 91 = .ok (.ireturn, 1) := by decide +kernel
theorem dX8_isOwn_0 : decode cX8_isOwn 0 = .ok (.aload_n 0, 1) := by decide +kernel
theorem dX8_isOwn_1 : decode cX8_isOwn 1 = .ok (.aload_n 0, 1) := by decide +kernel
theorem dX8_isOwn_2 : decode cX8_isOwn 2 = .ok (.iload_n 1, 1) := by decide +kernel
theorem dX8_isOwn_3 : decode cX8_isOwn 3 = .ok (.invokevirtual 111, 3) := by decide +kernel
theorem dX8_isOwn_6 : decode cX8_isOwn 6 = .ok (.ifCond .ne 7, 3) := by decide +kernel
theorem dX8_isOwn_9 : decode cX8_isOwn 9 = .ok (.iconst 1, 1) := by decide +kernel
theorem dX8_isOwn_10 : decode cX8_isOwn 10 = .ok (.goto 12, 3) := by decide +kernel
theorem dX8_isOwn_13 : decode cX8_isOwn 13 = .ok (.iload_n 1, 1) := by decide +kernel
theorem dX8_isOwn_14 : decode cX8_isOwn 14 = .ok (.ifCond .ne 7, 3) := by decide +kernel
theorem dX8_isOwn_17 : decode cX8_isOwn 17 = .ok (.iconst 2, 1) := by decide +kernel
theorem dX8_isOwn_18 : decode cX8_isOwn 18 = .ok (.goto 4, 3) := by decide +kernel
theorem dX8_isOwn_21 : decode cX8_isOwn 21 = .ok (.iconst 0, 1) := by decide +kernel
theorem dX8_isOwn_22 : decode cX8_isOwn 22 = .ok (.invokevirtual 114, 3) := by decide +kernel
theorem dX8_isOwn_25 : decode cX8_isOwn 25 = .ok (.ireturn, 1) := by decide +kernel
theorem dX8_reason_0 : decode cX8_reason 0 = .ok (.aload_n 0, 1) := by decide +kernel
theorem dX8_reason_1 : decode cX8_reason 1 = .ok (.iload_n 1, 1) := by decide +kernel
theorem dX8_reason_2 : decode cX8_reason 2 = .ok (.invokevirtual 184, 3) := by decide +kernel
theorem dX8_reason_5 : decode cX8_reason 5 = .ok (.ifCond .eq 12, 3) := by decide +kernel
theorem dX8_reason_8 : decode cX8_reason 8 = .ok (.aload_n 0, 1) := by decide +kernel
theorem dX8_reason_9 : decode cX8_reason 9 = .ok (.iload_n 1, 1) := by decide +kernel
theorem dX8_reason_10 : decode cX8_reason 10 = .ok (.iload_n 2, 1) := by decide +kernel
theorem dX8_reason_11 : decode cX8_reason 11 = .ok (.invokevirtual 187, 3) := by decide +kernel
theorem dX8_reason_14 : decode cX8_reason 14 = .ok (.goto 4, 3) := by decide +kernel
theorem dX8_reason_17 : decode cX8_reason 17 = .ok (.iconst 0, 1) := by decide +kernel
theorem dX8_reason_18 : decode cX8_reason 18 = .ok (.ireturn, 1) := by decide +kernel
theorem dX8_reasonTask_0 : decode cX8_reasonTask 0 = .ok (.aload_n 0, 1) := by decide +kernel
theorem dX8_reasonTask_1 : decode cX8_reasonTask 1 = .ok (.iload_n 1, 1) := by decide +kernel
theorem dX8_reasonTask_2 : decode cX8_reasonTask 2 = .ok (.invokevirtual 184, 3) := by decide +kernel
theorem dX8_reasonTask_5 : decode cX8_reasonTask 5 = .ok (.ifCond .ne 5, 3) := by decide +kernel
theorem dX8_reasonTask_8 : decode cX8_reasonTask 8 = .ok (.iconst 0, 1) := by decide +kernel
theorem dX8_reasonTask_9 : decode cX8_reasonTask 9 = .ok (.ireturn, 1) := by decide +kernel
theorem dX8_reasonTask_10 : decode cX8_reasonTask 10 = .ok (.aload_n 0, 1) := by decide +kernel
theorem dX8_reasonTask_11 : decode cX8_reasonTask 11 = .ok (.iload_n 1, 1) := by decide +kernel
theorem dX8_reasonTask_12 : decode cX8_reasonTask 12 = .ok (.iload_n 2, 1) := by decide +kernel
theorem dX8_reasonTask_13 : decode cX8_reasonTask 13 = .ok (.invokevirtual 187, 3) := by decide +kernel
theorem dX8_reasonTask_16 : decode cX8_reasonTask 16 = .ok (.istore_n 3, 1) := by decide +kernel
theorem dX8_reasonTask_17 : decode cX8_reasonTask 17 = .ok (.iload_n 2, 1) := by decide +kernel
theorem dX8_reasonTask_18 : decode cX8_reasonTask 18 = .ok (.ifCond .eq 12, 3) := by decide +kernel
theorem dX8_reasonTask_21 : decode cX8_reasonTask 21 = .ok (.aload_n 0, 1) := by decide +kernel
theorem dX8_reasonTask_22 : decode cX8_reasonTask 22 = .ok (.getfield 22, 3) := by decide +kernel
theorem dX8_reasonTask_25 : decode cX8_reasonTask 25 = .ok (.iload_n 1, 1) := by decide +kernel
theorem dX8_reasonTask_26 : decode cX8_reasonTask 26 = .ok (.iaload, 1) := by decide +kernel
theorem dX8_reasonTask_27 : decode cX8_reasonTask 27 = .ok (.goto 4, 3) := by decide +kernel
theorem dX8_reasonTask_30 : decode cX8_reasonTask 30 = .ok (.iload_n 1, 1) := by decide +kernel
theorem dX8_reasonTask_31 : decode cX8_reasonTask 31 = .ok (.istore 4, 2) := by decide +kernel
theorem dX8_reasonTask_33 : decode cX8_reasonTask 33 = .ok (.iload_n 3, 1) := by decide +kernel
theorem dX8_reasonTask_34 : decode cX8_reasonTask 34 = .ok (.iconst 1, 1) := by decide +kernel
theorem dX8_reasonTask_35 : decode cX8_reasonTask 35 = .ok (.if_icmp .ne 13, 3) := by decide +kernel
theorem dX8_reasonTask_38 : decode cX8_reasonTask 38 = .ok (.aload_n 0, 1) := by decide +kernel
theorem dX8_reasonTask_39 : decode cX8_reasonTask 39 = .ok (.getfield 165, 3) := by decide +kernel
theorem dX8_reasonTask_42 : decode cX8_reasonTask 42 = .ok (.invokestatic 191, 3) := by decide +kernel
theorem dX8_reasonTask_45 : decode cX8_reasonTask 45 = .ok (.goto 53, 3) := by decide +kernel
theorem dX8_reasonTask_48 : decode cX8_reasonTask 48 = .ok (.iload_n 3, 1) := by decide +kernel
theorem dX8_reasonTask_49 : decode cX8_reasonTask 49 = .ok (.iconst 2, 1) := by decide +kernel
theorem dX8_reasonTask_50 : decode cX8_reasonTask 50 = .ok (.if_icmp .ne 13, 3) := by decide +kernel
theorem dX8_reasonTask_53 : decode cX8_reasonTask 53 = .ok (.aload_n 0, 1) := by decide +kernel
theorem dX8_reasonTask_54 : decode cX8_reasonTask 54 = .ok (.invokevirtual 174, 3) := by decide +kernel
theorem dX8_reasonTask_57 : decode cX8_reasonTask 57 = .ok (.invokestatic 191, 3) := by decide +kernel
theorem dX8_reasonTask_60 : decode cX8_reasonTask 60 = .ok (.goto 38, 3) := by decide +kernel
theorem dX8_reasonTask_63 : decode cX8_reasonTask 63 = .ok (.iload_n 3, 1) := by decide +kernel
theorem dX8_reasonTask_64 : decode cX8_reasonTask 64 = .ok (.iconst 3, 1) := by decide +kernel
theorem dX8_reasonTask_65 : decode cX8_reasonTask 65 = .ok (.if_icmp .ne 13, 3) := by decide +kernel
theorem dX8_reasonTask_68 : decode cX8_reasonTask 68 = .ok (.aload_n 0, 1) := by decide +kernel
theorem dX8_reasonTask_69 : decode cX8_reasonTask 69 = .ok (.invokevirtual 178, 3) := by decide +kernel
theorem dX8_reasonTask_72 : decode cX8_reasonTask 72 = .ok (.invokestatic 191, 3) := by decide +kernel
theorem dX8_reasonTask_75 : decode cX8_reasonTask 75 = .ok (.goto 23, 3) := by decide +kernel
theorem dX8_reasonTask_78 : decode cX8_reasonTask 78 = .ok (.iload_n 3, 1) := by decide +kernel
theorem dX8_reasonTask_79 : decode cX8_reasonTask 79 = .ok (.iconst 5, 1) := by decide +kernel
theorem dX8_reasonTask_80 : decode cX8_reasonTask 80 = .ok (.if_icmp .ne 17, 3) := by decide +kernel
theorem dX8_reasonTask_83 : decode cX8_reasonTask 83 = .ok (.aload_n 0, 1) := by decide +kernel
theorem dX8_reasonTask_84 : decode cX8_reasonTask 84 = .ok (.bipush 16, 2) := by decide +kernel
theorem dX8_reasonTask_86 : decode cX8_reasonTask 86 = .ok (.iload 4, 2) := by decide +kernel
theorem dX8_reasonTask_88 : decode cX8_reasonTask 88 = .ok (.invokevirtual 181, 3) := by decide +kernel
theorem dX8_reasonTask_91 : decode cX8_reasonTask 91 = .ok (.invokestatic 191, 3) := by decide +kernel
theorem dX8_reasonTask_94 : decode cX8_reasonTask 94 = .ok (.goto 4, 3) := by decide +kernel
theorem dX8_reasonTask_97 : decode cX8_reasonTask 97 = .ok (.iconst (-1), 1) := by decide +kernel
theorem dX8_reasonTask_98 : decode cX8_reasonTask 98 = .ok (.ireturn, 1) := by decide +kernel
theorem dX8_becomes_0 : decode cX8_becomes 0 = .ok (.iconst 0, 1) := by decide +kernel
theorem dX8_becomes_1 : decode cX8_becomes 1 = .ok (.istore_n 2, 1) := by decide +kernel
theorem dX8_becomes_2 : decode cX8_becomes 2 = .ok (.iconst 0, 1) := by decide +kernel
theorem dX8_becomes_3 : decode cX8_becomes 3 = .ok (.istore_n 3, 1) := by decide +kernel
theorem dX8_becomes_4 : decode cX8_becomes 4 = .ok (.iload_n 3, 1) := by decide +kernel
theorem dX8_becomes_5 : decode cX8_becomes 5 = .ok (.bipush 16, 2) := by decide +kernel
theorem dX8_becomes_7 : decode cX8_becomes 7 = .ok (.if_icmp .ge 28, 3) := by decide +kernel
theorem dX8_becomes_10 : decode cX8_becomes 10 = .ok (.iload_n 2, 1) := by decide +kernel
theorem dX8_becomes_11 : decode cX8_becomes 11 = .ok (.aload_n 0, 1) := by decide +kernel
theorem dX8_becomes_12 : decode cX8_becomes 12 = .ok (.iload_n 1, 1) := by decide +kernel
theorem dX8_becomes_13 : decode cX8_becomes 13 = .ok (.bipush 16, 2) := by decide +kernel
theorem dX8_becomes_15 : decode cX8_becomes 15 = .ok (.iload_n 3, 1) := by decide +kernel
theorem dX8_becomes_16 : decode cX8_becomes 16 = .ok (.invokevirtual 158, 3) := by decide +kernel
theorem dX8_becomes_19 : decode cX8_becomes 19 = .ok (.ifCond .eq 7, 3) := by decide +kernel
theorem dX8_becomes_22 : decode cX8_becomes 22 = .ok (.iconst 0, 1) := by decide +kernel
theorem dX8_becomes_23 : decode cX8_becomes 23 = .ok (.goto 4, 3) := by decide +kernel
theorem dX8_becomes_26 : decode cX8_becomes 26 = .ok (.iconst 1, 1) := by decide +kernel
theorem dX8_becomes_27 : decode cX8_becomes 27 = .ok (.iadd, 1) := by decide +kernel
theorem dX8_becomes_28 : decode cX8_becomes 28 = .ok (.istore_n 2, 1) := by decide +kernel
theorem dX8_becomes_29 : decode cX8_becomes 29 = .ok (.iinc 3 1, 3) := by decide +kernel
theorem dX8_becomes_32 : decode cX8_becomes 32 = .ok (.goto (-28), 3) := by decide +kernel
theorem dX8_becomes_35 : decode cX8_becomes 35 = .ok (.aload_n 0, 1) := by decide +kernel
theorem dX8_becomes_36 : decode cX8_becomes 36 = .ok (.bipush 16, 2) := by decide +kernel
theorem dX8_becomes_38 : decode cX8_becomes 38 = .ok (.iload_n 1, 1) := by decide +kernel
theorem dX8_becomes_39 : decode cX8_becomes 39 = .ok (.invokevirtual 144, 3) := by decide +kernel
theorem dX8_becomes_42 : decode cX8_becomes 42 = .ok (.aload_n 0, 1) := by decide +kernel
theorem dX8_becomes_43 : decode cX8_becomes 43 = .ok (.getfield 50, 3) := by decide +kernel
theorem dX8_becomes_46 : decode cX8_becomes 46 = .ok (.iload_n 1, 1) := by decide +kernel
theorem dX8_becomes_47 : decode cX8_becomes 47 = .ok (.iconst 0, 1) := by decide +kernel
theorem dX8_becomes_48 : decode cX8_becomes 48 = .ok (.iastore, 1) := by decide +kernel
theorem dX8_becomes_49 : decode cX8_becomes 49 = .ok (.iload_n 2, 1) := by decide +kernel
theorem dX8_becomes_50 : decode cX8_becomes 50 = .ok (.ireturn, 1) := by decide +kernel
theorem dX8_merge_0 : decode cX8_merge 0 = .ok (.aload_n 0, 1) := by decide +kernel
theorem dX8_merge_1 : decode cX8_merge 1 = .ok (.iload_n 1, 1) := by decide +kernel
theorem dX8_merge_2 : decode cX8_merge 2 = .ok (.invokevirtual 111, 3) := by decide +kernel
theorem dX8_merge_5 : decode cX8_merge 5 = .ok (.istore_n 2, 1) := by decide +kernel
theorem dX8_merge_6 : decode cX8_merge 6 = .ok (.iload_n 2, 1) := by decide +kernel
theorem dX8_merge_7 : decode cX8_merge 7 = .ok (.ifCond .eq 20, 3) := by decide +kernel
theorem dX8_merge_10 : decode cX8_merge 10 = .ok (.iload_n 1, 1) := by decide +kernel
theorem dX8_merge_11 : decode cX8_merge 11 = .ok (.ifCond .le 16, 3) := by decide +kernel
theorem dX8_merge_14 : decode cX8_merge 14 = .ok (.aload_n 0, 1) := by decide +kernel
theorem dX8_merge_15 : decode cX8_merge 15 = .ok (.iload_n 1, 1) := by decide +kernel
theorem dX8_merge_16 : decode cX8_merge 16 = .ok (.iconst 1, 1) := by decide +kernel
theorem dX8_merge_17 : decode cX8_merge 17 = .ok (.invokevirtual 187, 3) := by decide +kernel
theorem dX8_merge_20 : decode cX8_merge 20 = .ok (.ifCond .ne 7, 3) := by decide +kernel
theorem dX8_merge_23 : decode cX8_merge 23 = .ok (.iconst 1, 1) := by decide +kernel
theorem dX8_merge_24 : decode cX8_merge 24 = .ok (.goto 4, 3) := by decide +kernel
theorem dX8_merge_27 : decode cX8_merge 27 = .ok (.iconst 0, 1) := by decide +kernel
theorem dX8_merge_28 : decode cX8_merge 28 = .ok (.istore_n 3, 1) := by decide +kernel
theorem dX8_merge_29 : decode cX8_merge 29 = .ok (.aload_n 0, 1) := by decide +kernel
theorem dX8_merge_30 : decode cX8_merge 30 = .ok (.iload_n 2, 1) := by decide +kernel
theorem dX8_merge_31 : decode cX8_merge 31 = .ok (.ifCond .ne 7, 3) := by decide +kernel
theorem dX8_merge_34 : decode cX8_merge 34 = .ok (.iconst 1, 1) := by decide +kernel
theorem dX8_merge_35 : decode cX8_merge 35 = .ok (.goto 12, 3) := by decide +kernel
theorem dX8_merge_38 : decode cX8_merge 38 = .ok (.iload_n 3, 1) := by decide +kernel
theorem dX8_merge_39 : decode cX8_merge 39 = .ok (.ifCond .ne 7, 3) := by decide +kernel
theorem dX8_merge_42 : decode cX8_merge 42 = .ok (.iconst 2, 1) := by decide +kernel
theorem dX8_merge_43 : decode cX8_merge 43 = .ok (.goto 4, 3) := by decide +kernel
theorem dX8_merge_46 : decode cX8_merge 46 = .ok (.iconst 0, 1) := by decide +kernel
theorem dX8_merge_47 : decode cX8_merge 47 = .ok (.invokevirtual 114, 3) := by decide +kernel
theorem dX8_merge_50 : decode cX8_merge 50 = .ok (.ifCond .ne 5, 3) := by decide +kernel
theorem dX8_merge_53 : decode cX8_merge 53 = .ok (.iconst 0, 1) := by decide +kernel
theorem dX8_merge_54 : decode cX8_merge 54 = .ok (.ireturn, 1) := by decide +kernel
theorem dX8_merge_55 : decode cX8_merge 55 = .ok (.aload_n 0, 1) := by decide +kernel
theorem dX8_merge_56 : decode cX8_merge 56 = .ok (.aload_n 0, 1) := by decide +kernel
theorem dX8_merge_57 : decode cX8_merge 57 = .ok (.getfield 22, 3) := by decide +kernel
theorem dX8_merge_60 : decode cX8_merge 60 = .ok (.iload_n 1, 1) := by decide +kernel
theorem dX8_merge_61 : decode cX8_merge 61 = .ok (.iaload, 1) := by decide +kernel
theorem dX8_merge_62 : decode cX8_merge 62 = .ok (.invokevirtual 194, 3) := by decide +kernel
theorem dX8_merge_65 : decode cX8_merge 65 = .ok (.istore 4, 2) := by decide +kernel
theorem dX8_merge_67 : decode cX8_merge 67 = .ok (.aload_n 0, 1) := by decide +kernel
theorem dX8_merge_68 : decode cX8_merge 68 = .ok (.bipush 16, 2) := by decide +kernel
theorem dX8_merge_70 : decode cX8_merge 70 = .ok (.iload_n 1, 1) := by decide +kernel
theorem dX8_merge_71 : decode cX8_merge 71 = .ok (.invokevirtual 144, 3) := by decide +kernel
theorem dX8_merge_74 : decode cX8_merge 74 = .ok (.aload_n 0, 1) := by decide +kernel
theorem dX8_merge_75 : decode cX8_merge 75 = .ok (.getfield 50, 3) := by decide +kernel
theorem dX8_merge_78 : decode cX8_merge 78 = .ok (.iload_n 1, 1) := by decide +kernel
theorem dX8_merge_79 : decode cX8_merge 79 = .ok (.iconst 0, 1) := by decide +kernel
theorem dX8_merge_80 : decode cX8_merge 80 = .ok (.iastore, 1) := by decide +kernel
theorem dX8_merge_81 : decode cX8_merge 81 = .ok (.aload_n 0, 1) := by decide +kernel
theorem dX8_merge_82 : decode cX8_merge 82 = .ok (.bipush 16, 2) := by decide +kernel
theorem dX8_merge_84 : decode cX8_merge 84 = .ok (.bipush 8, 2) := by decide +kernel
theorem dX8_merge_86 : decode cX8_merge 86 = .ok (.iload_n 1, 1) := by decide +kernel
theorem dX8_merge_87 : decode cX8_merge 87 = .ok (.iadd, 1) := by decide +kernel
theorem dX8_merge_88 : decode cX8_merge 88 = .ok (.invokevirtual 144, 3) := by decide +kernel
theorem dX8_merge_91 : decode cX8_merge 91 = .ok (.aload_n 0, 1) := by decide +kernel
theorem dX8_merge_92 : decode cX8_merge 92 = .ok (.iload_n 1, 1) := by decide +kernel
theorem dX8_merge_93 : decode cX8_merge 93 = .ok (.invokevirtual 147, 3) := by decide +kernel
theorem dX8_merge_96 : decode cX8_merge 96 = .ok (.iload 4, 2) := by decide +kernel
theorem dX8_merge_98 : decode cX8_merge 98 = .ok (.ireturn, 1) := by decide +kernel
theorem dX8_update_0 : decode cX8_update 0 = .ok (.aload_n 0, 1) := by decide +kernel
theorem dX8_update_1 : decode cX8_update 1 = .ok (.iload_n 1, 1) := by decide +kernel
theorem dX8_update_2 : decode cX8_update 2 = .ok (.invokevirtual 111, 3) := by decide +kernel
theorem dX8_update_5 : decode cX8_update 5 = .ok (.istore_n 2, 1) := by decide +kernel
theorem dX8_update_6 : decode cX8_update 6 = .ok (.iload_n 2, 1) := by decide +kernel
theorem dX8_update_7 : decode cX8_update 7 = .ok (.ifCond .eq 20, 3) := by decide +kernel
theorem dX8_update_10 : decode cX8_update 10 = .ok (.iload_n 1, 1) := by decide +kernel
theorem dX8_update_11 : decode cX8_update 11 = .ok (.ifCond .le 16, 3) := by decide +kernel
theorem dX8_update_14 : decode cX8_update 14 = .ok (.aload_n 0, 1) := by decide +kernel
theorem dX8_update_15 : decode cX8_update 15 = .ok (.iload_n 1, 1) := by decide +kernel
theorem dX8_update_16 : decode cX8_update 16 = .ok (.iconst 0, 1) := by decide +kernel
theorem dX8_update_17 : decode cX8_update 17 = .ok (.invokevirtual 187, 3) := by decide +kernel
theorem dX8_update_20 : decode cX8_update 20 = .ok (.ifCond .ne 7, 3) := by decide +kernel
theorem dX8_update_23 : decode cX8_update 23 = .ok (.iconst 1, 1) := by decide +kernel
theorem dX8_update_24 : decode cX8_update 24 = .ok (.goto 4, 3) := by decide +kernel
theorem dX8_update_27 : decode cX8_update 27 = .ok (.iconst 0, 1) := by decide +kernel
theorem dX8_update_28 : decode cX8_update 28 = .ok (.istore_n 3, 1) := by decide +kernel
theorem dX8_update_29 : decode cX8_update 29 = .ok (.aload_n 0, 1) := by decide +kernel
theorem dX8_update_30 : decode cX8_update 30 = .ok (.iload_n 2, 1) := by decide +kernel
theorem dX8_update_31 : decode cX8_update 31 = .ok (.ifCond .ne 7, 3) := by decide +kernel
theorem dX8_update_34 : decode cX8_update 34 = .ok (.iconst 1, 1) := by decide +kernel
theorem dX8_update_35 : decode cX8_update 35 = .ok (.goto 12, 3) := by decide +kernel
theorem dX8_update_38 : decode cX8_update 38 = .ok (.iload_n 3, 1) := by decide +kernel
theorem dX8_update_39 : decode cX8_update 39 = .ok (.ifCond .ne 7, 3) := by decide +kernel
theorem dX8_update_42 : decode cX8_update 42 = .ok (.iconst 2, 1) := by decide +kernel
theorem dX8_update_43 : decode cX8_update 43 = .ok (.goto 4, 3) := by decide +kernel
theorem dX8_update_46 : decode cX8_update 46 = .ok (.iconst 0, 1) := by decide +kernel
theorem dX8_update_47 : decode cX8_update 47 = .ok (.invokevirtual 114, 3) := by decide +kernel
theorem dX8_update_50 : decode cX8_update 50 = .ok (.ifCond .ne 5, 3) := by decide +kernel
theorem dX8_update_53 : decode cX8_update 53 = .ok (.iconst 0, 1) := by decide +kernel
theorem dX8_update_54 : decode cX8_update 54 = .ok (.ireturn, 1) := by decide +kernel
theorem dX8_update_55 : decode cX8_update 55 = .ok (.aload_n 0, 1) := by decide +kernel
theorem dX8_update_56 : decode cX8_update 56 = .ok (.iload_n 1, 1) := by decide +kernel
theorem dX8_update_57 : decode cX8_update 57 = .ok (.invokevirtual 194, 3) := by decide +kernel
theorem dX8_update_60 : decode cX8_update 60 = .ok (.istore 4, 2) := by decide +kernel
theorem dX8_update_62 : decode cX8_update 62 = .ok (.aload_n 0, 1) := by decide +kernel
theorem dX8_update_63 : decode cX8_update 63 = .ok (.aload_n 0, 1) := by decide +kernel
theorem dX8_update_64 : decode cX8_update 64 = .ok (.getfield 22, 3) := by decide +kernel
theorem dX8_update_67 : decode cX8_update 67 = .ok (.iload_n 1, 1) := by decide +kernel
theorem dX8_update_68 : decode cX8_update 68 = .ok (.iaload, 1) := by decide +kernel
theorem dX8_update_69 : decode cX8_update 69 = .ok (.bipush 8, 2) := by decide +kernel
theorem dX8_update_71 : decode cX8_update 71 = .ok (.iload_n 1, 1) := by decide +kernel
theorem dX8_update_72 : decode cX8_update 72 = .ok (.iadd, 1) := by decide +kernel
theorem dX8_update_73 : decode cX8_update 73 = .ok (.invokevirtual 144, 3) := by decide +kernel
theorem dX8_update_76 : decode cX8_update 76 = .ok (.aload_n 0, 1) := by decide +kernel
theorem dX8_update_77 : decode cX8_update 77 = .ok (.iload_n 1, 1) := by decide +kernel
theorem dX8_update_78 : decode cX8_update 78 = .ok (.invokevirtual 147, 3) := by decide +kernel
theorem dX8_update_81 : decode cX8_update 81 = .ok (.iload 4, 2) := by decide +kernel
theorem dX8_update_83 : decode cX8_update 83 = .ok (.ireturn, 1) := by decide +kernel
theorem dX8_isCrew_0 : decode cX8_isCrew 0 = .ok (.iload_n 0, 1) := by decide +kernel
theorem dX8_isCrew_1 : decode cX8_isCrew 1 = .ok (.iconst 0, 1) := by decide +kernel
theorem dX8_isCrew_2 : decode cX8_isCrew 2 = .ok (.iconst 4, 1) := by decide +kernel
theorem dX8_isCrew_3 : decode cX8_isCrew 3 = .ok (.invokestatic 91, 3) := by decide +kernel
theorem dX8_isCrew_6 : decode cX8_isCrew 6 = .ok (.ireturn, 1) := by decide +kernel
theorem dX8_isDay_0 : decode cX8_isDay 0 = .ok (.iload_n 0, 1) := by decide +kernel
theorem dX8_isDay_1 : decode cX8_isDay 1 = .ok (.iconst 0, 1) := by decide +kernel
theorem dX8_isDay_2 : decode cX8_isDay 2 = .ok (.sipush 399, 3) := by decide +kernel
theorem dX8_isDay_5 : decode cX8_isDay 5 = .ok (.invokestatic 91, 3) := by decide +kernel
theorem dX8_isDay_8 : decode cX8_isDay 8 = .ok (.ireturn, 1) := by decide +kernel
theorem dX8_give_0 : decode cX8_give 0 = .ok (.aload_n 0, 1) := by decide +kernel
theorem dX8_give_1 : decode cX8_give 1 = .ok (.aload_n 0, 1) := by decide +kernel
theorem dX8_give_2 : decode cX8_give 2 = .ok (.iload_n 2, 1) := by decide +kernel
theorem dX8_give_3 : decode cX8_give 3 = .ok (.invokevirtual 111, 3) := by decide +kernel
theorem dX8_give_6 : decode cX8_give 6 = .ok (.ifCond .ne 7, 3) := by decide +kernel
theorem dX8_give_9 : decode cX8_give 9 = .ok (.iconst 1, 1) := by decide +kernel
theorem dX8_give_10 : decode cX8_give 10 = .ok (.goto 15, 3) := by decide +kernel
theorem dX8_give_13 : decode cX8_give 13 = .ok (.iload_n 1, 1) := by decide +kernel
theorem dX8_give_14 : decode cX8_give 14 = .ok (.invokestatic 197, 3) := by decide +kernel
theorem dX8_give_17 : decode cX8_give 17 = .ok (.ifCond .ne 7, 3) := by decide +kernel
theorem dX8_give_20 : decode cX8_give 20 = .ok (.iconst 2, 1) := by decide +kernel
theorem dX8_give_21 : decode cX8_give 21 = .ok (.goto 4, 3) := by decide +kernel
theorem dX8_give_24 : decode cX8_give 24 = .ok (.iconst 0, 1) := by decide +kernel
theorem dX8_give_25 : decode cX8_give 25 = .ok (.invokevirtual 114, 3) := by decide +kernel
theorem dX8_give_28 : decode cX8_give 28 = .ok (.ifCond .ne 5, 3) := by decide +kernel
theorem dX8_give_31 : decode cX8_give 31 = .ok (.iconst 0, 1) := by decide +kernel
theorem dX8_give_32 : decode cX8_give 32 = .ok (.ireturn, 1) := by decide +kernel
theorem dX8_give_33 : decode cX8_give 33 = .ok (.aload_n 0, 1) := by decide +kernel
theorem dX8_give_34 : decode cX8_give 34 = .ok (.getfield 53, 3) := by decide +kernel
theorem dX8_give_37 : decode cX8_give 37 = .ok (.iload_n 1, 1) := by decide +kernel
theorem dX8_give_38 : decode cX8_give 38 = .ok (.iaload, 1) := by decide +kernel
theorem dX8_give_39 : decode cX8_give 39 = .ok (.istore_n 3, 1) := by decide +kernel
theorem dX8_give_40 : decode cX8_give 40 = .ok (.aload_n 0, 1) := by decide +kernel
theorem dX8_give_41 : decode cX8_give 41 = .ok (.getfield 53, 3) := by decide +kernel
theorem dX8_give_44 : decode cX8_give 44 = .ok (.iload_n 1, 1) := by decide +kernel
theorem dX8_give_45 : decode cX8_give 45 = .ok (.iload_n 2, 1) := by decide +kernel
theorem dX8_give_46 : decode cX8_give 46 = .ok (.iastore, 1) := by decide +kernel
theorem dX8_give_47 : decode cX8_give 47 = .ok (.iload_n 3, 1) := by decide +kernel
theorem dX8_give_48 : decode cX8_give 48 = .ok (.ireturn, 1) := by decide +kernel
theorem dX8_lend_0 : decode cX8_lend 0 = .ok (.iload_n 1, 1) := by decide +kernel
theorem dX8_lend_1 : decode cX8_lend 1 = .ok (.invokestatic 197, 3) := by decide +kernel
theorem dX8_lend_4 : decode cX8_lend 4 = .ok (.ifCond .eq 28, 3) := by decide +kernel
theorem dX8_lend_7 : decode cX8_lend 7 = .ok (.iload_n 3, 1) := by decide +kernel
theorem dX8_lend_8 : decode cX8_lend 8 = .ok (.invokestatic 200, 3) := by decide +kernel
theorem dX8_lend_11 : decode cX8_lend 11 = .ok (.ifCond .eq 21, 3) := by decide +kernel
theorem dX8_lend_14 : decode cX8_lend 14 = .ok (.iload 4, 2) := by decide +kernel
theorem dX8_lend_16 : decode cX8_lend 16 = .ok (.invokestatic 200, 3) := by decide +kernel
theorem dX8_lend_19 : decode cX8_lend 19 = .ok (.ifCond .eq 13, 3) := by decide +kernel
theorem dX8_lend_22 : decode cX8_lend 22 = .ok (.iload_n 3, 1) := by decide +kernel
theorem dX8_lend_23 : decode cX8_lend 23 = .ok (.iload 4, 2) := by decide +kernel
theorem dX8_lend_25 : decode cX8_lend 25 = .ok (.if_icmp .gt 7, 3) := by decide +kernel
theorem dX8_lend_28 : decode cX8_lend 28 = .ok (.iconst 1, 1) := by decide +kernel
theorem dX8_lend_29 : decode cX8_lend 29 = .ok (.goto 4, 3) := by decide +kernel
theorem dX8_lend_32 : decode cX8_lend 32 = .ok (.iconst 0, 1) := by decide +kernel
theorem dX8_lend_33 : decode cX8_lend 33 = .ok (.istore 5, 2) := by decide +kernel
theorem dX8_lend_35 : decode cX8_lend 35 = .ok (.aload_n 0, 1) := by decide +kernel
theorem dX8_lend_36 : decode cX8_lend 36 = .ok (.aload_n 0, 1) := by decide +kernel
theorem dX8_lend_37 : decode cX8_lend 37 = .ok (.iload_n 2, 1) := by decide +kernel
theorem dX8_lend_38 : decode cX8_lend 38 = .ok (.invokevirtual 111, 3) := by decide +kernel
theorem dX8_lend_41 : decode cX8_lend 41 = .ok (.ifCond .ne 7, 3) := by decide +kernel
theorem dX8_lend_44 : decode cX8_lend 44 = .ok (.iconst 1, 1) := by decide +kernel
theorem dX8_lend_45 : decode cX8_lend 45 = .ok (.goto 26, 3) := by decide +kernel
theorem dX8_lend_48 : decode cX8_lend 48 = .ok (.iload 5, 2) := by decide +kernel
theorem dX8_lend_50 : decode cX8_lend 50 = .ok (.ifCond .ne 7, 3) := by decide +kernel
theorem dX8_lend_53 : decode cX8_lend 53 = .ok (.iconst 2, 1) := by decide +kernel
theorem dX8_lend_54 : decode cX8_lend 54 = .ok (.goto 17, 3) := by decide +kernel
theorem dX8_lend_57 : decode cX8_lend 57 = .ok (.aload_n 0, 1) := by decide +kernel
theorem dX8_lend_58 : decode cX8_lend 58 = .ok (.getfield 203, 3) := by decide +kernel
theorem dX8_lend_61 : decode cX8_lend 61 = .ok (.bipush 40, 2) := by decide +kernel
theorem dX8_lend_63 : decode cX8_lend 63 = .ok (.if_icmp .ne 7, 3) := by decide +kernel
theorem dX8_lend_66 : decode cX8_lend 66 = .ok (.iconst 3, 1) := by decide +kernel
theorem dX8_lend_67 : decode cX8_lend 67 = .ok (.goto 4, 3) := by decide +kernel
theorem dX8_lend_70 : decode cX8_lend 70 = .ok (.iconst 0, 1) := by decide +kernel
theorem dX8_lend_71 : decode cX8_lend 71 = .ok (.invokevirtual 114, 3) := by decide +kernel
theorem dX8_lend_74 : decode cX8_lend 74 = .ok (.ifCond .ne 5, 3) := by decide +kernel
theorem dX8_lend_77 : decode cX8_lend 77 = .ok (.iconst 0, 1) := by decide +kernel
theorem dX8_lend_78 : decode cX8_lend 78 = .ok (.ireturn, 1) := by decide +kernel
theorem dX8_lend_79 : decode cX8_lend 79 = .ok (.aload_n 0, 1) := by decide +kernel
theorem dX8_lend_80 : decode cX8_lend 80 = .ok (.getfield 56, 3) := by decide +kernel
theorem dX8_lend_83 : decode cX8_lend 83 = .ok (.aload_n 0, 1) := by decide +kernel
theorem dX8_lend_84 : decode cX8_lend 84 = .ok (.getfield 203, 3) := by decide +kernel
theorem dX8_lend_87 : decode cX8_lend 87 = .ok (.iload_n 1, 1) := by decide +kernel
theorem dX8_lend_88 : decode cX8_lend 88 = .ok (.iastore, 1) := by decide +kernel
theorem dX8_lend_89 : decode cX8_lend 89 = .ok (.aload_n 0, 1) := by decide +kernel
theorem dX8_lend_90 : decode cX8_lend 90 = .ok (.getfield 59, 3) := by decide +kernel
theorem dX8_lend_93 : decode cX8_lend 93 = .ok (.aload_n 0, 1) := by decide +kernel
theorem dX8_lend_94 : decode cX8_lend 94 = .ok (.getfield 203, 3) := by decide +kernel
theorem dX8_lend_97 : decode cX8_lend 97 = .ok (.iload_n 2, 1) := by decide +kernel
theorem dX8_lend_98 : decode cX8_lend 98 = .ok (.iastore, 1) := by decide +kernel
theorem dX8_lend_99 : decode cX8_lend 99 = .ok (.aload_n 0, 1) := by decide +kernel
theorem dX8_lend_100 : decode cX8_lend 100 = .ok (.getfield 62, 3) := by decide +kernel
theorem dX8_lend_103 : decode cX8_lend 103 = .ok (.aload_n 0, 1) := by decide +kernel
theorem dX8_lend_104 : decode cX8_lend 104 = .ok (.getfield 203, 3) := by decide +kernel
theorem dX8_lend_107 : decode cX8_lend 107 = .ok (.iload_n 3, 1) := by decide +kernel
theorem dX8_lend_108 : decode cX8_lend 108 = .ok (.iastore, 1) := by decide +kernel
theorem dX8_lend_109 : decode cX8_lend 109 = .ok (.aload_n 0, 1) := by decide +kernel
theorem dX8_lend_110 : decode cX8_lend 110 = .ok (.getfield 65, 3) := by decide +kernel
theorem dX8_lend_113 : decode cX8_lend 113 = .ok (.aload_n 0, 1) := by decide +kernel
theorem dX8_lend_114 : decode cX8_lend 114 = .ok (.getfield 203, 3) := by decide +kernel
theorem dX8_lend_117 : decode cX8_lend 117 = .ok (.iload 4, 2) := by decide +kernel
theorem dX8_lend_119 : decode cX8_lend 119 = .ok (.iastore, 1) := by decide +kernel
theorem dX8_lend_120 : decode cX8_lend 120 = .ok (.aload_n 0, 1) := by decide +kernel
theorem dX8_lend_121 : decode cX8_lend 121 = .ok (.dup, 1) := by decide +kernel
theorem dX8_lend_122 : decode cX8_lend 122 = .ok (.getfield 203, 3) := by decide +kernel
theorem dX8_lend_125 : decode cX8_lend 125 = .ok (.iconst 1, 1) := by decide +kernel
theorem dX8_lend_126 : decode cX8_lend 126 = .ok (.iadd, 1) := by decide +kernel
theorem dX8_lend_127 : decode cX8_lend 127 = .ok (.putfield 203, 3) := by decide +kernel
theorem dX8_lend_130 : decode cX8_lend 130 = .ok (.aload_n 0, 1) := by decide +kernel
theorem dX8_lend_131 : decode cX8_lend 131 = .ok (.getfield 203, 3) := by decide +kernel
theorem dX8_lend_134 : decode cX8_lend 134 = .ok (.ireturn, 1) := by decide +kernel
theorem dX8_holds_0 : decode cX8_holds 0 = .ok (.aload_n 0, 1) := by decide +kernel
theorem dX8_holds_1 : decode cX8_holds 1 = .ok (.getfield 53, 3) := by decide +kernel
theorem dX8_holds_4 : decode cX8_holds 4 = .ok (.iload_n 1, 1) := by decide +kernel
theorem dX8_holds_5 : decode cX8_holds 5 = .ok (.iaload, 1) := by decide +kernel
theorem dX8_holds_6 : decode cX8_holds 6 = .ok (.istore_n 3, 1) := by decide +kernel
theorem dX8_holds_7 : decode cX8_holds 7 = .ok (.iconst 0, 1) := by decide +kernel
theorem dX8_holds_8 : decode cX8_holds 8 = .ok (.istore 4, 2) := by decide +kernel
theorem dX8_holds_10 : decode cX8_holds 10 = .ok (.iload 4, 2) := by decide +kernel
theorem dX8_holds_12 : decode cX8_holds 12 = .ok (.aload_n 0, 1) := by decide +kernel
theorem dX8_holds_13 : decode cX8_holds 13 = .ok (.getfield 203, 3) := by decide +kernel
theorem dX8_holds_16 : decode cX8_holds 16 = .ok (.if_icmp .ge 53, 3) := by decide +kernel
theorem dX8_holds_19 : decode cX8_holds 19 = .ok (.aload_n 0, 1) := by decide +kernel
theorem dX8_holds_20 : decode cX8_holds 20 = .ok (.getfield 56, 3) := by decide +kernel
theorem dX8_holds_23 : decode cX8_holds 23 = .ok (.iload 4, 2) := by decide +kernel
theorem dX8_holds_25 : decode cX8_holds 25 = .ok (.iaload, 1) := by decide +kernel
theorem dX8_holds_26 : decode cX8_holds 26 = .ok (.iload_n 1, 1) := by decide +kernel
theorem dX8_holds_27 : decode cX8_holds 27 = .ok (.if_icmp .ne 34, 3) := by decide +kernel
theorem dX8_holds_30 : decode cX8_holds 30 = .ok (.iload_n 2, 1) := by decide +kernel
theorem dX8_holds_31 : decode cX8_holds 31 = .ok (.aload_n 0, 1) := by decide +kernel
theorem dX8_holds_32 : decode cX8_holds 32 = .ok (.getfield 62, 3) := by decide +kernel
theorem dX8_holds_35 : decode cX8_holds 35 = .ok (.iload 4, 2) := by decide +kernel
theorem dX8_holds_37 : decode cX8_holds 37 = .ok (.iaload, 1) := by decide +kernel
theorem dX8_holds_38 : decode cX8_holds 38 = .ok (.aload_n 0, 1) := by decide +kernel
theorem dX8_holds_39 : decode cX8_holds 39 = .ok (.getfield 65, 3) := by decide +kernel
theorem dX8_holds_42 : decode cX8_holds 42 = .ok (.iload 4, 2) := by decide +kernel
theorem dX8_holds_44 : decode cX8_holds 44 = .ok (.iaload, 1) := by decide +kernel
theorem dX8_holds_45 : decode cX8_holds 45 = .ok (.invokestatic 91, 3) := by decide +kernel
theorem dX8_holds_48 : decode cX8_holds 48 = .ok (.ifCond .eq 13, 3) := by decide +kernel
theorem dX8_holds_51 : decode cX8_holds 51 = .ok (.aload_n 0, 1) := by decide +kernel
theorem dX8_holds_52 : decode cX8_holds 52 = .ok (.getfield 59, 3) := by decide +kernel
theorem dX8_holds_55 : decode cX8_holds 55 = .ok (.iload 4, 2) := by decide +kernel
theorem dX8_holds_57 : decode cX8_holds 57 = .ok (.iaload, 1) := by decide +kernel
theorem dX8_holds_58 : decode cX8_holds 58 = .ok (.goto 4, 3) := by decide +kernel
theorem dX8_holds_61 : decode cX8_holds 61 = .ok (.iload_n 3, 1) := by decide +kernel
theorem dX8_holds_62 : decode cX8_holds 62 = .ok (.istore_n 3, 1) := by decide +kernel
theorem dX8_holds_63 : decode cX8_holds 63 = .ok (.iinc 4 1, 3) := by decide +kernel
theorem dX8_holds_66 : decode cX8_holds 66 = .ok (.goto (-56), 3) := by decide +kernel
theorem dX8_holds_69 : decode cX8_holds 69 = .ok (.iload_n 3, 1) := by decide +kernel
theorem dX8_holds_70 : decode cX8_holds 70 = .ok (.ireturn, 1) := by decide +kernel
theorem dX8_holder_0 : decode cX8_holder 0 = .ok (.aload_n 0, 1) := by decide +kernel
theorem dX8_holder_1 : decode cX8_holder 1 = .ok (.iload_n 1, 1) := by decide +kernel
theorem dX8_holder_2 : decode cX8_holder 2 = .ok (.invokestatic 197, 3) := by decide +kernel
theorem dX8_holder_5 : decode cX8_holder 5 = .ok (.ifCond .eq 14, 3) := by decide +kernel
theorem dX8_holder_8 : decode cX8_holder 8 = .ok (.iload_n 2, 1) := by decide +kernel
theorem dX8_holder_9 : decode cX8_holder 9 = .ok (.invokestatic 200, 3) := by decide +kernel
theorem dX8_holder_12 : decode cX8_holder 12 = .ok (.ifCond .eq 7, 3) := by decide +kernel
theorem dX8_holder_15 : decode cX8_holder 15 = .ok (.iconst 0, 1) := by decide +kernel
theorem dX8_holder_16 : decode cX8_holder 16 = .ok (.goto 4, 3) := by decide +kernel
theorem dX8_holder_19 : decode cX8_holder 19 = .ok (.iconst 1, 1) := by decide +kernel
theorem dX8_holder_20 : decode cX8_holder 20 = .ok (.invokevirtual 114, 3) := by decide +kernel
theorem dX8_holder_23 : decode cX8_holder 23 = .ok (.ifCond .eq 12, 3) := by decide +kernel
theorem dX8_holder_26 : decode cX8_holder 26 = .ok (.aload_n 0, 1) := by decide +kernel
theorem dX8_holder_27 : decode cX8_holder 27 = .ok (.iload_n 1, 1) := by decide +kernel
theorem dX8_holder_28 : decode cX8_holder 28 = .ok (.iload_n 2, 1) := by decide +kernel
theorem dX8_holder_29 : decode cX8_holder 29 = .ok (.invokevirtual 206, 3) := by decide +kernel
theorem dX8_holder_32 : decode cX8_holder 32 = .ok (.goto 4, 3) := by decide +kernel
theorem dX8_holder_35 : decode cX8_holder 35 = .ok (.iconst 0, 1) := by decide +kernel
theorem dX8_holder_36 : decode cX8_holder 36 = .ok (.ireturn, 1) := by decide +kernel
theorem dX8_goes_0 : decode cX8_goes 0 = .ok (.iconst 0, 1) := by decide +kernel
theorem dX8_goes_1 : decode cX8_goes 1 = .ok (.istore_n 2, 1) := by decide +kernel
theorem dX8_goes_2 : decode cX8_goes 2 = .ok (.iload_n 2, 1) := by decide +kernel
theorem dX8_goes_3 : decode cX8_goes 3 = .ok (.bipush 16, 2) := by decide +kernel
theorem dX8_goes_5 : decode cX8_goes 5 = .ok (.if_icmp .ge 32, 3) := by decide +kernel
theorem dX8_goes_8 : decode cX8_goes 8 = .ok (.aload_n 0, 1) := by decide +kernel
theorem dX8_goes_9 : decode cX8_goes 9 = .ok (.getfield 68, 3) := by decide +kernel
theorem dX8_goes_12 : decode cX8_goes 12 = .ok (.iload_n 2, 1) := by decide +kernel
theorem dX8_goes_13 : decode cX8_goes 13 = .ok (.aload_n 0, 1) := by decide +kernel
theorem dX8_goes_14 : decode cX8_goes 14 = .ok (.getfield 7, 3) := by decide +kernel
theorem dX8_goes_17 : decode cX8_goes 17 = .ok (.iload_n 1, 1) := by decide +kernel
theorem dX8_goes_18 : decode cX8_goes 18 = .ok (.iload_n 2, 1) := by decide +kernel
theorem dX8_goes_19 : decode cX8_goes 19 = .ok (.invokestatic 95, 3) := by decide +kernel
theorem dX8_goes_22 : decode cX8_goes 22 = .ok (.iaload, 1) := by decide +kernel
theorem dX8_goes_23 : decode cX8_goes 23 = .ok (.iastore, 1) := by decide +kernel
theorem dX8_goes_24 : decode cX8_goes 24 = .ok (.aload_n 0, 1) := by decide +kernel
theorem dX8_goes_25 : decode cX8_goes 25 = .ok (.getfield 71, 3) := by decide +kernel
theorem dX8_goes_28 : decode cX8_goes 28 = .ok (.iload_n 2, 1) := by decide +kernel
theorem dX8_goes_29 : decode cX8_goes 29 = .ok (.iconst 0, 1) := by decide +kernel
theorem dX8_goes_30 : decode cX8_goes 30 = .ok (.iastore, 1) := by decide +kernel
theorem dX8_goes_31 : decode cX8_goes 31 = .ok (.iinc 2 1, 3) := by decide +kernel
theorem dX8_goes_34 : decode cX8_goes 34 = .ok (.goto (-32), 3) := by decide +kernel
theorem dX8_goes_37 : decode cX8_goes 37 = .ok (.iconst 0, 1) := by decide +kernel
theorem dX8_goes_38 : decode cX8_goes 38 = .ok (.istore_n 2, 1) := by decide +kernel
theorem dX8_goes_39 : decode cX8_goes 39 = .ok (.iload_n 2, 1) := by decide +kernel
theorem dX8_goes_40 : decode cX8_goes 40 = .ok (.bipush 16, 2) := by decide +kernel
theorem dX8_goes_42 : decode cX8_goes 42 = .ok (.if_icmp .ge 152, 3) := by decide +kernel
theorem dX8_goes_45 : decode cX8_goes 45 = .ok (.iconst 0, 1) := by decide +kernel
theorem dX8_goes_46 : decode cX8_goes 46 = .ok (.istore_n 3, 1) := by decide +kernel
theorem dX8_goes_47 : decode cX8_goes 47 = .ok (.iload_n 3, 1) := by decide +kernel
theorem dX8_goes_48 : decode cX8_goes 48 = .ok (.bipush 16, 2) := by decide +kernel
theorem dX8_goes_50 : decode cX8_goes 50 = .ok (.if_icmp .ge 138, 3) := by decide +kernel
theorem dX8_goes_53 : decode cX8_goes 53 = .ok (.iconst 0, 1) := by decide +kernel
theorem dX8_goes_54 : decode cX8_goes 54 = .ok (.istore 4, 2) := by decide +kernel
theorem dX8_goes_56 : decode cX8_goes 56 = .ok (.iload 4, 2) := by decide +kernel
theorem dX8_goes_58 : decode cX8_goes 58 = .ok (.bipush 16, 2) := by decide +kernel
theorem dX8_goes_60 : decode cX8_goes 60 = .ok (.if_icmp .ge 122, 3) := by decide +kernel
theorem dX8_goes_63 : decode cX8_goes 63 = .ok (.aload_n 0, 1) := by decide +kernel
theorem dX8_goes_64 : decode cX8_goes 64 = .ok (.iload_n 1, 1) := by decide +kernel
theorem dX8_goes_65 : decode cX8_goes 65 = .ok (.iload_n 3, 1) := by decide +kernel
theorem dX8_goes_66 : decode cX8_goes 66 = .ok (.iload 4, 2) := by decide +kernel
theorem dX8_goes_68 : decode cX8_goes 68 = .ok (.invokevirtual 125, 3) := by decide +kernel
theorem dX8_goes_71 : decode cX8_goes 71 = .ok (.ifCond .eq 105, 3) := by decide +kernel
theorem dX8_goes_74 : decode cX8_goes 74 = .ok (.aload_n 0, 1) := by decide +kernel
theorem dX8_goes_75 : decode cX8_goes 75 = .ok (.getfield 7, 3) := by decide +kernel
theorem dX8_goes_78 : decode cX8_goes 78 = .ok (.iload_n 1, 1) := by decide +kernel
theorem dX8_goes_79 : decode cX8_goes 79 = .ok (.iload 4, 2) := by decide +kernel
theorem dX8_goes_81 : decode cX8_goes 81 = .ok (.invokestatic 95, 3) := by decide +kernel
theorem dX8_goes_84 : decode cX8_goes 84 = .ok (.iaload, 1) := by decide +kernel
theorem dX8_goes_85 : decode cX8_goes 85 = .ok (.istore 5, 2) := by decide +kernel
theorem dX8_goes_87 : decode cX8_goes 87 = .ok (.aload_n 0, 1) := by decide +kernel
theorem dX8_goes_88 : decode cX8_goes 88 = .ok (.getfield 68, 3) := by decide +kernel
theorem dX8_goes_91 : decode cX8_goes 91 = .ok (.iload 4, 2) := by decide +kernel
theorem dX8_goes_93 : decode cX8_goes 93 = .ok (.aload_n 0, 1) := by decide +kernel
theorem dX8_goes_94 : decode cX8_goes 94 = .ok (.getfield 68, 3) := by decide +kernel
theorem dX8_goes_97 : decode cX8_goes 97 = .ok (.iload_n 3, 1) := by decide +kernel
theorem dX8_goes_98 : decode cX8_goes 98 = .ok (.iaload, 1) := by decide +kernel
theorem dX8_goes_99 : decode cX8_goes 99 = .ok (.iload 5, 2) := by decide +kernel
theorem dX8_goes_101 : decode cX8_goes 101 = .ok (.iadd, 1) := by decide +kernel
theorem dX8_goes_102 : decode cX8_goes 102 = .ok (.aload_n 0, 1) := by decide +kernel
theorem dX8_goes_103 : decode cX8_goes 103 = .ok (.getfield 68, 3) := by decide +kernel
theorem dX8_goes_106 : decode cX8_goes 106 = .ok (.iload 4, 2) := by decide +kernel
theorem dX8_goes_108 : decode cX8_goes 108 = .ok (.iaload, 1) := by decide +kernel
theorem dX8_goes_109 : decode cX8_goes 109 = .ok (.if_icmp .le 15, 3) := by decide +kernel
theorem dX8_goes_112 : decode cX8_goes 112 = .ok (.aload_n 0, 1) := by decide +kernel
theorem dX8_goes_113 : decode cX8_goes 113 = .ok (.getfield 68, 3) := by decide +kernel
theorem dX8_goes_116 : decode cX8_goes 116 = .ok (.iload_n 3, 1) := by decide +kernel
theorem dX8_goes_117 : decode cX8_goes 117 = .ok (.iaload, 1) := by decide +kernel
theorem dX8_goes_118 : decode cX8_goes 118 = .ok (.iload 5, 2) := by decide +kernel
theorem dX8_goes_120 : decode cX8_goes 120 = .ok (.iadd, 1) := by decide +kernel
theorem dX8_goes_121 : decode cX8_goes 121 = .ok (.goto 10, 3) := by decide +kernel
theorem dX8_goes_124 : decode cX8_goes 124 = .ok (.aload_n 0, 1) := by decide +kernel
theorem dX8_goes_125 : decode cX8_goes 125 = .ok (.getfield 68, 3) := by decide +kernel
theorem dX8_goes_128 : decode cX8_goes 128 = .ok (.iload 4, 2) := by decide +kernel
theorem dX8_goes_130 : decode cX8_goes 130 = .ok (.iaload, 1) := by decide +kernel
theorem dX8_goes_131 : decode cX8_goes 131 = .ok (.iastore, 1) := by decide +kernel
theorem dX8_goes_132 : decode cX8_goes 132 = .ok (.aload_n 0, 1) := by decide +kernel
theorem dX8_goes_133 : decode cX8_goes 133 = .ok (.getfield 71, 3) := by decide +kernel
theorem dX8_goes_136 : decode cX8_goes 136 = .ok (.iload_n 3, 1) := by decide +kernel
theorem dX8_goes_137 : decode cX8_goes 137 = .ok (.aload_n 0, 1) := by decide +kernel
theorem dX8_goes_138 : decode cX8_goes 138 = .ok (.getfield 71, 3) := by decide +kernel
theorem dX8_goes_141 : decode cX8_goes 141 = .ok (.iload 4, 2) := by decide +kernel
theorem dX8_goes_143 : decode cX8_goes 143 = .ok (.iaload, 1) := by decide +kernel
theorem dX8_goes_144 : decode cX8_goes 144 = .ok (.iload 5, 2) := by decide +kernel
theorem dX8_goes_146 : decode cX8_goes 146 = .ok (.iadd, 1) := by decide +kernel
theorem dX8_goes_147 : decode cX8_goes 147 = .ok (.aload_n 0, 1) := by decide +kernel
theorem dX8_goes_148 : decode cX8_goes 148 = .ok (.getfield 71, 3) := by decide +kernel
theorem dX8_goes_151 : decode cX8_goes 151 = .ok (.iload_n 3, 1) := by decide +kernel
theorem dX8_goes_152 : decode cX8_goes 152 = .ok (.iaload, 1) := by decide +kernel
theorem dX8_goes_153 : decode cX8_goes 153 = .ok (.if_icmp .le 16, 3) := by decide +kernel
theorem dX8_goes_156 : decode cX8_goes 156 = .ok (.aload_n 0, 1) := by decide +kernel
theorem dX8_goes_157 : decode cX8_goes 157 = .ok (.getfield 71, 3) := by decide +kernel
theorem dX8_goes_160 : decode cX8_goes 160 = .ok (.iload 4, 2) := by decide +kernel
theorem dX8_goes_162 : decode cX8_goes 162 = .ok (.iaload, 1) := by decide +kernel
theorem dX8_goes_163 : decode cX8_goes 163 = .ok (.iload 5, 2) := by decide +kernel
theorem dX8_goes_165 : decode cX8_goes 165 = .ok (.iadd, 1) := by decide +kernel
theorem dX8_goes_166 : decode cX8_goes 166 = .ok (.goto 9, 3) := by decide +kernel
theorem dX8_goes_169 : decode cX8_goes 169 = .ok (.aload_n 0, 1) := by decide +kernel
theorem dX8_goes_170 : decode cX8_goes 170 = .ok (.getfield 71, 3) := by decide +kernel
theorem dX8_goes_173 : decode cX8_goes 173 = .ok (.iload_n 3, 1) := by decide +kernel
theorem dX8_goes_174 : decode cX8_goes 174 = .ok (.iaload, 1) := by decide +kernel
theorem dX8_goes_175 : decode cX8_goes 175 = .ok (.iastore, 1) := by decide +kernel
theorem dX8_goes_176 : decode cX8_goes 176 = .ok (.iinc 4 1, 3) := by decide +kernel
theorem dX8_goes_179 : decode cX8_goes 179 = .ok (.goto (-123), 3) := by decide +kernel
theorem dX8_goes_182 : decode cX8_goes 182 = .ok (.iinc 3 1, 3) := by decide +kernel
theorem dX8_goes_185 : decode cX8_goes 185 = .ok (.goto (-138), 3) := by decide +kernel
theorem dX8_goes_188 : decode cX8_goes 188 = .ok (.iinc 2 1, 3) := by decide +kernel
theorem dX8_goes_191 : decode cX8_goes 191 = .ok (.goto (-152), 3) := by decide +kernel
theorem dX8_goes_194 : decode cX8_goes 194 = .ok (.iconst 0, 1) := by decide +kernel
theorem dX8_goes_195 : decode cX8_goes 195 = .ok (.istore_n 2, 1) := by decide +kernel
theorem dX8_goes_196 : decode cX8_goes 196 = .ok (.iconst 0, 1) := by decide +kernel
theorem dX8_goes_197 : decode cX8_goes 197 = .ok (.istore_n 3, 1) := by decide +kernel
theorem dX8_goes_198 : decode cX8_goes 198 = .ok (.iload_n 3, 1) := by decide +kernel
theorem dX8_goes_199 : decode cX8_goes 199 = .ok (.bipush 16, 2) := by decide +kernel
theorem dX8_goes_201 : decode cX8_goes 201 = .ok (.if_icmp .ge 30, 3) := by decide +kernel
theorem dX8_goes_204 : decode cX8_goes 204 = .ok (.aload_n 0, 1) := by decide +kernel
theorem dX8_goes_205 : decode cX8_goes 205 = .ok (.getfield 68, 3) := by decide +kernel
theorem dX8_goes_208 : decode cX8_goes 208 = .ok (.iload_n 3, 1) := by decide +kernel
theorem dX8_goes_209 : decode cX8_goes 209 = .ok (.iaload, 1) := by decide +kernel
theorem dX8_goes_210 : decode cX8_goes 210 = .ok (.iload_n 2, 1) := by decide +kernel
theorem dX8_goes_211 : decode cX8_goes 211 = .ok (.if_icmp .le 12, 3) := by decide +kernel
theorem dX8_goes_214 : decode cX8_goes 214 = .ok (.aload_n 0, 1) := by decide +kernel
theorem dX8_goes_215 : decode cX8_goes 215 = .ok (.getfield 68, 3) := by decide +kernel
theorem dX8_goes_218 : decode cX8_goes 218 = .ok (.iload_n 3, 1) := by decide +kernel
theorem dX8_goes_219 : decode cX8_goes 219 = .ok (.iaload, 1) := by decide +kernel
theorem dX8_goes_220 : decode cX8_goes 220 = .ok (.goto 4, 3) := by decide +kernel
theorem dX8_goes_223 : decode cX8_goes 223 = .ok (.iload_n 2, 1) := by decide +kernel
theorem dX8_goes_224 : decode cX8_goes 224 = .ok (.istore_n 2, 1) := by decide +kernel
theorem dX8_goes_225 : decode cX8_goes 225 = .ok (.iinc 3 1, 3) := by decide +kernel
theorem dX8_goes_228 : decode cX8_goes 228 = .ok (.goto (-30), 3) := by decide +kernel
theorem dX8_goes_231 : decode cX8_goes 231 = .ok (.iload_n 2, 1) := by decide +kernel
theorem dX8_goes_232 : decode cX8_goes 232 = .ok (.ireturn, 1) := by decide +kernel
theorem dX8_tail_0 : decode cX8_tail 0 = .ok (.aload_n 0, 1) := by decide +kernel
theorem dX8_tail_1 : decode cX8_tail 1 = .ok (.iload_n 1, 1) := by decide +kernel
theorem dX8_tail_2 : decode cX8_tail 2 = .ok (.iload_n 2, 1) := by decide +kernel
theorem dX8_tail_3 : decode cX8_tail 3 = .ok (.invokevirtual 138, 3) := by decide +kernel
theorem dX8_tail_6 : decode cX8_tail 6 = .ok (.ifCond .ne 5, 3) := by decide +kernel
theorem dX8_tail_9 : decode cX8_tail 9 = .ok (.iconst 0, 1) := by decide +kernel
theorem dX8_tail_10 : decode cX8_tail 10 = .ok (.ireturn, 1) := by decide +kernel
theorem dX8_tail_11 : decode cX8_tail 11 = .ok (.aload_n 0, 1) := by decide +kernel
theorem dX8_tail_12 : decode cX8_tail 12 = .ok (.iload_n 1, 1) := by decide +kernel
theorem dX8_tail_13 : decode cX8_tail 13 = .ok (.invokevirtual 209, 3) := by decide +kernel
theorem dX8_tail_16 : decode cX8_tail 16 = .ok (.istore_n 3, 1) := by decide +kernel
theorem dX8_tail_17 : decode cX8_tail 17 = .ok (.iload_n 3, 1) := by decide +kernel
theorem dX8_tail_18 : decode cX8_tail 18 = .ok (.ifCond .ne 7, 3) := by decide +kernel
theorem dX8_tail_21 : decode cX8_tail 21 = .ok (.iconst 0, 1) := by decide +kernel
theorem dX8_tail_22 : decode cX8_tail 22 = .ok (.goto 9, 3) := by decide +kernel
theorem dX8_tail_25 : decode cX8_tail 25 = .ok (.aload_n 0, 1) := by decide +kernel
theorem dX8_tail_26 : decode cX8_tail 26 = .ok (.getfield 68, 3) := by decide +kernel
theorem dX8_tail_29 : decode cX8_tail 29 = .ok (.iload_n 2, 1) := by decide +kernel
theorem dX8_tail_30 : decode cX8_tail 30 = .ok (.iaload, 1) := by decide +kernel
theorem dX8_tail_31 : decode cX8_tail 31 = .ok (.ireturn, 1) := by decide +kernel
theorem dX8_slack_0 : decode cX8_slack 0 = .ok (.aload_n 0, 1) := by decide +kernel
theorem dX8_slack_1 : decode cX8_slack 1 = .ok (.iload_n 1, 1) := by decide +kernel
theorem dX8_slack_2 : decode cX8_slack 2 = .ok (.iload_n 2, 1) := by decide +kernel
theorem dX8_slack_3 : decode cX8_slack 3 = .ok (.invokevirtual 138, 3) := by decide +kernel
theorem dX8_slack_6 : decode cX8_slack 6 = .ok (.ifCond .ne 5, 3) := by decide +kernel
theorem dX8_slack_9 : decode cX8_slack 9 = .ok (.iconst 0, 1) := by decide +kernel
theorem dX8_slack_10 : decode cX8_slack 10 = .ok (.ireturn, 1) := by decide +kernel
theorem dX8_slack_11 : decode cX8_slack 11 = .ok (.aload_n 0, 1) := by decide +kernel
theorem dX8_slack_12 : decode cX8_slack 12 = .ok (.iload_n 1, 1) := by decide +kernel
theorem dX8_slack_13 : decode cX8_slack 13 = .ok (.invokevirtual 209, 3) := by decide +kernel
theorem dX8_slack_16 : decode cX8_slack 16 = .ok (.istore_n 3, 1) := by decide +kernel
theorem dX8_slack_17 : decode cX8_slack 17 = .ok (.aload_n 0, 1) := by decide +kernel
theorem dX8_slack_18 : decode cX8_slack 18 = .ok (.iload_n 1, 1) := by decide +kernel
theorem dX8_slack_19 : decode cX8_slack 19 = .ok (.iload_n 2, 1) := by decide +kernel
theorem dX8_slack_20 : decode cX8_slack 20 = .ok (.invokevirtual 121, 3) := by decide +kernel
theorem dX8_slack_23 : decode cX8_slack 23 = .ok (.ifCond .eq 21, 3) := by decide +kernel
theorem dX8_slack_26 : decode cX8_slack 26 = .ok (.iload_n 3, 1) := by decide +kernel
theorem dX8_slack_27 : decode cX8_slack 27 = .ok (.aload_n 0, 1) := by decide +kernel
theorem dX8_slack_28 : decode cX8_slack 28 = .ok (.getfield 71, 3) := by decide +kernel
theorem dX8_slack_31 : decode cX8_slack 31 = .ok (.iload_n 2, 1) := by decide +kernel
theorem dX8_slack_32 : decode cX8_slack 32 = .ok (.iaload, 1) := by decide +kernel
theorem dX8_slack_33 : decode cX8_slack 33 = .ok (.isub, 1) := by decide +kernel
theorem dX8_slack_34 : decode cX8_slack 34 = .ok (.aload_n 0, 1) := by decide +kernel
theorem dX8_slack_35 : decode cX8_slack 35 = .ok (.getfield 68, 3) := by decide +kernel
theorem dX8_slack_38 : decode cX8_slack 38 = .ok (.iload_n 2, 1) := by decide +kernel
theorem dX8_slack_39 : decode cX8_slack 39 = .ok (.iaload, 1) := by decide +kernel
theorem dX8_slack_40 : decode cX8_slack 40 = .ok (.isub, 1) := by decide +kernel
theorem dX8_slack_41 : decode cX8_slack 41 = .ok (.goto 4, 3) := by decide +kernel
theorem dX8_slack_44 : decode cX8_slack 44 = .ok (.iconst (-1), 1) := by decide +kernel
theorem dX8_slack_45 : decode cX8_slack 45 = .ok (.ireturn, 1) := by decide +kernel
theorem dX8_critical_0 : decode cX8_critical 0 = .ok (.aload_n 0, 1) := by decide +kernel
theorem dX8_critical_1 : decode cX8_critical 1 = .ok (.aload_n 0, 1) := by decide +kernel
theorem dX8_critical_2 : decode cX8_critical 2 = .ok (.iload_n 1, 1) := by decide +kernel
theorem dX8_critical_3 : decode cX8_critical 3 = .ok (.invokevirtual 111, 3) := by decide +kernel
theorem dX8_critical_6 : decode cX8_critical 6 = .ok (.ifCond .eq 7, 3) := by decide +kernel
theorem dX8_critical_9 : decode cX8_critical 9 = .ok (.iconst 0, 1) := by decide +kernel
theorem dX8_critical_10 : decode cX8_critical 10 = .ok (.goto 4, 3) := by decide +kernel
theorem dX8_critical_13 : decode cX8_critical 13 = .ok (.iconst 1, 1) := by decide +kernel
theorem dX8_critical_14 : decode cX8_critical 14 = .ok (.invokevirtual 114, 3) := by decide +kernel
theorem dX8_critical_17 : decode cX8_critical 17 = .ok (.ifCond .ne 5, 3) := by decide +kernel
theorem dX8_critical_20 : decode cX8_critical 20 = .ok (.iconst 0, 1) := by decide +kernel
theorem dX8_critical_21 : decode cX8_critical 21 = .ok (.ireturn, 1) := by decide +kernel
theorem dX8_critical_22 : decode cX8_critical 22 = .ok (.aload_n 0, 1) := by decide +kernel
theorem dX8_critical_23 : decode cX8_critical 23 = .ok (.iload_n 1, 1) := by decide +kernel
theorem dX8_critical_24 : decode cX8_critical 24 = .ok (.invokevirtual 209, 3) := by decide +kernel
theorem dX8_critical_27 : decode cX8_critical 27 = .ok (.istore_n 2, 1) := by decide +kernel
theorem dX8_critical_28 : decode cX8_critical 28 = .ok (.iconst 0, 1) := by decide +kernel
theorem dX8_critical_29 : decode cX8_critical 29 = .ok (.istore_n 3, 1) := by decide +kernel
theorem dX8_critical_30 : decode cX8_critical 30 = .ok (.iconst 0, 1) := by decide +kernel
theorem dX8_critical_31 : decode cX8_critical 31 = .ok (.istore 4, 2) := by decide +kernel
theorem dX8_critical_33 : decode cX8_critical 33 = .ok (.iload 4, 2) := by decide +kernel
theorem dX8_critical_35 : decode cX8_critical 35 = .ok (.bipush 16, 2) := by decide +kernel
theorem dX8_critical_37 : decode cX8_critical 37 = .ok (.if_icmp .ge 49, 3) := by decide +kernel
theorem dX8_critical_40 : decode cX8_critical 40 = .ok (.iload_n 3, 1) := by decide +kernel
theorem dX8_critical_41 : decode cX8_critical 41 = .ok (.aload_n 0, 1) := by decide +kernel
theorem dX8_critical_42 : decode cX8_critical 42 = .ok (.iload_n 1, 1) := by decide +kernel
theorem dX8_critical_43 : decode cX8_critical 43 = .ok (.iload 4, 2) := by decide +kernel
theorem dX8_critical_45 : decode cX8_critical 45 = .ok (.invokevirtual 121, 3) := by decide +kernel
theorem dX8_critical_48 : decode cX8_critical 48 = .ok (.ifCond .eq 29, 3) := by decide +kernel
theorem dX8_critical_51 : decode cX8_critical 51 = .ok (.iload_n 2, 1) := by decide +kernel
theorem dX8_critical_52 : decode cX8_critical 52 = .ok (.aload_n 0, 1) := by decide +kernel
theorem dX8_critical_53 : decode cX8_critical 53 = .ok (.getfield 71, 3) := by decide +kernel
theorem dX8_critical_56 : decode cX8_critical 56 = .ok (.iload 4, 2) := by decide +kernel
theorem dX8_critical_58 : decode cX8_critical 58 = .ok (.iaload, 1) := by decide +kernel
theorem dX8_critical_59 : decode cX8_critical 59 = .ok (.aload_n 0, 1) := by decide +kernel
theorem dX8_critical_60 : decode cX8_critical 60 = .ok (.getfield 68, 3) := by decide +kernel
theorem dX8_critical_63 : decode cX8_critical 63 = .ok (.iload 4, 2) := by decide +kernel
theorem dX8_critical_65 : decode cX8_critical 65 = .ok (.iaload, 1) := by decide +kernel
theorem dX8_critical_66 : decode cX8_critical 66 = .ok (.iadd, 1) := by decide +kernel
theorem dX8_critical_67 : decode cX8_critical 67 = .ok (.if_icmp .ne 10, 3) := by decide +kernel
theorem dX8_critical_70 : decode cX8_critical 70 = .ok (.iconst 1, 1) := by decide +kernel
theorem dX8_critical_71 : decode cX8_critical 71 = .ok (.iload 4, 2) := by decide +kernel
theorem dX8_critical_73 : decode cX8_critical 73 = .ok (.ishl, 1) := by decide +kernel
theorem dX8_critical_74 : decode cX8_critical 74 = .ok (.goto 4, 3) := by decide +kernel
theorem dX8_critical_77 : decode cX8_critical 77 = .ok (.iconst 0, 1) := by decide +kernel
theorem dX8_critical_78 : decode cX8_critical 78 = .ok (.ior, 1) := by decide +kernel
theorem dX8_critical_79 : decode cX8_critical 79 = .ok (.istore_n 3, 1) := by decide +kernel
theorem dX8_critical_80 : decode cX8_critical 80 = .ok (.iinc 4 1, 3) := by decide +kernel
theorem dX8_critical_83 : decode cX8_critical 83 = .ok (.goto (-50), 3) := by decide +kernel
theorem dX8_critical_86 : decode cX8_critical 86 = .ok (.iload_n 3, 1) := by decide +kernel
theorem dX8_critical_87 : decode cX8_critical 87 = .ok (.ireturn, 1) := by decide +kernel
theorem dX8_way_0 : decode cX8_way 0 = .ok (.aload_n 0, 1) := by decide +kernel
theorem dX8_way_1 : decode cX8_way 1 = .ok (.aload_n 0, 1) := by decide +kernel
theorem dX8_way_2 : decode cX8_way 2 = .ok (.iload_n 1, 1) := by decide +kernel
theorem dX8_way_3 : decode cX8_way 3 = .ok (.invokevirtual 111, 3) := by decide +kernel
theorem dX8_way_6 : decode cX8_way 6 = .ok (.ifCond .eq 7, 3) := by decide +kernel
theorem dX8_way_9 : decode cX8_way 9 = .ok (.iconst 0, 1) := by decide +kernel
theorem dX8_way_10 : decode cX8_way 10 = .ok (.goto 4, 3) := by decide +kernel
theorem dX8_way_13 : decode cX8_way 13 = .ok (.iconst 1, 1) := by decide +kernel
theorem dX8_way_14 : decode cX8_way 14 = .ok (.invokevirtual 114, 3) := by decide +kernel
theorem dX8_way_17 : decode cX8_way 17 = .ok (.ifCond .eq 11, 3) := by decide +kernel
theorem dX8_way_20 : decode cX8_way 20 = .ok (.aload_n 0, 1) := by decide +kernel
theorem dX8_way_21 : decode cX8_way 21 = .ok (.iload_n 1, 1) := by decide +kernel
theorem dX8_way_22 : decode cX8_way 22 = .ok (.invokevirtual 209, 3) := by decide +kernel
theorem dX8_way_25 : decode cX8_way 25 = .ok (.goto 4, 3) := by decide +kernel
theorem dX8_way_28 : decode cX8_way 28 = .ok (.iconst 0, 1) := by decide +kernel
theorem dX8_way_29 : decode cX8_way 29 = .ok (.ireturn, 1) := by decide +kernel
theorem dX8_clears_0 : decode cX8_clears 0 = .ok (.iconst 0, 1) := by decide +kernel
theorem dX8_clears_1 : decode cX8_clears 1 = .ok (.istore_n 1, 1) := by decide +kernel
theorem dX8_clears_2 : decode cX8_clears 2 = .ok (.iload_n 1, 1) := by decide +kernel
theorem dX8_clears_3 : decode cX8_clears 3 = .ok (.bipush 16, 2) := by decide +kernel
theorem dX8_clears_5 : decode cX8_clears 5 = .ok (.if_icmp .ge 16, 3) := by decide +kernel
theorem dX8_clears_8 : decode cX8_clears 8 = .ok (.aload_n 0, 1) := by decide +kernel
theorem dX8_clears_9 : decode cX8_clears 9 = .ok (.getfield 74, 3) := by decide +kernel
theorem dX8_clears_12 : decode cX8_clears 12 = .ok (.iload_n 1, 1) := by decide +kernel
theorem dX8_clears_13 : decode cX8_clears 13 = .ok (.iconst (-1), 1) := by decide +kernel
theorem dX8_clears_14 : decode cX8_clears 14 = .ok (.iastore, 1) := by decide +kernel
theorem dX8_clears_15 : decode cX8_clears 15 = .ok (.iinc 1 1, 3) := by decide +kernel
theorem dX8_clears_18 : decode cX8_clears 18 = .ok (.goto (-16), 3) := by decide +kernel
theorem dX8_clears_21 : decode cX8_clears 21 = .ok (.iconst 0, 1) := by decide +kernel
theorem dX8_clears_22 : decode cX8_clears 22 = .ok (.istore_n 1, 1) := by decide +kernel
theorem dX8_clears_23 : decode cX8_clears 23 = .ok (.iload_n 1, 1) := by decide +kernel
theorem dX8_clears_24 : decode cX8_clears 24 = .ok (.sipush 2000, 3) := by decide +kernel
theorem dX8_clears_27 : decode cX8_clears 27 = .ok (.if_icmp .ge 16, 3) := by decide +kernel
theorem dX8_clears_30 : decode cX8_clears 30 = .ok (.aload_n 0, 1) := by decide +kernel
theorem dX8_clears_31 : decode cX8_clears 31 = .ok (.getfield 77, 3) := by decide +kernel
theorem dX8_clears_34 : decode cX8_clears 34 = .ok (.iload_n 1, 1) := by decide +kernel
theorem dX8_clears_35 : decode cX8_clears 35 = .ok (.iconst (-1), 1) := by decide +kernel
theorem dX8_clears_36 : decode cX8_clears 36 = .ok (.iastore, 1) := by decide +kernel
theorem dX8_clears_37 : decode cX8_clears 37 = .ok (.iinc 1 1, 3) := by decide +kernel
theorem dX8_clears_40 : decode cX8_clears 40 = .ok (.goto (-17), 3) := by decide +kernel
theorem dX8_clears_43 : decode cX8_clears 43 = .ok (.return_, 1) := by decide +kernel
theorem dX8_finds_0 : decode cX8_finds 0 = .ok (.iconst 0, 1) := by decide +kernel
theorem dX8_finds_1 : decode cX8_finds 1 = .ok (.istore_n 2, 1) := by decide +kernel
theorem dX8_finds_2 : decode cX8_finds 2 = .ok (.iload_n 2, 1) := by decide +kernel
theorem dX8_finds_3 : decode cX8_finds 3 = .ok (.sipush 2000, 3) := by decide +kernel
theorem dX8_finds_6 : decode cX8_finds 6 = .ok (.if_icmp .ge 38, 3) := by decide +kernel
theorem dX8_finds_9 : decode cX8_finds 9 = .ok (.aload_n 0, 1) := by decide +kernel
theorem dX8_finds_10 : decode cX8_finds 10 = .ok (.getfield 80, 3) := by decide +kernel
theorem dX8_finds_13 : decode cX8_finds 13 = .ok (.iload_n 2, 1) := by decide +kernel
theorem dX8_finds_14 : decode cX8_finds 14 = .ok (.aload_n 0, 1) := by decide +kernel
theorem dX8_finds_15 : decode cX8_finds 15 = .ok (.iload_n 2, 1) := by decide +kernel
theorem dX8_finds_16 : decode cX8_finds 16 = .ok (.sipush 400, 3) := by decide +kernel
theorem dX8_finds_19 : decode cX8_finds 19 = .ok (.idiv, 1) := by decide +kernel
theorem dX8_finds_20 : decode cX8_finds 20 = .ok (.iload_n 2, 1) := by decide +kernel
theorem dX8_finds_21 : decode cX8_finds 21 = .ok (.sipush 400, 3) := by decide +kernel
theorem dX8_finds_24 : decode cX8_finds 24 = .ok (.irem, 1) := by decide +kernel
theorem dX8_finds_25 : decode cX8_finds 25 = .ok (.invokevirtual 206, 3) := by decide +kernel
theorem dX8_finds_28 : decode cX8_finds 28 = .ok (.iload_n 1, 1) := by decide +kernel
theorem dX8_finds_29 : decode cX8_finds 29 = .ok (.if_icmp .ne 7, 3) := by decide +kernel
theorem dX8_finds_32 : decode cX8_finds 32 = .ok (.iconst 1, 1) := by decide +kernel
theorem dX8_finds_33 : decode cX8_finds 33 = .ok (.goto 4, 3) := by decide +kernel
theorem dX8_finds_36 : decode cX8_finds 36 = .ok (.iconst 0, 1) := by decide +kernel
theorem dX8_finds_37 : decode cX8_finds 37 = .ok (.bastore, 1) := by decide +kernel
theorem dX8_finds_38 : decode cX8_finds 38 = .ok (.iinc 2 1, 3) := by decide +kernel
theorem dX8_finds_41 : decode cX8_finds 41 = .ok (.goto (-39), 3) := by decide +kernel
theorem dX8_finds_44 : decode cX8_finds 44 = .ok (.return_, 1) := by decide +kernel
theorem dX8_isReady_0 : decode cX8_isReady 0 = .ok (.iconst 1, 1) := by decide +kernel
theorem dX8_isReady_1 : decode cX8_isReady 1 = .ok (.istore_n 3, 1) := by decide +kernel
theorem dX8_isReady_2 : decode cX8_isReady 2 = .ok (.iconst 0, 1) := by decide +kernel
theorem dX8_isReady_3 : decode cX8_isReady 3 = .ok (.istore 4, 2) := by decide +kernel
theorem dX8_isReady_5 : decode cX8_isReady 5 = .ok (.iload 4, 2) := by decide +kernel
theorem dX8_isReady_7 : decode cX8_isReady 7 = .ok (.bipush 16, 2) := by decide +kernel
theorem dX8_isReady_9 : decode cX8_isReady 9 = .ok (.if_icmp .ge 41, 3) := by decide +kernel
theorem dX8_isReady_12 : decode cX8_isReady 12 = .ok (.iload_n 3, 1) := by decide +kernel
theorem dX8_isReady_13 : decode cX8_isReady 13 = .ok (.ifCond .eq 29, 3) := by decide +kernel
theorem dX8_isReady_16 : decode cX8_isReady 16 = .ok (.aload_n 0, 1) := by decide +kernel
theorem dX8_isReady_17 : decode cX8_isReady 17 = .ok (.iload_n 1, 1) := by decide +kernel
theorem dX8_isReady_18 : decode cX8_isReady 18 = .ok (.iload_n 2, 1) := by decide +kernel
theorem dX8_isReady_19 : decode cX8_isReady 19 = .ok (.iload 4, 2) := by decide +kernel
theorem dX8_isReady_21 : decode cX8_isReady 21 = .ok (.invokevirtual 125, 3) := by decide +kernel
theorem dX8_isReady_24 : decode cX8_isReady 24 = .ok (.ifCond .eq 14, 3) := by decide +kernel
theorem dX8_isReady_27 : decode cX8_isReady 27 = .ok (.aload_n 0, 1) := by decide +kernel
theorem dX8_isReady_28 : decode cX8_isReady 28 = .ok (.getfield 74, 3) := by decide +kernel
theorem dX8_isReady_31 : decode cX8_isReady 31 = .ok (.iload 4, 2) := by decide +kernel
theorem dX8_isReady_33 : decode cX8_isReady 33 = .ok (.iaload, 1) := by decide +kernel
theorem dX8_isReady_34 : decode cX8_isReady 34 = .ok (.iconst (-1), 1) := by decide +kernel
theorem dX8_isReady_35 : decode cX8_isReady 35 = .ok (.if_icmp .eq 7, 3) := by decide +kernel
theorem dX8_isReady_38 : decode cX8_isReady 38 = .ok (.iconst 1, 1) := by decide +kernel
theorem dX8_isReady_39 : decode cX8_isReady 39 = .ok (.goto 4, 3) := by decide +kernel
theorem dX8_isReady_42 : decode cX8_isReady 42 = .ok (.iconst 0, 1) := by decide +kernel
theorem dX8_isReady_43 : decode cX8_isReady 43 = .ok (.istore_n 3, 1) := by decide +kernel
theorem dX8_isReady_44 : decode cX8_isReady 44 = .ok (.iinc 4 1, 3) := by decide +kernel
theorem dX8_isReady_47 : decode cX8_isReady 47 = .ok (.goto (-42), 3) := by decide +kernel
theorem dX8_isReady_50 : decode cX8_isReady 50 = .ok (.iload_n 3, 1) := by decide +kernel
theorem dX8_isReady_51 : decode cX8_isReady 51 = .ok (.ireturn, 1) := by decide +kernel
theorem dX8_places_0 : decode cX8_places 0 = .ok (.aload_n 0, 1) := by decide +kernel
theorem dX8_places_1 : decode cX8_places 1 = .ok (.getfield 7, 3) := by decide +kernel
theorem dX8_places_4 : decode cX8_places 4 = .ok (.iload_n 1, 1) := by decide +kernel
theorem dX8_places_5 : decode cX8_places 5 = .ok (.iload_n 2, 1) := by decide +kernel
theorem dX8_places_6 : decode cX8_places 6 = .ok (.invokestatic 95, 3) := by decide +kernel
theorem dX8_places_9 : decode cX8_places 9 = .ok (.iaload, 1) := by decide +kernel
theorem dX8_places_10 : decode cX8_places 10 = .ok (.istore_n 3, 1) := by decide +kernel
theorem dX8_places_11 : decode cX8_places 11 = .ok (.aload_n 0, 1) := by decide +kernel
theorem dX8_places_12 : decode cX8_places 12 = .ok (.getfield 13, 3) := by decide +kernel
theorem dX8_places_15 : decode cX8_places 15 = .ok (.iload_n 1, 1) := by decide +kernel
theorem dX8_places_16 : decode cX8_places 16 = .ok (.iload_n 2, 1) := by decide +kernel
theorem dX8_places_17 : decode cX8_places 17 = .ok (.invokestatic 95, 3) := by decide +kernel
theorem dX8_places_20 : decode cX8_places 20 = .ok (.iaload, 1) := by decide +kernel
theorem dX8_places_21 : decode cX8_places 21 = .ok (.istore 4, 2) := by decide +kernel
theorem dX8_places_23 : decode cX8_places 23 = .ok (.iconst 0, 1) := by decide +kernel
theorem dX8_places_24 : decode cX8_places 24 = .ok (.istore 5, 2) := by decide +kernel
theorem dX8_places_26 : decode cX8_places 26 = .ok (.iconst 0, 1) := by decide +kernel
theorem dX8_places_27 : decode cX8_places 27 = .ok (.istore 6, 2) := by decide +kernel
theorem dX8_places_29 : decode cX8_places 29 = .ok (.iload 6, 2) := by decide +kernel
theorem dX8_places_31 : decode cX8_places 31 = .ok (.bipush 16, 2) := by decide +kernel
theorem dX8_places_33 : decode cX8_places 33 = .ok (.if_icmp .ge 61, 3) := by decide +kernel
theorem dX8_places_36 : decode cX8_places 36 = .ok (.aload_n 0, 1) := by decide +kernel
theorem dX8_places_37 : decode cX8_places 37 = .ok (.iload_n 1, 1) := by decide +kernel
theorem dX8_places_38 : decode cX8_places 38 = .ok (.iload_n 2, 1) := by decide +kernel
theorem dX8_places_39 : decode cX8_places 39 = .ok (.iload 6, 2) := by decide +kernel
theorem dX8_places_41 : decode cX8_places 41 = .ok (.invokevirtual 125, 3) := by decide +kernel
theorem dX8_places_44 : decode cX8_places 44 = .ok (.ifCond .eq 25, 3) := by decide +kernel
theorem dX8_places_47 : decode cX8_places 47 = .ok (.aload_n 0, 1) := by decide +kernel
theorem dX8_places_48 : decode cX8_places 48 = .ok (.getfield 74, 3) := by decide +kernel
theorem dX8_places_51 : decode cX8_places 51 = .ok (.iload 6, 2) := by decide +kernel
theorem dX8_places_53 : decode cX8_places 53 = .ok (.iaload, 1) := by decide +kernel
theorem dX8_places_54 : decode cX8_places 54 = .ok (.aload_n 0, 1) := by decide +kernel
theorem dX8_places_55 : decode cX8_places 55 = .ok (.getfield 7, 3) := by decide +kernel
theorem dX8_places_58 : decode cX8_places 58 = .ok (.iload_n 1, 1) := by decide +kernel
theorem dX8_places_59 : decode cX8_places 59 = .ok (.iload 6, 2) := by decide +kernel
theorem dX8_places_61 : decode cX8_places 61 = .ok (.invokestatic 95, 3) := by decide +kernel
theorem dX8_places_64 : decode cX8_places 64 = .ok (.iaload, 1) := by decide +kernel
theorem dX8_places_65 : decode cX8_places 65 = .ok (.iadd, 1) := by decide +kernel
theorem dX8_places_66 : decode cX8_places 66 = .ok (.goto 4, 3) := by decide +kernel
theorem dX8_places_69 : decode cX8_places 69 = .ok (.iconst 0, 1) := by decide +kernel
theorem dX8_places_70 : decode cX8_places 70 = .ok (.istore 7, 2) := by decide +kernel
theorem dX8_places_72 : decode cX8_places 72 = .ok (.iload 7, 2) := by decide +kernel
theorem dX8_places_74 : decode cX8_places 74 = .ok (.iload 5, 2) := by decide +kernel
theorem dX8_places_76 : decode cX8_places 76 = .ok (.if_icmp .le 8, 3) := by decide +kernel
theorem dX8_places_79 : decode cX8_places 79 = .ok (.iload 7, 2) := by decide +kernel
theorem dX8_places_81 : decode cX8_places 81 = .ok (.goto 5, 3) := by decide +kernel
theorem dX8_places_84 : decode cX8_places 84 = .ok (.iload 5, 2) := by decide +kernel
theorem dX8_places_86 : decode cX8_places 86 = .ok (.istore 5, 2) := by decide +kernel
theorem dX8_places_88 : decode cX8_places 88 = .ok (.iinc 6 1, 3) := by decide +kernel
theorem dX8_places_91 : decode cX8_places 91 = .ok (.goto (-62), 3) := by decide +kernel
theorem dX8_places_94 : decode cX8_places 94 = .ok (.iconst 0, 1) := by decide +kernel
theorem dX8_places_95 : decode cX8_places 95 = .ok (.istore 6, 2) := by decide +kernel
theorem dX8_places_97 : decode cX8_places 97 = .ok (.iload 5, 2) := by decide +kernel
theorem dX8_places_99 : decode cX8_places 99 = .ok (.istore 7, 2) := by decide +kernel
theorem dX8_places_101 : decode cX8_places 101 = .ok (.iload 7, 2) := by decide +kernel
theorem dX8_places_103 : decode cX8_places 103 = .ok (.sipush 400, 3) := by decide +kernel
theorem dX8_places_106 : decode cX8_places 106 = .ok (.if_icmp .ge 87, 3) := by decide +kernel
theorem dX8_places_109 : decode cX8_places 109 = .ok (.iload 6, 2) := by decide +kernel
theorem dX8_places_111 : decode cX8_places 111 = .ok (.iload_n 3, 1) := by decide +kernel
theorem dX8_places_112 : decode cX8_places 112 = .ok (.if_icmp .ge 81, 3) := by decide +kernel
theorem dX8_places_115 : decode cX8_places 115 = .ok (.iload 4, 2) := by decide +kernel
theorem dX8_places_117 : decode cX8_places 117 = .ok (.iconst (-1), 1) := by decide +kernel
theorem dX8_places_118 : decode cX8_places 118 = .ok (.if_icmp .eq 38, 3) := by decide +kernel
theorem dX8_places_121 : decode cX8_places 121 = .ok (.aload_n 0, 1) := by decide +kernel
theorem dX8_places_122 : decode cX8_places 122 = .ok (.getfield 80, 3) := by decide +kernel
theorem dX8_places_125 : decode cX8_places 125 = .ok (.sipush 400, 3) := by decide +kernel
theorem dX8_places_128 : decode cX8_places 128 = .ok (.iload 4, 2) := by decide +kernel
theorem dX8_places_130 : decode cX8_places 130 = .ok (.imul, 1) := by decide +kernel
theorem dX8_places_131 : decode cX8_places 131 = .ok (.iload 7, 2) := by decide +kernel
theorem dX8_places_133 : decode cX8_places 133 = .ok (.iadd, 1) := by decide +kernel
theorem dX8_places_134 : decode cX8_places 134 = .ok (.baload, 1) := by decide +kernel
theorem dX8_places_135 : decode cX8_places 135 = .ok (.ifCond .eq 25, 3) := by decide +kernel
theorem dX8_places_138 : decode cX8_places 138 = .ok (.aload_n 0, 1) := by decide +kernel
theorem dX8_places_139 : decode cX8_places 139 = .ok (.getfield 77, 3) := by decide +kernel
theorem dX8_places_142 : decode cX8_places 142 = .ok (.sipush 400, 3) := by decide +kernel
theorem dX8_places_145 : decode cX8_places 145 = .ok (.iload 4, 2) := by decide +kernel
theorem dX8_places_147 : decode cX8_places 147 = .ok (.imul, 1) := by decide +kernel
theorem dX8_places_148 : decode cX8_places 148 = .ok (.iload 7, 2) := by decide +kernel
theorem dX8_places_150 : decode cX8_places 150 = .ok (.iadd, 1) := by decide +kernel
theorem dX8_places_151 : decode cX8_places 151 = .ok (.iaload, 1) := by decide +kernel
theorem dX8_places_152 : decode cX8_places 152 = .ok (.iconst (-1), 1) := by decide +kernel
theorem dX8_places_153 : decode cX8_places 153 = .ok (.if_icmp .ne 7, 3) := by decide +kernel
theorem dX8_places_156 : decode cX8_places 156 = .ok (.iconst 1, 1) := by decide +kernel
theorem dX8_places_157 : decode cX8_places 157 = .ok (.goto 4, 3) := by decide +kernel
theorem dX8_places_160 : decode cX8_places 160 = .ok (.iconst 0, 1) := by decide +kernel
theorem dX8_places_161 : decode cX8_places 161 = .ok (.istore 8, 2) := by decide +kernel
theorem dX8_places_163 : decode cX8_places 163 = .ok (.iload 8, 2) := by decide +kernel
theorem dX8_places_165 : decode cX8_places 165 = .ok (.ifCond .eq 10, 3) := by decide +kernel
theorem dX8_places_168 : decode cX8_places 168 = .ok (.iload 6, 2) := by decide +kernel
theorem dX8_places_170 : decode cX8_places 170 = .ok (.iconst 1, 1) := by decide +kernel
theorem dX8_places_171 : decode cX8_places 171 = .ok (.iadd, 1) := by decide +kernel
theorem dX8_places_172 : decode cX8_places 172 = .ok (.goto 4, 3) := by decide +kernel
theorem dX8_places_175 : decode cX8_places 175 = .ok (.iconst 0, 1) := by decide +kernel
theorem dX8_places_176 : decode cX8_places 176 = .ok (.istore 6, 2) := by decide +kernel
theorem dX8_places_178 : decode cX8_places 178 = .ok (.iload 7, 2) := by decide +kernel
theorem dX8_places_180 : decode cX8_places 180 = .ok (.iconst 1, 1) := by decide +kernel
theorem dX8_places_181 : decode cX8_places 181 = .ok (.iadd, 1) := by decide +kernel
theorem dX8_places_182 : decode cX8_places 182 = .ok (.iload 6, 2) := by decide +kernel
theorem dX8_places_184 : decode cX8_places 184 = .ok (.isub, 1) := by decide +kernel
theorem dX8_places_185 : decode cX8_places 185 = .ok (.istore 5, 2) := by decide +kernel
theorem dX8_places_187 : decode cX8_places 187 = .ok (.iinc 7 1, 3) := by decide +kernel
theorem dX8_places_190 : decode cX8_places 190 = .ok (.goto (-89), 3) := by decide +kernel
theorem dX8_places_193 : decode cX8_places 193 = .ok (.iload 6, 2) := by decide +kernel
theorem dX8_places_195 : decode cX8_places 195 = .ok (.iload_n 3, 1) := by decide +kernel
theorem dX8_places_196 : decode cX8_places 196 = .ok (.if_icmp .ge 5, 3) := by decide +kernel
theorem dX8_places_199 : decode cX8_places 199 = .ok (.iconst (-1), 1) := by decide +kernel
theorem dX8_places_200 : decode cX8_places 200 = .ok (.ireturn, 1) := by decide +kernel
theorem dX8_places_201 : decode cX8_places 201 = .ok (.iload 5, 2) := by decide +kernel
theorem dX8_places_203 : decode cX8_places 203 = .ok (.istore 7, 2) := by decide +kernel
theorem dX8_places_205 : decode cX8_places 205 = .ok (.iload 7, 2) := by decide +kernel
theorem dX8_places_207 : decode cX8_places 207 = .ok (.iload 5, 2) := by decide +kernel
theorem dX8_places_209 : decode cX8_places 209 = .ok (.iload_n 3, 1) := by decide +kernel
theorem dX8_places_210 : decode cX8_places 210 = .ok (.iadd, 1) := by decide +kernel
theorem dX8_places_211 : decode cX8_places 211 = .ok (.if_icmp .ge 30, 3) := by decide +kernel
theorem dX8_places_214 : decode cX8_places 214 = .ok (.iload 4, 2) := by decide +kernel
theorem dX8_places_216 : decode cX8_places 216 = .ok (.iconst (-1), 1) := by decide +kernel
theorem dX8_places_217 : decode cX8_places 217 = .ok (.if_icmp .eq 24, 3) := by decide +kernel
theorem dX8_places_220 : decode cX8_places 220 = .ok (.aload_n 0, 1) := by decide +kernel
theorem dX8_places_221 : decode cX8_places 221 = .ok (.getfield 77, 3) := by decide +kernel
theorem dX8_places_224 : decode cX8_places 224 = .ok (.sipush 400, 3) := by decide +kernel
theorem dX8_places_227 : decode cX8_places 227 = .ok (.iload 4, 2) := by decide +kernel
theorem dX8_places_229 : decode cX8_places 229 = .ok (.imul, 1) := by decide +kernel
theorem dX8_places_230 : decode cX8_places 230 = .ok (.iload 7, 2) := by decide +kernel
theorem dX8_places_232 : decode cX8_places 232 = .ok (.iadd, 1) := by decide +kernel
theorem dX8_places_233 : decode cX8_places 233 = .ok (.iload_n 2, 1) := by decide +kernel
theorem dX8_places_234 : decode cX8_places 234 = .ok (.iastore, 1) := by decide +kernel
theorem dX8_places_235 : decode cX8_places 235 = .ok (.iinc 7 1, 3) := by decide +kernel
theorem dX8_places_238 : decode cX8_places 238 = .ok (.goto (-33), 3) := by decide +kernel
theorem dX8_places_241 : decode cX8_places 241 = .ok (.aload_n 0, 1) := by decide +kernel
theorem dX8_places_242 : decode cX8_places 242 = .ok (.getfield 74, 3) := by decide +kernel
theorem dX8_places_245 : decode cX8_places 245 = .ok (.iload_n 2, 1) := by decide +kernel
theorem dX8_places_246 : decode cX8_places 246 = .ok (.iload 5, 2) := by decide +kernel
theorem dX8_places_248 : decode cX8_places 248 = .ok (.iastore, 1) := by decide +kernel
theorem dX8_places_249 : decode cX8_places 249 = .ok (.iload 5, 2) := by decide +kernel
theorem dX8_places_251 : decode cX8_places 251 = .ok (.ireturn, 1) := by decide +kernel
theorem dX8_unplaced_0 : decode cX8_unplaced 0 = .ok (.aload_n 0, 1) := by decide +kernel
theorem dX8_unplaced_1 : decode cX8_unplaced 1 = .ok (.iload_n 1, 1) := by decide +kernel
theorem dX8_unplaced_2 : decode cX8_unplaced 2 = .ok (.invokevirtual 209, 3) := by decide +kernel
theorem dX8_unplaced_5 : decode cX8_unplaced 5 = .ok (.pop, 1) := by decide +kernel
theorem dX8_unplaced_6 : decode cX8_unplaced 6 = .ok (.aload_n 0, 1) := by decide +kernel
theorem dX8_unplaced_7 : decode cX8_unplaced 7 = .ok (.invokevirtual 212, 3) := by decide +kernel
theorem dX8_unplaced_10 : decode cX8_unplaced 10 = .ok (.aload_n 0, 1) := by decide +kernel
theorem dX8_unplaced_11 : decode cX8_unplaced 11 = .ok (.iload_n 2, 1) := by decide +kernel
theorem dX8_unplaced_12 : decode cX8_unplaced 12 = .ok (.invokevirtual 215, 3) := by decide +kernel
theorem dX8_unplaced_15 : decode cX8_unplaced 15 = .ok (.aload_n 0, 1) := by decide +kernel
theorem dX8_unplaced_16 : decode cX8_unplaced 16 = .ok (.iload_n 1, 1) := by decide +kernel
theorem dX8_unplaced_17 : decode cX8_unplaced 17 = .ok (.invokevirtual 134, 3) := by decide +kernel
theorem dX8_unplaced_20 : decode cX8_unplaced 20 = .ok (.istore_n 3, 1) := by decide +kernel
theorem dX8_unplaced_21 : decode cX8_unplaced 21 = .ok (.iload_n 3, 1) := by decide +kernel
theorem dX8_unplaced_22 : decode cX8_unplaced 22 = .ok (.istore 4, 2) := by decide +kernel
theorem dX8_unplaced_24 : decode cX8_unplaced 24 = .ok (.iconst 0, 1) := by decide +kernel
theorem dX8_unplaced_25 : decode cX8_unplaced 25 = .ok (.istore 5, 2) := by decide +kernel
theorem dX8_unplaced_27 : decode cX8_unplaced 27 = .ok (.iload 5, 2) := by decide +kernel
theorem dX8_unplaced_29 : decode cX8_unplaced 29 = .ok (.iconst (-1), 1) := by decide +kernel
theorem dX8_unplaced_30 : decode cX8_unplaced 30 = .ok (.if_icmp .eq 131, 3) := by decide +kernel
theorem dX8_unplaced_33 : decode cX8_unplaced 33 = .ok (.iconst (-1), 1) := by decide +kernel
theorem dX8_unplaced_34 : decode cX8_unplaced 34 = .ok (.istore 5, 2) := by decide +kernel
theorem dX8_unplaced_36 : decode cX8_unplaced 36 = .ok (.iconst 0, 1) := by decide +kernel
theorem dX8_unplaced_37 : decode cX8_unplaced 37 = .ok (.istore 6, 2) := by decide +kernel
theorem dX8_unplaced_39 : decode cX8_unplaced 39 = .ok (.iload 6, 2) := by decide +kernel
theorem dX8_unplaced_41 : decode cX8_unplaced 41 = .ok (.bipush 16, 2) := by decide +kernel
theorem dX8_unplaced_43 : decode cX8_unplaced 43 = .ok (.if_icmp .ge 73, 3) := by decide +kernel
theorem dX8_unplaced_46 : decode cX8_unplaced 46 = .ok (.iload_n 3, 1) := by decide +kernel
theorem dX8_unplaced_47 : decode cX8_unplaced 47 = .ok (.iload 6, 2) := by decide +kernel
theorem dX8_unplaced_49 : decode cX8_unplaced 49 = .ok (.ishr, 1) := by decide +kernel
theorem dX8_unplaced_50 : decode cX8_unplaced 50 = .ok (.iconst 1, 1) := by decide +kernel
theorem dX8_unplaced_51 : decode cX8_unplaced 51 = .ok (.iand, 1) := by decide +kernel
theorem dX8_unplaced_52 : decode cX8_unplaced 52 = .ok (.iconst 1, 1) := by decide +kernel
theorem dX8_unplaced_53 : decode cX8_unplaced 53 = .ok (.if_icmp .ne 17, 3) := by decide +kernel
theorem dX8_unplaced_56 : decode cX8_unplaced 56 = .ok (.aload_n 0, 1) := by decide +kernel
theorem dX8_unplaced_57 : decode cX8_unplaced 57 = .ok (.iload_n 1, 1) := by decide +kernel
theorem dX8_unplaced_58 : decode cX8_unplaced 58 = .ok (.iload 6, 2) := by decide +kernel
theorem dX8_unplaced_60 : decode cX8_unplaced 60 = .ok (.invokevirtual 218, 3) := by decide +kernel
theorem dX8_unplaced_63 : decode cX8_unplaced 63 = .ok (.ifCond .eq 7, 3) := by decide +kernel
theorem dX8_unplaced_66 : decode cX8_unplaced 66 = .ok (.iconst 1, 1) := by decide +kernel
theorem dX8_unplaced_67 : decode cX8_unplaced 67 = .ok (.goto 4, 3) := by decide +kernel
theorem dX8_unplaced_70 : decode cX8_unplaced 70 = .ok (.iconst 0, 1) := by decide +kernel
theorem dX8_unplaced_71 : decode cX8_unplaced 71 = .ok (.istore 7, 2) := by decide +kernel
theorem dX8_unplaced_73 : decode cX8_unplaced 73 = .ok (.iload 7, 2) := by decide +kernel
theorem dX8_unplaced_75 : decode cX8_unplaced 75 = .ok (.ifCond .eq 31, 3) := by decide +kernel
theorem dX8_unplaced_78 : decode cX8_unplaced 78 = .ok (.iload 5, 2) := by decide +kernel
theorem dX8_unplaced_80 : decode cX8_unplaced 80 = .ok (.iconst (-1), 1) := by decide +kernel
theorem dX8_unplaced_81 : decode cX8_unplaced 81 = .ok (.if_icmp .eq 20, 3) := by decide +kernel
theorem dX8_unplaced_84 : decode cX8_unplaced 84 = .ok (.aload_n 0, 1) := by decide +kernel
theorem dX8_unplaced_85 : decode cX8_unplaced 85 = .ok (.getfield 68, 3) := by decide +kernel
theorem dX8_unplaced_88 : decode cX8_unplaced 88 = .ok (.iload 6, 2) := by decide +kernel
theorem dX8_unplaced_90 : decode cX8_unplaced 90 = .ok (.iaload, 1) := by decide +kernel
theorem dX8_unplaced_91 : decode cX8_unplaced 91 = .ok (.aload_n 0, 1) := by decide +kernel
theorem dX8_unplaced_92 : decode cX8_unplaced 92 = .ok (.getfield 68, 3) := by decide +kernel
theorem dX8_unplaced_95 : decode cX8_unplaced 95 = .ok (.iload 5, 2) := by decide +kernel
theorem dX8_unplaced_97 : decode cX8_unplaced 97 = .ok (.iaload, 1) := by decide +kernel
theorem dX8_unplaced_98 : decode cX8_unplaced 98 = .ok (.if_icmp .le 8, 3) := by decide +kernel
theorem dX8_unplaced_101 : decode cX8_unplaced 101 = .ok (.iload 6, 2) := by decide +kernel
theorem dX8_unplaced_103 : decode cX8_unplaced 103 = .ok (.goto 5, 3) := by decide +kernel
theorem dX8_unplaced_106 : decode cX8_unplaced 106 = .ok (.iload 5, 2) := by decide +kernel
theorem dX8_unplaced_108 : decode cX8_unplaced 108 = .ok (.istore 5, 2) := by decide +kernel
theorem dX8_unplaced_110 : decode cX8_unplaced 110 = .ok (.iinc 6 1, 3) := by decide +kernel
theorem dX8_unplaced_113 : decode cX8_unplaced 113 = .ok (.goto (-74), 3) := by decide +kernel
theorem dX8_unplaced_116 : decode cX8_unplaced 116 = .ok (.iload 5, 2) := by decide +kernel
theorem dX8_unplaced_118 : decode cX8_unplaced 118 = .ok (.iconst (-1), 1) := by decide +kernel
theorem dX8_unplaced_119 : decode cX8_unplaced 119 = .ok (.if_icmp .eq (-92), 3) := by decide +kernel
theorem dX8_unplaced_122 : decode cX8_unplaced 122 = .ok (.iload_n 3, 1) := by decide +kernel
theorem dX8_unplaced_123 : decode cX8_unplaced 123 = .ok (.iconst 1, 1) := by decide +kernel
theorem dX8_unplaced_124 : decode cX8_unplaced 124 = .ok (.iload 5, 2) := by decide +kernel
theorem dX8_unplaced_126 : decode cX8_unplaced 126 = .ok (.ishl, 1) := by decide +kernel
theorem dX8_unplaced_127 : decode cX8_unplaced 127 = .ok (.iconst (-1), 1) := by decide +kernel
theorem dX8_unplaced_128 : decode cX8_unplaced 128 = .ok (.ixor, 1) := by decide +kernel
theorem dX8_unplaced_129 : decode cX8_unplaced 129 = .ok (.iand, 1) := by decide +kernel
theorem dX8_unplaced_130 : decode cX8_unplaced 130 = .ok (.istore_n 3, 1) := by decide +kernel
theorem dX8_unplaced_131 : decode cX8_unplaced 131 = .ok (.iload 4, 2) := by decide +kernel
theorem dX8_unplaced_133 : decode cX8_unplaced 133 = .ok (.aload_n 0, 1) := by decide +kernel
theorem dX8_unplaced_134 : decode cX8_unplaced 134 = .ok (.iload_n 1, 1) := by decide +kernel
theorem dX8_unplaced_135 : decode cX8_unplaced 135 = .ok (.iload 5, 2) := by decide +kernel
theorem dX8_unplaced_137 : decode cX8_unplaced 137 = .ok (.invokevirtual 221, 3) := by decide +kernel
theorem dX8_unplaced_140 : decode cX8_unplaced 140 = .ok (.iconst (-1), 1) := by decide +kernel
theorem dX8_unplaced_141 : decode cX8_unplaced 141 = .ok (.if_icmp .ne 8, 3) := by decide +kernel
theorem dX8_unplaced_144 : decode cX8_unplaced 144 = .ok (.iload 4, 2) := by decide +kernel
theorem dX8_unplaced_146 : decode cX8_unplaced 146 = .ok (.goto 9, 3) := by decide +kernel
theorem dX8_unplaced_149 : decode cX8_unplaced 149 = .ok (.iconst 1, 1) := by decide +kernel
theorem dX8_unplaced_150 : decode cX8_unplaced 150 = .ok (.iload 5, 2) := by decide +kernel
theorem dX8_unplaced_152 : decode cX8_unplaced 152 = .ok (.ishl, 1) := by decide +kernel
theorem dX8_unplaced_153 : decode cX8_unplaced 153 = .ok (.iconst (-1), 1) := by decide +kernel
theorem dX8_unplaced_154 : decode cX8_unplaced 154 = .ok (.ixor, 1) := by decide +kernel
theorem dX8_unplaced_155 : decode cX8_unplaced 155 = .ok (.iand, 1) := by decide +kernel
theorem dX8_unplaced_156 : decode cX8_unplaced 156 = .ok (.istore 4, 2) := by decide +kernel
theorem dX8_unplaced_158 : decode cX8_unplaced 158 = .ok (.goto (-131), 3) := by decide +kernel
theorem dX8_unplaced_161 : decode cX8_unplaced 161 = .ok (.iload 4, 2) := by decide +kernel
theorem dX8_unplaced_163 : decode cX8_unplaced 163 = .ok (.ireturn, 1) := by decide +kernel
theorem dX8_firstDay_0 : decode cX8_firstDay 0 = .ok (.aload_n 0, 1) := by decide +kernel
theorem dX8_firstDay_1 : decode cX8_firstDay 1 = .ok (.iload_n 1, 1) := by decide +kernel
theorem dX8_firstDay_2 : decode cX8_firstDay 2 = .ok (.iload_n 2, 1) := by decide +kernel
theorem dX8_firstDay_3 : decode cX8_firstDay 3 = .ok (.invokevirtual 138, 3) := by decide +kernel
theorem dX8_firstDay_6 : decode cX8_firstDay 6 = .ok (.ifCond .ne 5, 3) := by decide +kernel
theorem dX8_firstDay_9 : decode cX8_firstDay 9 = .ok (.iconst 0, 1) := by decide +kernel
theorem dX8_firstDay_10 : decode cX8_firstDay 10 = .ok (.ireturn, 1) := by decide +kernel
theorem dX8_firstDay_11 : decode cX8_firstDay 11 = .ok (.aload_n 0, 1) := by decide +kernel
theorem dX8_firstDay_12 : decode cX8_firstDay 12 = .ok (.iload_n 1, 1) := by decide +kernel
theorem dX8_firstDay_13 : decode cX8_firstDay 13 = .ok (.iload_n 1, 1) := by decide +kernel
theorem dX8_firstDay_14 : decode cX8_firstDay 14 = .ok (.invokevirtual 181, 3) := by decide +kernel
theorem dX8_firstDay_17 : decode cX8_firstDay 17 = .ok (.istore_n 3, 1) := by decide +kernel
theorem dX8_firstDay_18 : decode cX8_firstDay 18 = .ok (.iload_n 3, 1) := by decide +kernel
theorem dX8_firstDay_19 : decode cX8_firstDay 19 = .ok (.iload_n 2, 1) := by decide +kernel
theorem dX8_firstDay_20 : decode cX8_firstDay 20 = .ok (.ishr, 1) := by decide +kernel
theorem dX8_firstDay_21 : decode cX8_firstDay 21 = .ok (.iconst 1, 1) := by decide +kernel
theorem dX8_firstDay_22 : decode cX8_firstDay 22 = .ok (.iand, 1) := by decide +kernel
theorem dX8_firstDay_23 : decode cX8_firstDay 23 = .ok (.iconst 1, 1) := by decide +kernel
theorem dX8_firstDay_24 : decode cX8_firstDay 24 = .ok (.if_icmp .ne 7, 3) := by decide +kernel
theorem dX8_firstDay_27 : decode cX8_firstDay 27 = .ok (.iconst (-1), 1) := by decide +kernel
theorem dX8_firstDay_28 : decode cX8_firstDay 28 = .ok (.goto 9, 3) := by decide +kernel
theorem dX8_firstDay_31 : decode cX8_firstDay 31 = .ok (.aload_n 0, 1) := by decide +kernel
theorem dX8_firstDay_32 : decode cX8_firstDay 32 = .ok (.getfield 74, 3) := by decide +kernel
theorem dX8_firstDay_35 : decode cX8_firstDay 35 = .ok (.iload_n 2, 1) := by decide +kernel
theorem dX8_firstDay_36 : decode cX8_firstDay 36 = .ok (.iaload, 1) := by decide +kernel
theorem dX8_firstDay_37 : decode cX8_firstDay 37 = .ok (.ireturn, 1) := by decide +kernel
theorem dX8_leftOut_0 : decode cX8_leftOut 0 = .ok (.aload_n 0, 1) := by decide +kernel
theorem dX8_leftOut_1 : decode cX8_leftOut 1 = .ok (.aload_n 0, 1) := by decide +kernel
theorem dX8_leftOut_2 : decode cX8_leftOut 2 = .ok (.iload_n 1, 1) := by decide +kernel
theorem dX8_leftOut_3 : decode cX8_leftOut 3 = .ok (.invokevirtual 111, 3) := by decide +kernel
theorem dX8_leftOut_6 : decode cX8_leftOut 6 = .ok (.ifCond .eq 7, 3) := by decide +kernel
theorem dX8_leftOut_9 : decode cX8_leftOut 9 = .ok (.iconst 0, 1) := by decide +kernel
theorem dX8_leftOut_10 : decode cX8_leftOut 10 = .ok (.goto 4, 3) := by decide +kernel
theorem dX8_leftOut_13 : decode cX8_leftOut 13 = .ok (.iconst 1, 1) := by decide +kernel
theorem dX8_leftOut_14 : decode cX8_leftOut 14 = .ok (.invokevirtual 114, 3) := by decide +kernel
theorem dX8_leftOut_17 : decode cX8_leftOut 17 = .ok (.ifCond .eq 12, 3) := by decide +kernel
theorem dX8_leftOut_20 : decode cX8_leftOut 20 = .ok (.aload_n 0, 1) := by decide +kernel
theorem dX8_leftOut_21 : decode cX8_leftOut 21 = .ok (.iload_n 1, 1) := by decide +kernel
theorem dX8_leftOut_22 : decode cX8_leftOut 22 = .ok (.iload_n 1, 1) := by decide +kernel
theorem dX8_leftOut_23 : decode cX8_leftOut 23 = .ok (.invokevirtual 181, 3) := by decide +kernel
theorem dX8_leftOut_26 : decode cX8_leftOut 26 = .ok (.goto 4, 3) := by decide +kernel
theorem dX8_leftOut_29 : decode cX8_leftOut 29 = .ok (.iconst 0, 1) := by decide +kernel
theorem dX8_leftOut_30 : decode cX8_leftOut 30 = .ok (.ireturn, 1) := by decide +kernel
theorem dX8_last_0 : decode cX8_last 0 = .ok (.iconst (-1), 1) := by decide +kernel
theorem dX8_last_1 : decode cX8_last 1 = .ok (.istore_n 2, 1) := by decide +kernel
theorem dX8_last_2 : decode cX8_last 2 = .ok (.iconst 0, 1) := by decide +kernel
theorem dX8_last_3 : decode cX8_last 3 = .ok (.istore_n 3, 1) := by decide +kernel
theorem dX8_last_4 : decode cX8_last 4 = .ok (.iload_n 3, 1) := by decide +kernel
theorem dX8_last_5 : decode cX8_last 5 = .ok (.bipush 16, 2) := by decide +kernel
theorem dX8_last_7 : decode cX8_last 7 = .ok (.if_icmp .ge 57, 3) := by decide +kernel
theorem dX8_last_10 : decode cX8_last 10 = .ok (.aload_n 0, 1) := by decide +kernel
theorem dX8_last_11 : decode cX8_last 11 = .ok (.getfield 74, 3) := by decide +kernel
theorem dX8_last_14 : decode cX8_last 14 = .ok (.iload_n 3, 1) := by decide +kernel
theorem dX8_last_15 : decode cX8_last 15 = .ok (.iaload, 1) := by decide +kernel
theorem dX8_last_16 : decode cX8_last 16 = .ok (.iconst (-1), 1) := by decide +kernel
theorem dX8_last_17 : decode cX8_last 17 = .ok (.if_icmp .ne 7, 3) := by decide +kernel
theorem dX8_last_20 : decode cX8_last 20 = .ok (.iconst (-1), 1) := by decide +kernel
theorem dX8_last_21 : decode cX8_last 21 = .ok (.goto 22, 3) := by decide +kernel
theorem dX8_last_24 : decode cX8_last 24 = .ok (.aload_n 0, 1) := by decide +kernel
theorem dX8_last_25 : decode cX8_last 25 = .ok (.getfield 74, 3) := by decide +kernel
theorem dX8_last_28 : decode cX8_last 28 = .ok (.iload_n 3, 1) := by decide +kernel
theorem dX8_last_29 : decode cX8_last 29 = .ok (.iaload, 1) := by decide +kernel
theorem dX8_last_30 : decode cX8_last 30 = .ok (.aload_n 0, 1) := by decide +kernel
theorem dX8_last_31 : decode cX8_last 31 = .ok (.getfield 7, 3) := by decide +kernel
theorem dX8_last_34 : decode cX8_last 34 = .ok (.iload_n 1, 1) := by decide +kernel
theorem dX8_last_35 : decode cX8_last 35 = .ok (.iload_n 3, 1) := by decide +kernel
theorem dX8_last_36 : decode cX8_last 36 = .ok (.invokestatic 95, 3) := by decide +kernel
theorem dX8_last_39 : decode cX8_last 39 = .ok (.iaload, 1) := by decide +kernel
theorem dX8_last_40 : decode cX8_last 40 = .ok (.iadd, 1) := by decide +kernel
theorem dX8_last_41 : decode cX8_last 41 = .ok (.iconst 1, 1) := by decide +kernel
theorem dX8_last_42 : decode cX8_last 42 = .ok (.isub, 1) := by decide +kernel
theorem dX8_last_43 : decode cX8_last 43 = .ok (.istore 4, 2) := by decide +kernel
theorem dX8_last_45 : decode cX8_last 45 = .ok (.iload 4, 2) := by decide +kernel
theorem dX8_last_47 : decode cX8_last 47 = .ok (.iload_n 2, 1) := by decide +kernel
theorem dX8_last_48 : decode cX8_last 48 = .ok (.if_icmp .le 8, 3) := by decide +kernel
theorem dX8_last_51 : decode cX8_last 51 = .ok (.iload 4, 2) := by decide +kernel
theorem dX8_last_53 : decode cX8_last 53 = .ok (.goto 4, 3) := by decide +kernel
theorem dX8_last_56 : decode cX8_last 56 = .ok (.iload_n 2, 1) := by decide +kernel
theorem dX8_last_57 : decode cX8_last 57 = .ok (.istore_n 2, 1) := by decide +kernel
theorem dX8_last_58 : decode cX8_last 58 = .ok (.iinc 3 1, 3) := by decide +kernel
theorem dX8_last_61 : decode cX8_last 61 = .ok (.goto (-57), 3) := by decide +kernel
theorem dX8_last_64 : decode cX8_last 64 = .ok (.iload_n 2, 1) := by decide +kernel
theorem dX8_last_65 : decode cX8_last 65 = .ok (.ireturn, 1) := by decide +kernel
theorem dX8_lastDay_0 : decode cX8_lastDay 0 = .ok (.aload_n 0, 1) := by decide +kernel
theorem dX8_lastDay_1 : decode cX8_lastDay 1 = .ok (.aload_n 0, 1) := by decide +kernel
theorem dX8_lastDay_2 : decode cX8_lastDay 2 = .ok (.iload_n 1, 1) := by decide +kernel
theorem dX8_lastDay_3 : decode cX8_lastDay 3 = .ok (.invokevirtual 111, 3) := by decide +kernel
theorem dX8_lastDay_6 : decode cX8_lastDay 6 = .ok (.ifCond .eq 7, 3) := by decide +kernel
theorem dX8_lastDay_9 : decode cX8_lastDay 9 = .ok (.iconst 0, 1) := by decide +kernel
theorem dX8_lastDay_10 : decode cX8_lastDay 10 = .ok (.goto 4, 3) := by decide +kernel
theorem dX8_lastDay_13 : decode cX8_lastDay 13 = .ok (.iconst 1, 1) := by decide +kernel
theorem dX8_lastDay_14 : decode cX8_lastDay 14 = .ok (.invokevirtual 114, 3) := by decide +kernel
theorem dX8_lastDay_17 : decode cX8_lastDay 17 = .ok (.ifCond .ne 5, 3) := by decide +kernel
theorem dX8_lastDay_20 : decode cX8_lastDay 20 = .ok (.iconst 0, 1) := by decide +kernel
theorem dX8_lastDay_21 : decode cX8_lastDay 21 = .ok (.ireturn, 1) := by decide +kernel
theorem dX8_lastDay_22 : decode cX8_lastDay 22 = .ok (.aload_n 0, 1) := by decide +kernel
theorem dX8_lastDay_23 : decode cX8_lastDay 23 = .ok (.iload_n 1, 1) := by decide +kernel
theorem dX8_lastDay_24 : decode cX8_lastDay 24 = .ok (.iload_n 1, 1) := by decide +kernel
theorem dX8_lastDay_25 : decode cX8_lastDay 25 = .ok (.invokevirtual 181, 3) := by decide +kernel
theorem dX8_lastDay_28 : decode cX8_lastDay 28 = .ok (.istore_n 2, 1) := by decide +kernel
theorem dX8_lastDay_29 : decode cX8_lastDay 29 = .ok (.iload_n 2, 1) := by decide +kernel
theorem dX8_lastDay_30 : decode cX8_lastDay 30 = .ok (.aload_n 0, 1) := by decide +kernel
theorem dX8_lastDay_31 : decode cX8_lastDay 31 = .ok (.iload_n 1, 1) := by decide +kernel
theorem dX8_lastDay_32 : decode cX8_lastDay 32 = .ok (.invokevirtual 134, 3) := by decide +kernel
theorem dX8_lastDay_35 : decode cX8_lastDay 35 = .ok (.if_icmp .ne 7, 3) := by decide +kernel
theorem dX8_lastDay_38 : decode cX8_lastDay 38 = .ok (.iconst (-1), 1) := by decide +kernel
theorem dX8_lastDay_39 : decode cX8_lastDay 39 = .ok (.goto 8, 3) := by decide +kernel
theorem dX8_lastDay_42 : decode cX8_lastDay 42 = .ok (.aload_n 0, 1) := by decide +kernel
theorem dX8_lastDay_43 : decode cX8_lastDay 43 = .ok (.iload_n 1, 1) := by decide +kernel
theorem dX8_lastDay_44 : decode cX8_lastDay 44 = .ok (.invokevirtual 224, 3) := by decide +kernel
theorem dX8_lastDay_47 : decode cX8_lastDay 47 = .ok (.ireturn, 1) := by decide +kernel
theorem dX8_count_0 : decode cX8_count 0 = .ok (.iconst 0, 1) := by decide +kernel
theorem dX8_count_1 : decode cX8_count 1 = .ok (.istore_n 1, 1) := by decide +kernel
theorem dX8_count_2 : decode cX8_count 2 = .ok (.iconst 0, 1) := by decide +kernel
theorem dX8_count_3 : decode cX8_count 3 = .ok (.istore_n 2, 1) := by decide +kernel
theorem dX8_count_4 : decode cX8_count 4 = .ok (.iload_n 2, 1) := by decide +kernel
theorem dX8_count_5 : decode cX8_count 5 = .ok (.bipush 16, 2) := by decide +kernel
theorem dX8_count_7 : decode cX8_count 7 = .ok (.if_icmp .ge 17, 3) := by decide +kernel
theorem dX8_count_10 : decode cX8_count 10 = .ok (.iload_n 1, 1) := by decide +kernel
theorem dX8_count_11 : decode cX8_count 11 = .ok (.iload_n 0, 1) := by decide +kernel
theorem dX8_count_12 : decode cX8_count 12 = .ok (.iload_n 2, 1) := by decide +kernel
theorem dX8_count_13 : decode cX8_count 13 = .ok (.ishr, 1) := by decide +kernel
theorem dX8_count_14 : decode cX8_count 14 = .ok (.iconst 1, 1) := by decide +kernel
theorem dX8_count_15 : decode cX8_count 15 = .ok (.iand, 1) := by decide +kernel
theorem dX8_count_16 : decode cX8_count 16 = .ok (.iadd, 1) := by decide +kernel
theorem dX8_count_17 : decode cX8_count 17 = .ok (.istore_n 1, 1) := by decide +kernel
theorem dX8_count_18 : decode cX8_count 18 = .ok (.iinc 2 1, 3) := by decide +kernel
theorem dX8_count_21 : decode cX8_count 21 = .ok (.goto (-17), 3) := by decide +kernel
theorem dX8_count_24 : decode cX8_count 24 = .ok (.iload_n 1, 1) := by decide +kernel
theorem dX8_count_25 : decode cX8_count 25 = .ok (.ireturn, 1) := by decide +kernel
theorem dX8_byOrder_0 : decode cX8_byOrder 0 = .ok (.aload_n 0, 1) := by decide +kernel
theorem dX8_byOrder_1 : decode cX8_byOrder 1 = .ok (.invokevirtual 212, 3) := by decide +kernel
theorem dX8_byOrder_4 : decode cX8_byOrder 4 = .ok (.iconst 0, 1) := by decide +kernel
theorem dX8_byOrder_5 : decode cX8_byOrder 5 = .ok (.istore_n 3, 1) := by decide +kernel
theorem dX8_byOrder_6 : decode cX8_byOrder 6 = .ok (.iload_n 3, 1) := by decide +kernel
theorem dX8_byOrder_7 : decode cX8_byOrder 7 = .ok (.iload_n 2, 1) := by decide +kernel
theorem dX8_byOrder_8 : decode cX8_byOrder 8 = .ok (.if_icmp .ge 40, 3) := by decide +kernel
theorem dX8_byOrder_11 : decode cX8_byOrder 11 = .ok (.aload_n 0, 1) := by decide +kernel
theorem dX8_byOrder_12 : decode cX8_byOrder 12 = .ok (.iload_n 1, 1) := by decide +kernel
theorem dX8_byOrder_13 : decode cX8_byOrder 13 = .ok (.aload_n 0, 1) := by decide +kernel
theorem dX8_byOrder_14 : decode cX8_byOrder 14 = .ok (.getfield 84, 3) := by decide +kernel
theorem dX8_byOrder_17 : decode cX8_byOrder 17 = .ok (.iload_n 3, 1) := by decide +kernel
theorem dX8_byOrder_18 : decode cX8_byOrder 18 = .ok (.iaload, 1) := by decide +kernel
theorem dX8_byOrder_19 : decode cX8_byOrder 19 = .ok (.invokevirtual 218, 3) := by decide +kernel
theorem dX8_byOrder_22 : decode cX8_byOrder 22 = .ok (.ifCond .eq 18, 3) := by decide +kernel
theorem dX8_byOrder_25 : decode cX8_byOrder 25 = .ok (.aload_n 0, 1) := by decide +kernel
theorem dX8_byOrder_26 : decode cX8_byOrder 26 = .ok (.iload_n 1, 1) := by decide +kernel
theorem dX8_byOrder_27 : decode cX8_byOrder 27 = .ok (.aload_n 0, 1) := by decide +kernel
theorem dX8_byOrder_28 : decode cX8_byOrder 28 = .ok (.getfield 84, 3) := by decide +kernel
theorem dX8_byOrder_31 : decode cX8_byOrder 31 = .ok (.iload_n 3, 1) := by decide +kernel
theorem dX8_byOrder_32 : decode cX8_byOrder 32 = .ok (.iaload, 1) := by decide +kernel
theorem dX8_byOrder_33 : decode cX8_byOrder 33 = .ok (.invokevirtual 221, 3) := by decide +kernel
theorem dX8_byOrder_36 : decode cX8_byOrder 36 = .ok (.iconst (-1), 1) := by decide +kernel
theorem dX8_byOrder_37 : decode cX8_byOrder 37 = .ok (.if_icmp .ne 5, 3) := by decide +kernel
theorem dX8_byOrder_40 : decode cX8_byOrder 40 = .ok (.iconst (-1), 1) := by decide +kernel
theorem dX8_byOrder_41 : decode cX8_byOrder 41 = .ok (.ireturn, 1) := by decide +kernel
theorem dX8_byOrder_42 : decode cX8_byOrder 42 = .ok (.iinc 3 1, 3) := by decide +kernel
theorem dX8_byOrder_45 : decode cX8_byOrder 45 = .ok (.goto (-39), 3) := by decide +kernel
theorem dX8_byOrder_48 : decode cX8_byOrder 48 = .ok (.aload_n 0, 1) := by decide +kernel
theorem dX8_byOrder_49 : decode cX8_byOrder 49 = .ok (.iload_n 1, 1) := by decide +kernel
theorem dX8_byOrder_50 : decode cX8_byOrder 50 = .ok (.invokevirtual 224, 3) := by decide +kernel
theorem dX8_byOrder_53 : decode cX8_byOrder 53 = .ok (.ireturn, 1) := by decide +kernel
theorem dX8_turns_0 : decode cX8_turns 0 = .ok (.iload_n 1, 1) := by decide +kernel
theorem dX8_turns_1 : decode cX8_turns 1 = .ok (.iconst 2, 1) := by decide +kernel
theorem dX8_turns_2 : decode cX8_turns 2 = .ok (.isub, 1) := by decide +kernel
theorem dX8_turns_3 : decode cX8_turns 3 = .ok (.istore_n 2, 1) := by decide +kernel
theorem dX8_turns_4 : decode cX8_turns 4 = .ok (.iload_n 2, 1) := by decide +kernel
theorem dX8_turns_5 : decode cX8_turns 5 = .ok (.ifCond .lt 26, 3) := by decide +kernel
theorem dX8_turns_8 : decode cX8_turns 8 = .ok (.aload_n 0, 1) := by decide +kernel
theorem dX8_turns_9 : decode cX8_turns 9 = .ok (.getfield 84, 3) := by decide +kernel
theorem dX8_turns_12 : decode cX8_turns 12 = .ok (.iload_n 2, 1) := by decide +kernel
theorem dX8_turns_13 : decode cX8_turns 13 = .ok (.iaload, 1) := by decide +kernel
theorem dX8_turns_14 : decode cX8_turns 14 = .ok (.aload_n 0, 1) := by decide +kernel
theorem dX8_turns_15 : decode cX8_turns 15 = .ok (.getfield 84, 3) := by decide +kernel
theorem dX8_turns_18 : decode cX8_turns 18 = .ok (.iload_n 2, 1) := by decide +kernel
theorem dX8_turns_19 : decode cX8_turns 19 = .ok (.iconst 1, 1) := by decide +kernel
theorem dX8_turns_20 : decode cX8_turns 20 = .ok (.iadd, 1) := by decide +kernel
theorem dX8_turns_21 : decode cX8_turns 21 = .ok (.iaload, 1) := by decide +kernel
theorem dX8_turns_22 : decode cX8_turns 22 = .ok (.if_icmp .le 9, 3) := by decide +kernel
theorem dX8_turns_25 : decode cX8_turns 25 = .ok (.iinc 2 (-1), 3) := by decide +kernel
theorem dX8_turns_28 : decode cX8_turns 28 = .ok (.goto (-24), 3) := by decide +kernel
theorem dX8_turns_31 : decode cX8_turns 31 = .ok (.iload_n 2, 1) := by decide +kernel
theorem dX8_turns_32 : decode cX8_turns 32 = .ok (.ifCond .ge 5, 3) := by decide +kernel
theorem dX8_turns_35 : decode cX8_turns 35 = .ok (.iconst 0, 1) := by decide +kernel
theorem dX8_turns_36 : decode cX8_turns 36 = .ok (.ireturn, 1) := by decide +kernel
theorem dX8_turns_37 : decode cX8_turns 37 = .ok (.iload_n 1, 1) := by decide +kernel
theorem dX8_turns_38 : decode cX8_turns 38 = .ok (.iconst 1, 1) := by decide +kernel
theorem dX8_turns_39 : decode cX8_turns 39 = .ok (.isub, 1) := by decide +kernel
theorem dX8_turns_40 : decode cX8_turns 40 = .ok (.istore_n 3, 1) := by decide +kernel
theorem dX8_turns_41 : decode cX8_turns 41 = .ok (.aload_n 0, 1) := by decide +kernel
theorem dX8_turns_42 : decode cX8_turns 42 = .ok (.getfield 84, 3) := by decide +kernel
theorem dX8_turns_45 : decode cX8_turns 45 = .ok (.iload_n 3, 1) := by decide +kernel
theorem dX8_turns_46 : decode cX8_turns 46 = .ok (.iaload, 1) := by decide +kernel
theorem dX8_turns_47 : decode cX8_turns 47 = .ok (.aload_n 0, 1) := by decide +kernel
theorem dX8_turns_48 : decode cX8_turns 48 = .ok (.getfield 84, 3) := by decide +kernel
theorem dX8_turns_51 : decode cX8_turns 51 = .ok (.iload_n 2, 1) := by decide +kernel
theorem dX8_turns_52 : decode cX8_turns 52 = .ok (.iaload, 1) := by decide +kernel
theorem dX8_turns_53 : decode cX8_turns 53 = .ok (.if_icmp .ge 9, 3) := by decide +kernel
theorem dX8_turns_56 : decode cX8_turns 56 = .ok (.iinc 3 (-1), 3) := by decide +kernel
theorem dX8_turns_59 : decode cX8_turns 59 = .ok (.goto (-18), 3) := by decide +kernel
theorem dX8_turns_62 : decode cX8_turns 62 = .ok (.aload_n 0, 1) := by decide +kernel
theorem dX8_turns_63 : decode cX8_turns 63 = .ok (.getfield 84, 3) := by decide +kernel
theorem dX8_turns_66 : decode cX8_turns 66 = .ok (.iload_n 2, 1) := by decide +kernel
theorem dX8_turns_67 : decode cX8_turns 67 = .ok (.iaload, 1) := by decide +kernel
theorem dX8_turns_68 : decode cX8_turns 68 = .ok (.istore 4, 2) := by decide +kernel
theorem dX8_turns_70 : decode cX8_turns 70 = .ok (.aload_n 0, 1) := by decide +kernel
theorem dX8_turns_71 : decode cX8_turns 71 = .ok (.getfield 84, 3) := by decide +kernel
theorem dX8_turns_74 : decode cX8_turns 74 = .ok (.iload_n 2, 1) := by decide +kernel
theorem dX8_turns_75 : decode cX8_turns 75 = .ok (.aload_n 0, 1) := by decide +kernel
theorem dX8_turns_76 : decode cX8_turns 76 = .ok (.getfield 84, 3) := by decide +kernel
theorem dX8_turns_79 : decode cX8_turns 79 = .ok (.iload_n 3, 1) := by decide +kernel
theorem dX8_turns_80 : decode cX8_turns 80 = .ok (.iaload, 1) := by decide +kernel
theorem dX8_turns_81 : decode cX8_turns 81 = .ok (.iastore, 1) := by decide +kernel
theorem dX8_turns_82 : decode cX8_turns 82 = .ok (.aload_n 0, 1) := by decide +kernel
theorem dX8_turns_83 : decode cX8_turns 83 = .ok (.getfield 84, 3) := by decide +kernel
theorem dX8_turns_86 : decode cX8_turns 86 = .ok (.iload_n 3, 1) := by decide +kernel
theorem dX8_turns_87 : decode cX8_turns 87 = .ok (.iload 4, 2) := by decide +kernel
theorem dX8_turns_89 : decode cX8_turns 89 = .ok (.iastore, 1) := by decide +kernel
theorem dX8_turns_90 : decode cX8_turns 90 = .ok (.iload_n 2, 1) := by decide +kernel
theorem dX8_turns_91 : decode cX8_turns 91 = .ok (.iconst 1, 1) := by decide +kernel
theorem dX8_turns_92 : decode cX8_turns 92 = .ok (.iadd, 1) := by decide +kernel
theorem dX8_turns_93 : decode cX8_turns 93 = .ok (.istore 5, 2) := by decide +kernel
theorem dX8_turns_95 : decode cX8_turns 95 = .ok (.iload_n 1, 1) := by decide +kernel
theorem dX8_turns_96 : decode cX8_turns 96 = .ok (.iconst 1, 1) := by decide +kernel
theorem dX8_turns_97 : decode cX8_turns 97 = .ok (.isub, 1) := by decide +kernel
theorem dX8_turns_98 : decode cX8_turns 98 = .ok (.istore 6, 2) := by decide +kernel
theorem dX8_turns_100 : decode cX8_turns 100 = .ok (.iload 5, 2) := by decide +kernel
theorem dX8_turns_102 : decode cX8_turns 102 = .ok (.iload 6, 2) := by decide +kernel
theorem dX8_turns_104 : decode cX8_turns 104 = .ok (.if_icmp .ge 44, 3) := by decide +kernel
theorem dX8_turns_107 : decode cX8_turns 107 = .ok (.aload_n 0, 1) := by decide +kernel
theorem dX8_turns_108 : decode cX8_turns 108 = .ok (.getfield 84, 3) := by decide +kernel
theorem dX8_turns_111 : decode cX8_turns 111 = .ok (.iload 5, 2) := by decide +kernel
theorem dX8_turns_113 : decode cX8_turns 113 = .ok (.iaload, 1) := by decide +kernel
theorem dX8_turns_114 : decode cX8_turns 114 = .ok (.istore 4, 2) := by decide +kernel
theorem dX8_turns_116 : decode cX8_turns 116 = .ok (.aload_n 0, 1) := by decide +kernel
theorem dX8_turns_117 : decode cX8_turns 117 = .ok (.getfield 84, 3) := by decide +kernel
theorem dX8_turns_120 : decode cX8_turns 120 = .ok (.iload 5, 2) := by decide +kernel
theorem dX8_turns_122 : decode cX8_turns 122 = .ok (.aload_n 0, 1) := by decide +kernel
theorem dX8_turns_123 : decode cX8_turns 123 = .ok (.getfield 84, 3) := by decide +kernel
theorem dX8_turns_126 : decode cX8_turns 126 = .ok (.iload 6, 2) := by decide +kernel
theorem dX8_turns_128 : decode cX8_turns 128 = .ok (.iaload, 1) := by decide +kernel
theorem dX8_turns_129 : decode cX8_turns 129 = .ok (.iastore, 1) := by decide +kernel
theorem dX8_turns_130 : decode cX8_turns 130 = .ok (.aload_n 0, 1) := by decide +kernel
theorem dX8_turns_131 : decode cX8_turns 131 = .ok (.getfield 84, 3) := by decide +kernel
theorem dX8_turns_134 : decode cX8_turns 134 = .ok (.iload 6, 2) := by decide +kernel
theorem dX8_turns_136 : decode cX8_turns 136 = .ok (.iload 4, 2) := by decide +kernel
theorem dX8_turns_138 : decode cX8_turns 138 = .ok (.iastore, 1) := by decide +kernel
theorem dX8_turns_139 : decode cX8_turns 139 = .ok (.iinc 5 1, 3) := by decide +kernel
theorem dX8_turns_142 : decode cX8_turns 142 = .ok (.iinc 6 (-1), 3) := by decide +kernel
theorem dX8_turns_145 : decode cX8_turns 145 = .ok (.goto (-45), 3) := by decide +kernel
theorem dX8_turns_148 : decode cX8_turns 148 = .ok (.iconst 1, 1) := by decide +kernel
theorem dX8_turns_149 : decode cX8_turns 149 = .ok (.ireturn, 1) := by decide +kernel
theorem dX8_lastDayByAll_0 : decode cX8_lastDayByAll 0 = .ok (.aload_n 0, 1) := by decide +kernel
theorem dX8_lastDayByAll_1 : decode cX8_lastDayByAll 1 = .ok (.iload_n 1, 1) := by decide +kernel
theorem dX8_lastDayByAll_2 : decode cX8_lastDayByAll 2 = .ok (.invokevirtual 111, 3) := by decide +kernel
theorem dX8_lastDayByAll_5 : decode cX8_lastDayByAll 5 = .ok (.istore_n 2, 1) := by decide +kernel
theorem dX8_lastDayByAll_6 : decode cX8_lastDayByAll 6 = .ok (.aload_n 0, 1) := by decide +kernel
theorem dX8_lastDayByAll_7 : decode cX8_lastDayByAll 7 = .ok (.iload_n 2, 1) := by decide +kernel
theorem dX8_lastDayByAll_8 : decode cX8_lastDayByAll 8 = .ok (.ifCond .ne 7, 3) := by decide +kernel
theorem dX8_lastDayByAll_11 : decode cX8_lastDayByAll 11 = .ok (.iconst 1, 1) := by decide +kernel
theorem dX8_lastDayByAll_12 : decode cX8_lastDayByAll 12 = .ok (.goto 21, 3) := by decide +kernel
theorem dX8_lastDayByAll_15 : decode cX8_lastDayByAll 15 = .ok (.aload_n 0, 1) := by decide +kernel
theorem dX8_lastDayByAll_16 : decode cX8_lastDayByAll 16 = .ok (.iload_n 1, 1) := by decide +kernel
theorem dX8_lastDayByAll_17 : decode cX8_lastDayByAll 17 = .ok (.invokevirtual 134, 3) := by decide +kernel
theorem dX8_lastDayByAll_20 : decode cX8_lastDayByAll 20 = .ok (.invokestatic 227, 3) := by decide +kernel
theorem dX8_lastDayByAll_23 : decode cX8_lastDayByAll 23 = .ok (.bipush 6, 2) := by decide +kernel
theorem dX8_lastDayByAll_25 : decode cX8_lastDayByAll 25 = .ok (.if_icmp .le 7, 3) := by decide +kernel
theorem dX8_lastDayByAll_28 : decode cX8_lastDayByAll 28 = .ok (.iconst 2, 1) := by decide +kernel
theorem dX8_lastDayByAll_29 : decode cX8_lastDayByAll 29 = .ok (.goto 4, 3) := by decide +kernel
theorem dX8_lastDayByAll_32 : decode cX8_lastDayByAll 32 = .ok (.iconst 0, 1) := by decide +kernel
theorem dX8_lastDayByAll_33 : decode cX8_lastDayByAll 33 = .ok (.invokevirtual 114, 3) := by decide +kernel
theorem dX8_lastDayByAll_36 : decode cX8_lastDayByAll 36 = .ok (.ifCond .ne 5, 3) := by decide +kernel
theorem dX8_lastDayByAll_39 : decode cX8_lastDayByAll 39 = .ok (.iconst 0, 1) := by decide +kernel
theorem dX8_lastDayByAll_40 : decode cX8_lastDayByAll 40 = .ok (.ireturn, 1) := by decide +kernel
theorem dX8_lastDayByAll_41 : decode cX8_lastDayByAll 41 = .ok (.iconst 0, 1) := by decide +kernel
theorem dX8_lastDayByAll_42 : decode cX8_lastDayByAll 42 = .ok (.istore_n 3, 1) := by decide +kernel
theorem dX8_lastDayByAll_43 : decode cX8_lastDayByAll 43 = .ok (.iconst 0, 1) := by decide +kernel
theorem dX8_lastDayByAll_44 : decode cX8_lastDayByAll 44 = .ok (.istore 4, 2) := by decide +kernel
theorem dX8_lastDayByAll_46 : decode cX8_lastDayByAll 46 = .ok (.iload 4, 2) := by decide +kernel
theorem dX8_lastDayByAll_48 : decode cX8_lastDayByAll 48 = .ok (.bipush 16, 2) := by decide +kernel
theorem dX8_lastDayByAll_50 : decode cX8_lastDayByAll 50 = .ok (.if_icmp .ge 30, 3) := by decide +kernel
theorem dX8_lastDayByAll_53 : decode cX8_lastDayByAll 53 = .ok (.aload_n 0, 1) := by decide +kernel
theorem dX8_lastDayByAll_54 : decode cX8_lastDayByAll 54 = .ok (.iload_n 1, 1) := by decide +kernel
theorem dX8_lastDayByAll_55 : decode cX8_lastDayByAll 55 = .ok (.iload 4, 2) := by decide +kernel
theorem dX8_lastDayByAll_57 : decode cX8_lastDayByAll 57 = .ok (.invokevirtual 121, 3) := by decide +kernel
theorem dX8_lastDayByAll_60 : decode cX8_lastDayByAll 60 = .ok (.ifCond .eq 14, 3) := by decide +kernel
theorem dX8_lastDayByAll_63 : decode cX8_lastDayByAll 63 = .ok (.aload_n 0, 1) := by decide +kernel
theorem dX8_lastDayByAll_64 : decode cX8_lastDayByAll 64 = .ok (.getfield 84, 3) := by decide +kernel
theorem dX8_lastDayByAll_67 : decode cX8_lastDayByAll 67 = .ok (.iload_n 3, 1) := by decide +kernel
theorem dX8_lastDayByAll_68 : decode cX8_lastDayByAll 68 = .ok (.iload 4, 2) := by decide +kernel
theorem dX8_lastDayByAll_70 : decode cX8_lastDayByAll 70 = .ok (.iastore, 1) := by decide +kernel
theorem dX8_lastDayByAll_71 : decode cX8_lastDayByAll 71 = .ok (.iinc 3 1, 3) := by decide +kernel
theorem dX8_lastDayByAll_74 : decode cX8_lastDayByAll 74 = .ok (.iinc 4 1, 3) := by decide +kernel
theorem dX8_lastDayByAll_77 : decode cX8_lastDayByAll 77 = .ok (.goto (-31), 3) := by decide +kernel
theorem dX8_lastDayByAll_80 : decode cX8_lastDayByAll 80 = .ok (.iload_n 3, 1) := by decide +kernel
theorem dX8_lastDayByAll_81 : decode cX8_lastDayByAll 81 = .ok (.ifCond .ne 5, 3) := by decide +kernel
theorem dX8_lastDayByAll_84 : decode cX8_lastDayByAll 84 = .ok (.iconst (-1), 1) := by decide +kernel
theorem dX8_lastDayByAll_85 : decode cX8_lastDayByAll 85 = .ok (.ireturn, 1) := by decide +kernel
theorem dX8_lastDayByAll_86 : decode cX8_lastDayByAll 86 = .ok (.aload_n 0, 1) := by decide +kernel
theorem dX8_lastDayByAll_87 : decode cX8_lastDayByAll 87 = .ok (.iload_n 1, 1) := by decide +kernel
theorem dX8_lastDayByAll_88 : decode cX8_lastDayByAll 88 = .ok (.invokevirtual 215, 3) := by decide +kernel
theorem dX8_lastDayByAll_91 : decode cX8_lastDayByAll 91 = .ok (.iconst (-1), 1) := by decide +kernel
theorem dX8_lastDayByAll_92 : decode cX8_lastDayByAll 92 = .ok (.istore 4, 2) := by decide +kernel
theorem dX8_lastDayByAll_94 : decode cX8_lastDayByAll 94 = .ok (.iconst 1, 1) := by decide +kernel
theorem dX8_lastDayByAll_95 : decode cX8_lastDayByAll 95 = .ok (.istore 5, 2) := by decide +kernel
theorem dX8_lastDayByAll_97 : decode cX8_lastDayByAll 97 = .ok (.iload 5, 2) := by decide +kernel
theorem dX8_lastDayByAll_99 : decode cX8_lastDayByAll 99 = .ok (.ifCond .eq 49, 3) := by decide +kernel
theorem dX8_lastDayByAll_102 : decode cX8_lastDayByAll 102 = .ok (.aload_n 0, 1) := by decide +kernel
theorem dX8_lastDayByAll_103 : decode cX8_lastDayByAll 103 = .ok (.iload_n 1, 1) := by decide +kernel
theorem dX8_lastDayByAll_104 : decode cX8_lastDayByAll 104 = .ok (.iload_n 3, 1) := by decide +kernel
theorem dX8_lastDayByAll_105 : decode cX8_lastDayByAll 105 = .ok (.invokevirtual 230, 3) := by decide +kernel
theorem dX8_lastDayByAll_108 : decode cX8_lastDayByAll 108 = .ok (.istore 6, 2) := by decide +kernel
theorem dX8_lastDayByAll_110 : decode cX8_lastDayByAll 110 = .ok (.iload 6, 2) := by decide +kernel
theorem dX8_lastDayByAll_112 : decode cX8_lastDayByAll 112 = .ok (.iconst (-1), 1) := by decide +kernel
theorem dX8_lastDayByAll_113 : decode cX8_lastDayByAll 113 = .ok (.if_icmp .eq 21, 3) := by decide +kernel
theorem dX8_lastDayByAll_116 : decode cX8_lastDayByAll 116 = .ok (.iload 4, 2) := by decide +kernel
theorem dX8_lastDayByAll_118 : decode cX8_lastDayByAll 118 = .ok (.iconst (-1), 1) := by decide +kernel
theorem dX8_lastDayByAll_119 : decode cX8_lastDayByAll 119 = .ok (.if_icmp .eq 10, 3) := by decide +kernel
theorem dX8_lastDayByAll_122 : decode cX8_lastDayByAll 122 = .ok (.iload 6, 2) := by decide +kernel
theorem dX8_lastDayByAll_124 : decode cX8_lastDayByAll 124 = .ok (.iload 4, 2) := by decide +kernel
theorem dX8_lastDayByAll_126 : decode cX8_lastDayByAll 126 = .ok (.if_icmp .ge 8, 3) := by decide +kernel
theorem dX8_lastDayByAll_129 : decode cX8_lastDayByAll 129 = .ok (.iload 6, 2) := by decide +kernel
theorem dX8_lastDayByAll_131 : decode cX8_lastDayByAll 131 = .ok (.goto 5, 3) := by decide +kernel
theorem dX8_lastDayByAll_134 : decode cX8_lastDayByAll 134 = .ok (.iload 4, 2) := by decide +kernel
theorem dX8_lastDayByAll_136 : decode cX8_lastDayByAll 136 = .ok (.istore 4, 2) := by decide +kernel
theorem dX8_lastDayByAll_138 : decode cX8_lastDayByAll 138 = .ok (.aload_n 0, 1) := by decide +kernel
theorem dX8_lastDayByAll_139 : decode cX8_lastDayByAll 139 = .ok (.iload_n 3, 1) := by decide +kernel
theorem dX8_lastDayByAll_140 : decode cX8_lastDayByAll 140 = .ok (.invokevirtual 233, 3) := by decide +kernel
theorem dX8_lastDayByAll_143 : decode cX8_lastDayByAll 143 = .ok (.istore 5, 2) := by decide +kernel
theorem dX8_lastDayByAll_145 : decode cX8_lastDayByAll 145 = .ok (.goto (-48), 3) := by decide +kernel
theorem dX8_lastDayByAll_148 : decode cX8_lastDayByAll 148 = .ok (.iload 4, 2) := by decide +kernel
theorem dX8_lastDayByAll_150 : decode cX8_lastDayByAll 150 = .ok (.ireturn, 1) := by decide +kernel
theorem dX8_taskOn_0 : decode cX8_taskOn 0 = .ok (.aload_n 0, 1) := by decide +kernel
theorem dX8_taskOn_1 : decode cX8_taskOn 1 = .ok (.aload_n 0, 1) := by decide +kernel
theorem dX8_taskOn_2 : decode cX8_taskOn 2 = .ok (.iload_n 1, 1) := by decide +kernel
theorem dX8_taskOn_3 : decode cX8_taskOn 3 = .ok (.invokevirtual 111, 3) := by decide +kernel
theorem dX8_taskOn_6 : decode cX8_taskOn 6 = .ok (.ifCond .ne 7, 3) := by decide +kernel
theorem dX8_taskOn_9 : decode cX8_taskOn 9 = .ok (.iconst 1, 1) := by decide +kernel
theorem dX8_taskOn_10 : decode cX8_taskOn 10 = .ok (.goto 22, 3) := by decide +kernel
theorem dX8_taskOn_13 : decode cX8_taskOn 13 = .ok (.iload_n 2, 1) := by decide +kernel
theorem dX8_taskOn_14 : decode cX8_taskOn 14 = .ok (.invokestatic 197, 3) := by decide +kernel
theorem dX8_taskOn_17 : decode cX8_taskOn 17 = .ok (.ifCond .eq 10, 3) := by decide +kernel
theorem dX8_taskOn_20 : decode cX8_taskOn 20 = .ok (.iload_n 3, 1) := by decide +kernel
theorem dX8_taskOn_21 : decode cX8_taskOn 21 = .ok (.invokestatic 200, 3) := by decide +kernel
theorem dX8_taskOn_24 : decode cX8_taskOn 24 = .ok (.ifCond .ne 7, 3) := by decide +kernel
theorem dX8_taskOn_27 : decode cX8_taskOn 27 = .ok (.iconst 2, 1) := by decide +kernel
theorem dX8_taskOn_28 : decode cX8_taskOn 28 = .ok (.goto 4, 3) := by decide +kernel
theorem dX8_taskOn_31 : decode cX8_taskOn 31 = .ok (.iconst 0, 1) := by decide +kernel
theorem dX8_taskOn_32 : decode cX8_taskOn 32 = .ok (.invokevirtual 114, 3) := by decide +kernel
theorem dX8_taskOn_35 : decode cX8_taskOn 35 = .ok (.ifCond .ne 5, 3) := by decide +kernel
theorem dX8_taskOn_38 : decode cX8_taskOn 38 = .ok (.iconst 0, 1) := by decide +kernel
theorem dX8_taskOn_39 : decode cX8_taskOn 39 = .ok (.ireturn, 1) := by decide +kernel
theorem dX8_taskOn_40 : decode cX8_taskOn 40 = .ok (.aload_n 0, 1) := by decide +kernel
theorem dX8_taskOn_41 : decode cX8_taskOn 41 = .ok (.iload_n 1, 1) := by decide +kernel
theorem dX8_taskOn_42 : decode cX8_taskOn 42 = .ok (.iload_n 1, 1) := by decide +kernel
theorem dX8_taskOn_43 : decode cX8_taskOn 43 = .ok (.invokevirtual 181, 3) := by decide +kernel
theorem dX8_taskOn_46 : decode cX8_taskOn 46 = .ok (.istore 4, 2) := by decide +kernel
theorem dX8_taskOn_48 : decode cX8_taskOn 48 = .ok (.iload 4, 2) := by decide +kernel
theorem dX8_taskOn_50 : decode cX8_taskOn 50 = .ok (.ifCond .ge 7, 3) := by decide +kernel
theorem dX8_taskOn_53 : decode cX8_taskOn 53 = .ok (.iconst (-1), 1) := by decide +kernel
theorem dX8_taskOn_54 : decode cX8_taskOn 54 = .ok (.goto 15, 3) := by decide +kernel
theorem dX8_taskOn_57 : decode cX8_taskOn 57 = .ok (.aload_n 0, 1) := by decide +kernel
theorem dX8_taskOn_58 : decode cX8_taskOn 58 = .ok (.getfield 77, 3) := by decide +kernel
theorem dX8_taskOn_61 : decode cX8_taskOn 61 = .ok (.sipush 400, 3) := by decide +kernel
theorem dX8_taskOn_64 : decode cX8_taskOn 64 = .ok (.iload_n 2, 1) := by decide +kernel
theorem dX8_taskOn_65 : decode cX8_taskOn 65 = .ok (.imul, 1) := by decide +kernel
theorem dX8_taskOn_66 : decode cX8_taskOn 66 = .ok (.iload_n 3, 1) := by decide +kernel
theorem dX8_taskOn_67 : decode cX8_taskOn 67 = .ok (.iadd, 1) := by decide +kernel
theorem dX8_taskOn_68 : decode cX8_taskOn 68 = .ok (.iaload, 1) := by decide +kernel
theorem dX8_taskOn_69 : decode cX8_taskOn 69 = .ok (.ireturn, 1) := by decide +kernel
set_option maxHeartbeats 4000000 in
set_option maxRecDepth 100000 in
theorem c_X8_thrown {l : Launch} (hfl : l.stackTraces = false) {sz : Nat} {sk : pb_Sk} {rf : pb_Rf} {sg : pb_Sg} {M : Nat} (hm : pb_md sk rf M) : pb_Met l mX8_thrown 1 0 0 [.ref M] sz sk rf sg (pb_is (some (.int (sg M 0))) sz sk rf sg) := by
  refine pb_start hfl (by decide +kernel) rfl (pb_c1 rfl) (Nat.le_of_ble_eq_true rfl) (fun F hF h hQ => ?_)
  subst hF
  show pv F 0 0 sz sk rf sg 0 [some (.ref M)] []
  obtain ⟨hM0, hr1, hk1, hr2, hk2, hr3, hk3, hr4, hk4, hr5, hk5, hr6, hk6, hr7, hk7, hr8, hk8, hr9, hk9, hr10, hk10, hr11, hk11, hr12, hk12, hr13, hk13, hr14, hk14, hr15, hk15, hr16, hk16, hr17, hk17, hr18, hk18, hr19, hk19, hr20, hk20, hr21, hk21, hr22, hk22, hr23, hk23, hr24, hk24⟩ := id hm
  refine v_aload_n h (i := 0) dX8_thrown_0 (q := 1) rfl rfl rfl ?_
  refine v_geti h fl_X8_88 (by assumption) rfl dX8_thrown_1 (q := 4) rfl ?_
  refine v_iret h hQ rfl rfl dX8_thrown_4 (Nat.zero_le _) (Nat.zero_le _) ⟨rfl, rfl, rfl, rfl, rfl⟩
set_option maxHeartbeats 4000000 in
set_option maxRecDepth 100000 in
theorem c_X8_isFine {l : Launch} (hfl : l.stackTraces = false) {sz : Nat} {sk : pb_Sk} {rf : pb_Rf} {sg : pb_Sg} {M : Nat} (hm : pb_md sk rf M) : pb_Met l mX8_isFine 1 0 0 [.ref M, .int (nI 0)] sz sk rf sg (pb_is (some (.int (nI 1))) sz sk rf (pb_up sg M 0 (nI 0))) := by
  refine pb_start hfl (by decide +kernel) rfl (pb_c1 rfl) (Nat.le_of_ble_eq_true rfl) (fun F hF h hQ => ?_)
  subst hF
  show pv F 0 0 sz sk rf sg 0 [some (.ref M), some (.int (nI 0))] []
  obtain ⟨hM0, hr1, hk1, hr2, hk2, hr3, hk3, hr4, hk4, hr5, hk5, hr6, hk6, hr7, hk7, hr8, hk8, hr9, hk9, hr10, hk10, hr11, hk11, hr12, hk12, hr13, hk13, hr14, hk14, hr15, hk15, hr16, hk16, hr17, hk17, hr18, hk18, hr19, hk19, hr20, hk20, hr21, hk21, hr22, hk22, hr23, hk23, hr24, hk24⟩ := id hm
  refine v_aload_n h (i := 0) dX8_isFine_0 (q := 1) rfl rfl rfl ?_
  refine v_iload_n h (i := 1) dX8_isFine_1 (q := 2) rfl rfl rfl ?_
  refine v_puti h fl_X8_88 (by assumption) rfl rfl dX8_isFine_2 (q := 5) rfl ?_
  refine v_iload_n h (i := 1) dX8_isFine_5 (q := 6) rfl rfl rfl ?_
  refine v_if_ne h dX8_isFine_6 (q := 9) rfl (tgt := 13) (by decide) (fun c1 => absurd rfl c1) (fun c1 => ?_)
  refine v_iconst h (v := nI 1) dX8_isFine_9 (q := 10) rfl (by decide +kernel) ?_
  refine v_goto h dX8_isFine_10 (tgt := 14) (by decide) ?_
  refine v_iret h hQ rfl (by first | exact rfl | exact pb_b_nar _) dX8_isFine_14 (Nat.zero_le _) (Nat.zero_le _) ⟨rfl, rfl, rfl, rfl, rfl⟩
set_option maxHeartbeats 4000000 in
set_option maxRecDepth 100000 in
theorem x_X8_isFine {l : Launch} (hfl : l.stackTraces = false) {sz : Nat} {sk : pb_Sk} {rf : pb_Rf} {sg : pb_Sg} {M : Nat} (hm : pb_md sk rf M) {x : Int32} (hx : ¬ x = 0) : pb_Met l mX8_isFine 1 0 0 [.ref M, .int x] sz sk rf sg (pb_is (some (.int (nI 0))) sz sk rf (pb_up sg M 0 x)) := by
  refine pb_start hfl (by decide +kernel) rfl (pb_c1 rfl) (Nat.le_of_ble_eq_true rfl) (fun F hF h hQ => ?_)
  subst hF
  show pv F 0 0 sz sk rf sg 0 [some (.ref M), some (.int x)] []
  obtain ⟨hM0, hr1, hk1, hr2, hk2, hr3, hk3, hr4, hk4, hr5, hk5, hr6, hk6, hr7, hk7, hr8, hk8, hr9, hk9, hr10, hk10, hr11, hk11, hr12, hk12, hr13, hk13, hr14, hk14, hr15, hk15, hr16, hk16, hr17, hk17, hr18, hk18, hr19, hk19, hr20, hk20, hr21, hk21, hr22, hk22, hr23, hk23, hr24, hk24⟩ := id hm
  refine v_aload_n h (i := 0) dX8_isFine_0 (q := 1) rfl rfl rfl ?_
  refine v_iload_n h (i := 1) dX8_isFine_1 (q := 2) rfl rfl rfl ?_
  refine v_puti h fl_X8_88 (by assumption) rfl rfl dX8_isFine_2 (q := 5) rfl ?_
  refine v_iload_n h (i := 1) dX8_isFine_5 (q := 6) rfl rfl rfl ?_
  refine v_if_ne h dX8_isFine_6 (q := 9) rfl (tgt := 13) (by decide) (fun c1 => ?_) (fun c1 => absurd c1 hx)
  refine v_iconst h (v := nI 0) dX8_isFine_13 (q := 14) rfl (by decide +kernel) ?_
  refine v_iret h hQ rfl (by first | exact rfl | exact pb_b_nar _) dX8_isFine_14 (Nat.zero_le _) (Nat.zero_le _) ⟨rfl, rfl, rfl, rfl, rfl⟩
set_option maxHeartbeats 4000000 in
set_option maxRecDepth 100000 in
theorem c_X8_isIn {l : Launch} (hfl : l.stackTraces = false) {sz : Nat} {sk : pb_Sk} {rf : pb_Rf} {sg : pb_Sg} {v lo hi : Int32} (hx : lo ≤ v ∧ v ≤ hi) : pb_Met l mX8_isIn 1 0 0 [.int v, .int lo, .int hi] sz sk rf sg (pb_is (some (.int (nI 1))) sz sk rf sg) := by
  refine pb_start hfl (by decide +kernel) rfl (pb_c1 rfl) (Nat.le_of_ble_eq_true rfl) (fun F hF h hQ => ?_)
  subst hF
  show pv F 0 0 sz sk rf sg 0 [some (.int v), some (.int lo), some (.int hi)] []
  refine v_iload_n h (i := 0) dX8_isIn_0 (q := 1) rfl rfl rfl ?_
  refine v_iload_n h (i := 1) dX8_isIn_1 (q := 2) rfl rfl rfl ?_
  refine v_icmp_lt h dX8_isIn_2 (q := 5) rfl (tgt := 14) (by decide) (fun c1 => absurd hx.1 (Int32.not_le.mpr c1)) (fun c1 => ?_)
  refine v_iload_n h (i := 0) dX8_isIn_5 (q := 6) rfl rfl rfl ?_
  refine v_iload_n h (i := 2) dX8_isIn_6 (q := 7) rfl rfl rfl ?_
  refine v_icmp_gt h dX8_isIn_7 (q := 10) rfl (tgt := 14) (by decide) (fun c2 => absurd hx.2 (Int32.not_le.mpr c2)) (fun c2 => ?_)
  refine v_iconst h (v := nI 1) dX8_isIn_10 (q := 11) rfl (by decide +kernel) ?_
  refine v_goto h dX8_isIn_11 (tgt := 15) (by decide) ?_
  refine v_iret h hQ rfl (by first | exact rfl | exact pb_b_nar _) dX8_isIn_15 (Nat.zero_le _) (Nat.zero_le _) ⟨rfl, rfl, rfl, rfl, rfl⟩
set_option maxHeartbeats 4000000 in
set_option maxRecDepth 100000 in
theorem x_X8_isIn {l : Launch} (hfl : l.stackTraces = false) {sz : Nat} {sk : pb_Sk} {rf : pb_Rf} {sg : pb_Sg} {v lo hi : Int32} (hx : ¬ (lo ≤ v ∧ v ≤ hi)) : pb_Met l mX8_isIn 1 0 0 [.int v, .int lo, .int hi] sz sk rf sg (pb_is (some (.int (nI 0))) sz sk rf sg) := by
  refine pb_start hfl (by decide +kernel) rfl (pb_c1 rfl) (Nat.le_of_ble_eq_true rfl) (fun F hF h hQ => ?_)
  subst hF
  show pv F 0 0 sz sk rf sg 0 [some (.int v), some (.int lo), some (.int hi)] []
  refine v_iload_n h (i := 0) dX8_isIn_0 (q := 1) rfl rfl rfl ?_
  refine v_iload_n h (i := 1) dX8_isIn_1 (q := 2) rfl rfl rfl ?_
  refine v_icmp_lt h dX8_isIn_2 (q := 5) rfl (tgt := 14) (by decide) (fun c1 => ?_) (fun c1 => ?_)
  · skip
    refine v_iconst h (v := nI 0) dX8_isIn_14 (q := 15) rfl (by decide +kernel) ?_
    refine v_iret h hQ rfl (by first | exact rfl | exact pb_b_nar _) dX8_isIn_15 (Nat.zero_le _) (Nat.zero_le _) ⟨rfl, rfl, rfl, rfl, rfl⟩
  · skip
    refine v_iload_n h (i := 0) dX8_isIn_5 (q := 6) rfl rfl rfl ?_
    refine v_iload_n h (i := 2) dX8_isIn_6 (q := 7) rfl rfl rfl ?_
    refine v_icmp_gt h dX8_isIn_7 (q := 10) rfl (tgt := 14) (by decide) (fun c2 => ?_) (fun c2 => absurd ⟨Int32.not_lt.mp c1, Int32.not_lt.mp c2⟩ hx)
    refine v_iconst h (v := nI 0) dX8_isIn_14 (q := 15) rfl (by decide +kernel) ?_
    refine v_iret h hQ rfl (by first | exact rfl | exact pb_b_nar _) dX8_isIn_15 (Nat.zero_le _) (Nat.zero_le _) ⟨rfl, rfl, rfl, rfl, rfl⟩
