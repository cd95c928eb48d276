/-- the system at X: its branches stand at B 0, B 1 .. B (n - 1), par b is the parent's number -/
def pb_sys (sk : pb_Sk) (rf : pb_Rf) (X : Nat) (B par : Nat → Nat) (n : Nat) : Prop := sk X = (13, 0) ∧ rf X 0 = some (X + 1) ∧ rf X 2 = some (X + 20) ∧ rf X 3 = some (X + 28) ∧ rf X 4 = some (X + 34) ∧ rf X 5 = some (X + 37) ∧ sk (X + 1) = (4, 8) ∧ pb_crews sk rf (X + 20) ∧ pb_joint sk rf (X + 28) ∧ pb_ways sk rf (X + 34) ∧ pb_sch sk rf (X + 37) ∧ (1 ≤ n ∧ n ≤ 8) ∧ (∀ b, b < n → rf (X + 1) b = some (B b) ∧ pb_br sk rf (B b)) ∧ (∀ b, n ≤ b → b < 8 → rf (X + 1) b = none) ∧ rf (B 0) 1 = none ∧ ∀ b, 0 < b → b < n → rf (B b) 1 = some (B (par b)) ∧ par b < b
def pb_lyt (X : Nat) (B : Nat → Nat) (n : Nat) : Prop := B 0 = X + 2 ∧ (∀ b, 0 < b → b < n → X + 45 ≤ B b) ∧ ∀ b c, 0 < b → b < c → c < n → B b + 18 ≤ B c
theorem pb_nrng {a b x : Int32} (h : ¬ (a ≤ x ∧ x ≤ b)) : x < a ∨ b < x := by
  by_cases e : a ≤ x
  · exact Or.inr (Int32.not_le.mp (fun q => h ⟨e, q⟩))
  · exact Or.inl (Int32.not_le.mp e)
theorem pb_idx {x : Int32} (h1 : ¬ x < 0) {m : Nat} (hm : m < 2147483648) (h2 : x < nI m) : ∃ j, j < m ∧ x = nI j := by
  obtain ⟨j, hj, rfl⟩ := nI_of h1
  exact ⟨j, (nI_ltI hj hm).mp h2, rfl⟩
theorem dX7_setTask_0 : decode cX7_setTask 0 = .ok (.aload_n 0, 1) := by decide +kernel
theorem dX7_setTask_1 : decode cX7_setTask 1 = .ok (.iload_n 1, 1) := by decide +kernel
theorem dX7_setTask_2 : decode cX7_setTask 2 = .ok (.invokevirtual 53, 3) := by decide +kernel
theorem dX7_setTask_5 : decode cX7_setTask 5 = .ok (.astore 6, 2) := by decide +kernel
theorem dX7_setTask_7 : decode cX7_setTask 7 = .ok (.iload_n 2, 1) := by decide +kernel
theorem dX7_setTask_8 : decode cX7_setTask 8 = .ok (.invokestatic 57, 3) := by decide +kernel
theorem dX7_setTask_11 : decode cX7_setTask 11 = .ok (.iload_n 3, 1) := by decide +kernel
theorem dX7_setTask_12 : decode cX7_setTask 12 = .ok (.iconst 1, 1) := by decide +kernel
theorem dX7_setTask_13 : decode cX7_setTask 13 = .ok (.bipush 20, 2) := by decide +kernel
theorem dX7_setTask_15 : decode cX7_setTask 15 = .ok (.invokestatic 61, 3) := by decide +kernel
theorem dX7_setTask_18 : decode cX7_setTask 18 = .ok (.iload 4, 2) := by decide +kernel
theorem dX7_setTask_20 : decode cX7_setTask 20 = .ok (.iconst (-1), 1) := by decide +kernel
theorem dX7_setTask_21 : decode cX7_setTask 21 = .ok (.iconst 4, 1) := by decide +kernel
theorem dX7_setTask_22 : decode cX7_setTask 22 = .ok (.invokestatic 61, 3) := by decide +kernel
theorem dX7_setTask_25 : decode cX7_setTask 25 = .ok (.iload 5, 2) := by decide +kernel
theorem dX7_setTask_27 : decode cX7_setTask 27 = .ok (.iconst 0, 1) := by decide +kernel
theorem dX7_setTask_28 : decode cX7_setTask 28 = .ok (.sipush 1000, 3) := by decide +kernel
theorem dX7_setTask_31 : decode cX7_setTask 31 = .ok (.invokestatic 61, 3) := by decide +kernel
theorem dX7_setTask_34 : decode cX7_setTask 34 = .ok (.aload 6, 2) := by decide +kernel
theorem dX7_setTask_36 : decode cX7_setTask 36 = .ok (.getfield 65, 3) := by decide +kernel
theorem dX7_setTask_39 : decode cX7_setTask 39 = .ok (.iload_n 2, 1) := by decide +kernel
theorem dX7_setTask_40 : decode cX7_setTask 40 = .ok (.invokevirtual 69, 3) := by decide +kernel
theorem dX7_setTask_43 : decode cX7_setTask 43 = .ok (.istore 7, 2) := by decide +kernel
theorem dX7_setTask_45 : decode cX7_setTask 45 = .ok (.iload 7, 2) := by decide +kernel
theorem dX7_setTask_47 : decode cX7_setTask 47 = .ok (.ifCond .eq 16, 3) := by decide +kernel
theorem dX7_setTask_50 : decode cX7_setTask 50 = .ok (.aload 6, 2) := by decide +kernel
theorem dX7_setTask_52 : decode cX7_setTask 52 = .ok (.getfield 65, 3) := by decide +kernel
theorem dX7_setTask_55 : decode cX7_setTask 55 = .ok (.getfield 75, 3) := by decide +kernel
theorem dX7_setTask_58 : decode cX7_setTask 58 = .ok (.iload_n 2, 1) := by decide +kernel
theorem dX7_setTask_59 : decode cX7_setTask 59 = .ok (.iaload, 1) := by decide +kernel
theorem dX7_setTask_60 : decode cX7_setTask 60 = .ok (.goto 4, 3) := by decide +kernel
theorem dX7_setTask_63 : decode cX7_setTask 63 = .ok (.iconst 0, 1) := by decide +kernel
theorem dX7_setTask_64 : decode cX7_setTask 64 = .ok (.istore 8, 2) := by decide +kernel
theorem dX7_setTask_66 : decode cX7_setTask 66 = .ok (.aload 6, 2) := by decide +kernel
theorem dX7_setTask_68 : decode cX7_setTask 68 = .ok (.getfield 79, 3) := by decide +kernel
theorem dX7_setTask_71 : decode cX7_setTask 71 = .ok (.aload 6, 2) := by decide +kernel
theorem dX7_setTask_73 : decode cX7_setTask 73 = .ok (.getfield 65, 3) := by decide +kernel
theorem dX7_setTask_76 : decode cX7_setTask 76 = .ok (.iload_n 2, 1) := by decide +kernel
theorem dX7_setTask_77 : decode cX7_setTask 77 = .ok (.invokevirtual 83, 3) := by decide +kernel
theorem dX7_setTask_80 : decode cX7_setTask 80 = .ok (.aload 6, 2) := by decide +kernel
theorem dX7_setTask_82 : decode cX7_setTask 82 = .ok (.getfield 65, 3) := by decide +kernel
theorem dX7_setTask_85 : decode cX7_setTask 85 = .ok (.iload_n 2, 1) := by decide +kernel
theorem dX7_setTask_86 : decode cX7_setTask 86 = .ok (.iload_n 3, 1) := by decide +kernel
theorem dX7_setTask_87 : decode cX7_setTask 87 = .ok (.iload 4, 2) := by decide +kernel
theorem dX7_setTask_89 : decode cX7_setTask 89 = .ok (.iload 5, 2) := by decide +kernel
theorem dX7_setTask_91 : decode cX7_setTask 91 = .ok (.iload 8, 2) := by decide +kernel
theorem dX7_setTask_93 : decode cX7_setTask 93 = .ok (.invokevirtual 89, 3) := by decide +kernel
theorem dX7_setTask_96 : decode cX7_setTask 96 = .ok (.iload 7, 2) := by decide +kernel
theorem dX7_setTask_98 : decode cX7_setTask 98 = .ok (.ireturn, 1) := by decide +kernel
theorem dX7_removeTask_0 : decode cX7_removeTask 0 = .ok (.aload_n 0, 1) := by decide +kernel
theorem dX7_removeTask_1 : decode cX7_removeTask 1 = .ok (.iload_n 1, 1) := by decide +kernel
theorem dX7_removeTask_2 : decode cX7_removeTask 2 = .ok (.invokevirtual 53, 3) := by decide +kernel
theorem dX7_removeTask_5 : decode cX7_removeTask 5 = .ok (.astore_n 3, 1) := by decide +kernel
theorem dX7_removeTask_6 : decode cX7_removeTask 6 = .ok (.iload_n 2, 1) := by decide +kernel
theorem dX7_removeTask_7 : decode cX7_removeTask 7 = .ok (.invokestatic 57, 3) := by decide +kernel
theorem dX7_removeTask_10 : decode cX7_removeTask 10 = .ok (.aload_n 3, 1) := by decide +kernel
theorem dX7_removeTask_11 : decode cX7_removeTask 11 = .ok (.getfield 65, 3) := by decide +kernel
theorem dX7_removeTask_14 : decode cX7_removeTask 14 = .ok (.iload_n 2, 1) := by decide +kernel
theorem dX7_removeTask_15 : decode cX7_removeTask 15 = .ok (.invokevirtual 69, 3) := by decide +kernel
theorem dX7_removeTask_18 : decode cX7_removeTask 18 = .ok (.ifCond .ne 13, 3) := by decide +kernel
theorem dX7_removeTask_21 : decode cX7_removeTask 21 = .ok (.new 93, 3) := by decide +kernel
theorem dX7_removeTask_24 : decode cX7_removeTask 24 = .ok (.dup, 1) := by decide +kernel
theorem dX7_removeTask_25 : decode cX7_removeTask 25 = .ok (.ldc 95, 2) := by decide +kernel
theorem dX7_removeTask_27 : decode cX7_removeTask 27 = .ok (.invokespecial 97, 3) := by decide +kernel
theorem dX7_removeTask_30 : decode cX7_removeTask 30 = .ok (.athrow, 1) := by decide +kernel
theorem dX7_removeTask_31 : decode cX7_removeTask 31 = .ok (.aload_n 3, 1) := by decide +kernel
theorem dX7_removeTask_32 : decode cX7_removeTask 32 = .ok (.getfield 65, 3) := by decide +kernel
theorem dX7_removeTask_35 : decode cX7_removeTask 35 = .ok (.iload_n 2, 1) := by decide +kernel
theorem dX7_removeTask_36 : decode cX7_removeTask 36 = .ok (.invokevirtual 100, 3) := by decide +kernel
theorem dX7_removeTask_39 : decode cX7_removeTask 39 = .ok (.ifCond .eq 13, 3) := by decide +kernel
theorem dX7_removeTask_42 : decode cX7_removeTask 42 = .ok (.new 93, 3) := by decide +kernel
theorem dX7_removeTask_45 : decode cX7_removeTask 45 = .ok (.dup, 1) := by decide +kernel
theorem dX7_removeTask_46 : decode cX7_removeTask 46 = .ok (.ldc 103, 2) := by decide +kernel
theorem dX7_removeTask_48 : decode cX7_removeTask 48 = .ok (.invokespecial 97, 3) := by decide +kernel
theorem dX7_removeTask_51 : decode cX7_removeTask 51 = .ok (.athrow, 1) := by decide +kernel
theorem dX7_removeTask_52 : decode cX7_removeTask 52 = .ok (.aload_n 3, 1) := by decide +kernel
theorem dX7_removeTask_53 : decode cX7_removeTask 53 = .ok (.getfield 65, 3) := by decide +kernel
theorem dX7_removeTask_56 : decode cX7_removeTask 56 = .ok (.getfield 105, 3) := by decide +kernel
theorem dX7_removeTask_59 : decode cX7_removeTask 59 = .ok (.iload_n 2, 1) := by decide +kernel
theorem dX7_removeTask_60 : decode cX7_removeTask 60 = .ok (.iaload, 1) := by decide +kernel
theorem dX7_removeTask_61 : decode cX7_removeTask 61 = .ok (.istore 4, 2) := by decide +kernel
theorem dX7_removeTask_63 : decode cX7_removeTask 63 = .ok (.aload_n 3, 1) := by decide +kernel
theorem dX7_removeTask_64 : decode cX7_removeTask 64 = .ok (.getfield 79, 3) := by decide +kernel
theorem dX7_removeTask_67 : decode cX7_removeTask 67 = .ok (.aload_n 3, 1) := by decide +kernel
theorem dX7_removeTask_68 : decode cX7_removeTask 68 = .ok (.getfield 65, 3) := by decide +kernel
theorem dX7_removeTask_71 : decode cX7_removeTask 71 = .ok (.iload_n 2, 1) := by decide +kernel
theorem dX7_removeTask_72 : decode cX7_removeTask 72 = .ok (.invokevirtual 83, 3) := by decide +kernel
theorem dX7_removeTask_75 : decode cX7_removeTask 75 = .ok (.aload_n 3, 1) := by decide +kernel
theorem dX7_removeTask_76 : decode cX7_removeTask 76 = .ok (.getfield 65, 3) := by decide +kernel
theorem dX7_removeTask_79 : decode cX7_removeTask 79 = .ok (.iload_n 2, 1) := by decide +kernel
theorem dX7_removeTask_80 : decode cX7_removeTask 80 = .ok (.invokevirtual 108, 3) := by decide +kernel
theorem dX7_removeTask_83 : decode cX7_removeTask 83 = .ok (.iload 4, 2) := by decide +kernel
theorem dX7_removeTask_85 : decode cX7_removeTask 85 = .ok (.ireturn, 1) := by decide +kernel
theorem dX7_setNeed_0 : decode cX7_setNeed 0 = .ok (.aload_n 0, 1) := by decide +kernel
theorem dX7_setNeed_1 : decode cX7_setNeed 1 = .ok (.iload_n 1, 1) := by decide +kernel
theorem dX7_setNeed_2 : decode cX7_setNeed 2 = .ok (.invokevirtual 53, 3) := by decide +kernel
theorem dX7_setNeed_5 : decode cX7_setNeed 5 = .ok (.astore 5, 2) := by decide +kernel
theorem dX7_setNeed_7 : decode cX7_setNeed 7 = .ok (.iload_n 2, 1) := by decide +kernel
theorem dX7_setNeed_8 : decode cX7_setNeed 8 = .ok (.invokestatic 57, 3) := by decide +kernel
theorem dX7_setNeed_11 : decode cX7_setNeed 11 = .ok (.iload_n 3, 1) := by decide +kernel
theorem dX7_setNeed_12 : decode cX7_setNeed 12 = .ok (.invokestatic 57, 3) := by decide +kernel
theorem dX7_setNeed_15 : decode cX7_setNeed 15 = .ok (.iload_n 2, 1) := by decide +kernel
theorem dX7_setNeed_16 : decode cX7_setNeed 16 = .ok (.iload_n 3, 1) := by decide +kernel
theorem dX7_setNeed_17 : decode cX7_setNeed 17 = .ok (.if_icmp .ne 13, 3) := by decide +kernel
theorem dX7_setNeed_20 : decode cX7_setNeed 20 = .ok (.new 111, 3) := by decide +kernel
theorem dX7_setNeed_23 : decode cX7_setNeed 23 = .ok (.dup, 1) := by decide +kernel
theorem dX7_setNeed_24 : decode cX7_setNeed 24 = .ok (.ldc 113, 2) := by decide +kernel
theorem dX7_setNeed_26 : decode cX7_setNeed 26 = .ok (.invokespecial 115, 3) := by decide +kernel
theorem dX7_setNeed_29 : decode cX7_setNeed 29 = .ok (.athrow, 1) := by decide +kernel
theorem dX7_setNeed_30 : decode cX7_setNeed 30 = .ok (.aload 5, 2) := by decide +kernel
theorem dX7_setNeed_32 : decode cX7_setNeed 32 = .ok (.getfield 65, 3) := by decide +kernel
theorem dX7_setNeed_35 : decode cX7_setNeed 35 = .ok (.iload_n 2, 1) := by decide +kernel
theorem dX7_setNeed_36 : decode cX7_setNeed 36 = .ok (.invokevirtual 69, 3) := by decide +kernel
theorem dX7_setNeed_39 : decode cX7_setNeed 39 = .ok (.ifCond .eq 15, 3) := by decide +kernel
theorem dX7_setNeed_42 : decode cX7_setNeed 42 = .ok (.aload 5, 2) := by decide +kernel
theorem dX7_setNeed_44 : decode cX7_setNeed 44 = .ok (.getfield 65, 3) := by decide +kernel
theorem dX7_setNeed_47 : decode cX7_setNeed 47 = .ok (.iload_n 3, 1) := by decide +kernel
theorem dX7_setNeed_48 : decode cX7_setNeed 48 = .ok (.invokevirtual 69, 3) := by decide +kernel
theorem dX7_setNeed_51 : decode cX7_setNeed 51 = .ok (.ifCond .ne 13, 3) := by decide +kernel
theorem dX7_setNeed_54 : decode cX7_setNeed 54 = .ok (.new 93, 3) := by decide +kernel
theorem dX7_setNeed_57 : decode cX7_setNeed 57 = .ok (.dup, 1) := by decide +kernel
theorem dX7_setNeed_58 : decode cX7_setNeed 58 = .ok (.ldc 116, 2) := by decide +kernel
theorem dX7_setNeed_60 : decode cX7_setNeed 60 = .ok (.invokespecial 97, 3) := by decide +kernel
theorem dX7_setNeed_63 : decode cX7_setNeed 63 = .ok (.athrow, 1) := by decide +kernel
theorem dX7_setNeed_64 : decode cX7_setNeed 64 = .ok (.iload 4, 2) := by decide +kernel
theorem dX7_setNeed_66 : decode cX7_setNeed 66 = .ok (.ifCond .eq 29, 3) := by decide +kernel
theorem dX7_setNeed_69 : decode cX7_setNeed 69 = .ok (.aload 5, 2) := by decide +kernel
theorem dX7_setNeed_71 : decode cX7_setNeed 71 = .ok (.getfield 65, 3) := by decide +kernel
theorem dX7_setNeed_74 : decode cX7_setNeed 74 = .ok (.iload_n 3, 1) := by decide +kernel
theorem dX7_setNeed_75 : decode cX7_setNeed 75 = .ok (.invokevirtual 118, 3) := by decide +kernel
theorem dX7_setNeed_78 : decode cX7_setNeed 78 = .ok (.iload_n 2, 1) := by decide +kernel
theorem dX7_setNeed_79 : decode cX7_setNeed 79 = .ok (.invokestatic 122, 3) := by decide +kernel
theorem dX7_setNeed_82 : decode cX7_setNeed 82 = .ok (.ifCond .eq 13, 3) := by decide +kernel
theorem dX7_setNeed_85 : decode cX7_setNeed 85 = .ok (.new 93, 3) := by decide +kernel
theorem dX7_setNeed_88 : decode cX7_setNeed 88 = .ok (.dup, 1) := by decide +kernel
theorem dX7_setNeed_89 : decode cX7_setNeed 89 = .ok (.ldc 126, 2) := by decide +kernel
theorem dX7_setNeed_91 : decode cX7_setNeed 91 = .ok (.invokespecial 97, 3) := by decide +kernel
theorem dX7_setNeed_94 : decode cX7_setNeed 94 = .ok (.athrow, 1) := by decide +kernel
theorem dX7_setNeed_95 : decode cX7_setNeed 95 = .ok (.aload 5, 2) := by decide +kernel
theorem dX7_setNeed_97 : decode cX7_setNeed 97 = .ok (.getfield 65, 3) := by decide +kernel
theorem dX7_setNeed_100 : decode cX7_setNeed 100 = .ok (.getfield 75, 3) := by decide +kernel
theorem dX7_setNeed_103 : decode cX7_setNeed 103 = .ok (.iload_n 2, 1) := by decide +kernel
theorem dX7_setNeed_104 : decode cX7_setNeed 104 = .ok (.iaload, 1) := by decide +kernel
theorem dX7_setNeed_105 : decode cX7_setNeed 105 = .ok (.iload_n 3, 1) := by decide +kernel
theorem dX7_setNeed_106 : decode cX7_setNeed 106 = .ok (.invokestatic 122, 3) := by decide +kernel
theorem dX7_setNeed_109 : decode cX7_setNeed 109 = .ok (.istore 6, 2) := by decide +kernel
theorem dX7_setNeed_111 : decode cX7_setNeed 111 = .ok (.aload 5, 2) := by decide +kernel
theorem dX7_setNeed_113 : decode cX7_setNeed 113 = .ok (.getfield 79, 3) := by decide +kernel
theorem dX7_setNeed_116 : decode cX7_setNeed 116 = .ok (.aload 5, 2) := by decide +kernel
theorem dX7_setNeed_118 : decode cX7_setNeed 118 = .ok (.getfield 65, 3) := by decide +kernel
theorem dX7_setNeed_121 : decode cX7_setNeed 121 = .ok (.iload_n 2, 1) := by decide +kernel
theorem dX7_setNeed_122 : decode cX7_setNeed 122 = .ok (.invokevirtual 83, 3) := by decide +kernel
theorem dX7_setNeed_125 : decode cX7_setNeed 125 = .ok (.iload 4, 2) := by decide +kernel
theorem dX7_setNeed_127 : decode cX7_setNeed 127 = .ok (.ifCond .eq 22, 3) := by decide +kernel
theorem dX7_setNeed_130 : decode cX7_setNeed 130 = .ok (.aload 5, 2) := by decide +kernel
theorem dX7_setNeed_132 : decode cX7_setNeed 132 = .ok (.getfield 65, 3) := by decide +kernel
theorem dX7_setNeed_135 : decode cX7_setNeed 135 = .ok (.getfield 75, 3) := by decide +kernel
theorem dX7_setNeed_138 : decode cX7_setNeed 138 = .ok (.iload_n 2, 1) := by decide +kernel
theorem dX7_setNeed_139 : decode cX7_setNeed 139 = .ok (.dup2, 1) := by decide +kernel
theorem dX7_setNeed_140 : decode cX7_setNeed 140 = .ok (.iaload, 1) := by decide +kernel
theorem dX7_setNeed_141 : decode cX7_setNeed 141 = .ok (.iconst 1, 1) := by decide +kernel
theorem dX7_setNeed_142 : decode cX7_setNeed 142 = .ok (.iload_n 3, 1) := by decide +kernel
theorem dX7_setNeed_143 : decode cX7_setNeed 143 = .ok (.ishl, 1) := by decide +kernel
theorem dX7_setNeed_144 : decode cX7_setNeed 144 = .ok (.ior, 1) := by decide +kernel
theorem dX7_setNeed_145 : decode cX7_setNeed 145 = .ok (.iastore, 1) := by decide +kernel
theorem dX7_setNeed_146 : decode cX7_setNeed 146 = .ok (.goto 21, 3) := by decide +kernel
theorem dX7_setNeed_149 : decode cX7_setNeed 149 = .ok (.aload 5, 2) := by decide +kernel
theorem dX7_setNeed_151 : decode cX7_setNeed 151 = .ok (.getfield 65, 3) := by decide +kernel
theorem dX7_setNeed_154 : decode cX7_setNeed 154 = .ok (.getfield 75, 3) := by decide +kernel
theorem dX7_setNeed_157 : decode cX7_setNeed 157 = .ok (.iload_n 2, 1) := by decide +kernel
theorem dX7_setNeed_158 : decode cX7_setNeed 158 = .ok (.dup2, 1) := by decide +kernel
theorem dX7_setNeed_159 : decode cX7_setNeed 159 = .ok (.iaload, 1) := by decide +kernel
theorem dX7_setNeed_160 : decode cX7_setNeed 160 = .ok (.iconst 1, 1) := by decide +kernel
theorem dX7_setNeed_161 : decode cX7_setNeed 161 = .ok (.iload_n 3, 1) := by decide +kernel
theorem dX7_setNeed_162 : decode cX7_setNeed 162 = .ok (.ishl, 1) := by decide +kernel
theorem dX7_setNeed_163 : decode cX7_setNeed 163 = .ok (.iconst (-1), 1) := by decide +kernel
theorem dX7_setNeed_164 : decode cX7_setNeed 164 = .ok (.ixor, 1) := by decide +kernel
theorem dX7_setNeed_165 : decode cX7_setNeed 165 = .ok (.iand, 1) := by decide +kernel
theorem dX7_setNeed_166 : decode cX7_setNeed 166 = .ok (.iastore, 1) := by decide +kernel
theorem dX7_setNeed_167 : decode cX7_setNeed 167 = .ok (.iload 6, 2) := by decide +kernel
theorem dX7_setNeed_169 : decode cX7_setNeed 169 = .ok (.ireturn, 1) := by decide +kernel
theorem dX7_undo_0 : decode cX7_undo 0 = .ok (.aload_n 0, 1) := by decide +kernel
theorem dX7_undo_1 : decode cX7_undo 1 = .ok (.iload_n 1, 1) := by decide +kernel
theorem dX7_undo_2 : decode cX7_undo 2 = .ok (.invokevirtual 53, 3) := by decide +kernel
theorem dX7_undo_5 : decode cX7_undo 5 = .ok (.astore_n 2, 1) := by decide +kernel
theorem dX7_undo_6 : decode cX7_undo 6 = .ok (.aload_n 2, 1) := by decide +kernel
theorem dX7_undo_7 : decode cX7_undo 7 = .ok (.getfield 79, 3) := by decide +kernel
theorem dX7_undo_10 : decode cX7_undo 10 = .ok (.getfield 128, 3) := by decide +kernel
theorem dX7_undo_13 : decode cX7_undo 13 = .ok (.ifCond .ne 13, 3) := by decide +kernel
theorem dX7_undo_16 : decode cX7_undo 16 = .ok (.new 93, 3) := by decide +kernel
theorem dX7_undo_19 : decode cX7_undo 19 = .ok (.dup, 1) := by decide +kernel
theorem dX7_undo_20 : decode cX7_undo 20 = .ok (.ldc 131, 2) := by decide +kernel
theorem dX7_undo_22 : decode cX7_undo 22 = .ok (.invokespecial 97, 3) := by decide +kernel
theorem dX7_undo_25 : decode cX7_undo 25 = .ok (.athrow, 1) := by decide +kernel
theorem dX7_undo_26 : decode cX7_undo 26 = .ok (.aload_n 2, 1) := by decide +kernel
theorem dX7_undo_27 : decode cX7_undo 27 = .ok (.getfield 79, 3) := by decide +kernel
theorem dX7_undo_30 : decode cX7_undo 30 = .ok (.aload_n 2, 1) := by decide +kernel
theorem dX7_undo_31 : decode cX7_undo 31 = .ok (.getfield 65, 3) := by decide +kernel
theorem dX7_undo_34 : decode cX7_undo 34 = .ok (.invokevirtual 133, 3) := by decide +kernel
theorem dX7_undo_37 : decode cX7_undo 37 = .ok (.aload_n 2, 1) := by decide +kernel
theorem dX7_undo_38 : decode cX7_undo 38 = .ok (.getfield 79, 3) := by decide +kernel
theorem dX7_undo_41 : decode cX7_undo 41 = .ok (.getfield 128, 3) := by decide +kernel
theorem dX7_undo_44 : decode cX7_undo 44 = .ok (.ireturn, 1) := by decide +kernel
theorem dX7_tasks_0 : decode cX7_tasks 0 = .ok (.aload_n 0, 1) := by decide +kernel
theorem dX7_tasks_1 : decode cX7_tasks 1 = .ok (.iload_n 1, 1) := by decide +kernel
theorem dX7_tasks_2 : decode cX7_tasks 2 = .ok (.invokevirtual 53, 3) := by decide +kernel
theorem dX7_tasks_5 : decode cX7_tasks 5 = .ok (.getfield 65, 3) := by decide +kernel
theorem dX7_tasks_8 : decode cX7_tasks 8 = .ok (.invokevirtual 137, 3) := by decide +kernel
theorem dX7_tasks_11 : decode cX7_tasks 11 = .ok (.ireturn, 1) := by decide +kernel
theorem dX7_length_0 : decode cX7_length 0 = .ok (.aload_n 0, 1) := by decide +kernel
theorem dX7_length_1 : decode cX7_length 1 = .ok (.iload_n 1, 1) := by decide +kernel
theorem dX7_length_2 : decode cX7_length 2 = .ok (.invokevirtual 53, 3) := by decide +kernel
theorem dX7_length_5 : decode cX7_length 5 = .ok (.astore_n 3, 1) := by decide +kernel
theorem dX7_length_6 : decode cX7_length 6 = .ok (.iload_n 2, 1) := by decide +kernel
theorem dX7_length_7 : decode cX7_length 7 = .ok (.invokestatic 57, 3) := by decide +kernel
theorem dX7_length_10 : decode cX7_length 10 = .ok (.aload_n 3, 1) := by decide +kernel
theorem dX7_length_11 : decode cX7_length 11 = .ok (.getfield 65, 3) := by decide +kernel
theorem dX7_length_14 : decode cX7_length 14 = .ok (.getfield 105, 3) := by decide +kernel
theorem dX7_length_17 : decode cX7_length 17 = .ok (.iload_n 2, 1) := by decide +kernel
theorem dX7_length_18 : decode cX7_length 18 = .ok (.iaload, 1) := by decide +kernel
theorem dX7_length_19 : decode cX7_length 19 = .ok (.ireturn, 1) := by decide +kernel
theorem dX7_crew_0 : decode cX7_crew 0 = .ok (.aload_n 0, 1) := by decide +kernel
theorem dX7_crew_1 : decode cX7_crew 1 = .ok (.iload_n 1, 1) := by decide +kernel
theorem dX7_crew_2 : decode cX7_crew 2 = .ok (.invokevirtual 53, 3) := by decide +kernel
theorem dX7_crew_5 : decode cX7_crew 5 = .ok (.astore_n 3, 1) := by decide +kernel
theorem dX7_crew_6 : decode cX7_crew 6 = .ok (.iload_n 2, 1) := by decide +kernel
theorem dX7_crew_7 : decode cX7_crew 7 = .ok (.invokestatic 57, 3) := by decide +kernel
theorem dX7_crew_10 : decode cX7_crew 10 = .ok (.aload_n 3, 1) := by decide +kernel
theorem dX7_crew_11 : decode cX7_crew 11 = .ok (.getfield 65, 3) := by decide +kernel
theorem dX7_crew_14 : decode cX7_crew 14 = .ok (.getfield 141, 3) := by decide +kernel
theorem dX7_crew_17 : decode cX7_crew 17 = .ok (.iload_n 2, 1) := by decide +kernel
theorem dX7_crew_18 : decode cX7_crew 18 = .ok (.iaload, 1) := by decide +kernel
theorem dX7_crew_19 : decode cX7_crew 19 = .ok (.ireturn, 1) := by decide +kernel
theorem dX7_needs_0 : decode cX7_needs 0 = .ok (.aload_n 0, 1) := by decide +kernel
theorem dX7_needs_1 : decode cX7_needs 1 = .ok (.iload_n 1, 1) := by decide +kernel
theorem dX7_needs_2 : decode cX7_needs 2 = .ok (.invokevirtual 53, 3) := by decide +kernel
theorem dX7_needs_5 : decode cX7_needs 5 = .ok (.astore_n 3, 1) := by decide +kernel
theorem dX7_needs_6 : decode cX7_needs 6 = .ok (.iload_n 2, 1) := by decide +kernel
theorem dX7_needs_7 : decode cX7_needs 7 = .ok (.invokestatic 57, 3) := by decide +kernel
theorem dX7_needs_10 : decode cX7_needs 10 = .ok (.aload_n 3, 1) := by decide +kernel
theorem dX7_needs_11 : decode cX7_needs 11 = .ok (.getfield 65, 3) := by decide +kernel
theorem dX7_needs_14 : decode cX7_needs 14 = .ok (.getfield 75, 3) := by decide +kernel
theorem dX7_needs_17 : decode cX7_needs 17 = .ok (.iload_n 2, 1) := by decide +kernel
theorem dX7_needs_18 : decode cX7_needs 18 = .ok (.iaload, 1) := by decide +kernel
theorem dX7_needs_19 : decode cX7_needs 19 = .ok (.ireturn, 1) := by decide +kernel
theorem dX7_cost_0 : decode cX7_cost 0 = .ok (.aload_n 0, 1) := by decide +kernel
theorem dX7_cost_1 : decode cX7_cost 1 = .ok (.iload_n 1, 1) := by decide +kernel
theorem dX7_cost_2 : decode cX7_cost 2 = .ok (.invokevirtual 53, 3) := by decide +kernel
theorem dX7_cost_5 : decode cX7_cost 5 = .ok (.getfield 65, 3) := by decide +kernel
theorem dX7_cost_8 : decode cX7_cost 8 = .ok (.invokevirtual 143, 3) := by decide +kernel
theorem dX7_cost_11 : decode cX7_cost 11 = .ok (.ireturn, 1) := by decide +kernel
theorem dX7_begin_0 : decode cX7_begin 0 = .ok (.aload_n 0, 1) := by decide +kernel
theorem dX7_begin_1 : decode cX7_begin 1 = .ok (.iload_n 1, 1) := by decide +kernel
theorem dX7_begin_2 : decode cX7_begin 2 = .ok (.invokevirtual 53, 3) := by decide +kernel
theorem dX7_begin_5 : decode cX7_begin 5 = .ok (.astore_n 2, 1) := by decide +kernel
theorem dX7_begin_6 : decode cX7_begin 6 = .ok (.aload_n 0, 1) := by decide +kernel
theorem dX7_begin_7 : decode cX7_begin 7 = .ok (.getfield 18, 3) := by decide +kernel
theorem dX7_begin_10 : decode cX7_begin 10 = .ok (.istore_n 3, 1) := by decide +kernel
theorem dX7_begin_11 : decode cX7_begin 11 = .ok (.iload_n 3, 1) := by decide +kernel
theorem dX7_begin_12 : decode cX7_begin 12 = .ok (.ifCond .lt 12, 3) := by decide +kernel
theorem dX7_begin_15 : decode cX7_begin 15 = .ok (.iload_n 3, 1) := by decide +kernel
theorem dX7_begin_16 : decode cX7_begin 16 = .ok (.aload_n 0, 1) := by decide +kernel
theorem dX7_begin_17 : decode cX7_begin 17 = .ok (.getfield 11, 3) := by decide +kernel
theorem dX7_begin_20 : decode cX7_begin 20 = .ok (.arraylength, 1) := by decide +kernel
theorem dX7_begin_21 : decode cX7_begin 21 = .ok (.if_icmp .lt 13, 3) := by decide +kernel
theorem dX7_begin_24 : decode cX7_begin 24 = .ok (.new 93, 3) := by decide +kernel
theorem dX7_begin_27 : decode cX7_begin 27 = .ok (.dup, 1) := by decide +kernel
theorem dX7_begin_28 : decode cX7_begin 28 = .ok (.ldc 146, 2) := by decide +kernel
theorem dX7_begin_30 : decode cX7_begin 30 = .ok (.invokespecial 97, 3) := by decide +kernel
theorem dX7_begin_33 : decode cX7_begin 33 = .ok (.athrow, 1) := by decide +kernel
theorem dX7_begin_34 : decode cX7_begin 34 = .ok (.new 9, 3) := by decide +kernel
theorem dX7_begin_37 : decode cX7_begin 37 = .ok (.dup, 1) := by decide +kernel
theorem dX7_begin_38 : decode cX7_begin 38 = .ok (.iload_n 3, 1) := by decide +kernel
theorem dX7_begin_39 : decode cX7_begin 39 = .ok (.aload_n 2, 1) := by decide +kernel
theorem dX7_begin_40 : decode cX7_begin 40 = .ok (.invokespecial 15, 3) := by decide +kernel
theorem dX7_begin_43 : decode cX7_begin 43 = .ok (.astore 4, 2) := by decide +kernel
theorem dX7_begin_45 : decode cX7_begin 45 = .ok (.aload 4, 2) := by decide +kernel
theorem dX7_begin_47 : decode cX7_begin 47 = .ok (.getfield 65, 3) := by decide +kernel
theorem dX7_begin_50 : decode cX7_begin 50 = .ok (.aload_n 2, 1) := by decide +kernel
theorem dX7_begin_51 : decode cX7_begin 51 = .ok (.getfield 65, 3) := by decide +kernel
theorem dX7_begin_54 : decode cX7_begin 54 = .ok (.invokevirtual 148, 3) := by decide +kernel
theorem dX7_begin_57 : decode cX7_begin 57 = .ok (.aload 4, 2) := by decide +kernel
theorem dX7_begin_59 : decode cX7_begin 59 = .ok (.getfield 151, 3) := by decide +kernel
theorem dX7_begin_62 : decode cX7_begin 62 = .ok (.aload_n 2, 1) := by decide +kernel
theorem dX7_begin_63 : decode cX7_begin 63 = .ok (.getfield 65, 3) := by decide +kernel
theorem dX7_begin_66 : decode cX7_begin 66 = .ok (.invokevirtual 148, 3) := by decide +kernel
theorem dX7_begin_69 : decode cX7_begin 69 = .ok (.aload_n 2, 1) := by decide +kernel
theorem dX7_begin_70 : decode cX7_begin 70 = .ok (.getfield 79, 3) := by decide +kernel
theorem dX7_begin_73 : decode cX7_begin 73 = .ok (.invokevirtual 154, 3) := by decide +kernel
theorem dX7_begin_76 : decode cX7_begin 76 = .ok (.aload_n 0, 1) := by decide +kernel
theorem dX7_begin_77 : decode cX7_begin 77 = .ok (.getfield 11, 3) := by decide +kernel
theorem dX7_begin_80 : decode cX7_begin 80 = .ok (.iload_n 3, 1) := by decide +kernel
theorem dX7_begin_81 : decode cX7_begin 81 = .ok (.aload 4, 2) := by decide +kernel
theorem dX7_begin_83 : decode cX7_begin 83 = .ok (.aastore, 1) := by decide +kernel
theorem dX7_begin_84 : decode cX7_begin 84 = .ok (.aload_n 0, 1) := by decide +kernel
theorem dX7_begin_85 : decode cX7_begin 85 = .ok (.iload_n 3, 1) := by decide +kernel
theorem dX7_begin_86 : decode cX7_begin 86 = .ok (.iconst 1, 1) := by decide +kernel
theorem dX7_begin_87 : decode cX7_begin 87 = .ok (.iadd, 1) := by decide +kernel
theorem dX7_begin_88 : decode cX7_begin 88 = .ok (.putfield 18, 3) := by decide +kernel
theorem dX7_begin_91 : decode cX7_begin 91 = .ok (.iload_n 3, 1) := by decide +kernel
theorem dX7_begin_92 : decode cX7_begin 92 = .ok (.ireturn, 1) := by decide +kernel
theorem dX7_branches_0 : decode cX7_branches 0 = .ok (.aload_n 0, 1) := by decide +kernel
theorem dX7_branches_1 : decode cX7_branches 1 = .ok (.getfield 18, 3) := by decide +kernel
theorem dX7_branches_4 : decode cX7_branches 4 = .ok (.ireturn, 1) := by decide +kernel
theorem dX7_parent_0 : decode cX7_parent 0 = .ok (.aload_n 0, 1) := by decide +kernel
theorem dX7_parent_1 : decode cX7_parent 1 = .ok (.iload_n 1, 1) := by decide +kernel
theorem dX7_parent_2 : decode cX7_parent 2 = .ok (.invokevirtual 53, 3) := by decide +kernel
theorem dX7_parent_5 : decode cX7_parent 5 = .ok (.getfield 157, 3) := by decide +kernel
theorem dX7_parent_8 : decode cX7_parent 8 = .ok (.astore_n 2, 1) := by decide +kernel
theorem dX7_parent_9 : decode cX7_parent 9 = .ok (.aload_n 2, 1) := by decide +kernel
theorem dX7_parent_10 : decode cX7_parent 10 = .ok (.ifnonnull 7, 3) := by decide +kernel
theorem dX7_parent_13 : decode cX7_parent 13 = .ok (.iconst (-1), 1) := by decide +kernel
theorem dX7_parent_14 : decode cX7_parent 14 = .ok (.goto 7, 3) := by decide +kernel
theorem dX7_parent_17 : decode cX7_parent 17 = .ok (.aload_n 2, 1) := by decide +kernel
theorem dX7_parent_18 : decode cX7_parent 18 = .ok (.getfield 161, 3) := by decide +kernel
theorem dX7_parent_21 : decode cX7_parent 21 = .ok (.ireturn, 1) := by decide +kernel
theorem dX7_setBudget_0 : decode cX7_setBudget 0 = .ok (.aload_n 0, 1) := by decide +kernel
theorem dX7_setBudget_1 : decode cX7_setBudget 1 = .ok (.iload_n 1, 1) := by decide +kernel
theorem dX7_setBudget_2 : decode cX7_setBudget 2 = .ok (.invokevirtual 53, 3) := by decide +kernel
theorem dX7_setBudget_5 : decode cX7_setBudget 5 = .ok (.astore_n 3, 1) := by decide +kernel
theorem dX7_setBudget_6 : decode cX7_setBudget 6 = .ok (.iload_n 2, 1) := by decide +kernel
theorem dX7_setBudget_7 : decode cX7_setBudget 7 = .ok (.iconst 0, 1) := by decide +kernel
theorem dX7_setBudget_8 : decode cX7_setBudget 8 = .ok (.ldc 164, 2) := by decide +kernel
theorem dX7_setBudget_10 : decode cX7_setBudget 10 = .ok (.invokestatic 61, 3) := by decide +kernel
theorem dX7_setBudget_13 : decode cX7_setBudget 13 = .ok (.aload_n 3, 1) := by decide +kernel
theorem dX7_setBudget_14 : decode cX7_setBudget 14 = .ok (.getfield 165, 3) := by decide +kernel
theorem dX7_setBudget_17 : decode cX7_setBudget 17 = .ok (.istore 4, 2) := by decide +kernel
theorem dX7_setBudget_19 : decode cX7_setBudget 19 = .ok (.aload_n 3, 1) := by decide +kernel
theorem dX7_setBudget_20 : decode cX7_setBudget 20 = .ok (.iload_n 2, 1) := by decide +kernel
theorem dX7_setBudget_21 : decode cX7_setBudget 21 = .ok (.putfield 165, 3) := by decide +kernel
theorem dX7_setBudget_24 : decode cX7_setBudget 24 = .ok (.iload 4, 2) := by decide +kernel
theorem dX7_setBudget_26 : decode cX7_setBudget 26 = .ok (.ireturn, 1) := by decide +kernel
theorem dX7_resolve_0 : decode cX7_resolve 0 = .ok (.aload_n 0, 1) := by decide +kernel
theorem dX7_resolve_1 : decode cX7_resolve 1 = .ok (.iload_n 1, 1) := by decide +kernel
theorem dX7_resolve_2 : decode cX7_resolve 2 = .ok (.invokevirtual 53, 3) := by decide +kernel
theorem dX7_resolve_5 : decode cX7_resolve 5 = .ok (.astore 4, 2) := by decide +kernel
theorem dX7_resolve_7 : decode cX7_resolve 7 = .ok (.iload_n 2, 1) := by decide +kernel
theorem dX7_resolve_8 : decode cX7_resolve 8 = .ok (.invokestatic 57, 3) := by decide +kernel
theorem dX7_resolve_11 : decode cX7_resolve 11 = .ok (.iload_n 3, 1) := by decide +kernel
theorem dX7_resolve_12 : decode cX7_resolve 12 = .ok (.iconst (-1), 1) := by decide +kernel
theorem dX7_resolve_13 : decode cX7_resolve 13 = .ok (.iconst 1, 1) := by decide +kernel
theorem dX7_resolve_14 : decode cX7_resolve 14 = .ok (.invokestatic 61, 3) := by decide +kernel
theorem dX7_resolve_17 : decode cX7_resolve 17 = .ok (.aload 4, 2) := by decide +kernel
theorem dX7_resolve_19 : decode cX7_resolve 19 = .ok (.getfield 157, 3) := by decide +kernel
theorem dX7_resolve_22 : decode cX7_resolve 22 = .ok (.ifnonnull 13, 3) := by decide +kernel
theorem dX7_resolve_25 : decode cX7_resolve 25 = .ok (.new 93, 3) := by decide +kernel
theorem dX7_resolve_28 : decode cX7_resolve 28 = .ok (.dup, 1) := by decide +kernel
theorem dX7_resolve_29 : decode cX7_resolve 29 = .ok (.ldc 168, 2) := by decide +kernel
theorem dX7_resolve_31 : decode cX7_resolve 31 = .ok (.invokespecial 97, 3) := by decide +kernel
theorem dX7_resolve_34 : decode cX7_resolve 34 = .ok (.athrow, 1) := by decide +kernel
theorem dX7_resolve_35 : decode cX7_resolve 35 = .ok (.aload 4, 2) := by decide +kernel
theorem dX7_resolve_37 : decode cX7_resolve 37 = .ok (.getfield 170, 3) := by decide +kernel
theorem dX7_resolve_40 : decode cX7_resolve 40 = .ok (.iload_n 2, 1) := by decide +kernel
theorem dX7_resolve_41 : decode cX7_resolve 41 = .ok (.iaload, 1) := by decide +kernel
theorem dX7_resolve_42 : decode cX7_resolve 42 = .ok (.istore 5, 2) := by decide +kernel
theorem dX7_resolve_44 : decode cX7_resolve 44 = .ok (.aload 4, 2) := by decide +kernel
theorem dX7_resolve_46 : decode cX7_resolve 46 = .ok (.getfield 170, 3) := by decide +kernel
theorem dX7_resolve_49 : decode cX7_resolve 49 = .ok (.iload_n 2, 1) := by decide +kernel
theorem dX7_resolve_50 : decode cX7_resolve 50 = .ok (.iload_n 3, 1) := by decide +kernel
theorem dX7_resolve_51 : decode cX7_resolve 51 = .ok (.iastore, 1) := by decide +kernel
theorem dX7_resolve_52 : decode cX7_resolve 52 = .ok (.iload 5, 2) := by decide +kernel
theorem dX7_resolve_54 : decode cX7_resolve 54 = .ok (.ireturn, 1) := by decide +kernel
theorem dX7_clashes_0 : decode cX7_clashes 0 = .ok (.aload_n 0, 1) := by decide +kernel
theorem dX7_clashes_1 : decode cX7_clashes 1 = .ok (.iload_n 1, 1) := by decide +kernel
theorem dX7_clashes_2 : decode cX7_clashes 2 = .ok (.invokevirtual 53, 3) := by decide +kernel
theorem dX7_clashes_5 : decode cX7_clashes 5 = .ok (.astore_n 2, 1) := by decide +kernel
theorem dX7_clashes_6 : decode cX7_clashes 6 = .ok (.aload_n 2, 1) := by decide +kernel
theorem dX7_clashes_7 : decode cX7_clashes 7 = .ok (.getfield 157, 3) := by decide +kernel
theorem dX7_clashes_10 : decode cX7_clashes 10 = .ok (.astore_n 3, 1) := by decide +kernel
theorem dX7_clashes_11 : decode cX7_clashes 11 = .ok (.aload_n 3, 1) := by decide +kernel
theorem dX7_clashes_12 : decode cX7_clashes 12 = .ok (.ifnonnull 5, 3) := by decide +kernel
theorem dX7_clashes_15 : decode cX7_clashes 15 = .ok (.iconst 0, 1) := by decide +kernel
theorem dX7_clashes_16 : decode cX7_clashes 16 = .ok (.ireturn, 1) := by decide +kernel
theorem dX7_clashes_17 : decode cX7_clashes 17 = .ok (.aload_n 0, 1) := by decide +kernel
theorem dX7_clashes_18 : decode cX7_clashes 18 = .ok (.getfield 32, 3) := by decide +kernel
theorem dX7_clashes_21 : decode cX7_clashes 21 = .ok (.aload_n 2, 1) := by decide +kernel
theorem dX7_clashes_22 : decode cX7_clashes 22 = .ok (.aload_n 3, 1) := by decide +kernel
theorem dX7_clashes_23 : decode cX7_clashes 23 = .ok (.invokevirtual 173, 3) := by decide +kernel
theorem dX7_clashes_26 : decode cX7_clashes 26 = .ok (.aload_n 0, 1) := by decide +kernel
theorem dX7_clashes_27 : decode cX7_clashes 27 = .ok (.getfield 32, 3) := by decide +kernel
theorem dX7_clashes_30 : decode cX7_clashes 30 = .ok (.getfield 177, 3) := by decide +kernel
theorem dX7_clashes_33 : decode cX7_clashes 33 = .ok (.ireturn, 1) := by decide +kernel
theorem dX7_reason_0 : decode cX7_reason 0 = .ok (.aload_n 0, 1) := by decide +kernel
theorem dX7_reason_1 : decode cX7_reason 1 = .ok (.iload_n 1, 1) := by decide +kernel
theorem dX7_reason_2 : decode cX7_reason 2 = .ok (.invokevirtual 53, 3) := by decide +kernel
theorem dX7_reason_5 : decode cX7_reason 5 = .ok (.astore_n 3, 1) := by decide +kernel
theorem dX7_reason_6 : decode cX7_reason 6 = .ok (.aload_n 3, 1) := by decide +kernel
theorem dX7_reason_7 : decode cX7_reason 7 = .ok (.invokestatic 180, 3) := by decide +kernel
theorem dX7_reason_10 : decode cX7_reason 10 = .ok (.astore 4, 2) := by decide +kernel
theorem dX7_reason_12 : decode cX7_reason 12 = .ok (.aload_n 0, 1) := by decide +kernel
theorem dX7_reason_13 : decode cX7_reason 13 = .ok (.aload_n 3, 1) := by decide +kernel
theorem dX7_reason_14 : decode cX7_reason 14 = .ok (.aload 4, 2) := by decide +kernel
theorem dX7_reason_16 : decode cX7_reason 16 = .ok (.iload_n 2, 1) := by decide +kernel
theorem dX7_reason_17 : decode cX7_reason 17 = .ok (.ifCond .eq 8, 3) := by decide +kernel
theorem dX7_reason_20 : decode cX7_reason 20 = .ok (.aload 4, 2) := by decide +kernel
theorem dX7_reason_22 : decode cX7_reason 22 = .ok (.goto 4, 3) := by decide +kernel
theorem dX7_reason_25 : decode cX7_reason 25 = .ok (.aload_n 3, 1) := by decide +kernel
theorem dX7_reason_26 : decode cX7_reason 26 = .ok (.invokevirtual 184, 3) := by decide +kernel
theorem dX7_reason_29 : decode cX7_reason 29 = .ok (.ireturn, 1) := by decide +kernel
theorem dX7_reasonTask_0 : decode cX7_reasonTask 0 = .ok (.aload_n 0, 1) := by decide +kernel
theorem dX7_reasonTask_1 : decode cX7_reasonTask 1 = .ok (.iload_n 1, 1) := by decide +kernel
theorem dX7_reasonTask_2 : decode cX7_reasonTask 2 = .ok (.invokevirtual 53, 3) := by decide +kernel
theorem dX7_reasonTask_5 : decode cX7_reasonTask 5 = .ok (.astore_n 3, 1) := by decide +kernel
theorem dX7_reasonTask_6 : decode cX7_reasonTask 6 = .ok (.aload_n 3, 1) := by decide +kernel
theorem dX7_reasonTask_7 : decode cX7_reasonTask 7 = .ok (.invokestatic 180, 3) := by decide +kernel
theorem dX7_reasonTask_10 : decode cX7_reasonTask 10 = .ok (.astore 4, 2) := by decide +kernel
theorem dX7_reasonTask_12 : decode cX7_reasonTask 12 = .ok (.aload_n 0, 1) := by decide +kernel
theorem dX7_reasonTask_13 : decode cX7_reasonTask 13 = .ok (.aload_n 3, 1) := by decide +kernel
theorem dX7_reasonTask_14 : decode cX7_reasonTask 14 = .ok (.aload 4, 2) := by decide +kernel
theorem dX7_reasonTask_16 : decode cX7_reasonTask 16 = .ok (.iload_n 2, 1) := by decide +kernel
theorem dX7_reasonTask_17 : decode cX7_reasonTask 17 = .ok (.ifCond .eq 8, 3) := by decide +kernel
theorem dX7_reasonTask_20 : decode cX7_reasonTask 20 = .ok (.aload 4, 2) := by decide +kernel
theorem dX7_reasonTask_22 : decode cX7_reasonTask 22 = .ok (.goto 4, 3) := by decide +kernel
theorem dX7_reasonTask_25 : decode cX7_reasonTask 25 = .ok (.aload_n 3, 1) := by decide +kernel
theorem dX7_reasonTask_26 : decode cX7_reasonTask 26 = .ok (.invokevirtual 184, 3) := by decide +kernel
theorem dX7_reasonTask_29 : decode cX7_reasonTask 29 = .ok (.pop, 1) := by decide +kernel
theorem dX7_reasonTask_30 : decode cX7_reasonTask 30 = .ok (.aload_n 0, 1) := by decide +kernel
theorem dX7_reasonTask_31 : decode cX7_reasonTask 31 = .ok (.getfield 50, 3) := by decide +kernel
theorem dX7_reasonTask_34 : decode cX7_reasonTask 34 = .ok (.invokestatic 188, 3) := by decide +kernel
theorem dX7_reasonTask_37 : decode cX7_reasonTask 37 = .ok (.ireturn, 1) := by decide +kernel
theorem dX7_merge_0 : decode cX7_merge 0 = .ok (.aload_n 0, 1) := by decide +kernel
theorem dX7_merge_1 : decode cX7_merge 1 = .ok (.iload_n 1, 1) := by decide +kernel
theorem dX7_merge_2 : decode cX7_merge 2 = .ok (.invokevirtual 53, 3) := by decide +kernel
theorem dX7_merge_5 : decode cX7_merge 5 = .ok (.astore_n 2, 1) := by decide +kernel
theorem dX7_merge_6 : decode cX7_merge 6 = .ok (.aload_n 2, 1) := by decide +kernel
theorem dX7_merge_7 : decode cX7_merge 7 = .ok (.invokestatic 180, 3) := by decide +kernel
theorem dX7_merge_10 : decode cX7_merge 10 = .ok (.astore_n 3, 1) := by decide +kernel
theorem dX7_merge_11 : decode cX7_merge 11 = .ok (.aload_n 0, 1) := by decide +kernel
theorem dX7_merge_12 : decode cX7_merge 12 = .ok (.aload_n 2, 1) := by decide +kernel
theorem dX7_merge_13 : decode cX7_merge 13 = .ok (.aload_n 3, 1) := by decide +kernel
theorem dX7_merge_14 : decode cX7_merge 14 = .ok (.aload_n 3, 1) := by decide +kernel
theorem dX7_merge_15 : decode cX7_merge 15 = .ok (.invokevirtual 184, 3) := by decide +kernel
theorem dX7_merge_18 : decode cX7_merge 18 = .ok (.ifCond .eq 13, 3) := by decide +kernel
theorem dX7_merge_21 : decode cX7_merge 21 = .ok (.new 93, 3) := by decide +kernel
theorem dX7_merge_24 : decode cX7_merge 24 = .ok (.dup, 1) := by decide +kernel
theorem dX7_merge_25 : decode cX7_merge 25 = .ok (.ldc 191, 2) := by decide +kernel
theorem dX7_merge_27 : decode cX7_merge 27 = .ok (.invokespecial 97, 3) := by decide +kernel
theorem dX7_merge_30 : decode cX7_merge 30 = .ok (.athrow, 1) := by decide +kernel
theorem dX7_merge_31 : decode cX7_merge 31 = .ok (.aload_n 3, 1) := by decide +kernel
theorem dX7_merge_32 : decode cX7_merge 32 = .ok (.getfield 65, 3) := by decide +kernel
theorem dX7_merge_35 : decode cX7_merge 35 = .ok (.aload_n 0, 1) := by decide +kernel
theorem dX7_merge_36 : decode cX7_merge 36 = .ok (.getfield 32, 3) := by decide +kernel
theorem dX7_merge_39 : decode cX7_merge 39 = .ok (.getfield 193, 3) := by decide +kernel
theorem dX7_merge_42 : decode cX7_merge 42 = .ok (.invokevirtual 194, 3) := by decide +kernel
theorem dX7_merge_45 : decode cX7_merge 45 = .ok (.istore 4, 2) := by decide +kernel
theorem dX7_merge_47 : decode cX7_merge 47 = .ok (.aload_n 3, 1) := by decide +kernel
theorem dX7_merge_48 : decode cX7_merge 48 = .ok (.getfield 65, 3) := by decide +kernel
theorem dX7_merge_51 : decode cX7_merge 51 = .ok (.aload_n 0, 1) := by decide +kernel
theorem dX7_merge_52 : decode cX7_merge 52 = .ok (.getfield 32, 3) := by decide +kernel
theorem dX7_merge_55 : decode cX7_merge 55 = .ok (.getfield 193, 3) := by decide +kernel
theorem dX7_merge_58 : decode cX7_merge 58 = .ok (.invokevirtual 148, 3) := by decide +kernel
theorem dX7_merge_61 : decode cX7_merge 61 = .ok (.aload_n 3, 1) := by decide +kernel
theorem dX7_merge_62 : decode cX7_merge 62 = .ok (.getfield 79, 3) := by decide +kernel
theorem dX7_merge_65 : decode cX7_merge 65 = .ok (.invokevirtual 154, 3) := by decide +kernel
theorem dX7_merge_68 : decode cX7_merge 68 = .ok (.aload_n 2, 1) := by decide +kernel
theorem dX7_merge_69 : decode cX7_merge 69 = .ok (.getfield 65, 3) := by decide +kernel
theorem dX7_merge_72 : decode cX7_merge 72 = .ok (.aload_n 0, 1) := by decide +kernel
theorem dX7_merge_73 : decode cX7_merge 73 = .ok (.getfield 32, 3) := by decide +kernel
theorem dX7_merge_76 : decode cX7_merge 76 = .ok (.getfield 193, 3) := by decide +kernel
theorem dX7_merge_79 : decode cX7_merge 79 = .ok (.invokevirtual 148, 3) := by decide +kernel
theorem dX7_merge_82 : decode cX7_merge 82 = .ok (.aload_n 2, 1) := by decide +kernel
theorem dX7_merge_83 : decode cX7_merge 83 = .ok (.aload_n 0, 1) := by decide +kernel
theorem dX7_merge_84 : decode cX7_merge 84 = .ok (.getfield 32, 3) := by decide +kernel
theorem dX7_merge_87 : decode cX7_merge 87 = .ok (.getfield 193, 3) := by decide +kernel
theorem dX7_merge_90 : decode cX7_merge 90 = .ok (.invokevirtual 198, 3) := by decide +kernel
theorem dX7_merge_93 : decode cX7_merge 93 = .ok (.iload 4, 2) := by decide +kernel
theorem dX7_merge_95 : decode cX7_merge 95 = .ok (.ireturn, 1) := by decide +kernel
theorem dX7_update_0 : decode cX7_update 0 = .ok (.aload_n 0, 1) := by decide +kernel
theorem dX7_update_1 : decode cX7_update 1 = .ok (.iload_n 1, 1) := by decide +kernel
theorem dX7_update_2 : decode cX7_update 2 = .ok (.invokevirtual 53, 3) := by decide +kernel
theorem dX7_update_5 : decode cX7_update 5 = .ok (.astore_n 2, 1) := by decide +kernel
theorem dX7_update_6 : decode cX7_update 6 = .ok (.aload_n 2, 1) := by decide +kernel
theorem dX7_update_7 : decode cX7_update 7 = .ok (.invokestatic 180, 3) := by decide +kernel
theorem dX7_update_10 : decode cX7_update 10 = .ok (.astore_n 3, 1) := by decide +kernel
theorem dX7_update_11 : decode cX7_update 11 = .ok (.aload_n 0, 1) := by decide +kernel
theorem dX7_update_12 : decode cX7_update 12 = .ok (.aload_n 2, 1) := by decide +kernel
theorem dX7_update_13 : decode cX7_update 13 = .ok (.aload_n 3, 1) := by decide +kernel
theorem dX7_update_14 : decode cX7_update 14 = .ok (.aload_n 2, 1) := by decide +kernel
theorem dX7_update_15 : decode cX7_update 15 = .ok (.invokevirtual 184, 3) := by decide +kernel
theorem dX7_update_18 : decode cX7_update 18 = .ok (.ifCond .eq 13, 3) := by decide +kernel
theorem dX7_update_21 : decode cX7_update 21 = .ok (.new 93, 3) := by decide +kernel
theorem dX7_update_24 : decode cX7_update 24 = .ok (.dup, 1) := by decide +kernel
theorem dX7_update_25 : decode cX7_update 25 = .ok (.ldc 201, 2) := by decide +kernel
theorem dX7_update_27 : decode cX7_update 27 = .ok (.invokespecial 97, 3) := by decide +kernel
theorem dX7_update_30 : decode cX7_update 30 = .ok (.athrow, 1) := by decide +kernel
theorem dX7_update_31 : decode cX7_update 31 = .ok (.aload_n 2, 1) := by decide +kernel
theorem dX7_update_32 : decode cX7_update 32 = .ok (.getfield 65, 3) := by decide +kernel
theorem dX7_update_35 : decode cX7_update 35 = .ok (.aload_n 0, 1) := by decide +kernel
theorem dX7_update_36 : decode cX7_update 36 = .ok (.getfield 32, 3) := by decide +kernel
theorem dX7_update_39 : decode cX7_update 39 = .ok (.getfield 193, 3) := by decide +kernel
theorem dX7_update_42 : decode cX7_update 42 = .ok (.invokevirtual 194, 3) := by decide +kernel
theorem dX7_update_45 : decode cX7_update 45 = .ok (.istore 4, 2) := by decide +kernel
theorem dX7_update_47 : decode cX7_update 47 = .ok (.aload_n 2, 1) := by decide +kernel
theorem dX7_update_48 : decode cX7_update 48 = .ok (.getfield 65, 3) := by decide +kernel
theorem dX7_update_51 : decode cX7_update 51 = .ok (.aload_n 0, 1) := by decide +kernel
theorem dX7_update_52 : decode cX7_update 52 = .ok (.getfield 32, 3) := by decide +kernel
theorem dX7_update_55 : decode cX7_update 55 = .ok (.getfield 193, 3) := by decide +kernel
theorem dX7_update_58 : decode cX7_update 58 = .ok (.invokevirtual 148, 3) := by decide +kernel
theorem dX7_update_61 : decode cX7_update 61 = .ok (.aload_n 2, 1) := by decide +kernel
theorem dX7_update_62 : decode cX7_update 62 = .ok (.aload_n 3, 1) := by decide +kernel
theorem dX7_update_63 : decode cX7_update 63 = .ok (.getfield 65, 3) := by decide +kernel
theorem dX7_update_66 : decode cX7_update 66 = .ok (.invokevirtual 198, 3) := by decide +kernel
theorem dX7_update_69 : decode cX7_update 69 = .ok (.iload 4, 2) := by decide +kernel
theorem dX7_update_71 : decode cX7_update 71 = .ok (.ireturn, 1) := by decide +kernel
theorem dX7_give_0 : decode cX7_give 0 = .ok (.aload_n 0, 1) := by decide +kernel
theorem dX7_give_1 : decode cX7_give 1 = .ok (.iload_n 2, 1) := by decide +kernel
theorem dX7_give_2 : decode cX7_give 2 = .ok (.invokevirtual 53, 3) := by decide +kernel
theorem dX7_give_5 : decode cX7_give 5 = .ok (.pop, 1) := by decide +kernel
theorem dX7_give_6 : decode cX7_give 6 = .ok (.iload_n 1, 1) := by decide +kernel
theorem dX7_give_7 : decode cX7_give 7 = .ok (.iconst 0, 1) := by decide +kernel
theorem dX7_give_8 : decode cX7_give 8 = .ok (.iconst 4, 1) := by decide +kernel
theorem dX7_give_9 : decode cX7_give 9 = .ok (.invokestatic 61, 3) := by decide +kernel
theorem dX7_give_12 : decode cX7_give 12 = .ok (.aload_n 0, 1) := by decide +kernel
theorem dX7_give_13 : decode cX7_give 13 = .ok (.getfield 25, 3) := by decide +kernel
theorem dX7_give_16 : decode cX7_give 16 = .ok (.getfield 203, 3) := by decide +kernel
theorem dX7_give_19 : decode cX7_give 19 = .ok (.iload_n 1, 1) := by decide +kernel
theorem dX7_give_20 : decode cX7_give 20 = .ok (.iaload, 1) := by decide +kernel
theorem dX7_give_21 : decode cX7_give 21 = .ok (.istore_n 3, 1) := by decide +kernel
theorem dX7_give_22 : decode cX7_give 22 = .ok (.aload_n 0, 1) := by decide +kernel
theorem dX7_give_23 : decode cX7_give 23 = .ok (.getfield 25, 3) := by decide +kernel
theorem dX7_give_26 : decode cX7_give 26 = .ok (.getfield 203, 3) := by decide +kernel
theorem dX7_give_29 : decode cX7_give 29 = .ok (.iload_n 1, 1) := by decide +kernel
theorem dX7_give_30 : decode cX7_give 30 = .ok (.iload_n 2, 1) := by decide +kernel
theorem dX7_give_31 : decode cX7_give 31 = .ok (.iastore, 1) := by decide +kernel
theorem dX7_give_32 : decode cX7_give 32 = .ok (.iload_n 3, 1) := by decide +kernel
theorem dX7_give_33 : decode cX7_give 33 = .ok (.ireturn, 1) := by decide +kernel
theorem dX7_lend_0 : decode cX7_lend 0 = .ok (.aload_n 0, 1) := by decide +kernel
theorem dX7_lend_1 : decode cX7_lend 1 = .ok (.iload_n 2, 1) := by decide +kernel
theorem dX7_lend_2 : decode cX7_lend 2 = .ok (.invokevirtual 53, 3) := by decide +kernel
theorem dX7_lend_5 : decode cX7_lend 5 = .ok (.pop, 1) := by decide +kernel
theorem dX7_lend_6 : decode cX7_lend 6 = .ok (.iload_n 1, 1) := by decide +kernel
theorem dX7_lend_7 : decode cX7_lend 7 = .ok (.iconst 0, 1) := by decide +kernel
theorem dX7_lend_8 : decode cX7_lend 8 = .ok (.iconst 4, 1) := by decide +kernel
theorem dX7_lend_9 : decode cX7_lend 9 = .ok (.invokestatic 61, 3) := by decide +kernel
theorem dX7_lend_12 : decode cX7_lend 12 = .ok (.iload_n 3, 1) := by decide +kernel
theorem dX7_lend_13 : decode cX7_lend 13 = .ok (.iconst 0, 1) := by decide +kernel
theorem dX7_lend_14 : decode cX7_lend 14 = .ok (.sipush 399, 3) := by decide +kernel
theorem dX7_lend_17 : decode cX7_lend 17 = .ok (.invokestatic 61, 3) := by decide +kernel
theorem dX7_lend_20 : decode cX7_lend 20 = .ok (.iload 4, 2) := by decide +kernel
theorem dX7_lend_22 : decode cX7_lend 22 = .ok (.iload_n 3, 1) := by decide +kernel
theorem dX7_lend_23 : decode cX7_lend 23 = .ok (.sipush 399, 3) := by decide +kernel
theorem dX7_lend_26 : decode cX7_lend 26 = .ok (.invokestatic 61, 3) := by decide +kernel
theorem dX7_lend_29 : decode cX7_lend 29 = .ok (.aload_n 0, 1) := by decide +kernel
theorem dX7_lend_30 : decode cX7_lend 30 = .ok (.getfield 25, 3) := by decide +kernel
theorem dX7_lend_33 : decode cX7_lend 33 = .ok (.getfield 206, 3) := by decide +kernel
theorem dX7_lend_36 : decode cX7_lend 36 = .ok (.bipush 40, 2) := by decide +kernel
theorem dX7_lend_38 : decode cX7_lend 38 = .ok (.if_icmp .lt 13, 3) := by decide +kernel
theorem dX7_lend_41 : decode cX7_lend 41 = .ok (.new 93, 3) := by decide +kernel
theorem dX7_lend_44 : decode cX7_lend 44 = .ok (.dup, 1) := by decide +kernel
theorem dX7_lend_45 : decode cX7_lend 45 = .ok (.ldc 209, 2) := by decide +kernel
theorem dX7_lend_47 : decode cX7_lend 47 = .ok (.invokespecial 97, 3) := by decide +kernel
theorem dX7_lend_50 : decode cX7_lend 50 = .ok (.athrow, 1) := by decide +kernel
theorem dX7_lend_51 : decode cX7_lend 51 = .ok (.aload_n 0, 1) := by decide +kernel
theorem dX7_lend_52 : decode cX7_lend 52 = .ok (.getfield 25, 3) := by decide +kernel
theorem dX7_lend_55 : decode cX7_lend 55 = .ok (.iload_n 1, 1) := by decide +kernel
theorem dX7_lend_56 : decode cX7_lend 56 = .ok (.iload_n 2, 1) := by decide +kernel
theorem dX7_lend_57 : decode cX7_lend 57 = .ok (.iload_n 3, 1) := by decide +kernel
theorem dX7_lend_58 : decode cX7_lend 58 = .ok (.iload 4, 2) := by decide +kernel
theorem dX7_lend_60 : decode cX7_lend 60 = .ok (.invokevirtual 211, 3) := by decide +kernel
theorem dX7_lend_63 : decode cX7_lend 63 = .ok (.aload_n 0, 1) := by decide +kernel
theorem dX7_lend_64 : decode cX7_lend 64 = .ok (.getfield 25, 3) := by decide +kernel
theorem dX7_lend_67 : decode cX7_lend 67 = .ok (.getfield 206, 3) := by decide +kernel
theorem dX7_lend_70 : decode cX7_lend 70 = .ok (.ireturn, 1) := by decide +kernel
theorem dX7_holder_0 : decode cX7_holder 0 = .ok (.iload_n 1, 1) := by decide +kernel
theorem dX7_holder_1 : decode cX7_holder 1 = .ok (.iconst 0, 1) := by decide +kernel
theorem dX7_holder_2 : decode cX7_holder 2 = .ok (.iconst 4, 1) := by decide +kernel
theorem dX7_holder_3 : decode cX7_holder 3 = .ok (.invokestatic 61, 3) := by decide +kernel
theorem dX7_holder_6 : decode cX7_holder 6 = .ok (.iload_n 2, 1) := by decide +kernel
theorem dX7_holder_7 : decode cX7_holder 7 = .ok (.iconst 0, 1) := by decide +kernel
theorem dX7_holder_8 : decode cX7_holder 8 = .ok (.sipush 399, 3) := by decide +kernel
theorem dX7_holder_11 : decode cX7_holder 11 = .ok (.invokestatic 61, 3) := by decide +kernel
theorem dX7_holder_14 : decode cX7_holder 14 = .ok (.aload_n 0, 1) := by decide +kernel
theorem dX7_holder_15 : decode cX7_holder 15 = .ok (.getfield 25, 3) := by decide +kernel
theorem dX7_holder_18 : decode cX7_holder 18 = .ok (.iload_n 1, 1) := by decide +kernel
theorem dX7_holder_19 : decode cX7_holder 19 = .ok (.iload_n 2, 1) := by decide +kernel
theorem dX7_holder_20 : decode cX7_holder 20 = .ok (.invokevirtual 215, 3) := by decide +kernel
theorem dX7_holder_23 : decode cX7_holder 23 = .ok (.ireturn, 1) := by decide +kernel
theorem dX7_tail_0 : decode cX7_tail 0 = .ok (.aload_n 0, 1) := by decide +kernel
theorem dX7_tail_1 : decode cX7_tail 1 = .ok (.iload_n 1, 1) := by decide +kernel
theorem dX7_tail_2 : decode cX7_tail 2 = .ok (.invokevirtual 53, 3) := by decide +kernel
theorem dX7_tail_5 : decode cX7_tail 5 = .ok (.astore_n 3, 1) := by decide +kernel
theorem dX7_tail_6 : decode cX7_tail 6 = .ok (.iload_n 2, 1) := by decide +kernel
theorem dX7_tail_7 : decode cX7_tail 7 = .ok (.invokestatic 57, 3) := by decide +kernel
theorem dX7_tail_10 : decode cX7_tail 10 = .ok (.aload_n 0, 1) := by decide +kernel
theorem dX7_tail_11 : decode cX7_tail 11 = .ok (.getfield 39, 3) := by decide +kernel
theorem dX7_tail_14 : decode cX7_tail 14 = .ok (.aload_n 3, 1) := by decide +kernel
theorem dX7_tail_15 : decode cX7_tail 15 = .ok (.getfield 65, 3) := by decide +kernel
theorem dX7_tail_18 : decode cX7_tail 18 = .ok (.invokevirtual 219, 3) := by decide +kernel
theorem dX7_tail_21 : decode cX7_tail 21 = .ok (.aload_n 0, 1) := by decide +kernel
theorem dX7_tail_22 : decode cX7_tail 22 = .ok (.getfield 39, 3) := by decide +kernel
theorem dX7_tail_25 : decode cX7_tail 25 = .ok (.getfield 222, 3) := by decide +kernel
theorem dX7_tail_28 : decode cX7_tail 28 = .ok (.iload_n 2, 1) := by decide +kernel
theorem dX7_tail_29 : decode cX7_tail 29 = .ok (.iaload, 1) := by decide +kernel
theorem dX7_tail_30 : decode cX7_tail 30 = .ok (.ireturn, 1) := by decide +kernel
theorem dX7_slack_0 : decode cX7_slack 0 = .ok (.aload_n 0, 1) := by decide +kernel
theorem dX7_slack_1 : decode cX7_slack 1 = .ok (.iload_n 1, 1) := by decide +kernel
theorem dX7_slack_2 : decode cX7_slack 2 = .ok (.invokevirtual 53, 3) := by decide +kernel
theorem dX7_slack_5 : decode cX7_slack 5 = .ok (.astore_n 3, 1) := by decide +kernel
theorem dX7_slack_6 : decode cX7_slack 6 = .ok (.iload_n 2, 1) := by decide +kernel
theorem dX7_slack_7 : decode cX7_slack 7 = .ok (.invokestatic 57, 3) := by decide +kernel
theorem dX7_slack_10 : decode cX7_slack 10 = .ok (.aload_n 3, 1) := by decide +kernel
theorem dX7_slack_11 : decode cX7_slack 11 = .ok (.getfield 65, 3) := by decide +kernel
theorem dX7_slack_14 : decode cX7_slack 14 = .ok (.iload_n 2, 1) := by decide +kernel
theorem dX7_slack_15 : decode cX7_slack 15 = .ok (.invokevirtual 69, 3) := by decide +kernel
theorem dX7_slack_18 : decode cX7_slack 18 = .ok (.ifCond .ne 5, 3) := by decide +kernel
theorem dX7_slack_21 : decode cX7_slack 21 = .ok (.iconst (-1), 1) := by decide +kernel
theorem dX7_slack_22 : decode cX7_slack 22 = .ok (.ireturn, 1) := by decide +kernel
theorem dX7_slack_23 : decode cX7_slack 23 = .ok (.aload_n 0, 1) := by decide +kernel
theorem dX7_slack_24 : decode cX7_slack 24 = .ok (.getfield 39, 3) := by decide +kernel
theorem dX7_slack_27 : decode cX7_slack 27 = .ok (.aload_n 3, 1) := by decide +kernel
theorem dX7_slack_28 : decode cX7_slack 28 = .ok (.getfield 65, 3) := by decide +kernel
theorem dX7_slack_31 : decode cX7_slack 31 = .ok (.invokevirtual 219, 3) := by decide +kernel
theorem dX7_slack_34 : decode cX7_slack 34 = .ok (.aload_n 0, 1) := by decide +kernel
theorem dX7_slack_35 : decode cX7_slack 35 = .ok (.getfield 39, 3) := by decide +kernel
theorem dX7_slack_38 : decode cX7_slack 38 = .ok (.iload_n 2, 1) := by decide +kernel
theorem dX7_slack_39 : decode cX7_slack 39 = .ok (.invokevirtual 225, 3) := by decide +kernel
theorem dX7_slack_42 : decode cX7_slack 42 = .ok (.ireturn, 1) := by decide +kernel
theorem dX7_critical_0 : decode cX7_critical 0 = .ok (.aload_n 0, 1) := by decide +kernel
theorem dX7_critical_1 : decode cX7_critical 1 = .ok (.iload_n 1, 1) := by decide +kernel
theorem dX7_critical_2 : decode cX7_critical 2 = .ok (.invokevirtual 53, 3) := by decide +kernel
theorem dX7_critical_5 : decode cX7_critical 5 = .ok (.astore_n 2, 1) := by decide +kernel
theorem dX7_critical_6 : decode cX7_critical 6 = .ok (.aload_n 0, 1) := by decide +kernel
theorem dX7_critical_7 : decode cX7_critical 7 = .ok (.getfield 39, 3) := by decide +kernel
theorem dX7_critical_10 : decode cX7_critical 10 = .ok (.aload_n 2, 1) := by decide +kernel
theorem dX7_critical_11 : decode cX7_critical 11 = .ok (.getfield 65, 3) := by decide +kernel
theorem dX7_critical_14 : decode cX7_critical 14 = .ok (.invokevirtual 219, 3) := by decide +kernel
theorem dX7_critical_17 : decode cX7_critical 17 = .ok (.iconst 0, 1) := by decide +kernel
theorem dX7_critical_18 : decode cX7_critical 18 = .ok (.istore_n 3, 1) := by decide +kernel
theorem dX7_critical_19 : decode cX7_critical 19 = .ok (.iconst 0, 1) := by decide +kernel
theorem dX7_critical_20 : decode cX7_critical 20 = .ok (.istore 4, 2) := by decide +kernel
theorem dX7_critical_22 : decode cX7_critical 22 = .ok (.iload 4, 2) := by decide +kernel
theorem dX7_critical_24 : decode cX7_critical 24 = .ok (.bipush 16, 2) := by decide +kernel
theorem dX7_critical_26 : decode cX7_critical 26 = .ok (.if_icmp .ge 40, 3) := by decide +kernel
theorem dX7_critical_29 : decode cX7_critical 29 = .ok (.aload_n 2, 1) := by decide +kernel
theorem dX7_critical_30 : decode cX7_critical 30 = .ok (.getfield 65, 3) := by decide +kernel
theorem dX7_critical_33 : decode cX7_critical 33 = .ok (.iload 4, 2) := by decide +kernel
theorem dX7_critical_35 : decode cX7_critical 35 = .ok (.invokevirtual 69, 3) := by decide +kernel
theorem dX7_critical_38 : decode cX7_critical 38 = .ok (.ifCond .eq 22, 3) := by decide +kernel
theorem dX7_critical_41 : decode cX7_critical 41 = .ok (.aload_n 0, 1) := by decide +kernel
theorem dX7_critical_42 : decode cX7_critical 42 = .ok (.getfield 39, 3) := by decide +kernel
theorem dX7_critical_45 : decode cX7_critical 45 = .ok (.iload 4, 2) := by decide +kernel
theorem dX7_critical_47 : decode cX7_critical 47 = .ok (.invokevirtual 225, 3) := by decide +kernel
theorem dX7_critical_50 : decode cX7_critical 50 = .ok (.ifCond .ne 10, 3) := by decide +kernel
theorem dX7_critical_53 : decode cX7_critical 53 = .ok (.iload_n 3, 1) := by decide +kernel
theorem dX7_critical_54 : decode cX7_critical 54 = .ok (.iconst 1, 1) := by decide +kernel
theorem dX7_critical_55 : decode cX7_critical 55 = .ok (.iload 4, 2) := by decide +kernel
theorem dX7_critical_57 : decode cX7_critical 57 = .ok (.ishl, 1) := by decide +kernel
theorem dX7_critical_58 : decode cX7_critical 58 = .ok (.ior, 1) := by decide +kernel
theorem dX7_critical_59 : decode cX7_critical 59 = .ok (.istore_n 3, 1) := by decide +kernel
theorem dX7_critical_60 : decode cX7_critical 60 = .ok (.iinc 4 1, 3) := by decide +kernel
theorem dX7_critical_63 : decode cX7_critical 63 = .ok (.goto (-41), 3) := by decide +kernel
theorem dX7_critical_66 : decode cX7_critical 66 = .ok (.iload_n 3, 1) := by decide +kernel
theorem dX7_critical_67 : decode cX7_critical 67 = .ok (.ireturn, 1) := by decide +kernel
theorem dX7_way_0 : decode cX7_way 0 = .ok (.aload_n 0, 1) := by decide +kernel
theorem dX7_way_1 : decode cX7_way 1 = .ok (.iload_n 1, 1) := by decide +kernel
theorem dX7_way_2 : decode cX7_way 2 = .ok (.invokevirtual 53, 3) := by decide +kernel
theorem dX7_way_5 : decode cX7_way 5 = .ok (.astore_n 2, 1) := by decide +kernel
theorem dX7_way_6 : decode cX7_way 6 = .ok (.aload_n 0, 1) := by decide +kernel
theorem dX7_way_7 : decode cX7_way 7 = .ok (.getfield 39, 3) := by decide +kernel
theorem dX7_way_10 : decode cX7_way 10 = .ok (.aload_n 2, 1) := by decide +kernel
theorem dX7_way_11 : decode cX7_way 11 = .ok (.getfield 65, 3) := by decide +kernel
theorem dX7_way_14 : decode cX7_way 14 = .ok (.invokevirtual 219, 3) := by decide +kernel
theorem dX7_way_17 : decode cX7_way 17 = .ok (.aload_n 0, 1) := by decide +kernel
theorem dX7_way_18 : decode cX7_way 18 = .ok (.getfield 39, 3) := by decide +kernel
theorem dX7_way_21 : decode cX7_way 21 = .ok (.getfield 228, 3) := by decide +kernel
theorem dX7_way_24 : decode cX7_way 24 = .ok (.ireturn, 1) := by decide +kernel
theorem dX7_firstDay_0 : decode cX7_firstDay 0 = .ok (.aload_n 0, 1) := by decide +kernel
theorem dX7_firstDay_1 : decode cX7_firstDay 1 = .ok (.iload_n 1, 1) := by decide +kernel
theorem dX7_firstDay_2 : decode cX7_firstDay 2 = .ok (.invokevirtual 53, 3) := by decide +kernel
theorem dX7_firstDay_5 : decode cX7_firstDay 5 = .ok (.astore_n 3, 1) := by decide +kernel
theorem dX7_firstDay_6 : decode cX7_firstDay 6 = .ok (.iload_n 2, 1) := by decide +kernel
theorem dX7_firstDay_7 : decode cX7_firstDay 7 = .ok (.invokestatic 57, 3) := by decide +kernel
theorem dX7_firstDay_10 : decode cX7_firstDay 10 = .ok (.aload_n 0, 1) := by decide +kernel
theorem dX7_firstDay_11 : decode cX7_firstDay 11 = .ok (.aload_n 3, 1) := by decide +kernel
theorem dX7_firstDay_12 : decode cX7_firstDay 12 = .ok (.getfield 65, 3) := by decide +kernel
theorem dX7_firstDay_15 : decode cX7_firstDay 15 = .ok (.aload_n 3, 1) := by decide +kernel
theorem dX7_firstDay_16 : decode cX7_firstDay 16 = .ok (.invokevirtual 231, 3) := by decide +kernel
theorem dX7_firstDay_19 : decode cX7_firstDay 19 = .ok (.aload_n 0, 1) := by decide +kernel
theorem dX7_firstDay_20 : decode cX7_firstDay 20 = .ok (.getfield 46, 3) := by decide +kernel
theorem dX7_firstDay_23 : decode cX7_firstDay 23 = .ok (.getfield 235, 3) := by decide +kernel
theorem dX7_firstDay_26 : decode cX7_firstDay 26 = .ok (.iload_n 2, 1) := by decide +kernel
theorem dX7_firstDay_27 : decode cX7_firstDay 27 = .ok (.iaload, 1) := by decide +kernel
theorem dX7_firstDay_28 : decode cX7_firstDay 28 = .ok (.ireturn, 1) := by decide +kernel
theorem dX7_leftOut_0 : decode cX7_leftOut 0 = .ok (.aload_n 0, 1) := by decide +kernel
theorem dX7_leftOut_1 : decode cX7_leftOut 1 = .ok (.iload_n 1, 1) := by decide +kernel
theorem dX7_leftOut_2 : decode cX7_leftOut 2 = .ok (.invokevirtual 53, 3) := by decide +kernel
theorem dX7_leftOut_5 : decode cX7_leftOut 5 = .ok (.astore_n 2, 1) := by decide +kernel
theorem dX7_leftOut_6 : decode cX7_leftOut 6 = .ok (.aload_n 0, 1) := by decide +kernel
theorem dX7_leftOut_7 : decode cX7_leftOut 7 = .ok (.aload_n 2, 1) := by decide +kernel
theorem dX7_leftOut_8 : decode cX7_leftOut 8 = .ok (.getfield 65, 3) := by decide +kernel
theorem dX7_leftOut_11 : decode cX7_leftOut 11 = .ok (.aload_n 2, 1) := by decide +kernel
theorem dX7_leftOut_12 : decode cX7_leftOut 12 = .ok (.invokevirtual 231, 3) := by decide +kernel
theorem dX7_leftOut_15 : decode cX7_leftOut 15 = .ok (.aload_n 2, 1) := by decide +kernel
theorem dX7_leftOut_16 : decode cX7_leftOut 16 = .ok (.getfield 65, 3) := by decide +kernel
theorem dX7_leftOut_19 : decode cX7_leftOut 19 = .ok (.invokevirtual 137, 3) := by decide +kernel
theorem dX7_leftOut_22 : decode cX7_leftOut 22 = .ok (.aload_n 0, 1) := by decide +kernel
theorem dX7_leftOut_23 : decode cX7_leftOut 23 = .ok (.getfield 46, 3) := by decide +kernel
theorem dX7_leftOut_26 : decode cX7_leftOut 26 = .ok (.getfield 238, 3) := by decide +kernel
theorem dX7_leftOut_29 : decode cX7_leftOut 29 = .ok (.iconst (-1), 1) := by decide +kernel
theorem dX7_leftOut_30 : decode cX7_leftOut 30 = .ok (.ixor, 1) := by decide +kernel
theorem dX7_leftOut_31 : decode cX7_leftOut 31 = .ok (.iand, 1) := by decide +kernel
theorem dX7_leftOut_32 : decode cX7_leftOut 32 = .ok (.ireturn, 1) := by decide +kernel
theorem dX7_lastDay_0 : decode cX7_lastDay 0 = .ok (.aload_n 0, 1) := by decide +kernel
theorem dX7_lastDay_1 : decode cX7_lastDay 1 = .ok (.iload_n 1, 1) := by decide +kernel
theorem dX7_lastDay_2 : decode cX7_lastDay 2 = .ok (.invokevirtual 53, 3) := by decide +kernel
theorem dX7_lastDay_5 : decode cX7_lastDay 5 = .ok (.astore_n 2, 1) := by decide +kernel
theorem dX7_lastDay_6 : decode cX7_lastDay 6 = .ok (.aload_n 0, 1) := by decide +kernel
theorem dX7_lastDay_7 : decode cX7_lastDay 7 = .ok (.aload_n 2, 1) := by decide +kernel
theorem dX7_lastDay_8 : decode cX7_lastDay 8 = .ok (.getfield 65, 3) := by decide +kernel
theorem dX7_lastDay_11 : decode cX7_lastDay 11 = .ok (.aload_n 2, 1) := by decide +kernel
theorem dX7_lastDay_12 : decode cX7_lastDay 12 = .ok (.invokevirtual 231, 3) := by decide +kernel
theorem dX7_lastDay_15 : decode cX7_lastDay 15 = .ok (.aload_n 0, 1) := by decide +kernel
theorem dX7_lastDay_16 : decode cX7_lastDay 16 = .ok (.getfield 46, 3) := by decide +kernel
theorem dX7_lastDay_19 : decode cX7_lastDay 19 = .ok (.aload_n 2, 1) := by decide +kernel
theorem dX7_lastDay_20 : decode cX7_lastDay 20 = .ok (.getfield 65, 3) := by decide +kernel
theorem dX7_lastDay_23 : decode cX7_lastDay 23 = .ok (.invokevirtual 241, 3) := by decide +kernel
theorem dX7_lastDay_26 : decode cX7_lastDay 26 = .ok (.ireturn, 1) := by decide +kernel
theorem dX7_lastDayByAll_0 : decode cX7_lastDayByAll 0 = .ok (.aload_n 0, 1) := by decide +kernel
theorem dX7_lastDayByAll_1 : decode cX7_lastDayByAll 1 = .ok (.iload_n 1, 1) := by decide +kernel
theorem dX7_lastDayByAll_2 : decode cX7_lastDayByAll 2 = .ok (.invokevirtual 53, 3) := by decide +kernel
theorem dX7_lastDayByAll_5 : decode cX7_lastDayByAll 5 = .ok (.astore_n 2, 1) := by decide +kernel
theorem dX7_lastDayByAll_6 : decode cX7_lastDayByAll 6 = .ok (.aload_n 2, 1) := by decide +kernel
theorem dX7_lastDayByAll_7 : decode cX7_lastDayByAll 7 = .ok (.getfield 65, 3) := by decide +kernel
theorem dX7_lastDayByAll_10 : decode cX7_lastDayByAll 10 = .ok (.invokevirtual 137, 3) := by decide +kernel
theorem dX7_lastDayByAll_13 : decode cX7_lastDayByAll 13 = .ok (.invokestatic 244, 3) := by decide +kernel
theorem dX7_lastDayByAll_16 : decode cX7_lastDayByAll 16 = .ok (.bipush 6, 2) := by decide +kernel
theorem dX7_lastDayByAll_18 : decode cX7_lastDayByAll 18 = .ok (.if_icmp .le 13, 3) := by decide +kernel
theorem dX7_lastDayByAll_21 : decode cX7_lastDayByAll 21 = .ok (.new 93, 3) := by decide +kernel
theorem dX7_lastDayByAll_24 : decode cX7_lastDayByAll 24 = .ok (.dup, 1) := by decide +kernel
theorem dX7_lastDayByAll_25 : decode cX7_lastDayByAll 25 = .ok (.ldc 249, 2) := by decide +kernel
theorem dX7_lastDayByAll_27 : decode cX7_lastDayByAll 27 = .ok (.invokespecial 97, 3) := by decide +kernel
theorem dX7_lastDayByAll_30 : decode cX7_lastDayByAll 30 = .ok (.athrow, 1) := by decide +kernel
theorem dX7_lastDayByAll_31 : decode cX7_lastDayByAll 31 = .ok (.aload_n 0, 1) := by decide +kernel
theorem dX7_lastDayByAll_32 : decode cX7_lastDayByAll 32 = .ok (.getfield 46, 3) := by decide +kernel
theorem dX7_lastDayByAll_35 : decode cX7_lastDayByAll 35 = .ok (.aload_n 0, 1) := by decide +kernel
theorem dX7_lastDayByAll_36 : decode cX7_lastDayByAll 36 = .ok (.getfield 25, 3) := by decide +kernel
theorem dX7_lastDayByAll_39 : decode cX7_lastDayByAll 39 = .ok (.aload_n 2, 1) := by decide +kernel
theorem dX7_lastDayByAll_40 : decode cX7_lastDayByAll 40 = .ok (.getfield 161, 3) := by decide +kernel
theorem dX7_lastDayByAll_43 : decode cX7_lastDayByAll 43 = .ok (.invokevirtual 251, 3) := by decide +kernel
theorem dX7_lastDayByAll_46 : decode cX7_lastDayByAll 46 = .ok (.aload_n 0, 1) := by decide +kernel
theorem dX7_lastDayByAll_47 : decode cX7_lastDayByAll 47 = .ok (.getfield 46, 3) := by decide +kernel
theorem dX7_lastDayByAll_50 : decode cX7_lastDayByAll 50 = .ok (.aload_n 2, 1) := by decide +kernel
theorem dX7_lastDayByAll_51 : decode cX7_lastDayByAll 51 = .ok (.getfield 65, 3) := by decide +kernel
theorem dX7_lastDayByAll_54 : decode cX7_lastDayByAll 54 = .ok (.invokevirtual 255, 3) := by decide +kernel
theorem dX7_lastDayByAll_57 : decode cX7_lastDayByAll 57 = .ok (.ireturn, 1) := by decide +kernel
theorem dX7_taskOn_0 : decode cX7_taskOn 0 = .ok (.aload_n 0, 1) := by decide +kernel
theorem dX7_taskOn_1 : decode cX7_taskOn 1 = .ok (.iload_n 1, 1) := by decide +kernel
theorem dX7_taskOn_2 : decode cX7_taskOn 2 = .ok (.invokevirtual 53, 3) := by decide +kernel
theorem dX7_taskOn_5 : decode cX7_taskOn 5 = .ok (.astore 4, 2) := by decide +kernel
theorem dX7_taskOn_7 : decode cX7_taskOn 7 = .ok (.iload_n 2, 1) := by decide +kernel
theorem dX7_taskOn_8 : decode cX7_taskOn 8 = .ok (.iconst 0, 1) := by decide +kernel
theorem dX7_taskOn_9 : decode cX7_taskOn 9 = .ok (.iconst 4, 1) := by decide +kernel
theorem dX7_taskOn_10 : decode cX7_taskOn 10 = .ok (.invokestatic 61, 3) := by decide +kernel
theorem dX7_taskOn_13 : decode cX7_taskOn 13 = .ok (.iload_n 3, 1) := by decide +kernel
theorem dX7_taskOn_14 : decode cX7_taskOn 14 = .ok (.iconst 0, 1) := by decide +kernel
theorem dX7_taskOn_15 : decode cX7_taskOn 15 = .ok (.sipush 399, 3) := by decide +kernel
theorem dX7_taskOn_18 : decode cX7_taskOn 18 = .ok (.invokestatic 61, 3) := by decide +kernel
theorem dX7_taskOn_21 : decode cX7_taskOn 21 = .ok (.aload_n 0, 1) := by decide +kernel
theorem dX7_taskOn_22 : decode cX7_taskOn 22 = .ok (.aload 4, 2) := by decide +kernel
theorem dX7_taskOn_24 : decode cX7_taskOn 24 = .ok (.getfield 65, 3) := by decide +kernel
theorem dX7_taskOn_27 : decode cX7_taskOn 27 = .ok (.aload 4, 2) := by decide +kernel
theorem dX7_taskOn_29 : decode cX7_taskOn 29 = .ok (.invokevirtual 231, 3) := by decide +kernel
theorem dX7_taskOn_32 : decode cX7_taskOn 32 = .ok (.iconst (-1), 1) := by decide +kernel
theorem dX7_taskOn_33 : decode cX7_taskOn 33 = .ok (.aload_n 0, 1) := by decide +kernel
theorem dX7_taskOn_34 : decode cX7_taskOn 34 = .ok (.getfield 46, 3) := by decide +kernel
theorem dX7_taskOn_37 : decode cX7_taskOn 37 = .ok (.getfield 258, 3) := by decide +kernel
theorem dX7_taskOn_40 : decode cX7_taskOn 40 = .ok (.iload_n 2, 1) := by decide +kernel
theorem dX7_taskOn_41 : decode cX7_taskOn 41 = .ok (.aaload, 1) := by decide +kernel
theorem dX7_taskOn_42 : decode cX7_taskOn 42 = .ok (.iload_n 3, 1) := by decide +kernel
theorem dX7_taskOn_43 : decode cX7_taskOn 43 = .ok (.iaload, 1) := by decide +kernel
theorem dX7_taskOn_44 : decode cX7_taskOn 44 = .ok (.invokestatic 262, 3) := by decide +kernel
theorem dX7_taskOn_47 : decode cX7_taskOn 47 = .ok (.ireturn, 1) := by decide +kernel
theorem dX7_branchAt_0 : decode cX7_branchAt 0 = .ok (.iload_n 1, 1) := by decide +kernel
theorem dX7_branchAt_1 : decode cX7_branchAt 1 = .ok (.ifCond .lt 12, 3) := by decide +kernel
theorem dX7_branchAt_4 : decode cX7_branchAt 4 = .ok (.iload_n 1, 1) := by decide +kernel
theorem dX7_branchAt_5 : decode cX7_branchAt 5 = .ok (.aload_n 0, 1) := by decide +kernel
theorem dX7_branchAt_6 : decode cX7_branchAt 6 = .ok (.getfield 11, 3) := by decide +kernel
theorem dX7_branchAt_9 : decode cX7_branchAt 9 = .ok (.arraylength, 1) := by decide +kernel
theorem dX7_branchAt_10 : decode cX7_branchAt 10 = .ok (.if_icmp .lt 14, 3) := by decide +kernel
theorem dX7_branchAt_13 : decode cX7_branchAt 13 = .ok (.new 267, 3) := by decide +kernel
theorem dX7_branchAt_16 : decode cX7_branchAt 16 = .ok (.dup, 1) := by decide +kernel
theorem dX7_branchAt_17 : decode cX7_branchAt 17 = .ok (.ldc_w 269, 3) := by decide +kernel
theorem dX7_branchAt_20 : decode cX7_branchAt 20 = .ok (.invokespecial 271, 3) := by decide +kernel
theorem dX7_branchAt_23 : decode cX7_branchAt 23 = .ok (.athrow, 1) := by decide +kernel
theorem dX7_branchAt_24 : decode cX7_branchAt 24 = .ok (.aload_n 0, 1) := by decide +kernel
theorem dX7_branchAt_25 : decode cX7_branchAt 25 = .ok (.getfield 11, 3) := by decide +kernel
theorem dX7_branchAt_28 : decode cX7_branchAt 28 = .ok (.iload_n 1, 1) := by decide +kernel
theorem dX7_branchAt_29 : decode cX7_branchAt 29 = .ok (.aaload, 1) := by decide +kernel
theorem dX7_branchAt_30 : decode cX7_branchAt 30 = .ok (.astore_n 2, 1) := by decide +kernel
theorem dX7_branchAt_31 : decode cX7_branchAt 31 = .ok (.aload_n 2, 1) := by decide +kernel
theorem dX7_branchAt_32 : decode cX7_branchAt 32 = .ok (.ifnonnull 14, 3) := by decide +kernel
theorem dX7_branchAt_35 : decode cX7_branchAt 35 = .ok (.new 267, 3) := by decide +kernel
theorem dX7_branchAt_38 : decode cX7_branchAt 38 = .ok (.dup, 1) := by decide +kernel
theorem dX7_branchAt_39 : decode cX7_branchAt 39 = .ok (.ldc_w 269, 3) := by decide +kernel
theorem dX7_branchAt_42 : decode cX7_branchAt 42 = .ok (.invokespecial 271, 3) := by decide +kernel
theorem dX7_branchAt_45 : decode cX7_branchAt 45 = .ok (.athrow, 1) := by decide +kernel
theorem dX7_branchAt_46 : decode cX7_branchAt 46 = .ok (.aload_n 2, 1) := by decide +kernel
theorem dX7_branchAt_47 : decode cX7_branchAt 47 = .ok (.areturn, 1) := by decide +kernel
theorem dX7_parentOf_0 : decode cX7_parentOf 0 = .ok (.aload_n 0, 1) := by decide +kernel
theorem dX7_parentOf_1 : decode cX7_parentOf 1 = .ok (.getfield 157, 3) := by decide +kernel
theorem dX7_parentOf_4 : decode cX7_parentOf 4 = .ok (.astore_n 1, 1) := by decide +kernel
theorem dX7_parentOf_5 : decode cX7_parentOf 5 = .ok (.aload_n 1, 1) := by decide +kernel
theorem dX7_parentOf_6 : decode cX7_parentOf 6 = .ok (.ifnonnull 13, 3) := by decide +kernel
theorem dX7_parentOf_9 : decode cX7_parentOf 9 = .ok (.new 93, 3) := by decide +kernel
theorem dX7_parentOf_12 : decode cX7_parentOf 12 = .ok (.dup, 1) := by decide +kernel
theorem dX7_parentOf_13 : decode cX7_parentOf 13 = .ok (.ldc 168, 2) := by decide +kernel
theorem dX7_parentOf_15 : decode cX7_parentOf 15 = .ok (.invokespecial 97, 3) := by decide +kernel
theorem dX7_parentOf_18 : decode cX7_parentOf 18 = .ok (.athrow, 1) := by decide +kernel
theorem dX7_parentOf_19 : decode cX7_parentOf 19 = .ok (.aload_n 1, 1) := by decide +kernel
theorem dX7_parentOf_20 : decode cX7_parentOf 20 = .ok (.areturn, 1) := by decide +kernel
theorem dX7_placeByRule_0 : decode cX7_placeByRule 0 = .ok (.aload_n 0, 1) := by decide +kernel
theorem dX7_placeByRule_1 : decode cX7_placeByRule 1 = .ok (.getfield 39, 3) := by decide +kernel
theorem dX7_placeByRule_4 : decode cX7_placeByRule 4 = .ok (.aload_n 1, 1) := by decide +kernel
theorem dX7_placeByRule_5 : decode cX7_placeByRule 5 = .ok (.invokevirtual 219, 3) := by decide +kernel
theorem dX7_placeByRule_8 : decode cX7_placeByRule 8 = .ok (.aload_n 0, 1) := by decide +kernel
theorem dX7_placeByRule_9 : decode cX7_placeByRule 9 = .ok (.getfield 46, 3) := by decide +kernel
theorem dX7_placeByRule_12 : decode cX7_placeByRule 12 = .ok (.aload_n 0, 1) := by decide +kernel
theorem dX7_placeByRule_13 : decode cX7_placeByRule 13 = .ok (.getfield 25, 3) := by decide +kernel
theorem dX7_placeByRule_16 : decode cX7_placeByRule 16 = .ok (.aload_n 2, 1) := by decide +kernel
theorem dX7_placeByRule_17 : decode cX7_placeByRule 17 = .ok (.getfield 161, 3) := by decide +kernel
theorem dX7_placeByRule_20 : decode cX7_placeByRule 20 = .ok (.invokevirtual 251, 3) := by decide +kernel
theorem dX7_placeByRule_23 : decode cX7_placeByRule 23 = .ok (.aload_n 0, 1) := by decide +kernel
theorem dX7_placeByRule_24 : decode cX7_placeByRule 24 = .ok (.getfield 46, 3) := by decide +kernel
theorem dX7_placeByRule_27 : decode cX7_placeByRule 27 = .ok (.aload_n 1, 1) := by decide +kernel
theorem dX7_placeByRule_28 : decode cX7_placeByRule 28 = .ok (.aload_n 0, 1) := by decide +kernel
theorem dX7_placeByRule_29 : decode cX7_placeByRule 29 = .ok (.getfield 39, 3) := by decide +kernel
theorem dX7_placeByRule_32 : decode cX7_placeByRule 32 = .ok (.getfield 222, 3) := by decide +kernel
theorem dX7_placeByRule_35 : decode cX7_placeByRule 35 = .ok (.invokevirtual 274, 3) := by decide +kernel
theorem dX7_placeByRule_38 : decode cX7_placeByRule 38 = .ok (.return_, 1) := by decide +kernel
theorem dX7_judge_0 : decode cX7_judge 0 = .ok (.aload_n 0, 1) := by decide +kernel
theorem dX7_judge_1 : decode cX7_judge 1 = .ok (.getfield 32, 3) := by decide +kernel
theorem dX7_judge_4 : decode cX7_judge 4 = .ok (.aload_n 1, 1) := by decide +kernel
theorem dX7_judge_5 : decode cX7_judge 5 = .ok (.aload_n 2, 1) := by decide +kernel
theorem dX7_judge_6 : decode cX7_judge 6 = .ok (.invokevirtual 173, 3) := by decide +kernel
theorem dX7_judge_9 : decode cX7_judge 9 = .ok (.aload_n 0, 1) := by decide +kernel
theorem dX7_judge_10 : decode cX7_judge 10 = .ok (.getfield 32, 3) := by decide +kernel
theorem dX7_judge_13 : decode cX7_judge 13 = .ok (.getfield 193, 3) := by decide +kernel
theorem dX7_judge_16 : decode cX7_judge 16 = .ok (.astore 4, 2) := by decide +kernel
theorem dX7_judge_18 : decode cX7_judge 18 = .ok (.aload_n 0, 1) := by decide +kernel
theorem dX7_judge_19 : decode cX7_judge 19 = .ok (.aload_n 0, 1) := by decide +kernel
theorem dX7_judge_20 : decode cX7_judge 20 = .ok (.getfield 32, 3) := by decide +kernel
theorem dX7_judge_23 : decode cX7_judge 23 = .ok (.getfield 278, 3) := by decide +kernel
theorem dX7_judge_26 : decode cX7_judge 26 = .ok (.putfield 50, 3) := by decide +kernel
theorem dX7_judge_29 : decode cX7_judge 29 = .ok (.aload_n 0, 1) := by decide +kernel
theorem dX7_judge_30 : decode cX7_judge 30 = .ok (.getfield 50, 3) := by decide +kernel
theorem dX7_judge_33 : decode cX7_judge 33 = .ok (.ifCond .eq 5, 3) := by decide +kernel
theorem dX7_judge_36 : decode cX7_judge 36 = .ok (.iconst 1, 1) := by decide +kernel
theorem dX7_judge_37 : decode cX7_judge 37 = .ok (.ireturn, 1) := by decide +kernel
theorem dX7_judge_38 : decode cX7_judge 38 = .ok (.aload_n 0, 1) := by decide +kernel
theorem dX7_judge_39 : decode cX7_judge 39 = .ok (.aload 4, 2) := by decide +kernel
theorem dX7_judge_41 : decode cX7_judge 41 = .ok (.invokevirtual 281, 3) := by decide +kernel
theorem dX7_judge_44 : decode cX7_judge 44 = .ok (.putfield 50, 3) := by decide +kernel
theorem dX7_judge_47 : decode cX7_judge 47 = .ok (.aload_n 0, 1) := by decide +kernel
theorem dX7_judge_48 : decode cX7_judge 48 = .ok (.getfield 50, 3) := by decide +kernel
theorem dX7_judge_51 : decode cX7_judge 51 = .ok (.ifCond .eq 5, 3) := by decide +kernel
theorem dX7_judge_54 : decode cX7_judge 54 = .ok (.iconst 2, 1) := by decide +kernel
theorem dX7_judge_55 : decode cX7_judge 55 = .ok (.ireturn, 1) := by decide +kernel
theorem dX7_judge_56 : decode cX7_judge 56 = .ok (.aload_n 0, 1) := by decide +kernel
theorem dX7_judge_57 : decode cX7_judge 57 = .ok (.aload 4, 2) := by decide +kernel
theorem dX7_judge_59 : decode cX7_judge 59 = .ok (.invokevirtual 284, 3) := by decide +kernel
theorem dX7_judge_62 : decode cX7_judge 62 = .ok (.putfield 50, 3) := by decide +kernel
theorem dX7_judge_65 : decode cX7_judge 65 = .ok (.aload_n 0, 1) := by decide +kernel
theorem dX7_judge_66 : decode cX7_judge 66 = .ok (.getfield 50, 3) := by decide +kernel
theorem dX7_judge_69 : decode cX7_judge 69 = .ok (.ifCond .eq 5, 3) := by decide +kernel
theorem dX7_judge_72 : decode cX7_judge 72 = .ok (.iconst 3, 1) := by decide +kernel
theorem dX7_judge_73 : decode cX7_judge 73 = .ok (.ireturn, 1) := by decide +kernel
theorem dX7_judge_74 : decode cX7_judge 74 = .ok (.aload 4, 2) := by decide +kernel
theorem dX7_judge_76 : decode cX7_judge 76 = .ok (.invokevirtual 143, 3) := by decide +kernel
theorem dX7_judge_79 : decode cX7_judge 79 = .ok (.aload_n 3, 1) := by decide +kernel
theorem dX7_judge_80 : decode cX7_judge 80 = .ok (.getfield 165, 3) := by decide +kernel
theorem dX7_judge_83 : decode cX7_judge 83 = .ok (.if_icmp .le 5, 3) := by decide +kernel
theorem dX7_judge_86 : decode cX7_judge 86 = .ok (.iconst 4, 1) := by decide +kernel
theorem dX7_judge_87 : decode cX7_judge 87 = .ok (.ireturn, 1) := by decide +kernel
theorem dX7_judge_88 : decode cX7_judge 88 = .ok (.aload_n 0, 1) := by decide +kernel
theorem dX7_judge_89 : decode cX7_judge 89 = .ok (.aload 4, 2) := by decide +kernel
theorem dX7_judge_91 : decode cX7_judge 91 = .ok (.aload_n 3, 1) := by decide +kernel
theorem dX7_judge_92 : decode cX7_judge 92 = .ok (.invokevirtual 231, 3) := by decide +kernel
theorem dX7_judge_95 : decode cX7_judge 95 = .ok (.aload_n 0, 1) := by decide +kernel
theorem dX7_judge_96 : decode cX7_judge 96 = .ok (.aload 4, 2) := by decide +kernel
theorem dX7_judge_98 : decode cX7_judge 98 = .ok (.invokevirtual 137, 3) := by decide +kernel
theorem dX7_judge_101 : decode cX7_judge 101 = .ok (.aload_n 0, 1) := by decide +kernel
theorem dX7_judge_102 : decode cX7_judge 102 = .ok (.getfield 46, 3) := by decide +kernel
theorem dX7_judge_105 : decode cX7_judge 105 = .ok (.getfield 238, 3) := by decide +kernel
theorem dX7_judge_108 : decode cX7_judge 108 = .ok (.iconst (-1), 1) := by decide +kernel
theorem dX7_judge_109 : decode cX7_judge 109 = .ok (.ixor, 1) := by decide +kernel
theorem dX7_judge_110 : decode cX7_judge 110 = .ok (.iand, 1) := by decide +kernel
theorem dX7_judge_111 : decode cX7_judge 111 = .ok (.putfield 50, 3) := by decide +kernel
theorem dX7_judge_114 : decode cX7_judge 114 = .ok (.aload_n 0, 1) := by decide +kernel
theorem dX7_judge_115 : decode cX7_judge 115 = .ok (.getfield 50, 3) := by decide +kernel
theorem dX7_judge_118 : decode cX7_judge 118 = .ok (.ifCond .eq 7, 3) := by decide +kernel
theorem dX7_judge_121 : decode cX7_judge 121 = .ok (.iconst 5, 1) := by decide +kernel
theorem dX7_judge_122 : decode cX7_judge 122 = .ok (.goto 4, 3) := by decide +kernel
theorem dX7_judge_125 : decode cX7_judge 125 = .ok (.iconst 0, 1) := by decide +kernel
theorem dX7_judge_126 : decode cX7_judge 126 = .ok (.ireturn, 1) := by decide +kernel
set_option maxHeartbeats 4000000 in
set_option maxRecDepth 100000 in
theorem c_X7_branchAt {l : Launch} (hfl : l.stackTraces = false) {sz : Nat} {sk : pb_Sk} {rf : pb_Rf} {sg : pb_Sg} {X n : Nat} {B par : Nat → Nat} (hX : pb_sys sk rf X B par n) {b : Nat} (hb : b < n) : pb_Met l mX7_branchAt 6 0 0 [.ref X, .int (nI b)] sz sk rf sg (pb_is (some (.ref (B b))) sz sk rf sg) := by
  refine pb_start hfl (by decide +kernel) rfl (pb_c1 rfl) (Nat.le_of_ble_eq_true rfl) (fun F hF h hQ => ?_)
  subst hF
  show pv F 0 0 sz sk rf sg 0 [some (.ref X), some (.int (nI b)), none] []
  obtain ⟨hX0, hX1, hX2, hX3, hX4, hX5, hX6, hXc, hXj, hXw, hXs, hXn, hXb, hXe, hXr, hXp⟩ := id hX
  refine v_iload_n h (i := 1) dX7_branchAt_0 (q := 1) rfl rfl rfl ?_
  refine v_if_lt h dX7_branchAt_1 (q := 4) rfl (tgt := 13) (by decide) (fun c1 => absurd c1 (nI_pos (by omega))) (fun c1 => ?_)
  refine v_iload_n h (i := 1) dX7_branchAt_4 (q := 5) rfl rfl rfl ?_
  refine v_aload_n h (i := 0) dX7_branchAt_5 (q := 6) rfl rfl rfl ?_
  refine v_getr h fl_X7_11 (by assumption) rfl (by assumption) dX7_branchAt_6 (q := 9) rfl ?_
  refine v_alen h (by assumption) (by decide) dX7_branchAt_9 (q := 10) rfl ?_
  refine v_icmp_lt h dX7_branchAt_10 (q := 13) rfl (tgt := 24) (by decide) (fun c2 => ?_) (fun c2 => absurd (nI_lt (by omega) (by omega)) c2)
  refine v_aload_n h (i := 0) dX7_branchAt_24 (q := 25) rfl rfl rfl ?_
  refine v_getr h fl_X7_11 (by assumption) rfl (by assumption) dX7_branchAt_25 (q := 28) rfl ?_
  refine v_iload_n h (i := 1) dX7_branchAt_28 (q := 29) rfl rfl rfl ?_
  refine v_aald4 h (by assumption) rfl (by first | assumption | omega) (by decide) (show va_rf (rf (X + 1) b) = .ref (B b) from by rw [(hXb b hb).1]; rfl) dX7_branchAt_29 (q := 30) rfl ?_
  refine v_astore_n h (i := 2) dX7_branchAt_30 (q := 31) rfl rfl (Nat.le_of_ble_eq_true rfl) rfl ?_
  refine v_aload_n h (i := 2) dX7_branchAt_31 (q := 32) rfl rfl rfl ?_
  refine v_ifnonnull h dX7_branchAt_32 (tgt := 46) (by decide) ?_
  refine v_aload_n h (i := 2) dX7_branchAt_46 (q := 47) rfl rfl rfl ?_
  refine v_aret h hQ rfl dX7_branchAt_47 (Nat.zero_le _) (Nat.zero_le _) ⟨rfl, rfl, rfl, rfl, rfl⟩
set_option maxHeartbeats 4000000 in
set_option maxRecDepth 100000 in
theorem x_X7_branchAt {l : Launch} (hfl : l.stackTraces = false) {sz : Nat} {sk : pb_Sk} {rf : pb_Rf} {sg : pb_Sg} {X n : Nat} {B par : Nat → Nat} (hX : pb_sys sk rf X B par n) {x : Int32} (hx : ∀ b, b < n → ¬ x = nI b) : pb_Met l mX7_branchAt 6 1 6 [.ref X, .int x] sz sk rf sg (pb_thr "java/lang/IndexOutOfBoundsException" sz sk rf sg) := by
  refine pb_start hfl (by decide +kernel) rfl (pb_c1 rfl) (Nat.le_of_ble_eq_true rfl) (fun F hF h hQ => ?_)
  subst hF
  show pv F 0 0 sz sk rf sg 0 [some (.ref X), some (.int x), none] []
  obtain ⟨hX0, hX1, hX2, hX3, hX4, hX5, hX6, hXc, hXj, hXw, hXs, hXn, hXb, hXe, hXr, hXp⟩ := id hX
  refine v_iload_n h (i := 1) dX7_branchAt_0 (q := 1) rfl rfl rfl ?_
  refine v_if_lt h dX7_branchAt_1 (q := 4) rfl (tgt := 13) (by decide) (fun c1 => ?_) (fun c1 => ?_)
  · skip
    refine v_throwW h hQ rfl (th_X7_267) (is := 269) (text := "there is no such branch") (by decide +kernel) rfl dX7_branchAt_13 dX7_branchAt_16 dX7_branchAt_17 dX7_branchAt_20 dX7_branchAt_23 (by decide) (by decide) (by decide) (by decide) (fun sz9 hsz9 => ⟨rfl, hsz9, rfl, rfl, rfl⟩)
  · skip
    refine v_iload_n h (i := 1) dX7_branchAt_4 (q := 5) rfl rfl rfl ?_
    refine v_aload_n h (i := 0) dX7_branchAt_5 (q := 6) rfl rfl rfl ?_
    refine v_getr h fl_X7_11 (by assumption) rfl (by assumption) dX7_branchAt_6 (q := 9) rfl ?_
    refine v_alen h (by assumption) (by decide) dX7_branchAt_9 (q := 10) rfl ?_
    refine v_icmp_lt h dX7_branchAt_10 (q := 13) rfl (tgt := 24) (by decide) (fun c2 => ?_) (fun c2 => ?_)
    · skip
      obtain ⟨j, hj, rfl⟩ := pb_idx c1 (by omega) c2
      have hn : rf (X + 1) j = none := hXe j (Nat.le_of_not_lt (fun q => hx j q rfl)) hj
      refine v_aload_n h (i := 0) dX7_branchAt_24 (q := 25) rfl rfl rfl ?_
      refine v_getr h fl_X7_11 (by assumption) rfl (by assumption) dX7_branchAt_25 (q := 28) rfl ?_
      refine v_iload_n h (i := 1) dX7_branchAt_28 (q := 29) rfl rfl rfl ?_
      refine v_aald4 h (by assumption) rfl (by first | assumption | omega) (by decide) (show va_rf (rf (X + 1) j) = .null from by rw [hn]; rfl) dX7_branchAt_29 (q := 30) rfl ?_
      refine v_astore_nN h (i := 2) dX7_branchAt_30 (q := 31) rfl rfl (Nat.le_of_ble_eq_true rfl) rfl ?_
      refine v_aload_nN h (i := 2) dX7_branchAt_31 (q := 32) rfl rfl rfl ?_
      refine v_ifnonnullN h dX7_branchAt_32 (q := 35) rfl ?_
      refine v_throwW h hQ rfl (th_X7_267) (is := 269) (text := "there is no such branch") (by decide +kernel) rfl dX7_branchAt_35 dX7_branchAt_38 dX7_branchAt_39 dX7_branchAt_42 dX7_branchAt_45 (by decide) (by decide) (by decide) (by decide) (fun sz9 hsz9 => ⟨rfl, hsz9, rfl, rfl, rfl⟩)
    · skip
      refine v_throwW h hQ rfl (th_X7_267) (is := 269) (text := "there is no such branch") (by decide +kernel) rfl dX7_branchAt_13 dX7_branchAt_16 dX7_branchAt_17 dX7_branchAt_20 dX7_branchAt_23 (by decide) (by decide) (by decide) (by decide) (fun sz9 hsz9 => ⟨rfl, hsz9, rfl, rfl, rfl⟩)
set_option maxHeartbeats 4000000 in
set_option maxRecDepth 100000 in
theorem c_X7_setTask {l : Launch} (hfl : l.stackTraces = false) {sz : Nat} {sk : pb_Sk} {rf : pb_Rf} {sg : pb_Sg} {X n : Nat} {B par : Nat → Nat} (hX : pb_sys sk rf X B par n) {b t : Nat} {len crew cost : Int32} (hb : b < n) (ht : t < 16) (h1 : nI 1 ≤ len) (h2 : len ≤ nI 20) (h3 : -1 ≤ crew) (h4 : crew ≤ nI 4) (h5 : nI 0 ≤ cost) (h6 : cost ≤ nI 1000) {nx s : Nat} (hn : sg (B b + 11) 5 = nI nx) (hn30 : nx < 30) (hs : sg (B b + 11) 6 = nI s) (hs30 : s ≤ 30) : pb_Met l mX7_setTask 7 0 0 [.ref X, .int (nI b), .int (nI t), .int len, .int crew, .int cost] sz sk rf sg (pb_is (some (.int (pb_b (pb_has (sg (B b + 1 + 1)) t)))) sz sk rf (pb_put (pb_keep sg (B b + 11) (B b + 1) t nx s) (B b + 1) t len crew cost (if pb_has (sg (B b + 1 + 1)) t = true then sg (B b + 1 + 4) t else nI 0))) := by
  refine pb_start hfl (by decide +kernel) rfl (pb_c1 rfl) (Nat.le_of_ble_eq_true rfl) (fun F hF h hQ => ?_)
  subst hF
  show pv F 0 0 sz sk rf sg 0 [some (.ref X), some (.int (nI b)), some (.int (nI t)), some (.int len), some (.int crew), some (.int cost), none, none, none] []
  obtain ⟨hX0, hX1, hX2, hX3, hX4, hX5, hX6, hXc, hXj, hXw, hXs, hXn, hXb, hXe, hXr, hXp⟩ := id hX
  obtain ⟨hb0, hb1, hb2, hb3, hb4, hb5, hb6, hb7, hb8⟩ := id (hXb b hb).2
  obtain ⟨hp0, hp1, hp2, hp3, hp4, hp5, hp6, hp7, hp8⟩ := id hb5
  have hh0 := hb7.1
  refine v_aload_n h (i := 0) dX7_setTask_0 (q := 1) rfl rfl rfl ?_
  refine v_iload_n h (i := 1) dX7_setTask_1 (q := 2) rfl rfl rfl ?_
  refine v_callV1 h (c_X7_branchAt hfl hX hb) kX7_branchAt tw292 tw0 (by assumption) (by decide) rfl rfl rfl (by simp [Value.category]) (by decide) (Nat.zero_le _) (Nat.zero_le _) rfl dX7_setTask_2 (q := 5) rfl ?_
  refine v_astore h dX7_setTask_5 (q := 7) rfl (Nat.le_of_ble_eq_true rfl) rfl ?_
  refine v_iload_n h (i := 2) dX7_setTask_7 (q := 8) rfl rfl rfl ?_
  refine v_callS0 h (c_X7_checkTask hfl ht) kX7_checkTask rfl tw364 rfl rfl (by simp [Value.category]) (by decide) (Nat.zero_le _) (Nat.zero_le _) rfl dX7_setTask_8 (q := 11) rfl ?_
  refine v_iload_n h (i := 3) dX7_setTask_11 (q := 12) rfl rfl rfl ?_
  refine v_iconst h (v := nI 1) dX7_setTask_12 (q := 13) rfl (by decide +kernel) ?_
  refine v_bipush h (v := nI 20) dX7_setTask_13 (q := 15) rfl (by decide +kernel) ?_
  refine v_callS0 h (c_X7_checkRange hfl h1 h2) kX7_checkRange rfl tw367 rfl rfl (by simp [Value.category]) (by decide) (Nat.zero_le _) (Nat.zero_le _) rfl dX7_setTask_15 (q := 18) rfl ?_
  refine v_iload h dX7_setTask_18 (q := 20) rfl rfl ?_
  refine v_iconst h (v := (-1)) dX7_setTask_20 (q := 21) rfl (by decide +kernel) ?_
  refine v_iconst h (v := nI 4) dX7_setTask_21 (q := 22) rfl (by decide +kernel) ?_
  refine v_callS0 h (c_X7_checkRange hfl h3 h4) kX7_checkRange rfl tw367 rfl rfl (by simp [Value.category]) (by decide) (Nat.zero_le _) (Nat.zero_le _) rfl dX7_setTask_22 (q := 25) rfl ?_
  refine v_iload h dX7_setTask_25 (q := 27) rfl rfl ?_
  refine v_iconst h (v := nI 0) dX7_setTask_27 (q := 28) rfl (by decide +kernel) ?_
  refine v_sipush h (v := nI 1000) dX7_setTask_28 (q := 31) rfl (by decide +kernel) ?_
  refine v_callS0 h (c_X7_checkRange hfl h5 h6) kX7_checkRange rfl tw367 rfl rfl (by simp [Value.category]) (by decide) (Nat.zero_le _) (Nat.zero_le _) rfl dX7_setTask_31 (q := 34) rfl ?_
  refine v_aload h dX7_setTask_34 (q := 36) rfl rfl ?_
  refine v_getr h fl_X7_65 (by assumption) rfl (by assumption) dX7_setTask_36 (q := 39) rfl ?_
  refine v_iload_n h (i := 2) dX7_setTask_39 (q := 40) rfl rfl rfl ?_
  refine v_callV1 h (c_X4_has hfl hb5 ht) kX4_has tw386 tw388 (by assumption) (by decide) rfl rfl rfl (by simp [Value.category]) (by decide) (Nat.zero_le _) (Nat.zero_le _) rfl dX7_setTask_40 (q := 43) rfl ?_
  refine v_istore h dX7_setTask_43 (q := 45) rfl (Nat.le_of_ble_eq_true rfl) rfl ?_
  refine v_iload h dX7_setTask_45 (q := 47) rfl rfl ?_
  refine v_if_eq h dX7_setTask_47 (q := 50) rfl (tgt := 63) (by decide) (fun c1 => ?_) (fun c1 => ?_)
  · skip
    have e8 := pb_b_0.mp c1
    refine v_iconst h (v := nI 0) dX7_setTask_63 (q := 64) rfl (by decide +kernel) ?_
    refine v_eq (st' := [.int (if pb_has (sg (B b + 1 + 1)) t = true then sg (B b + 1 + 4) t else nI 0)]) (by rw [e8]; rfl) ?_
    refine v_istore h dX7_setTask_64 (q := 66) rfl (Nat.le_of_ble_eq_true rfl) rfl ?_
    refine v_aload h dX7_setTask_66 (q := 68) rfl rfl ?_
    refine v_getr h fl_X7_79 (by assumption) rfl (by assumption) dX7_setTask_68 (q := 71) rfl ?_
    refine v_aload h dX7_setTask_71 (q := 73) rfl rfl ?_
    refine v_getr h fl_X7_65 (by assumption) rfl (by assumption) dX7_setTask_73 (q := 76) rfl ?_
    refine v_iload_n h (i := 2) dX7_setTask_76 (q := 77) rfl rfl rfl ?_
    refine v_callV0 h (c_X2_keep hfl hb7 hb5 ht hn hn30 hs hs30) kX2_keep tw390 tw392 (by assumption) (by decide) rfl rfl rfl (by simp [Value.category]) (by decide) (Nat.zero_le _) (Nat.zero_le _) rfl dX7_setTask_77 (q := 80) rfl ?_
    refine v_aload h dX7_setTask_80 (q := 82) rfl rfl ?_
    refine v_getr h fl_X7_65 (by assumption) rfl (by assumption) dX7_setTask_82 (q := 85) rfl ?_
    refine v_iload_n h (i := 2) dX7_setTask_85 (q := 86) rfl rfl rfl ?_
    refine v_iload_n h (i := 3) dX7_setTask_86 (q := 87) rfl rfl rfl ?_
    refine v_iload h dX7_setTask_87 (q := 89) rfl rfl ?_
    refine v_iload h dX7_setTask_89 (q := 91) rfl rfl ?_
    refine v_iload h dX7_setTask_91 (q := 93) rfl rfl ?_
    refine v_callV0 h (c_X4_put hfl hb5 ht) kX4_put tw394 tw396 (by assumption) (by decide) rfl rfl rfl (by simp [Value.category]) (by decide) (Nat.zero_le _) (Nat.zero_le _) rfl dX7_setTask_93 (q := 96) rfl ?_
    refine v_iload h dX7_setTask_96 (q := 98) rfl rfl ?_
    refine v_iret h hQ rfl (by first | exact rfl | exact pb_b_nar _) dX7_setTask_98 (Nat.zero_le _) (Nat.zero_le _) ⟨rfl, rfl, rfl, rfl, rfl⟩
  · skip
    have e8 := pb_ne_f (fun q => c1 (pb_b_0.mpr q))
    refine v_aload h dX7_setTask_50 (q := 52) rfl rfl ?_
    refine v_getr h fl_X7_65 (by assumption) rfl (by assumption) dX7_setTask_52 (q := 55) rfl ?_
    refine v_getr h fl_X7_75 (by assumption) rfl (by assumption) dX7_setTask_55 (q := 58) rfl ?_
    refine v_iload_n h (i := 2) dX7_setTask_58 (q := 59) rfl rfl rfl ?_
    refine v_iald h (by assumption) rfl (by first | assumption | omega) (by decide) dX7_setTask_59 (q := 60) rfl ?_
    refine v_goto h dX7_setTask_60 (tgt := 64) (by decide) ?_
    refine v_eq (st' := [.int (if pb_has (sg (B b + 1 + 1)) t = true then sg (B b + 1 + 4) t else nI 0)]) (by rw [e8]; rfl) ?_
    refine v_istore h dX7_setTask_64 (q := 66) rfl (Nat.le_of_ble_eq_true rfl) rfl ?_
    refine v_aload h dX7_setTask_66 (q := 68) rfl rfl ?_
    refine v_getr h fl_X7_79 (by assumption) rfl (by assumption) dX7_setTask_68 (q := 71) rfl ?_
    refine v_aload h dX7_setTask_71 (q := 73) rfl rfl ?_
    refine v_getr h fl_X7_65 (by assumption) rfl (by assumption) dX7_setTask_73 (q := 76) rfl ?_
    refine v_iload_n h (i := 2) dX7_setTask_76 (q := 77) rfl rfl rfl ?_
    refine v_callV0 h (c_X2_keep hfl hb7 hb5 ht hn hn30 hs hs30) kX2_keep tw390 tw392 (by assumption) (by decide) rfl rfl rfl (by simp [Value.category]) (by decide) (Nat.zero_le _) (Nat.zero_le _) rfl dX7_setTask_77 (q := 80) rfl ?_
    refine v_aload h dX7_setTask_80 (q := 82) rfl rfl ?_
    refine v_getr h fl_X7_65 (by assumption) rfl (by assumption) dX7_setTask_82 (q := 85) rfl ?_
    refine v_iload_n h (i := 2) dX7_setTask_85 (q := 86) rfl rfl rfl ?_
    refine v_iload_n h (i := 3) dX7_setTask_86 (q := 87) rfl rfl rfl ?_
    refine v_iload h dX7_setTask_87 (q := 89) rfl rfl ?_
    refine v_iload h dX7_setTask_89 (q := 91) rfl rfl ?_
    refine v_iload h dX7_setTask_91 (q := 93) rfl rfl ?_
    refine v_callV0 h (c_X4_put hfl hb5 ht) kX4_put tw394 tw396 (by assumption) (by decide) rfl rfl rfl (by simp [Value.category]) (by decide) (Nat.zero_le _) (Nat.zero_le _) rfl dX7_setTask_93 (q := 96) rfl ?_
    refine v_iload h dX7_setTask_96 (q := 98) rfl rfl ?_
    refine v_iret h hQ rfl (by first | exact rfl | exact pb_b_nar _) dX7_setTask_98 (Nat.zero_le _) (Nat.zero_le _) ⟨rfl, rfl, rfl, rfl, rfl⟩
set_option maxHeartbeats 4000000 in
set_option maxRecDepth 100000 in
theorem x1_X7_setTask {l : Launch} (hfl : l.stackTraces = false) {sz : Nat} {sk : pb_Sk} {rf : pb_Rf} {sg : pb_Sg} {X n : Nat} {B par : Nat → Nat} (hX : pb_sys sk rf X B par n) {x : Int32} (hx : ∀ b, b < n → ¬ x = nI b) {t len crew cost : Int32} : pb_Met l mX7_setTask 7 1 6 [.ref X, .int x, .int t, .int len, .int crew, .int cost] sz sk rf sg (pb_thr "java/lang/IndexOutOfBoundsException" sz sk rf sg) := by
  refine pb_start hfl (by decide +kernel) rfl (pb_c1 rfl) (Nat.le_of_ble_eq_true rfl) (fun F hF h hQ => ?_)
  subst hF
  show pv F 0 0 sz sk rf sg 0 [some (.ref X), some (.int x), some (.int t), some (.int len), some (.int crew), some (.int cost), none, none, none] []
  obtain ⟨hX0, hX1, hX2, hX3, hX4, hX5, hX6, hXc, hXj, hXw, hXs, hXn, hXb, hXe, hXr, hXp⟩ := id hX
  refine v_aload_n h (i := 0) dX7_setTask_0 (q := 1) rfl rfl rfl ?_
  refine v_iload_n h (i := 1) dX7_setTask_1 (q := 2) rfl rfl rfl ?_
  refine v_callVx h (x_X7_branchAt hfl hX hx) kX7_branchAt tw292 tw0 (by assumption) (by decide) rfl rfl rfl (by simp [Value.category]) (by decide) (by decide) (by decide) rfl dX7_setTask_2 (q := 5) rfl ?_
  intro sz9 hsz9
  exact v_out h hQ rfl (by decide) (by decide) ⟨rfl, hsz9, rfl, rfl, rfl⟩
set_option maxHeartbeats 4000000 in
set_option maxRecDepth 100000 in
theorem x2_X7_setTask {l : Launch} (hfl : l.stackTraces = false) {sz : Nat} {sk : pb_Sk} {rf : pb_Rf} {sg : pb_Sg} {X n : Nat} {B par : Nat → Nat} (hX : pb_sys sk rf X B par n) {b : Nat} (hb : b < n) {t len crew cost : Int32} (hbad : ¬ ((nI 0 ≤ t ∧ t ≤ nI 15) ∧ (nI 1 ≤ len ∧ len ≤ nI 20) ∧ (-1 ≤ crew ∧ crew ≤ nI 4) ∧ (nI 0 ≤ cost ∧ cost ≤ nI 1000))) : pb_Met l mX7_setTask 8 1 6 [.ref X, .int (nI b), .int t, .int len, .int crew, .int cost] sz sk rf sg (pb_thr "java/lang/IllegalArgumentException" sz sk rf sg) := by
  refine pb_start hfl (by decide +kernel) rfl (pb_c1 rfl) (Nat.le_of_ble_eq_true rfl) (fun F hF h hQ => ?_)
  subst hF
  show pv F 0 0 sz sk rf sg 0 [some (.ref X), some (.int (nI b)), some (.int t), some (.int len), some (.int crew), some (.int cost), none, none, none] []
  obtain ⟨hX0, hX1, hX2, hX3, hX4, hX5, hX6, hXc, hXj, hXw, hXs, hXn, hXb, hXe, hXr, hXp⟩ := id hX
  refine v_aload_n h (i := 0) dX7_setTask_0 (q := 1) rfl rfl rfl ?_
  refine v_iload_n h (i := 1) dX7_setTask_1 (q := 2) rfl rfl rfl ?_
  refine v_callV1 h (c_X7_branchAt hfl hX hb) kX7_branchAt tw292 tw0 (by assumption) (by decide) rfl rfl rfl (by simp [Value.category]) (by decide) (Nat.zero_le _) (Nat.zero_le _) rfl dX7_setTask_2 (q := 5) rfl ?_
  refine v_astore h dX7_setTask_5 (q := 7) rfl (Nat.le_of_ble_eq_true rfl) rfl ?_
  refine v_iload_n h (i := 2) dX7_setTask_7 (q := 8) rfl rfl rfl ?_
  by_cases hk1 : nI 0 ≤ t ∧ t ≤ nI 15
  · skip
    refine v_callS0 h (c2_X7_checkTask hfl hk1.1 hk1.2) kX7_checkTask rfl tw364 rfl rfl (by simp [Value.category]) (by decide) (Nat.zero_le _) (Nat.zero_le _) rfl dX7_setTask_8 (q := 11) rfl ?_
    refine v_iload_n h (i := 3) dX7_setTask_11 (q := 12) rfl rfl rfl ?_
    refine v_iconst h (v := nI 1) dX7_setTask_12 (q := 13) rfl (by decide +kernel) ?_
    refine v_bipush h (v := nI 20) dX7_setTask_13 (q := 15) rfl (by decide +kernel) ?_
    by_cases hk2 : nI 1 ≤ len ∧ len ≤ nI 20
    · skip
      refine v_callS0 h (c_X7_checkRange hfl hk2.1 hk2.2) kX7_checkRange rfl tw367 rfl rfl (by simp [Value.category]) (by decide) (Nat.zero_le _) (Nat.zero_le _) rfl dX7_setTask_15 (q := 18) rfl ?_
      refine v_iload h dX7_setTask_18 (q := 20) rfl rfl ?_
      refine v_iconst h (v := (-1)) dX7_setTask_20 (q := 21) rfl (by decide +kernel) ?_
      refine v_iconst h (v := nI 4) dX7_setTask_21 (q := 22) rfl (by decide +kernel) ?_
      by_cases hk3 : -1 ≤ crew ∧ crew ≤ nI 4
      · skip
        refine v_callS0 h (c_X7_checkRange hfl hk3.1 hk3.2) kX7_checkRange rfl tw367 rfl rfl (by simp [Value.category]) (by decide) (Nat.zero_le _) (Nat.zero_le _) rfl dX7_setTask_22 (q := 25) rfl ?_
        refine v_iload h dX7_setTask_25 (q := 27) rfl rfl ?_
        refine v_iconst h (v := nI 0) dX7_setTask_27 (q := 28) rfl (by decide +kernel) ?_
        refine v_sipush h (v := nI 1000) dX7_setTask_28 (q := 31) rfl (by decide +kernel) ?_
        by_cases hk4 : nI 0 ≤ cost ∧ cost ≤ nI 1000
        · skip
          refine v_callS0 h (c_X7_checkRange hfl hk4.1 hk4.2) kX7_checkRange rfl tw367 rfl rfl (by simp [Value.category]) (by decide) (Nat.zero_le _) (Nat.zero_le _) rfl dX7_setTask_31 (q := 34) rfl ?_
          exact absurd ⟨hk1, hk2, hk3, hk4⟩ hbad
        · skip
          refine v_callSx h (x_X7_checkRange hfl (pb_nrng hk4)) kX7_checkRange rfl tw367 rfl rfl (by simp [Value.category]) (by decide) (by decide) (by decide) rfl dX7_setTask_31 (q := 34) rfl ?_
          intro sz9 hsz9
          exact v_out h hQ rfl (by decide) (by decide) ⟨rfl, hsz9, rfl, rfl, rfl⟩
      · skip
        refine v_callSx h (x_X7_checkRange hfl (pb_nrng hk3)) kX7_checkRange rfl tw367 rfl rfl (by simp [Value.category]) (by decide) (by decide) (by decide) rfl dX7_setTask_22 (q := 25) rfl ?_
        intro sz9 hsz9
        exact v_out h hQ rfl (by decide) (by decide) ⟨rfl, hsz9, rfl, rfl, rfl⟩
    · skip
      refine v_callSx h (x_X7_checkRange hfl (pb_nrng hk2)) kX7_checkRange rfl tw367 rfl rfl (by simp [Value.category]) (by decide) (by decide) (by decide) rfl dX7_setTask_15 (q := 18) rfl ?_
      intro sz9 hsz9
      exact v_out h hQ rfl (by decide) (by decide) ⟨rfl, hsz9, rfl, rfl, rfl⟩
  · skip
    refine v_callSx h (x_X7_checkTask hfl (pb_nrng hk1)) kX7_checkTask rfl tw364 rfl rfl (by simp [Value.category]) (by decide) (by decide) (by decide) rfl dX7_setTask_8 (q := 11) rfl ?_
    intro sz9 hsz9
    exact v_out h hQ rfl (by decide) (by decide) ⟨rfl, hsz9, rfl, rfl, rfl⟩
set_option maxHeartbeats 4000000 in
set_option maxRecDepth 100000 in
theorem c_X7_removeTask {l : Launch} (hfl : l.stackTraces = false) {sz : Nat} {sk : pb_Sk} {rf : pb_Rf} {sg : pb_Sg} {X n : Nat} {B par : Nat → Nat} (hX : pb_sys sk rf X B par n) {b t : Nat} (hb : b < n) (ht : t < 16) (hh : pb_has (sg (B b + 1 + 1)) t = true) (hnd : pb_set (fun o => pb_in (sg (B b + 1 + 4) o) t) 16 = 0) {nx s : Nat} (hn : sg (B b + 11) 5 = nI nx) (hn30 : nx < 30) (hs : sg (B b + 11) 6 = nI s) (hs30 : s ≤ 30) : pb_Met l mX7_removeTask 7 0 0 [.ref X, .int (nI b), .int (nI t)] sz sk rf sg (pb_is (some (.int (sg (B b + 1 + 1) t))) sz sk rf (pb_put (pb_keep sg (B b + 11) (B b + 1) t nx s) (B b + 1) t (nI 0) (-1) (nI 0) (nI 0))) := by
  refine pb_start hfl (by decide +kernel) rfl (pb_c1 rfl) (Nat.le_of_ble_eq_true rfl) (fun F hF h hQ => ?_)
  subst hF
  show pv F 0 0 sz sk rf sg 0 [some (.ref X), some (.int (nI b)), some (.int (nI t)), none, none] []
  obtain ⟨hX0, hX1, hX2, hX3, hX4, hX5, hX6, hXc, hXj, hXw, hXs, hXn, hXb, hXe, hXr, hXp⟩ := id hX
  obtain ⟨hb0, hb1, hb2, hb3, hb4, hb5, hb6, hb7, hb8⟩ := id (hXb b hb).2
  obtain ⟨hp0, hp1, hp2, hp3, hp4, hp5, hp6, hp7, hp8⟩ := id hb5
  have hh0 := hb7.1
  refine v_aload_n h (i := 0) dX7_removeTask_0 (q := 1) rfl rfl rfl ?_
  refine v_iload_n h (i := 1) dX7_removeTask_1 (q := 2) rfl rfl rfl ?_
  refine v_callV1 h (c_X7_branchAt hfl hX hb) kX7_branchAt tw292 tw0 (by assumption) (by decide) rfl rfl rfl (by simp [Value.category]) (by decide) (Nat.zero_le _) (Nat.zero_le _) rfl dX7_removeTask_2 (q := 5) rfl ?_
  refine v_astore_n h (i := 3) dX7_removeTask_5 (q := 6) rfl rfl (Nat.le_of_ble_eq_true rfl) rfl ?_
  refine v_iload_n h (i := 2) dX7_removeTask_6 (q := 7) rfl rfl rfl ?_
  refine v_callS0 h (c_X7_checkTask hfl ht) kX7_checkTask rfl tw364 rfl rfl (by simp [Value.category]) (by decide) (Nat.zero_le _) (Nat.zero_le _) rfl dX7_removeTask_7 (q := 10) rfl ?_
  refine v_aload_n h (i := 3) dX7_removeTask_10 (q := 11) rfl rfl rfl ?_
  refine v_getr h fl_X7_65 (by assumption) rfl (by assumption) dX7_removeTask_11 (q := 14) rfl ?_
  refine v_iload_n h (i := 2) dX7_removeTask_14 (q := 15) rfl rfl rfl ?_
  refine v_callV1 h (c_X4_has hfl hb5 ht) kX4_has tw386 tw388 (by assumption) (by decide) rfl rfl rfl (by simp [Value.category]) (by decide) (Nat.zero_le _) (Nat.zero_le _) rfl dX7_removeTask_15 (q := 18) rfl ?_
  refine v_if_ne h dX7_removeTask_18 (q := 21) rfl (tgt := 31) (by decide) (fun c1 => ?_) (fun c1 => absurd hh (by rw [pb_b_0.mp c1]; decide))
  refine v_aload_n h (i := 3) dX7_removeTask_31 (q := 32) rfl rfl rfl ?_
  refine v_getr h fl_X7_65 (by assumption) rfl (by assumption) dX7_removeTask_32 (q := 35) rfl ?_
  refine v_iload_n h (i := 2) dX7_removeTask_35 (q := 36) rfl rfl rfl ?_
  refine v_callV1 h (c_X4_isNeeded hfl hb5 ht) kX4_isNeeded tw422 tw424 (by assumption) (by decide) rfl rfl rfl (by simp [Value.category]) (by decide) (Nat.zero_le _) (Nat.zero_le _) rfl dX7_removeTask_36 (q := 39) rfl ?_
  refine v_if_eq h dX7_removeTask_39 (q := 42) rfl (tgt := 52) (by decide) (fun c2 => ?_) (fun c2 => absurd (pb_b_0.mpr (pb_nd_f.mpr hnd)) c2)
  refine v_aload_n h (i := 3) dX7_removeTask_52 (q := 53) rfl rfl rfl ?_
  refine v_getr h fl_X7_65 (by assumption) rfl (by assumption) dX7_removeTask_53 (q := 56) rfl ?_
  refine v_getr h fl_X7_105 (by assumption) rfl (by assumption) dX7_removeTask_56 (q := 59) rfl ?_
  refine v_iload_n h (i := 2) dX7_removeTask_59 (q := 60) rfl rfl rfl ?_
  refine v_iald h (by assumption) rfl (by first | assumption | omega) (by decide) dX7_removeTask_60 (q := 61) rfl ?_
  refine v_istore h dX7_removeTask_61 (q := 63) rfl (Nat.le_of_ble_eq_true rfl) rfl ?_
  refine v_aload_n h (i := 3) dX7_removeTask_63 (q := 64) rfl rfl rfl ?_
  refine v_getr h fl_X7_79 (by assumption) rfl (by assumption) dX7_removeTask_64 (q := 67) rfl ?_
  refine v_aload_n h (i := 3) dX7_removeTask_67 (q := 68) rfl rfl rfl ?_
  refine v_getr h fl_X7_65 (by assumption) rfl (by assumption) dX7_removeTask_68 (q := 71) rfl ?_
  refine v_iload_n h (i := 2) dX7_removeTask_71 (q := 72) rfl rfl rfl ?_
  refine v_callV0 h (c_X2_keep hfl hb7 hb5 ht hn hn30 hs hs30) kX2_keep tw390 tw392 (by assumption) (by decide) rfl rfl rfl (by simp [Value.category]) (by decide) (Nat.zero_le _) (Nat.zero_le _) rfl dX7_removeTask_72 (q := 75) rfl ?_
  refine v_aload_n h (i := 3) dX7_removeTask_75 (q := 76) rfl rfl rfl ?_
  refine v_getr h fl_X7_65 (by assumption) rfl (by assumption) dX7_removeTask_76 (q := 79) rfl ?_
  refine v_iload_n h (i := 2) dX7_removeTask_79 (q := 80) rfl rfl rfl ?_
  refine v_callV0 h (c_X4_clear hfl hb5 ht) kX4_clear tw430 tw432 (by assumption) (by decide) rfl rfl rfl (by simp [Value.category]) (by decide) (Nat.zero_le _) (Nat.zero_le _) rfl dX7_removeTask_80 (q := 83) rfl ?_
  refine v_iload h dX7_removeTask_83 (q := 85) rfl rfl ?_
  refine v_iret h hQ rfl rfl dX7_removeTask_85 (Nat.zero_le _) (Nat.zero_le _) ⟨rfl, rfl, rfl, rfl, rfl⟩
set_option maxHeartbeats 4000000 in
set_option maxRecDepth 100000 in
theorem x1_X7_removeTask {l : Launch} (hfl : l.stackTraces = false) {sz : Nat} {sk : pb_Sk} {rf : pb_Rf} {sg : pb_Sg} {X n : Nat} {B par : Nat → Nat} (hX : pb_sys sk rf X B par n) {x : Int32} (hx : ∀ b, b < n → ¬ x = nI b) {t : Int32} : pb_Met l mX7_removeTask 7 1 6 [.ref X, .int x, .int t] sz sk rf sg (pb_thr "java/lang/IndexOutOfBoundsException" sz sk rf sg) := by
  refine pb_start hfl (by decide +kernel) rfl (pb_c1 rfl) (Nat.le_of_ble_eq_true rfl) (fun F hF h hQ => ?_)
  subst hF
  show pv F 0 0 sz sk rf sg 0 [some (.ref X), some (.int x), some (.int t), none, none] []
  obtain ⟨hX0, hX1, hX2, hX3, hX4, hX5, hX6, hXc, hXj, hXw, hXs, hXn, hXb, hXe, hXr, hXp⟩ := id hX
  refine v_aload_n h (i := 0) dX7_removeTask_0 (q := 1) rfl rfl rfl ?_
  refine v_iload_n h (i := 1) dX7_removeTask_1 (q := 2) rfl rfl rfl ?_
  refine v_callVx h (x_X7_branchAt hfl hX hx) kX7_branchAt tw292 tw0 (by assumption) (by decide) rfl rfl rfl (by simp [Value.category]) (by decide) (by decide) (by decide) rfl dX7_removeTask_2 (q := 5) rfl ?_
  intro sz9 hsz9
  exact v_out h hQ rfl (by decide) (by decide) ⟨rfl, hsz9, rfl, rfl, rfl⟩
set_option maxHeartbeats 4000000 in
set_option maxRecDepth 100000 in
theorem x2_X7_removeTask {l : Launch} (hfl : l.stackTraces = false) {sz : Nat} {sk : pb_Sk} {rf : pb_Rf} {sg : pb_Sg} {X n : Nat} {B par : Nat → Nat} (hX : pb_sys sk rf X B par n) {b : Nat} (hb : b < n) {t : Int32} (hbad : ¬ (nI 0 ≤ t ∧ t ≤ nI 15)) : pb_Met l mX7_removeTask 8 1 6 [.ref X, .int (nI b), .int t] sz sk rf sg (pb_thr "java/lang/IllegalArgumentException" sz sk rf sg) := by
  refine pb_start hfl (by decide +kernel) rfl (pb_c1 rfl) (Nat.le_of_ble_eq_true rfl) (fun F hF h hQ => ?_)
  subst hF
  show pv F 0 0 sz sk rf sg 0 [some (.ref X), some (.int (nI b)), some (.int t), none, none] []
  obtain ⟨hX0, hX1, hX2, hX3, hX4, hX5, hX6, hXc, hXj, hXw, hXs, hXn, hXb, hXe, hXr, hXp⟩ := id hX
  refine v_aload_n h (i := 0) dX7_removeTask_0 (q := 1) rfl rfl rfl ?_
  refine v_iload_n h (i := 1) dX7_removeTask_1 (q := 2) rfl rfl rfl ?_
  refine v_callV1 h (c_X7_branchAt hfl hX hb) kX7_branchAt tw292 tw0 (by assumption) (by decide) rfl rfl rfl (by simp [Value.category]) (by decide) (Nat.zero_le _) (Nat.zero_le _) rfl dX7_removeTask_2 (q := 5) rfl ?_
  refine v_astore_n h (i := 3) dX7_removeTask_5 (q := 6) rfl rfl (Nat.le_of_ble_eq_true rfl) rfl ?_
  refine v_iload_n h (i := 2) dX7_removeTask_6 (q := 7) rfl rfl rfl ?_
  refine v_callSx h (x_X7_checkTask hfl (pb_nrng hbad)) kX7_checkTask rfl tw364 rfl rfl (by simp [Value.category]) (by decide) (by decide) (by decide) rfl dX7_removeTask_7 (q := 10) rfl ?_
  intro sz9 hsz9
  exact v_out h hQ rfl (by decide) (by decide) ⟨rfl, hsz9, rfl, rfl, rfl⟩
set_option maxHeartbeats 4000000 in
set_option maxRecDepth 100000 in
theorem x3_X7_removeTask {l : Launch} (hfl : l.stackTraces = false) {sz : Nat} {sk : pb_Sk} {rf : pb_Rf} {sg : pb_Sg} {X n : Nat} {B par : Nat → Nat} (hX : pb_sys sk rf X B par n) {b t : Nat} (hb : b < n) (ht : t < 16) (hbad : pb_has (sg (B b + 1 + 1)) t = true → ¬ pb_set (fun o => pb_in (sg (B b + 1 + 4) o) t) 16 = 0) : pb_Met l mX7_removeTask 8 1 6 [.ref X, .int (nI b), .int (nI t)] sz sk rf sg (pb_thr "java/lang/IllegalStateException" sz sk rf sg) := by
  refine pb_start hfl (by decide +kernel) rfl (pb_c1 rfl) (Nat.le_of_ble_eq_true rfl) (fun F hF h hQ => ?_)
  subst hF
  show pv F 0 0 sz sk rf sg 0 [some (.ref X), some (.int (nI b)), some (.int (nI t)), none, none] []
  obtain ⟨hX0, hX1, hX2, hX3, hX4, hX5, hX6, hXc, hXj, hXw, hXs, hXn, hXb, hXe, hXr, hXp⟩ := id hX
  obtain ⟨hb0, hb1, hb2, hb3, hb4, hb5, hb6, hb7, hb8⟩ := id (hXb b hb).2
  obtain ⟨hp0, hp1, hp2, hp3, hp4, hp5, hp6, hp7, hp8⟩ := id hb5
  refine v_aload_n h (i := 0) dX7_removeTask_0 (q := 1) rfl rfl rfl ?_
  refine v_iload_n h (i := 1) dX7_removeTask_1 (q := 2) rfl rfl rfl ?_
  refine v_callV1 h (c_X7_branchAt hfl hX hb) kX7_branchAt tw292 tw0 (by assumption) (by decide) rfl rfl rfl (by simp [Value.category]) (by decide) (Nat.zero_le _) (Nat.zero_le _) rfl dX7_removeTask_2 (q := 5) rfl ?_
  refine v_astore_n h (i := 3) dX7_removeTask_5 (q := 6) rfl rfl (Nat.le_of_ble_eq_true rfl) rfl ?_
  refine v_iload_n h (i := 2) dX7_removeTask_6 (q := 7) rfl rfl rfl ?_
  refine v_callS0 h (c_X7_checkTask hfl ht) kX7_checkTask rfl tw364 rfl rfl (by simp [Value.category]) (by decide) (Nat.zero_le _) (Nat.zero_le _) rfl dX7_removeTask_7 (q := 10) rfl ?_
  refine v_aload_n h (i := 3) dX7_removeTask_10 (q := 11) rfl rfl rfl ?_
  refine v_getr h fl_X7_65 (by assumption) rfl (by assumption) dX7_removeTask_11 (q := 14) rfl ?_
  refine v_iload_n h (i := 2) dX7_removeTask_14 (q := 15) rfl rfl rfl ?_
  refine v_callV1 h (c_X4_has hfl hb5 ht) kX4_has tw386 tw388 (by assumption) (by decide) rfl rfl rfl (by simp [Value.category]) (by decide) (Nat.zero_le _) (Nat.zero_le _) rfl dX7_removeTask_15 (q := 18) rfl ?_
  refine v_if_ne h dX7_removeTask_18 (q := 21) rfl (tgt := 31) (by decide) (fun c1 => ?_) (fun c1 => ?_)
  · skip
    have e8 := pb_ne_f (fun q => c1 (pb_b_0.mpr q))
    refine v_aload_n h (i := 3) dX7_removeTask_31 (q := 32) rfl rfl rfl ?_
    refine v_getr h fl_X7_65 (by assumption) rfl (by assumption) dX7_removeTask_32 (q := 35) rfl ?_
    refine v_iload_n h (i := 2) dX7_removeTask_35 (q := 36) rfl rfl rfl ?_
    refine v_callV1 h (c_X4_isNeeded hfl hb5 ht) kX4_isNeeded tw422 tw424 (by assumption) (by decide) rfl rfl rfl (by simp [Value.category]) (by decide) (Nat.zero_le _) (Nat.zero_le _) rfl dX7_removeTask_36 (q := 39) rfl ?_
    refine v_if_eq h dX7_removeTask_39 (q := 42) rfl (tgt := 52) (by decide) (fun c2 => absurd (pb_nd_f.mp (pb_b_0.mp c2)) (hbad e8)) (fun c2 => ?_)
    refine v_throw h hQ rfl (th_X7_93) (is := 103) (text := "another task needs it") (by decide +kernel) rfl dX7_removeTask_42 dX7_removeTask_45 dX7_removeTask_46 dX7_removeTask_48 dX7_removeTask_51 (by decide) (by decide) (by decide) (by decide) (fun sz9 hsz9 => ⟨rfl, hsz9, rfl, rfl, rfl⟩)
  · skip
    refine v_throw h hQ rfl (th_X7_93) (is := 95) (text := "the task is not there") (by decide +kernel) rfl dX7_removeTask_21 dX7_removeTask_24 dX7_removeTask_25 dX7_removeTask_27 dX7_removeTask_30 (by decide) (by decide) (by decide) (by decide) (fun sz9 hsz9 => ⟨rfl, hsz9, rfl, rfl, rfl⟩)
set_option maxHeartbeats 4000000 in
set_option maxRecDepth 100000 in
theorem c_X7_setNeed {l : Launch} (hfl : l.stackTraces = false) {sz : Nat} {sk : pb_Sk} {rf : pb_Rf} {sg : pb_Sg} {X n : Nat} {B par : Nat → Nat} (hX : pb_sys sk rf X B par n) {b t o : Nat} {does : Bool} (hb : b < n) (ht : t < 16) (ho : o < 16) (hne : ¬ t = o) (hh1 : pb_has (sg (B b + 1 + 1)) t = true) (hh2 : pb_has (sg (B b + 1 + 1)) o = true) (hr : does = true → pb_in (pb_all (sg (B b + 1 + 4)) o) t = false) {nx s : Nat} (hn : sg (B b + 11) 5 = nI nx) (hn30 : nx < 30) (hs : sg (B b + 11) 6 = nI s) (hs30 : s ≤ 30) : pb_Met l mX7_setNeed 7 0 0 [.ref X, .int (nI b), .int (nI t), .int (nI o), .int (pb_b does)] sz sk rf sg (pb_is (some (.int (pb_b (pb_in (sg (B b + 1 + 4) t) o)))) sz sk rf (if does = true then pb_up (pb_keep sg (B b + 11) (B b + 1) t nx s) (B b + 1 + 4) t ((pb_keep sg (B b + 11) (B b + 1) t nx s) (B b + 1 + 4) t ||| (nI 1 <<< (nI o &&& 31))) else pb_up (pb_keep sg (B b + 11) (B b + 1) t nx s) (B b + 1 + 4) t ((pb_keep sg (B b + 11) (B b + 1) t nx s) (B b + 1 + 4) t &&& ((nI 1 <<< (nI o &&& 31)) ^^^ (-1))))) := by
  refine pb_start hfl (by decide +kernel) rfl (pb_c1 rfl) (Nat.le_of_ble_eq_true rfl) (fun F hF h hQ => ?_)
  subst hF
  show pv F 0 0 sz sk rf sg 0 [some (.ref X), some (.int (nI b)), some (.int (nI t)), some (.int (nI o)), some (.int (pb_b does)), none, none] []
  obtain ⟨hX0, hX1, hX2, hX3, hX4, hX5, hX6, hXc, hXj, hXw, hXs, hXn, hXb, hXe, hXr, hXp⟩ := id hX
  obtain ⟨hb0, hb1, hb2, hb3, hb4, hb5, hb6, hb7, hb8⟩ := id (hXb b hb).2
  obtain ⟨hp0, hp1, hp2, hp3, hp4, hp5, hp6, hp7, hp8⟩ := id hb5
  have hh0 := hb7.1
  refine v_aload_n h (i := 0) dX7_setNeed_0 (q := 1) rfl rfl rfl ?_
  refine v_iload_n h (i := 1) dX7_setNeed_1 (q := 2) rfl rfl rfl ?_
  refine v_callV1 h (c_X7_branchAt hfl hX hb) kX7_branchAt tw292 tw0 (by assumption) (by decide) rfl rfl rfl (by simp [Value.category]) (by decide) (Nat.zero_le _) (Nat.zero_le _) rfl dX7_setNeed_2 (q := 5) rfl ?_
  refine v_astore h dX7_setNeed_5 (q := 7) rfl (Nat.le_of_ble_eq_true rfl) rfl ?_
  refine v_iload_n h (i := 2) dX7_setNeed_7 (q := 8) rfl rfl rfl ?_
  refine v_callS0 h (c_X7_checkTask hfl ht) kX7_checkTask rfl tw364 rfl rfl (by simp [Value.category]) (by decide) (Nat.zero_le _) (Nat.zero_le _) rfl dX7_setNeed_8 (q := 11) rfl ?_
  refine v_iload_n h (i := 3) dX7_setNeed_11 (q := 12) rfl rfl rfl ?_
  refine v_callS0 h (c_X7_checkTask hfl ho) kX7_checkTask rfl tw364 rfl rfl (by simp [Value.category]) (by decide) (Nat.zero_le _) (Nat.zero_le _) rfl dX7_setNeed_12 (q := 15) rfl ?_
  refine v_iload_n h (i := 2) dX7_setNeed_15 (q := 16) rfl rfl rfl ?_
  refine v_iload_n h (i := 3) dX7_setNeed_16 (q := 17) rfl rfl rfl ?_
  refine v_icmp_ne h dX7_setNeed_17 (q := 20) rfl (tgt := 30) (by decide) (fun c1 => ?_) (fun c1 => absurd ((nI_eq (by omega) (by omega)).mp c1) hne)
  refine v_aload h dX7_setNeed_30 (q := 32) rfl rfl ?_
  refine v_getr h fl_X7_65 (by assumption) rfl (by assumption) dX7_setNeed_32 (q := 35) rfl ?_
  refine v_iload_n h (i := 2) dX7_setNeed_35 (q := 36) rfl rfl rfl ?_
  refine v_callV1 h (c_X4_has hfl hb5 ht) kX4_has tw386 tw388 (by assumption) (by decide) rfl rfl rfl (by simp [Value.category]) (by decide) (Nat.zero_le _) (Nat.zero_le _) rfl dX7_setNeed_36 (q := 39) rfl ?_
  refine v_if_eq h dX7_setNeed_39 (q := 42) rfl (tgt := 54) (by decide) (fun c2 => absurd hh1 (by rw [pb_b_0.mp c2]; decide)) (fun c2 => ?_)
  refine v_aload h dX7_setNeed_42 (q := 44) rfl rfl ?_
  refine v_getr h fl_X7_65 (by assumption) rfl (by assumption) dX7_setNeed_44 (q := 47) rfl ?_
  refine v_iload_n h (i := 3) dX7_setNeed_47 (q := 48) rfl rfl rfl ?_
  refine v_callV1 h (c_X4_has hfl hb5 ho) kX4_has tw386 tw388 (by assumption) (by decide) rfl rfl rfl (by simp [Value.category]) (by decide) (Nat.zero_le _) (Nat.zero_le _) rfl dX7_setNeed_48 (q := 51) rfl ?_
  refine v_if_ne h dX7_setNeed_51 (q := 54) rfl (tgt := 64) (by decide) (fun c3 => ?_) (fun c3 => absurd hh2 (by rw [pb_b_0.mp c3]; decide))
  refine v_iload h dX7_setNeed_64 (q := 66) rfl rfl ?_
  refine v_if_eq h dX7_setNeed_66 (q := 69) rfl (tgt := 95) (by decide) (fun c4 => ?_) (fun c4 => ?_)
  · skip
    have e7 := pb_b_0.mp c4
    refine v_aload h dX7_setNeed_95 (q := 97) rfl rfl ?_
    refine v_getr h fl_X7_65 (by assumption) rfl (by assumption) dX7_setNeed_97 (q := 100) rfl ?_
    refine v_getr h fl_X7_75 (by assumption) rfl (by assumption) dX7_setNeed_100 (q := 103) rfl ?_
    refine v_iload_n h (i := 2) dX7_setNeed_103 (q := 104) rfl rfl rfl ?_
    refine v_iald h (by assumption) rfl (by first | assumption | omega) (by decide) dX7_setNeed_104 (q := 105) rfl ?_
    refine v_iload_n h (i := 3) dX7_setNeed_105 (q := 106) rfl rfl rfl ?_
    refine v_callS1 h (c_X7_contains hfl (show o < 32 by omega)) kX7_contains rfl tw448 rfl rfl (by simp [Value.category]) (by decide) (Nat.zero_le _) (Nat.zero_le _) rfl dX7_setNeed_106 (q := 109) rfl ?_
    refine v_istore h dX7_setNeed_109 (q := 111) rfl (Nat.le_of_ble_eq_true rfl) rfl ?_
    refine v_aload h dX7_setNeed_111 (q := 113) rfl rfl ?_
    refine v_getr h fl_X7_79 (by assumption) rfl (by assumption) dX7_setNeed_113 (q := 116) rfl ?_
    refine v_aload h dX7_setNeed_116 (q := 118) rfl rfl ?_
    refine v_getr h fl_X7_65 (by assumption) rfl (by assumption) dX7_setNeed_118 (q := 121) rfl ?_
    refine v_iload_n h (i := 2) dX7_setNeed_121 (q := 122) rfl rfl rfl ?_
    refine v_callV0 h (c_X2_keep hfl hb7 hb5 ht hn hn30 hs hs30) kX2_keep tw390 tw392 (by assumption) (by decide) rfl rfl rfl (by simp [Value.category]) (by decide) (Nat.zero_le _) (Nat.zero_le _) rfl dX7_setNeed_122 (q := 125) rfl ?_
    refine v_iload h dX7_setNeed_125 (q := 127) rfl rfl ?_
    refine v_if_eq h dX7_setNeed_127 (q := 130) rfl (tgt := 149) (by decide) (fun c9 => ?_) (fun c9 => ?_)
    · skip
      refine v_aload h dX7_setNeed_149 (q := 151) rfl rfl ?_
      refine v_getr h fl_X7_65 (by assumption) rfl (by assumption) dX7_setNeed_151 (q := 154) rfl ?_
      refine v_getr h fl_X7_75 (by assumption) rfl (by assumption) dX7_setNeed_154 (q := 157) rfl ?_
      refine v_iload_n h (i := 2) dX7_setNeed_157 (q := 158) rfl rfl rfl ?_
      refine v_dup2 h dX7_setNeed_158 (q := 159) rfl rfl rfl ?_
      refine v_iald h (by assumption) rfl (by first | assumption | omega) (by decide) dX7_setNeed_159 (q := 160) rfl ?_
      refine v_iconst h (v := nI 1) dX7_setNeed_160 (q := 161) rfl (by decide +kernel) ?_
      refine v_iload_n h (i := 3) dX7_setNeed_161 (q := 162) rfl rfl rfl ?_
      refine v_ishl h dX7_setNeed_162 (q := 163) rfl ?_
      refine v_iconst h (v := (-1)) dX7_setNeed_163 (q := 164) rfl (by decide +kernel) ?_
      refine v_ixor h dX7_setNeed_164 (q := 165) rfl ?_
      refine v_iand h dX7_setNeed_165 (q := 166) rfl ?_
      refine v_iast h (by assumption) rfl (by first | assumption | omega) (by decide) dX7_setNeed_166 (q := 167) rfl ?_
      refine v_iload h dX7_setNeed_167 (q := 169) rfl rfl ?_
      refine v_iret h hQ rfl (by first | exact rfl | exact pb_b_nar _) dX7_setNeed_169 (Nat.zero_le _) (Nat.zero_le _) ⟨rfl, rfl, rfl, rfl, by first | (exact absurd (pb_b_0.mpr e7) c9) | (exact absurd (e7.symm.trans (pb_b_0.mp c9)) (by decide)) | (rw [if_pos e7]; done) | (rw [if_neg (by rw [e7]; decide)]; done)⟩
    · skip
      refine v_aload h dX7_setNeed_130 (q := 132) rfl rfl ?_
      refine v_getr h fl_X7_65 (by assumption) rfl (by assumption) dX7_setNeed_132 (q := 135) rfl ?_
      refine v_getr h fl_X7_75 (by assumption) rfl (by assumption) dX7_setNeed_135 (q := 138) rfl ?_
      refine v_iload_n h (i := 2) dX7_setNeed_138 (q := 139) rfl rfl rfl ?_
      refine v_dup2 h dX7_setNeed_139 (q := 140) rfl rfl rfl ?_
      refine v_iald h (by assumption) rfl (by first | assumption | omega) (by decide) dX7_setNeed_140 (q := 141) rfl ?_
      refine v_iconst h (v := nI 1) dX7_setNeed_141 (q := 142) rfl (by decide +kernel) ?_
      refine v_iload_n h (i := 3) dX7_setNeed_142 (q := 143) rfl rfl rfl ?_
      refine v_ishl h dX7_setNeed_143 (q := 144) rfl ?_
      refine v_ior h dX7_setNeed_144 (q := 145) rfl ?_
      refine v_iast h (by assumption) rfl (by first | assumption | omega) (by decide) dX7_setNeed_145 (q := 146) rfl ?_
      refine v_goto h dX7_setNeed_146 (tgt := 167) (by decide) ?_
      refine v_iload h dX7_setNeed_167 (q := 169) rfl rfl ?_
      refine v_iret h hQ rfl (by first | exact rfl | exact pb_b_nar _) dX7_setNeed_169 (Nat.zero_le _) (Nat.zero_le _) ⟨rfl, rfl, rfl, rfl, by first | (exact absurd (pb_b_0.mpr e7) c9) | (exact absurd (e7.symm.trans (pb_b_0.mp c9)) (by decide)) | (rw [if_pos e7]; done) | (rw [if_neg (by rw [e7]; decide)]; done)⟩
  · skip
    have e7 := pb_ne_f (fun q => c4 (pb_b_0.mpr q))
    refine v_aload h dX7_setNeed_69 (q := 71) rfl rfl ?_
    refine v_getr h fl_X7_65 (by assumption) rfl (by assumption) dX7_setNeed_71 (q := 74) rfl ?_
    refine v_iload_n h (i := 3) dX7_setNeed_74 (q := 75) rfl rfl rfl ?_
    refine v_callV1 h (c_X4_allNeeds hfl hb5 ho) kX4_allNeeds tw444 tw446 (by assumption) (by decide) rfl rfl rfl (by simp [Value.category]) (by decide) (Nat.zero_le _) (Nat.zero_le _) rfl dX7_setNeed_75 (q := 78) rfl ?_
    refine v_iload_n h (i := 2) dX7_setNeed_78 (q := 79) rfl rfl rfl ?_
    refine v_callS1 h (c_X7_contains hfl (show t < 32 by omega)) kX7_contains rfl tw448 rfl rfl (by simp [Value.category]) (by decide) (Nat.zero_le _) (Nat.zero_le _) rfl dX7_setNeed_79 (q := 82) rfl ?_
    refine v_if_eq h dX7_setNeed_82 (q := 85) rfl (tgt := 95) (by decide) (fun c6 => ?_) (fun c6 => absurd (hr e7) (fun q => c6 (pb_b_0.mpr q)))
    refine v_aload h dX7_setNeed_95 (q := 97) rfl rfl ?_
    refine v_getr h fl_X7_65 (by assumption) rfl (by assumption) dX7_setNeed_97 (q := 100) rfl ?_
    refine v_getr h fl_X7_75 (by assumption) rfl (by assumption) dX7_setNeed_100 (q := 103) rfl ?_
    refine v_iload_n h (i := 2) dX7_setNeed_103 (q := 104) rfl rfl rfl ?_
    refine v_iald h (by assumption) rfl (by first | assumption | omega) (by decide) dX7_setNeed_104 (q := 105) rfl ?_
    refine v_iload_n h (i := 3) dX7_setNeed_105 (q := 106) rfl rfl rfl ?_
    refine v_callS1 h (c_X7_contains hfl (show o < 32 by omega)) kX7_contains rfl tw448 rfl rfl (by simp [Value.category]) (by decide) (Nat.zero_le _) (Nat.zero_le _) rfl dX7_setNeed_106 (q := 109) rfl ?_
    refine v_istore h dX7_setNeed_109 (q := 111) rfl (Nat.le_of_ble_eq_true rfl) rfl ?_
    refine v_aload h dX7_setNeed_111 (q := 113) rfl rfl ?_
    refine v_getr h fl_X7_79 (by assumption) rfl (by assumption) dX7_setNeed_113 (q := 116) rfl ?_
    refine v_aload h dX7_setNeed_116 (q := 118) rfl rfl ?_
    refine v_getr h fl_X7_65 (by assumption) rfl (by assumption) dX7_setNeed_118 (q := 121) rfl ?_
    refine v_iload_n h (i := 2) dX7_setNeed_121 (q := 122) rfl rfl rfl ?_
    refine v_callV0 h (c_X2_keep hfl hb7 hb5 ht hn hn30 hs hs30) kX2_keep tw390 tw392 (by assumption) (by decide) rfl rfl rfl (by simp [Value.category]) (by decide) (Nat.zero_le _) (Nat.zero_le _) rfl dX7_setNeed_122 (q := 125) rfl ?_
    refine v_iload h dX7_setNeed_125 (q := 127) rfl rfl ?_
    refine v_if_eq h dX7_setNeed_127 (q := 130) rfl (tgt := 149) (by decide) (fun c9 => ?_) (fun c9 => ?_)
    · skip
      refine v_aload h dX7_setNeed_149 (q := 151) rfl rfl ?_
      refine v_getr h fl_X7_65 (by assumption) rfl (by assumption) dX7_setNeed_151 (q := 154) rfl ?_
      refine v_getr h fl_X7_75 (by assumption) rfl (by assumption) dX7_setNeed_154 (q := 157) rfl ?_
      refine v_iload_n h (i := 2) dX7_setNeed_157 (q := 158) rfl rfl rfl ?_
      refine v_dup2 h dX7_setNeed_158 (q := 159) rfl rfl rfl ?_
      refine v_iald h (by assumption) rfl (by first | assumption | omega) (by decide) dX7_setNeed_159 (q := 160) rfl ?_
      refine v_iconst h (v := nI 1) dX7_setNeed_160 (q := 161) rfl (by decide +kernel) ?_
      refine v_iload_n h (i := 3) dX7_setNeed_161 (q := 162) rfl rfl rfl ?_
      refine v_ishl h dX7_setNeed_162 (q := 163) rfl ?_
      refine v_iconst h (v := (-1)) dX7_setNeed_163 (q := 164) rfl (by decide +kernel) ?_
      refine v_ixor h dX7_setNeed_164 (q := 165) rfl ?_
      refine v_iand h dX7_setNeed_165 (q := 166) rfl ?_
      refine v_iast h (by assumption) rfl (by first | assumption | omega) (by decide) dX7_setNeed_166 (q := 167) rfl ?_
      refine v_iload h dX7_setNeed_167 (q := 169) rfl rfl ?_
      refine v_iret h hQ rfl (by first | exact rfl | exact pb_b_nar _) dX7_setNeed_169 (Nat.zero_le _) (Nat.zero_le _) ⟨rfl, rfl, rfl, rfl, by first | (exact absurd (pb_b_0.mpr e7) c9) | (exact absurd (e7.symm.trans (pb_b_0.mp c9)) (by decide)) | (rw [if_pos e7]; done) | (rw [if_neg (by rw [e7]; decide)]; done)⟩
    · skip
      refine v_aload h dX7_setNeed_130 (q := 132) rfl rfl ?_
      refine v_getr h fl_X7_65 (by assumption) rfl (by assumption) dX7_setNeed_132 (q := 135) rfl ?_
      refine v_getr h fl_X7_75 (by assumption) rfl (by assumption) dX7_setNeed_135 (q := 138) rfl ?_
      refine v_iload_n h (i := 2) dX7_setNeed_138 (q := 139) rfl rfl rfl ?_
      refine v_dup2 h dX7_setNeed_139 (q := 140) rfl rfl rfl ?_
      refine v_iald h (by assumption) rfl (by first | assumption | omega) (by decide) dX7_setNeed_140 (q := 141) rfl ?_
      refine v_iconst h (v := nI 1) dX7_setNeed_141 (q := 142) rfl (by decide +kernel) ?_
      refine v_iload_n h (i := 3) dX7_setNeed_142 (q := 143) rfl rfl rfl ?_
      refine v_ishl h dX7_setNeed_143 (q := 144) rfl ?_
      refine v_ior h dX7_setNeed_144 (q := 145) rfl ?_
      refine v_iast h (by assumption) rfl (by first | assumption | omega) (by decide) dX7_setNeed_145 (q := 146) rfl ?_
      refine v_goto h dX7_setNeed_146 (tgt := 167) (by decide) ?_
      refine v_iload h dX7_setNeed_167 (q := 169) rfl rfl ?_
      refine v_iret h hQ rfl (by first | exact rfl | exact pb_b_nar _) dX7_setNeed_169 (Nat.zero_le _) (Nat.zero_le _) ⟨rfl, rfl, rfl, rfl, by first | (exact absurd (pb_b_0.mpr e7) c9) | (exact absurd (e7.symm.trans (pb_b_0.mp c9)) (by decide)) | (rw [if_pos e7]; done) | (rw [if_neg (by rw [e7]; decide)]; done)⟩
set_option maxHeartbeats 4000000 in
set_option maxRecDepth 100000 in
theorem x1_X7_setNeed {l : Launch} (hfl : l.stackTraces = false) {sz : Nat} {sk : pb_Sk} {rf : pb_Rf} {sg : pb_Sg} {X n : Nat} {B par : Nat → Nat} (hX : pb_sys sk rf X B par n) {x : Int32} (hx : ∀ b, b < n → ¬ x = nI b) {t o e : Int32} : pb_Met l mX7_setNeed 7 1 6 [.ref X, .int x, .int t, .int o, .int e] sz sk rf sg (pb_thr "java/lang/IndexOutOfBoundsException" sz sk rf sg) := by
  refine pb_start hfl (by decide +kernel) rfl (pb_c1 rfl) (Nat.le_of_ble_eq_true rfl) (fun F hF h hQ => ?_)
  subst hF
  show pv F 0 0 sz sk rf sg 0 [some (.ref X), some (.int x), some (.int t), some (.int o), some (.int e), none, none] []
  obtain ⟨hX0, hX1, hX2, hX3, hX4, hX5, hX6, hXc, hXj, hXw, hXs, hXn, hXb, hXe, hXr, hXp⟩ := id hX
  refine v_aload_n h (i := 0) dX7_setNeed_0 (q := 1) rfl rfl rfl ?_
  refine v_iload_n h (i := 1) dX7_setNeed_1 (q := 2) rfl rfl rfl ?_
  refine v_callVx h (x_X7_branchAt hfl hX hx) kX7_branchAt tw292 tw0 (by assumption) (by decide) rfl rfl rfl (by simp [Value.category]) (by decide) (by decide) (by decide) rfl dX7_setNeed_2 (q := 5) rfl ?_
  intro sz9 hsz9
  exact v_out h hQ rfl (by decide) (by decide) ⟨rfl, hsz9, rfl, rfl, rfl⟩
set_option maxHeartbeats 4000000 in
set_option maxRecDepth 100000 in
theorem x2_X7_setNeed {l : Launch} (hfl : l.stackTraces = false) {sz : Nat} {sk : pb_Sk} {rf : pb_Rf} {sg : pb_Sg} {X n : Nat} {B par : Nat → Nat} (hX : pb_sys sk rf X B par n) {b : Nat} (hb : b < n) {t o e : Int32} (hbad : ¬ ((nI 0 ≤ t ∧ t ≤ nI 15) ∧ (nI 0 ≤ o ∧ o ≤ nI 15) ∧ ¬ t = o)) : pb_Met l mX7_setNeed 8 1 6 [.ref X, .int (nI b), .int t, .int o, .int e] sz sk rf sg (pb_thr "java/lang/IllegalArgumentException" sz sk rf sg) := by
  refine pb_start hfl (by decide +kernel) rfl (pb_c1 rfl) (Nat.le_of_ble_eq_true rfl) (fun F hF h hQ => ?_)
  subst hF
  show pv F 0 0 sz sk rf sg 0 [some (.ref X), some (.int (nI b)), some (.int t), some (.int o), some (.int e), none, none] []
  obtain ⟨hX0, hX1, hX2, hX3, hX4, hX5, hX6, hXc, hXj, hXw, hXs, hXn, hXb, hXe, hXr, hXp⟩ := id hX
  refine v_aload_n h (i := 0) dX7_setNeed_0 (q := 1) rfl rfl rfl ?_
  refine v_iload_n h (i := 1) dX7_setNeed_1 (q := 2) rfl rfl rfl ?_
  refine v_callV1 h (c_X7_branchAt hfl hX hb) kX7_branchAt tw292 tw0 (by assumption) (by decide) rfl rfl rfl (by simp [Value.category]) (by decide) (Nat.zero_le _) (Nat.zero_le _) rfl dX7_setNeed_2 (q := 5) rfl ?_
  refine v_astore h dX7_setNeed_5 (q := 7) rfl (Nat.le_of_ble_eq_true rfl) rfl ?_
  refine v_iload_n h (i := 2) dX7_setNeed_7 (q := 8) rfl rfl rfl ?_
  by_cases hk1 : nI 0 ≤ t ∧ t ≤ nI 15
  · skip
    refine v_callS0 h (c2_X7_checkTask hfl hk1.1 hk1.2) kX7_checkTask rfl tw364 rfl rfl (by simp [Value.category]) (by decide) (Nat.zero_le _) (Nat.zero_le _) rfl dX7_setNeed_8 (q := 11) rfl ?_
    refine v_iload_n h (i := 3) dX7_setNeed_11 (q := 12) rfl rfl rfl ?_
    by_cases hk2 : nI 0 ≤ o ∧ o ≤ nI 15
    · skip
      refine v_callS0 h (c2_X7_checkTask hfl hk2.1 hk2.2) kX7_checkTask rfl tw364 rfl rfl (by simp [Value.category]) (by decide) (Nat.zero_le _) (Nat.zero_le _) rfl dX7_setNeed_12 (q := 15) rfl ?_
      refine v_iload_n h (i := 2) dX7_setNeed_15 (q := 16) rfl rfl rfl ?_
      refine v_iload_n h (i := 3) dX7_setNeed_16 (q := 17) rfl rfl rfl ?_
      refine v_icmp_ne h dX7_setNeed_17 (q := 20) rfl (tgt := 30) (by decide) (fun c1 => absurd ⟨hk1, hk2, c1⟩ hbad) (fun c1 => ?_)
      refine v_throw h hQ rfl (th_X7_111) (is := 113) (text := "a task cannot need itself") (by decide +kernel) rfl dX7_setNeed_20 dX7_setNeed_23 dX7_setNeed_24 dX7_setNeed_26 dX7_setNeed_29 (by decide) (by decide) (by decide) (by decide) (fun sz9 hsz9 => ⟨rfl, hsz9, rfl, rfl, rfl⟩)
    · skip
      refine v_callSx h (x_X7_checkTask hfl (pb_nrng hk2)) kX7_checkTask rfl tw364 rfl rfl (by simp [Value.category]) (by decide) (by decide) (by decide) rfl dX7_setNeed_12 (q := 15) rfl ?_
      intro sz9 hsz9
      exact v_out h hQ rfl (by decide) (by decide) ⟨rfl, hsz9, rfl, rfl, rfl⟩
  · skip
    refine v_callSx h (x_X7_checkTask hfl (pb_nrng hk1)) kX7_checkTask rfl tw364 rfl rfl (by simp [Value.category]) (by decide) (by decide) (by decide) rfl dX7_setNeed_8 (q := 11) rfl ?_
    intro sz9 hsz9
    exact v_out h hQ rfl (by decide) (by decide) ⟨rfl, hsz9, rfl, rfl, rfl⟩
set_option maxHeartbeats 4000000 in
set_option maxRecDepth 100000 in
theorem x3_X7_setNeed {l : Launch} (hfl : l.stackTraces = false) {sz : Nat} {sk : pb_Sk} {rf : pb_Rf} {sg : pb_Sg} {X n : Nat} {B par : Nat → Nat} (hX : pb_sys sk rf X B par n) {b t o : Nat} {does : Bool} (hb : b < n) (ht : t < 16) (ho : o < 16) (hne : ¬ t = o) (hbad : pb_has (sg (B b + 1 + 1)) t = true → pb_has (sg (B b + 1 + 1)) o = true → does = true ∧ pb_in (pb_all (sg (B b + 1 + 4)) o) t = true) : pb_Met l mX7_setNeed 8 1 6 [.ref X, .int (nI b), .int (nI t), .int (nI o), .int (pb_b does)] sz sk rf sg (pb_thr "java/lang/IllegalStateException" sz sk rf sg) := by
  refine pb_start hfl (by decide +kernel) rfl (pb_c1 rfl) (Nat.le_of_ble_eq_true rfl) (fun F hF h hQ => ?_)
  subst hF
  show pv F 0 0 sz sk rf sg 0 [some (.ref X), some (.int (nI b)), some (.int (nI t)), some (.int (nI o)), some (.int (pb_b does)), none, none] []
  obtain ⟨hX0, hX1, hX2, hX3, hX4, hX5, hX6, hXc, hXj, hXw, hXs, hXn, hXb, hXe, hXr, hXp⟩ := id hX
  obtain ⟨hb0, hb1, hb2, hb3, hb4, hb5, hb6, hb7, hb8⟩ := id (hXb b hb).2
  obtain ⟨hp0, hp1, hp2, hp3, hp4, hp5, hp6, hp7, hp8⟩ := id hb5
  refine v_aload_n h (i := 0) dX7_setNeed_0 (q := 1) rfl rfl rfl ?_
  refine v_iload_n h (i := 1) dX7_setNeed_1 (q := 2) rfl rfl rfl ?_
  refine v_callV1 h (c_X7_branchAt hfl hX hb) kX7_branchAt tw292 tw0 (by assumption) (by decide) rfl rfl rfl (by simp [Value.category]) (by decide) (Nat.zero_le _) (Nat.zero_le _) rfl dX7_setNeed_2 (q := 5) rfl ?_
  refine v_astore h dX7_setNeed_5 (q := 7) rfl (Nat.le_of_ble_eq_true rfl) rfl ?_
  refine v_iload_n h (i := 2) dX7_setNeed_7 (q := 8) rfl rfl rfl ?_
  refine v_callS0 h (c_X7_checkTask hfl ht) kX7_checkTask rfl tw364 rfl rfl (by simp [Value.category]) (by decide) (Nat.zero_le _) (Nat.zero_le _) rfl dX7_setNeed_8 (q := 11) rfl ?_
  refine v_iload_n h (i := 3) dX7_setNeed_11 (q := 12) rfl rfl rfl ?_
  refine v_callS0 h (c_X7_checkTask hfl ho) kX7_checkTask rfl tw364 rfl rfl (by simp [Value.category]) (by decide) (Nat.zero_le _) (Nat.zero_le _) rfl dX7_setNeed_12 (q := 15) rfl ?_
  refine v_iload_n h (i := 2) dX7_setNeed_15 (q := 16) rfl rfl rfl ?_
  refine v_iload_n h (i := 3) dX7_setNeed_16 (q := 17) rfl rfl rfl ?_
  refine v_icmp_ne h dX7_setNeed_17 (q := 20) rfl (tgt := 30) (by decide) (fun c1 => ?_) (fun c1 => absurd ((nI_eq (by omega) (by omega)).mp c1) hne)
  refine v_aload h dX7_setNeed_30 (q := 32) rfl rfl ?_
  refine v_getr h fl_X7_65 (by assumption) rfl (by assumption) dX7_setNeed_32 (q := 35) rfl ?_
  refine v_iload_n h (i := 2) dX7_setNeed_35 (q := 36) rfl rfl rfl ?_
  refine v_callV1 h (c_X4_has hfl hb5 ht) kX4_has tw386 tw388 (by assumption) (by decide) rfl rfl rfl (by simp [Value.category]) (by decide) (Nat.zero_le _) (Nat.zero_le _) rfl dX7_setNeed_36 (q := 39) rfl ?_
  refine v_if_eq h dX7_setNeed_39 (q := 42) rfl (tgt := 54) (by decide) (fun c2 => ?_) (fun c2 => ?_)
  · skip
    refine v_throw h hQ rfl (th_X7_93) (is := 116) (text := "one of the tasks is not there") (by decide +kernel) rfl dX7_setNeed_54 dX7_setNeed_57 dX7_setNeed_58 dX7_setNeed_60 dX7_setNeed_63 (by decide) (by decide) (by decide) (by decide) (fun sz9 hsz9 => ⟨rfl, hsz9, rfl, rfl, rfl⟩)
  · skip
    have e1 := pb_ne_f (fun q => c2 (pb_b_0.mpr q))
    refine v_aload h dX7_setNeed_42 (q := 44) rfl rfl ?_
    refine v_getr h fl_X7_65 (by assumption) rfl (by assumption) dX7_setNeed_44 (q := 47) rfl ?_
    refine v_iload_n h (i := 3) dX7_setNeed_47 (q := 48) rfl rfl rfl ?_
    refine v_callV1 h (c_X4_has hfl hb5 ho) kX4_has tw386 tw388 (by assumption) (by decide) rfl rfl rfl (by simp [Value.category]) (by decide) (Nat.zero_le _) (Nat.zero_le _) rfl dX7_setNeed_48 (q := 51) rfl ?_
    refine v_if_ne h dX7_setNeed_51 (q := 54) rfl (tgt := 64) (by decide) (fun c3 => ?_) (fun c3 => ?_)
    · skip
      have e2 := pb_ne_f (fun q => c3 (pb_b_0.mpr q))
      obtain ⟨e3, e4⟩ := hbad e1 e2
      refine v_iload h dX7_setNeed_64 (q := 66) rfl rfl ?_
      refine v_if_eq h dX7_setNeed_66 (q := 69) rfl (tgt := 95) (by decide) (fun c4 => absurd (pb_b_0.mp c4) (by rw [e3]; decide)) (fun c4 => ?_)
      refine v_aload h dX7_setNeed_69 (q := 71) rfl rfl ?_
      refine v_getr h fl_X7_65 (by assumption) rfl (by assumption) dX7_setNeed_71 (q := 74) rfl ?_
      refine v_iload_n h (i := 3) dX7_setNeed_74 (q := 75) rfl rfl rfl ?_
      refine v_callV1 h (c_X4_allNeeds hfl hb5 ho) kX4_allNeeds tw444 tw446 (by assumption) (by decide) rfl rfl rfl (by simp [Value.category]) (by decide) (Nat.zero_le _) (Nat.zero_le _) rfl dX7_setNeed_75 (q := 78) rfl ?_
      refine v_iload_n h (i := 2) dX7_setNeed_78 (q := 79) rfl rfl rfl ?_
      refine v_callS1 h (c_X7_contains hfl (show t < 32 by omega)) kX7_contains rfl tw448 rfl rfl (by simp [Value.category]) (by decide) (Nat.zero_le _) (Nat.zero_le _) rfl dX7_setNeed_79 (q := 82) rfl ?_
      refine v_if_eq h dX7_setNeed_82 (q := 85) rfl (tgt := 95) (by decide) (fun c5 => absurd (pb_b_0.mp c5) (by rw [e4]; decide)) (fun c5 => ?_)
      refine v_throw h hQ rfl (th_X7_93) (is := 126) (text := "a task would need itself") (by decide +kernel) rfl dX7_setNeed_85 dX7_setNeed_88 dX7_setNeed_89 dX7_setNeed_91 dX7_setNeed_94 (by decide) (by decide) (by decide) (by decide) (fun sz9 hsz9 => ⟨rfl, hsz9, rfl, rfl, rfl⟩)
    · skip
      refine v_throw h hQ rfl (th_X7_93) (is := 116) (text := "one of the tasks is not there") (by decide +kernel) rfl dX7_setNeed_54 dX7_setNeed_57 dX7_setNeed_58 dX7_setNeed_60 dX7_setNeed_63 (by decide) (by decide) (by decide) (by decide) (fun sz9 hsz9 => ⟨rfl, hsz9, rfl, rfl, rfl⟩)
theorem pb_rest_6 {sg : pb_Sg} {o p t n s : Nat} (h : p + 4 < o) : pb_rest sg o p t n s o 6 = nI (s - 1) := by
  unfold pb_rest pb_put pb_a2
  rw [pb_up_ne2 (by omega), pb_up_ne2 (by omega), pb_up_ne2 (by omega), pb_up_ne2 (by omega), pb_up_self]
set_option maxHeartbeats 4000000 in
set_option maxRecDepth 100000 in
theorem c_X7_undo {l : Launch} (hfl : l.stackTraces = false) {sz : Nat} {sk : pb_Sk} {rf : pb_Rf} {sg : pb_Sg} {X n : Nat} {B par : Nat → Nat} (hX : pb_sys sk rf X B par n) {b t nx s : Nat} (hb : b < n) (ht : t < 16) (hn : sg (B b + 11) 5 = nI nx) (hn30 : nx < 30) (hs : sg (B b + 11) 6 = nI s) (hs0 : 0 < s) (hs30 : s ≤ 30) (hc : sg (B b + 11 + 1) (pb_pv nx) = nI t) : pb_Met l mX7_undo 7 0 0 [.ref X, .int (nI b)] sz sk rf sg (pb_is (some (.int (nI (s - 1)))) sz sk rf (pb_rest sg (B b + 11) (B b + 1) t nx s)) := by
  refine pb_start hfl (by decide +kernel) rfl (pb_c1 rfl) (Nat.le_of_ble_eq_true rfl) (fun F hF h hQ => ?_)
  subst hF
  show pv F 0 0 sz sk rf sg 0 [some (.ref X), some (.int (nI b)), none] []
  obtain ⟨hX0, hX1, hX2, hX3, hX4, hX5, hX6, hXc, hXj, hXw, hXs, hXn, hXb, hXe, hXr, hXp⟩ := id hX
  obtain ⟨hb0, hb1, hb2, hb3, hb4, hb5, hb6, hb7, hb8⟩ := id (hXb b hb).2
  obtain ⟨hp0, hp1, hp2, hp3, hp4, hp5, hp6, hp7, hp8⟩ := id hb5
  obtain ⟨hh0, hh1, hh2, hh3, hh4, hh5, hh6, hh7, hh8, hh9, hh10⟩ := id hb7
  refine v_aload_n h (i := 0) dX7_undo_0 (q := 1) rfl rfl rfl ?_
  refine v_iload_n h (i := 1) dX7_undo_1 (q := 2) rfl rfl rfl ?_
  refine v_callV1 h (c_X7_branchAt hfl hX hb) kX7_branchAt tw292 tw0 (by assumption) (by decide) rfl rfl rfl (by simp [Value.category]) (by decide) (Nat.zero_le _) (Nat.zero_le _) rfl dX7_undo_2 (q := 5) rfl ?_
  refine v_astore_n h (i := 2) dX7_undo_5 (q := 6) rfl rfl (Nat.le_of_ble_eq_true rfl) rfl ?_
  refine v_aload_n h (i := 2) dX7_undo_6 (q := 7) rfl rfl rfl ?_
  refine v_getr h fl_X7_79 (by assumption) rfl (by assumption) dX7_undo_7 (q := 10) rfl ?_
  refine v_geti h fl_X7_128 (by assumption) rfl dX7_undo_10 (q := 13) rfl ?_
  refine v_if_ne h dX7_undo_13 (q := 16) rfl (tgt := 26) (by decide) (fun c1 => ?_) (fun c1 => absurd c1 (by rw [hs]; exact nI_ne0 hs0 (by omega)))
  refine v_aload_n h (i := 2) dX7_undo_26 (q := 27) rfl rfl rfl ?_
  refine v_getr h fl_X7_79 (by assumption) rfl (by assumption) dX7_undo_27 (q := 30) rfl ?_
  refine v_aload_n h (i := 2) dX7_undo_30 (q := 31) rfl rfl rfl ?_
  refine v_getr h fl_X7_65 (by assumption) rfl (by assumption) dX7_undo_31 (q := 34) rfl ?_
  refine v_callV0 h (c_X2_restore hfl hb7 hb5 ht hn hn30 hs hs0 hs30 hc) kX2_restore tw458 tw460 (by assumption) (by decide) rfl rfl rfl (by simp [Value.category]) (by decide) (Nat.zero_le _) (Nat.zero_le _) rfl dX7_undo_34 (q := 37) rfl ?_
  refine v_aload_n h (i := 2) dX7_undo_37 (q := 38) rfl rfl rfl ?_
  refine v_getr h fl_X7_79 (by assumption) rfl (by assumption) dX7_undo_38 (q := 41) rfl ?_
  refine v_geti h fl_X7_128 (by assumption) rfl dX7_undo_41 (q := 44) rfl ?_
  refine v_eq (st' := [.int (nI (s - 1))]) (by rw [pb_rest_6 (by omega)]) ?_
  refine v_iret h hQ rfl rfl dX7_undo_44 (Nat.zero_le _) (Nat.zero_le _) ⟨rfl, rfl, rfl, rfl, rfl⟩
set_option maxHeartbeats 4000000 in
set_option maxRecDepth 100000 in
theorem x1_X7_undo {l : Launch} (hfl : l.stackTraces = false) {sz : Nat} {sk : pb_Sk} {rf : pb_Rf} {sg : pb_Sg} {X n : Nat} {B par : Nat → Nat} (hX : pb_sys sk rf X B par n) {x : Int32} (hx : ∀ b, b < n → ¬ x = nI b) : pb_Met l mX7_undo 7 1 6 [.ref X, .int x] sz sk rf sg (pb_thr "java/lang/IndexOutOfBoundsException" sz sk rf sg) := by
  refine pb_start hfl (by decide +kernel) rfl (pb_c1 rfl) (Nat.le_of_ble_eq_true rfl) (fun F hF h hQ => ?_)
  subst hF
  show pv F 0 0 sz sk rf sg 0 [some (.ref X), some (.int x), none] []
  obtain ⟨hX0, hX1, hX2, hX3, hX4, hX5, hX6, hXc, hXj, hXw, hXs, hXn, hXb, hXe, hXr, hXp⟩ := id hX
  refine v_aload_n h (i := 0) dX7_undo_0 (q := 1) rfl rfl rfl ?_
  refine v_iload_n h (i := 1) dX7_undo_1 (q := 2) rfl rfl rfl ?_
  refine v_callVx h (x_X7_branchAt hfl hX hx) kX7_branchAt tw292 tw0 (by assumption) (by decide) rfl rfl rfl (by simp [Value.category]) (by decide) (by decide) (by decide) rfl dX7_undo_2 (q := 5) rfl ?_
  intro sz9 hsz9
  exact v_out h hQ rfl (by decide) (by decide) ⟨rfl, hsz9, rfl, rfl, rfl⟩
set_option maxHeartbeats 4000000 in
set_option maxRecDepth 100000 in
theorem x2_X7_undo {l : Launch} (hfl : l.stackTraces = false) {sz : Nat} {sk : pb_Sk} {rf : pb_Rf} {sg : pb_Sg} {X n : Nat} {B par : Nat → Nat} (hX : pb_sys sk rf X B par n) {b : Nat} (hb : b < n) (hs : sg (B b + 11) 6 = nI 0) : pb_Met l mX7_undo 8 1 6 [.ref X, .int (nI b)] sz sk rf sg (pb_thr "java/lang/IllegalStateException" sz sk rf sg) := by
  refine pb_start hfl (by decide +kernel) rfl (pb_c1 rfl) (Nat.le_of_ble_eq_true rfl) (fun F hF h hQ => ?_)
  subst hF
  show pv F 0 0 sz sk rf sg 0 [some (.ref X), some (.int (nI b)), none] []
  obtain ⟨hX0, hX1, hX2, hX3, hX4, hX5, hX6, hXc, hXj, hXw, hXs, hXn, hXb, hXe, hXr, hXp⟩ := id hX
  obtain ⟨hb0, hb1, hb2, hb3, hb4, hb5, hb6, hb7, hb8⟩ := id (hXb b hb).2
  obtain ⟨hp0, hp1, hp2, hp3, hp4, hp5, hp6, hp7, hp8⟩ := id hb5
  obtain ⟨hh0, hh1, hh2, hh3, hh4, hh5, hh6, hh7, hh8, hh9, hh10⟩ := id hb7
  refine v_aload_n h (i := 0) dX7_undo_0 (q := 1) rfl rfl rfl ?_
  refine v_iload_n h (i := 1) dX7_undo_1 (q := 2) rfl rfl rfl ?_
  refine v_callV1 h (c_X7_branchAt hfl hX hb) kX7_branchAt tw292 tw0 (by assumption) (by decide) rfl rfl rfl (by simp [Value.category]) (by decide) (Nat.zero_le _) (Nat.zero_le _) rfl dX7_undo_2 (q := 5) rfl ?_
  refine v_astore_n h (i := 2) dX7_undo_5 (q := 6) rfl rfl (Nat.le_of_ble_eq_true rfl) rfl ?_
  refine v_aload_n h (i := 2) dX7_undo_6 (q := 7) rfl rfl rfl ?_
  refine v_getr h fl_X7_79 (by assumption) rfl (by assumption) dX7_undo_7 (q := 10) rfl ?_
  refine v_geti h fl_X7_128 (by assumption) rfl dX7_undo_10 (q := 13) rfl ?_
  refine v_if_ne h dX7_undo_13 (q := 16) rfl (tgt := 26) (by decide) (fun c1 => absurd (hs.trans (show nI 0 = (0 : Int32) from rfl)) c1) (fun c1 => ?_)
  refine v_throw h hQ rfl (th_X7_93) (is := 131) (text := "no change can be undone") (by decide +kernel) rfl dX7_undo_16 dX7_undo_19 dX7_undo_20 dX7_undo_22 dX7_undo_25 (by decide) (by decide) (by decide) (by decide) (fun sz9 hsz9 => ⟨rfl, hsz9, rfl, rfl, rfl⟩)
set_option maxHeartbeats 4000000 in
set_option maxRecDepth 100000 in
theorem c_X7_tasks {l : Launch} (hfl : l.stackTraces = false) {sz : Nat} {sk : pb_Sk} {rf : pb_Rf} {sg : pb_Sg} {X n : Nat} {B par : Nat → Nat} (hX : pb_sys sk rf X B par n) {b : Nat} (hb : b < n) : pb_Met l mX7_tasks 7 0 0 [.ref X, .int (nI b)] sz sk rf sg (pb_is (some (.int (pb_pres (sg (B b + 1 + 1))))) sz sk rf sg) := by
  refine pb_start hfl (by decide +kernel) rfl (pb_c1 rfl) (Nat.le_of_ble_eq_true rfl) (fun F hF h hQ => ?_)
  subst hF
  show pv F 0 0 sz sk rf sg 0 [some (.ref X), some (.int (nI b))] []
  obtain ⟨hX0, hX1, hX2, hX3, hX4, hX5, hX6, hXc, hXj, hXw, hXs, hXn, hXb, hXe, hXr, hXp⟩ := id hX
  obtain ⟨hb0, hb1, hb2, hb3, hb4, hb5, hb6, hb7, hb8⟩ := id (hXb b hb).2
  obtain ⟨hp0, hp1, hp2, hp3, hp4, hp5, hp6, hp7, hp8⟩ := id hb5
  refine v_aload_n h (i := 0) dX7_tasks_0 (q := 1) rfl rfl rfl ?_
  refine v_iload_n h (i := 1) dX7_tasks_1 (q := 2) rfl rfl rfl ?_
  refine v_callV1 h (c_X7_branchAt hfl hX hb) kX7_branchAt tw292 tw0 (by assumption) (by decide) rfl rfl rfl (by simp [Value.category]) (by decide) (Nat.zero_le _) (Nat.zero_le _) rfl dX7_tasks_2 (q := 5) rfl ?_
  refine v_getr h fl_X7_65 (by assumption) rfl (by assumption) dX7_tasks_5 (q := 8) rfl ?_
  refine v_callV1 h (c_X4_present hfl hb5) kX4_present tw470 tw472 (by assumption) (by decide) rfl rfl rfl (by simp [Value.category]) (by decide) (Nat.zero_le _) (Nat.zero_le _) rfl dX7_tasks_8 (q := 11) rfl ?_
  refine v_iret h hQ rfl rfl dX7_tasks_11 (Nat.zero_le _) (Nat.zero_le _) ⟨rfl, rfl, rfl, rfl, rfl⟩
set_option maxHeartbeats 4000000 in
set_option maxRecDepth 100000 in
theorem x1_X7_tasks {l : Launch} (hfl : l.stackTraces = false) {sz : Nat} {sk : pb_Sk} {rf : pb_Rf} {sg : pb_Sg} {X n : Nat} {B par : Nat → Nat} (hX : pb_sys sk rf X B par n) {x : Int32} (hx : ∀ b, b < n → ¬ x = nI b) : pb_Met l mX7_tasks 7 1 6 [.ref X, .int x] sz sk rf sg (pb_thr "java/lang/IndexOutOfBoundsException" sz sk rf sg) := by
  refine pb_start hfl (by decide +kernel) rfl (pb_c1 rfl) (Nat.le_of_ble_eq_true rfl) (fun F hF h hQ => ?_)
  subst hF
  show pv F 0 0 sz sk rf sg 0 [some (.ref X), some (.int x)] []
  obtain ⟨hX0, hX1, hX2, hX3, hX4, hX5, hX6, hXc, hXj, hXw, hXs, hXn, hXb, hXe, hXr, hXp⟩ := id hX
  refine v_aload_n h (i := 0) dX7_tasks_0 (q := 1) rfl rfl rfl ?_
  refine v_iload_n h (i := 1) dX7_tasks_1 (q := 2) rfl rfl rfl ?_
  refine v_callVx h (x_X7_branchAt hfl hX hx) kX7_branchAt tw292 tw0 (by assumption) (by decide) rfl rfl rfl (by simp [Value.category]) (by decide) (by decide) (by decide) rfl dX7_tasks_2 (q := 5) rfl ?_
  intro sz9 hsz9
  exact v_out h hQ rfl (by decide) (by decide) ⟨rfl, hsz9, rfl, rfl, rfl⟩
set_option maxHeartbeats 4000000 in
set_option maxRecDepth 100000 in
theorem c_X7_cost {l : Launch} (hfl : l.stackTraces = false) {sz : Nat} {sk : pb_Sk} {rf : pb_Rf} {sg : pb_Sg} {X n : Nat} {B par : Nat → Nat} (hX : pb_sys sk rf X B par n) {b : Nat} (hb : b < n) : pb_Met l mX7_cost 7 0 0 [.ref X, .int (nI b)] sz sk rf sg (pb_is (some (.int (pb_cost sg (B b + 1)))) sz sk rf sg) := by
  refine pb_start hfl (by decide +kernel) rfl (pb_c1 rfl) (Nat.le_of_ble_eq_true rfl) (fun F hF h hQ => ?_)
  subst hF
  show pv F 0 0 sz sk rf sg 0 [some (.ref X), some (.int (nI b))] []
  obtain ⟨hX0, hX1, hX2, hX3, hX4, hX5, hX6, hXc, hXj, hXw, hXs, hXn, hXb, hXe, hXr, hXp⟩ := id hX
  obtain ⟨hb0, hb1, hb2, hb3, hb4, hb5, hb6, hb7, hb8⟩ := id (hXb b hb).2
  obtain ⟨hp0, hp1, hp2, hp3, hp4, hp5, hp6, hp7, hp8⟩ := id hb5
  refine v_aload_n h (i := 0) dX7_cost_0 (q := 1) rfl rfl rfl ?_
  refine v_iload_n h (i := 1) dX7_cost_1 (q := 2) rfl rfl rfl ?_
  refine v_callV1 h (c_X7_branchAt hfl hX hb) kX7_branchAt tw292 tw0 (by assumption) (by decide) rfl rfl rfl (by simp [Value.category]) (by decide) (Nat.zero_le _) (Nat.zero_le _) rfl dX7_cost_2 (q := 5) rfl ?_
  refine v_getr h fl_X7_65 (by assumption) rfl (by assumption) dX7_cost_5 (q := 8) rfl ?_
  refine v_callV1 h (c_X4_totalCost hfl hb5) kX4_totalCost tw503 tw505 (by assumption) (by decide) rfl rfl rfl (by simp [Value.category]) (by decide) (Nat.zero_le _) (Nat.zero_le _) rfl dX7_cost_8 (q := 11) rfl ?_
  refine v_iret h hQ rfl rfl dX7_cost_11 (Nat.zero_le _) (Nat.zero_le _) ⟨rfl, rfl, rfl, rfl, rfl⟩
set_option maxHeartbeats 4000000 in
set_option maxRecDepth 100000 in
theorem x1_X7_cost {l : Launch} (hfl : l.stackTraces = false) {sz : Nat} {sk : pb_Sk} {rf : pb_Rf} {sg : pb_Sg} {X n : Nat} {B par : Nat → Nat} (hX : pb_sys sk rf X B par n) {x : Int32} (hx : ∀ b, b < n → ¬ x = nI b) : pb_Met l mX7_cost 7 1 6 [.ref X, .int x] sz sk rf sg (pb_thr "java/lang/IndexOutOfBoundsException" sz sk rf sg) := by
  refine pb_start hfl (by decide +kernel) rfl (pb_c1 rfl) (Nat.le_of_ble_eq_true rfl) (fun F hF h hQ => ?_)
  subst hF
  show pv F 0 0 sz sk rf sg 0 [some (.ref X), some (.int x)] []
  obtain ⟨hX0, hX1, hX2, hX3, hX4, hX5, hX6, hXc, hXj, hXw, hXs, hXn, hXb, hXe, hXr, hXp⟩ := id hX
  refine v_aload_n h (i := 0) dX7_cost_0 (q := 1) rfl rfl rfl ?_
  refine v_iload_n h (i := 1) dX7_cost_1 (q := 2) rfl rfl rfl ?_
  refine v_callVx h (x_X7_branchAt hfl hX hx) kX7_branchAt tw292 tw0 (by assumption) (by decide) rfl rfl rfl (by simp [Value.category]) (by decide) (by decide) (by decide) rfl dX7_cost_2 (q := 5) rfl ?_
  intro sz9 hsz9
  exact v_out h hQ rfl (by decide) (by decide) ⟨rfl, hsz9, rfl, rfl, rfl⟩
set_option maxHeartbeats 4000000 in
set_option maxRecDepth 100000 in
theorem c_X7_length {l : Launch} (hfl : l.stackTraces = false) {sz : Nat} {sk : pb_Sk} {rf : pb_Rf} {sg : pb_Sg} {X n : Nat} {B par : Nat → Nat} (hX : pb_sys sk rf X B par n) {b t : Nat} (hb : b < n) (ht : t < 16) : pb_Met l mX7_length 7 0 0 [.ref X, .int (nI b), .int (nI t)] sz sk rf sg (pb_is (some (.int (sg (B b + 1 + 1) t))) sz sk rf sg) := by
  refine pb_start hfl (by decide +kernel) rfl (pb_c1 rfl) (Nat.le_of_ble_eq_true rfl) (fun F hF h hQ => ?_)
  subst hF
  show pv F 0 0 sz sk rf sg 0 [some (.ref X), some (.int (nI b)), some (.int (nI t)), none] []
  obtain ⟨hX0, hX1, hX2, hX3, hX4, hX5, hX6, hXc, hXj, hXw, hXs, hXn, hXb, hXe, hXr, hXp⟩ := id hX
  obtain ⟨hb0, hb1, hb2, hb3, hb4, hb5, hb6, hb7, hb8⟩ := id (hXb b hb).2
  obtain ⟨hp0, hp1, hp2, hp3, hp4, hp5, hp6, hp7, hp8⟩ := id hb5
  refine v_aload_n h (i := 0) dX7_length_0 (q := 1) rfl rfl rfl ?_
  refine v_iload_n h (i := 1) dX7_length_1 (q := 2) rfl rfl rfl ?_
  refine v_callV1 h (c_X7_branchAt hfl hX hb) kX7_branchAt tw292 tw0 (by assumption) (by decide) rfl rfl rfl (by simp [Value.category]) (by decide) (Nat.zero_le _) (Nat.zero_le _) rfl dX7_length_2 (q := 5) rfl ?_
  refine v_astore_n h (i := 3) dX7_length_5 (q := 6) rfl rfl (Nat.le_of_ble_eq_true rfl) rfl ?_
  refine v_iload_n h (i := 2) dX7_length_6 (q := 7) rfl rfl rfl ?_
  refine v_callS0 h (c_X7_checkTask hfl ht) kX7_checkTask rfl tw364 rfl rfl (by simp [Value.category]) (by decide) (Nat.zero_le _) (Nat.zero_le _) rfl dX7_length_7 (q := 10) rfl ?_
  refine v_aload_n h (i := 3) dX7_length_10 (q := 11) rfl rfl rfl ?_
  refine v_getr h fl_X7_65 (by assumption) rfl (by assumption) dX7_length_11 (q := 14) rfl ?_
  refine v_getr h fl_X7_105 (by assumption) rfl (by assumption) dX7_length_14 (q := 17) rfl ?_
  refine v_iload_n h (i := 2) dX7_length_17 (q := 18) rfl rfl rfl ?_
  refine v_iald h (by assumption) rfl (by first | assumption | omega) (by decide) dX7_length_18 (q := 19) rfl ?_
  refine v_iret h hQ rfl rfl dX7_length_19 (Nat.zero_le _) (Nat.zero_le _) ⟨rfl, rfl, rfl, rfl, rfl⟩
set_option maxHeartbeats 4000000 in
set_option maxRecDepth 100000 in
theorem x1_X7_length {l : Launch} (hfl : l.stackTraces = false) {sz : Nat} {sk : pb_Sk} {rf : pb_Rf} {sg : pb_Sg} {X n : Nat} {B par : Nat → Nat} (hX : pb_sys sk rf X B par n) {x : Int32} (hx : ∀ b, b < n → ¬ x = nI b) {t : Int32} : pb_Met l mX7_length 7 1 6 [.ref X, .int x, .int t] sz sk rf sg (pb_thr "java/lang/IndexOutOfBoundsException" sz sk rf sg) := by
  refine pb_start hfl (by decide +kernel) rfl (pb_c1 rfl) (Nat.le_of_ble_eq_true rfl) (fun F hF h hQ => ?_)
  subst hF
  show pv F 0 0 sz sk rf sg 0 [some (.ref X), some (.int x), some (.int t), none] []
  obtain ⟨hX0, hX1, hX2, hX3, hX4, hX5, hX6, hXc, hXj, hXw, hXs, hXn, hXb, hXe, hXr, hXp⟩ := id hX
  refine v_aload_n h (i := 0) dX7_length_0 (q := 1) rfl rfl rfl ?_
  refine v_iload_n h (i := 1) dX7_length_1 (q := 2) rfl rfl rfl ?_
  refine v_callVx h (x_X7_branchAt hfl hX hx) kX7_branchAt tw292 tw0 (by assumption) (by decide) rfl rfl rfl (by simp [Value.category]) (by decide) (by decide) (by decide) rfl dX7_length_2 (q := 5) rfl ?_
  intro sz9 hsz9
  exact v_out h hQ rfl (by decide) (by decide) ⟨rfl, hsz9, rfl, rfl, rfl⟩
set_option maxHeartbeats 4000000 in
set_option maxRecDepth 100000 in
theorem x2_X7_length {l : Launch} (hfl : l.stackTraces = false) {sz : Nat} {sk : pb_Sk} {rf : pb_Rf} {sg : pb_Sg} {X n : Nat} {B par : Nat → Nat} (hX : pb_sys sk rf X B par n) {b : Nat} (hb : b < n) {t : Int32} (hbad : ¬ (nI 0 ≤ t ∧ t ≤ nI 15)) : pb_Met l mX7_length 8 1 6 [.ref X, .int (nI b), .int t] sz sk rf sg (pb_thr "java/lang/IllegalArgumentException" sz sk rf sg) := by
  refine pb_start hfl (by decide +kernel) rfl (pb_c1 rfl) (Nat.le_of_ble_eq_true rfl) (fun F hF h hQ => ?_)
  subst hF
  show pv F 0 0 sz sk rf sg 0 [some (.ref X), some (.int (nI b)), some (.int t), none] []
  obtain ⟨hX0, hX1, hX2, hX3, hX4, hX5, hX6, hXc, hXj, hXw, hXs, hXn, hXb, hXe, hXr, hXp⟩ := id hX
  refine v_aload_n h (i := 0) dX7_length_0 (q := 1) rfl rfl rfl ?_
  refine v_iload_n h (i := 1) dX7_length_1 (q := 2) rfl rfl rfl ?_
  refine v_callV1 h (c_X7_branchAt hfl hX hb) kX7_branchAt tw292 tw0 (by assumption) (by decide) rfl rfl rfl (by simp [Value.category]) (by decide) (Nat.zero_le _) (Nat.zero_le _) rfl dX7_length_2 (q := 5) rfl ?_
  refine v_astore_n h (i := 3) dX7_length_5 (q := 6) rfl rfl (Nat.le_of_ble_eq_true rfl) rfl ?_
  refine v_iload_n h (i := 2) dX7_length_6 (q := 7) rfl rfl rfl ?_
  refine v_callSx h (x_X7_checkTask hfl (pb_nrng hbad)) kX7_checkTask rfl tw364 rfl rfl (by simp [Value.category]) (by decide) (by decide) (by decide) rfl dX7_length_7 (q := 10) rfl ?_
  intro sz9 hsz9
  exact v_out h hQ rfl (by decide) (by decide) ⟨rfl, hsz9, rfl, rfl, rfl⟩
set_option maxHeartbeats 4000000 in
set_option maxRecDepth 100000 in
theorem c_X7_crew {l : Launch} (hfl : l.stackTraces = false) {sz : Nat} {sk : pb_Sk} {rf : pb_Rf} {sg : pb_Sg} {X n : Nat} {B par : Nat → Nat} (hX : pb_sys sk rf X B par n) {b t : Nat} (hb : b < n) (ht : t < 16) : pb_Met l mX7_crew 7 0 0 [.ref X, .int (nI b), .int (nI t)] sz sk rf sg (pb_is (some (.int (sg (B b + 1 + 2) t))) sz sk rf sg) := by
  refine pb_start hfl (by decide +kernel) rfl (pb_c1 rfl) (Nat.le_of_ble_eq_true rfl) (fun F hF h hQ => ?_)
  subst hF
  show pv F 0 0 sz sk rf sg 0 [some (.ref X), some (.int (nI b)), some (.int (nI t)), none] []
  obtain ⟨hX0, hX1, hX2, hX3, hX4, hX5, hX6, hXc, hXj, hXw, hXs, hXn, hXb, hXe, hXr, hXp⟩ := id hX
  obtain ⟨hb0, hb1, hb2, hb3, hb4, hb5, hb6, hb7, hb8⟩ := id (hXb b hb).2
  obtain ⟨hp0, hp1, hp2, hp3, hp4, hp5, hp6, hp7, hp8⟩ := id hb5
  refine v_aload_n h (i := 0) dX7_crew_0 (q := 1) rfl rfl rfl ?_
  refine v_iload_n h (i := 1) dX7_crew_1 (q := 2) rfl rfl rfl ?_
  refine v_callV1 h (c_X7_branchAt hfl hX hb) kX7_branchAt tw292 tw0 (by assumption) (by decide) rfl rfl rfl (by simp [Value.category]) (by decide) (Nat.zero_le _) (Nat.zero_le _) rfl dX7_crew_2 (q := 5) rfl ?_
  refine v_astore_n h (i := 3) dX7_crew_5 (q := 6) rfl rfl (Nat.le_of_ble_eq_true rfl) rfl ?_
  refine v_iload_n h (i := 2) dX7_crew_6 (q := 7) rfl rfl rfl ?_
  refine v_callS0 h (c_X7_checkTask hfl ht) kX7_checkTask rfl tw364 rfl rfl (by simp [Value.category]) (by decide) (Nat.zero_le _) (Nat.zero_le _) rfl dX7_crew_7 (q := 10) rfl ?_
  refine v_aload_n h (i := 3) dX7_crew_10 (q := 11) rfl rfl rfl ?_
  refine v_getr h fl_X7_65 (by assumption) rfl (by assumption) dX7_crew_11 (q := 14) rfl ?_
  refine v_getr h fl_X7_141 (by assumption) rfl (by assumption) dX7_crew_14 (q := 17) rfl ?_
  refine v_iload_n h (i := 2) dX7_crew_17 (q := 18) rfl rfl rfl ?_
  refine v_iald h (by assumption) rfl (by first | assumption | omega) (by decide) dX7_crew_18 (q := 19) rfl ?_
  refine v_iret h hQ rfl rfl dX7_crew_19 (Nat.zero_le _) (Nat.zero_le _) ⟨rfl, rfl, rfl, rfl, rfl⟩
set_option maxHeartbeats 4000000 in
set_option maxRecDepth 100000 in
theorem x1_X7_crew {l : Launch} (hfl : l.stackTraces = false) {sz : Nat} {sk : pb_Sk} {rf : pb_Rf} {sg : pb_Sg} {X n : Nat} {B par : Nat → Nat} (hX : pb_sys sk rf X B par n) {x : Int32} (hx : ∀ b, b < n → ¬ x = nI b) {t : Int32} : pb_Met l mX7_crew 7 1 6 [.ref X, .int x, .int t] sz sk rf sg (pb_thr "java/lang/IndexOutOfBoundsException" sz sk rf sg) := by
  refine pb_start hfl (by decide +kernel) rfl (pb_c1 rfl) (Nat.le_of_ble_eq_true rfl) (fun F hF h hQ => ?_)
  subst hF
  show pv F 0 0 sz sk rf sg 0 [some (.ref X), some (.int x), some (.int t), none] []
  obtain ⟨hX0, hX1, hX2, hX3, hX4, hX5, hX6, hXc, hXj, hXw, hXs, hXn, hXb, hXe, hXr, hXp⟩ := id hX
  refine v_aload_n h (i := 0) dX7_crew_0 (q := 1) rfl rfl rfl ?_
  refine v_iload_n h (i := 1) dX7_crew_1 (q := 2) rfl rfl rfl ?_
  refine v_callVx h (x_X7_branchAt hfl hX hx) kX7_branchAt tw292 tw0 (by assumption) (by decide) rfl rfl rfl (by simp [Value.category]) (by decide) (by decide) (by decide) rfl dX7_crew_2 (q := 5) rfl ?_
  intro sz9 hsz9
  exact v_out h hQ rfl (by decide) (by decide) ⟨rfl, hsz9, rfl, rfl, rfl⟩
set_option maxHeartbeats 4000000 in
set_option maxRecDepth 100000 in
theorem x2_X7_crew {l : Launch} (hfl : l.stackTraces = false) {sz : Nat} {sk : pb_Sk} {rf : pb_Rf} {sg : pb_Sg} {X n : Nat} {B par : Nat → Nat} (hX : pb_sys sk rf X B par n) {b : Nat} (hb : b < n) {t : Int32} (hbad : ¬ (nI 0 ≤ t ∧ t ≤ nI 15)) : pb_Met l mX7_crew 8 1 6 [.ref X, .int (nI b), .int t] sz sk rf sg (pb_thr "java/lang/IllegalArgumentException" sz sk rf sg) := by
  refine pb_start hfl (by decide +kernel) rfl (pb_c1 rfl) (Nat.le_of_ble_eq_true rfl) (fun F hF h hQ => ?_)
  subst hF
  show pv F 0 0 sz sk rf sg 0 [some (.ref X), some (.int (nI b)), some (.int t), none] []
  obtain ⟨hX0, hX1, hX2, hX3, hX4, hX5, hX6, hXc, hXj, hXw, hXs, hXn, hXb, hXe, hXr, hXp⟩ := id hX
  refine v_aload_n h (i := 0) dX7_crew_0 (q := 1) rfl rfl rfl ?_
  refine v_iload_n h (i := 1) dX7_crew_1 (q := 2) rfl rfl rfl ?_
  refine v_callV1 h (c_X7_branchAt hfl hX hb) kX7_branchAt tw292 tw0 (by assumption) (by decide) rfl rfl rfl (by simp [Value.category]) (by decide) (Nat.zero_le _) (Nat.zero_le _) rfl dX7_crew_2 (q := 5) rfl ?_
  refine v_astore_n h (i := 3) dX7_crew_5 (q := 6) rfl rfl (Nat.le_of_ble_eq_true rfl) rfl ?_
  refine v_iload_n h (i := 2) dX7_crew_6 (q := 7) rfl rfl rfl ?_
  refine v_callSx h (x_X7_checkTask hfl (pb_nrng hbad)) kX7_checkTask rfl tw364 rfl rfl (by simp [Value.category]) (by decide) (by decide) (by decide) rfl dX7_crew_7 (q := 10) rfl ?_
  intro sz9 hsz9
  exact v_out h hQ rfl (by decide) (by decide) ⟨rfl, hsz9, rfl, rfl, rfl⟩
set_option maxHeartbeats 4000000 in
set_option maxRecDepth 100000 in
theorem c_X7_needs {l : Launch} (hfl : l.stackTraces = false) {sz : Nat} {sk : pb_Sk} {rf : pb_Rf} {sg : pb_Sg} {X n : Nat} {B par : Nat → Nat} (hX : pb_sys sk rf X B par n) {b t : Nat} (hb : b < n) (ht : t < 16) : pb_Met l mX7_needs 7 0 0 [.ref X, .int (nI b), .int (nI t)] sz sk rf sg (pb_is (some (.int (sg (B b + 1 + 4) t))) sz sk rf sg) := by
  refine pb_start hfl (by decide +kernel) rfl (pb_c1 rfl) (Nat.le_of_ble_eq_true rfl) (fun F hF h hQ => ?_)
  subst hF
  show pv F 0 0 sz sk rf sg 0 [some (.ref X), some (.int (nI b)), some (.int (nI t)), none] []
  obtain ⟨hX0, hX1, hX2, hX3, hX4, hX5, hX6, hXc, hXj, hXw, hXs, hXn, hXb, hXe, hXr, hXp⟩ := id hX
  obtain ⟨hb0, hb1, hb2, hb3, hb4, hb5, hb6, hb7, hb8⟩ := id (hXb b hb).2
  obtain ⟨hp0, hp1, hp2, hp3, hp4, hp5, hp6, hp7, hp8⟩ := id hb5
  refine v_aload_n h (i := 0) dX7_needs_0 (q := 1) rfl rfl rfl ?_
  refine v_iload_n h (i := 1) dX7_needs_1 (q := 2) rfl rfl rfl ?_
  refine v_callV1 h (c_X7_branchAt hfl hX hb) kX7_branchAt tw292 tw0 (by assumption) (by decide) rfl rfl rfl (by simp [Value.category]) (by decide) (Nat.zero_le _) (Nat.zero_le _) rfl dX7_needs_2 (q := 5) rfl ?_
  refine v_astore_n h (i := 3) dX7_needs_5 (q := 6) rfl rfl (Nat.le_of_ble_eq_true rfl) rfl ?_
  refine v_iload_n h (i := 2) dX7_needs_6 (q := 7) rfl rfl rfl ?_
  refine v_callS0 h (c_X7_checkTask hfl ht) kX7_checkTask rfl tw364 rfl rfl (by simp [Value.category]) (by decide) (Nat.zero_le _) (Nat.zero_le _) rfl dX7_needs_7 (q := 10) rfl ?_
  refine v_aload_n h (i := 3) dX7_needs_10 (q := 11) rfl rfl rfl ?_
  refine v_getr h fl_X7_65 (by assumption) rfl (by assumption) dX7_needs_11 (q := 14) rfl ?_
  refine v_getr h fl_X7_75 (by assumption) rfl (by assumption) dX7_needs_14 (q := 17) rfl ?_
  refine v_iload_n h (i := 2) dX7_needs_17 (q := 18) rfl rfl rfl ?_
  refine v_iald h (by assumption) rfl (by first | assumption | omega) (by decide) dX7_needs_18 (q := 19) rfl ?_
  refine v_iret h hQ rfl rfl dX7_needs_19 (Nat.zero_le _) (Nat.zero_le _) ⟨rfl, rfl, rfl, rfl, rfl⟩
set_option maxHeartbeats 4000000 in
set_option maxRecDepth 100000 in
theorem x1_X7_needs {l : Launch} (hfl : l.stackTraces = false) {sz : Nat} {sk : pb_Sk} {rf : pb_Rf} {sg : pb_Sg} {X n : Nat} {B par : Nat → Nat} (hX : pb_sys sk rf X B par n) {x : Int32} (hx : ∀ b, b < n → ¬ x = nI b) {t : Int32} : pb_Met l mX7_needs 7 1 6 [.ref X, .int x, .int t] sz sk rf sg (pb_thr "java/lang/IndexOutOfBoundsException" sz sk rf sg) := by
  refine pb_start hfl (by decide +kernel) rfl (pb_c1 rfl) (Nat.le_of_ble_eq_true rfl) (fun F hF h hQ => ?_)
  subst hF
  show pv F 0 0 sz sk rf sg 0 [some (.ref X), some (.int x), some (.int t), none] []
  obtain ⟨hX0, hX1, hX2, hX3, hX4, hX5, hX6, hXc, hXj, hXw, hXs, hXn, hXb, hXe, hXr, hXp⟩ := id hX
  refine v_aload_n h (i := 0) dX7_needs_0 (q := 1) rfl rfl rfl ?_
  refine v_iload_n h (i := 1) dX7_needs_1 (q := 2) rfl rfl rfl ?_
  refine v_callVx h (x_X7_branchAt hfl hX hx) kX7_branchAt tw292 tw0 (by assumption) (by decide) rfl rfl rfl (by simp [Value.category]) (by decide) (by decide) (by decide) rfl dX7_needs_2 (q := 5) rfl ?_
  intro sz9 hsz9
  exact v_out h hQ rfl (by decide) (by decide) ⟨rfl, hsz9, rfl, rfl, rfl⟩
set_option maxHeartbeats 4000000 in
set_option maxRecDepth 100000 in
theorem x2_X7_needs {l : Launch} (hfl : l.stackTraces = false) {sz : Nat} {sk : pb_Sk} {rf : pb_Rf} {sg : pb_Sg} {X n : Nat} {B par : Nat → Nat} (hX : pb_sys sk rf X B par n) {b : Nat} (hb : b < n) {t : Int32} (hbad : ¬ (nI 0 ≤ t ∧ t ≤ nI 15)) : pb_Met l mX7_needs 8 1 6 [.ref X, .int (nI b), .int t] sz sk rf sg (pb_thr "java/lang/IllegalArgumentException" sz sk rf sg) := by
  refine pb_start hfl (by decide +kernel) rfl (pb_c1 rfl) (Nat.le_of_ble_eq_true rfl) (fun F hF h hQ => ?_)
  subst hF
  show pv F 0 0 sz sk rf sg 0 [some (.ref X), some (.int (nI b)), some (.int t), none] []
  obtain ⟨hX0, hX1, hX2, hX3, hX4, hX5, hX6, hXc, hXj, hXw, hXs, hXn, hXb, hXe, hXr, hXp⟩ := id hX
  refine v_aload_n h (i := 0) dX7_needs_0 (q := 1) rfl rfl rfl ?_
  refine v_iload_n h (i := 1) dX7_needs_1 (q := 2) rfl rfl rfl ?_
  refine v_callV1 h (c_X7_branchAt hfl hX hb) kX7_branchAt tw292 tw0 (by assumption) (by decide) rfl rfl rfl (by simp [Value.category]) (by decide) (Nat.zero_le _) (Nat.zero_le _) rfl dX7_needs_2 (q := 5) rfl ?_
  refine v_astore_n h (i := 3) dX7_needs_5 (q := 6) rfl rfl (Nat.le_of_ble_eq_true rfl) rfl ?_
  refine v_iload_n h (i := 2) dX7_needs_6 (q := 7) rfl rfl rfl ?_
  refine v_callSx h (x_X7_checkTask hfl (pb_nrng hbad)) kX7_checkTask rfl tw364 rfl rfl (by simp [Value.category]) (by decide) (by decide) (by decide) rfl dX7_needs_7 (q := 10) rfl ?_
  intro sz9 hsz9
  exact v_out h hQ rfl (by decide) (by decide) ⟨rfl, hsz9, rfl, rfl, rfl⟩
set_option maxHeartbeats 4000000 in
set_option maxRecDepth 100000 in
theorem c_X7_branches {l : Launch} (hfl : l.stackTraces = false) {sz : Nat} {sk : pb_Sk} {rf : pb_Rf} {sg : pb_Sg} {X n : Nat} {B par : Nat → Nat} (hX : pb_sys sk rf X B par n) : pb_Met l mX7_branches 1 0 0 [.ref X] sz sk rf sg (pb_is (some (.int (sg X 1))) sz sk rf sg) := by
  refine pb_start hfl (by decide +kernel) rfl (pb_c1 rfl) (Nat.le_of_ble_eq_true rfl) (fun F hF h hQ => ?_)
  subst hF
  show pv F 0 0 sz sk rf sg 0 [some (.ref X)] []
  obtain ⟨hX0, hX1, hX2, hX3, hX4, hX5, hX6, hXc, hXj, hXw, hXs, hXn, hXb, hXe, hXr, hXp⟩ := id hX
  refine v_aload_n h (i := 0) dX7_branches_0 (q := 1) rfl rfl rfl ?_
  refine v_geti h fl_X7_18 (by assumption) rfl dX7_branches_1 (q := 4) rfl ?_
  refine v_iret h hQ rfl rfl dX7_branches_4 (Nat.zero_le _) (Nat.zero_le _) ⟨rfl, rfl, rfl, rfl, rfl⟩
set_option maxHeartbeats 4000000 in
set_option maxRecDepth 100000 in
theorem c0_X7_parent {l : Launch} (hfl : l.stackTraces = false) {sz : Nat} {sk : pb_Sk} {rf : pb_Rf} {sg : pb_Sg} {X n : Nat} {B par : Nat → Nat} (hX : pb_sys sk rf X B par n) {b : Nat} (hb : b < n) (hz : b = 0) : pb_Met l mX7_parent 7 0 0 [.ref X, .int (nI b)] sz sk rf sg (pb_is (some (.int (-1))) sz sk rf sg) := by
  refine pb_start hfl (by decide +kernel) rfl (pb_c1 rfl) (Nat.le_of_ble_eq_true rfl) (fun F hF h hQ => ?_)
  subst hF
  show pv F 0 0 sz sk rf sg 0 [some (.ref X), some (.int (nI b)), none] []
  obtain ⟨hX0, hX1, hX2, hX3, hX4, hX5, hX6, hXc, hXj, hXw, hXs, hXn, hXb, hXe, hXr, hXp⟩ := id hX
  obtain ⟨hb0, hb1, hb2, hb3, hb4, hb5, hb6, hb7, hb8⟩ := id (hXb b hb).2
  have hf : rf (B b) 1 = none := by rw [hz]; exact hXr
  refine v_aload_n h (i := 0) dX7_parent_0 (q := 1) rfl rfl rfl ?_
  refine v_iload_n h (i := 1) dX7_parent_1 (q := 2) rfl rfl rfl ?_
  refine v_callV1 h (c_X7_branchAt hfl hX hb) kX7_branchAt tw292 tw0 (by assumption) (by decide) rfl rfl rfl (by simp [Value.category]) (by decide) (Nat.zero_le _) (Nat.zero_le _) rfl dX7_parent_2 (q := 5) rfl ?_
  refine v_getn h fl_X7_157 (by assumption) rfl (by assumption) dX7_parent_5 (q := 8) rfl ?_
  refine v_astore_nN h (i := 2) dX7_parent_8 (q := 9) rfl rfl (Nat.le_of_ble_eq_true rfl) rfl ?_
  refine v_aload_nN h (i := 2) dX7_parent_9 (q := 10) rfl rfl rfl ?_
  refine v_ifnonnullN h dX7_parent_10 (q := 13) rfl ?_
  refine v_iconst h (v := (-1)) dX7_parent_13 (q := 14) rfl (by decide +kernel) ?_
  refine v_goto h dX7_parent_14 (tgt := 21) (by decide) ?_
  refine v_iret h hQ rfl rfl dX7_parent_21 (Nat.zero_le _) (Nat.zero_le _) ⟨rfl, rfl, rfl, rfl, rfl⟩
set_option maxHeartbeats 4000000 in
set_option maxRecDepth 100000 in
theorem c_X7_parent {l : Launch} (hfl : l.stackTraces = false) {sz : Nat} {sk : pb_Sk} {rf : pb_Rf} {sg : pb_Sg} {X n : Nat} {B par : Nat → Nat} (hX : pb_sys sk rf X B par n) {b : Nat} (hb : b < n) (hb1 : 0 < b) : pb_Met l mX7_parent 7 0 0 [.ref X, .int (nI b)] sz sk rf sg (pb_is (some (.int (sg (B (par b)) 0))) sz sk rf sg) := by
  refine pb_start hfl (by decide +kernel) rfl (pb_c1 rfl) (Nat.le_of_ble_eq_true rfl) (fun F hF h hQ => ?_)
  subst hF
  show pv F 0 0 sz sk rf sg 0 [some (.ref X), some (.int (nI b)), none] []
  have hpos := hb1
  obtain ⟨hX0, hX1, hX2, hX3, hX4, hX5, hX6, hXc, hXj, hXw, hXs, hXn, hXb, hXe, hXr, hXp⟩ := id hX
  obtain ⟨hb0, hb1, hb2, hb3, hb4, hb5, hb6, hb7, hb8⟩ := id (hXb b hb).2
  obtain ⟨hf, hpl⟩ := hXp b hpos hb
  have hf0 := (hXb (par b) (by omega)).2.1
  refine v_aload_n h (i := 0) dX7_parent_0 (q := 1) rfl rfl rfl ?_
  refine v_iload_n h (i := 1) dX7_parent_1 (q := 2) rfl rfl rfl ?_
  refine v_callV1 h (c_X7_branchAt hfl hX hb) kX7_branchAt tw292 tw0 (by assumption) (by decide) rfl rfl rfl (by simp [Value.category]) (by decide) (Nat.zero_le _) (Nat.zero_le _) rfl dX7_parent_2 (q := 5) rfl ?_
  refine v_getr h fl_X7_157 (by assumption) rfl (by assumption) dX7_parent_5 (q := 8) rfl ?_
  refine v_astore_n h (i := 2) dX7_parent_8 (q := 9) rfl rfl (Nat.le_of_ble_eq_true rfl) rfl ?_
  refine v_aload_n h (i := 2) dX7_parent_9 (q := 10) rfl rfl rfl ?_
  refine v_ifnonnull h dX7_parent_10 (tgt := 17) (by decide) ?_
  refine v_aload_n h (i := 2) dX7_parent_17 (q := 18) rfl rfl rfl ?_
  refine v_geti h fl_X7_161 (by assumption) rfl dX7_parent_18 (q := 21) rfl ?_
  refine v_iret h hQ rfl rfl dX7_parent_21 (Nat.zero_le _) (Nat.zero_le _) ⟨rfl, rfl, rfl, rfl, rfl⟩
set_option maxHeartbeats 4000000 in
set_option maxRecDepth 100000 in
theorem x1_X7_parent {l : Launch} (hfl : l.stackTraces = false) {sz : Nat} {sk : pb_Sk} {rf : pb_Rf} {sg : pb_Sg} {X n : Nat} {B par : Nat → Nat} (hX : pb_sys sk rf X B par n) {x : Int32} (hx : ∀ b, b < n → ¬ x = nI b) : pb_Met l mX7_parent 7 1 6 [.ref X, .int x] sz sk rf sg (pb_thr "java/lang/IndexOutOfBoundsException" sz sk rf sg) := by
  refine pb_start hfl (by decide +kernel) rfl (pb_c1 rfl) (Nat.le_of_ble_eq_true rfl) (fun F hF h hQ => ?_)
  subst hF
  show pv F 0 0 sz sk rf sg 0 [some (.ref X), some (.int x), none] []
  obtain ⟨hX0, hX1, hX2, hX3, hX4, hX5, hX6, hXc, hXj, hXw, hXs, hXn, hXb, hXe, hXr, hXp⟩ := id hX
  refine v_aload_n h (i := 0) dX7_parent_0 (q := 1) rfl rfl rfl ?_
  refine v_iload_n h (i := 1) dX7_parent_1 (q := 2) rfl rfl rfl ?_
  refine v_callVx h (x_X7_branchAt hfl hX hx) kX7_branchAt tw292 tw0 (by assumption) (by decide) rfl rfl rfl (by simp [Value.category]) (by decide) (by decide) (by decide) rfl dX7_parent_2 (q := 5) rfl ?_
  intro sz9 hsz9
  exact v_out h hQ rfl (by decide) (by decide) ⟨rfl, hsz9, rfl, rfl, rfl⟩
set_option maxHeartbeats 4000000 in
set_option maxRecDepth 100000 in
theorem c_X7_setBudget {l : Launch} (hfl : l.stackTraces = false) {sz : Nat} {sk : pb_Sk} {rf : pb_Rf} {sg : pb_Sg} {X n : Nat} {B par : Nat → Nat} (hX : pb_sys sk rf X B par n) {b : Nat} {x : Int32} (hb : b < n) (h1 : nI 0 ≤ x) (h2 : x ≤ 1000000) : pb_Met l mX7_setBudget 7 0 0 [.ref X, .int (nI b), .int x] sz sk rf sg (pb_is (some (.int (sg (B b) 6))) sz sk rf (pb_up sg (B b) 6 x)) := by
  refine pb_start hfl (by decide +kernel) rfl (pb_c1 rfl) (Nat.le_of_ble_eq_true rfl) (fun F hF h hQ => ?_)
  subst hF
  show pv F 0 0 sz sk rf sg 0 [some (.ref X), some (.int (nI b)), some (.int x), none, none] []
  obtain ⟨hX0, hX1, hX2, hX3, hX4, hX5, hX6, hXc, hXj, hXw, hXs, hXn, hXb, hXe, hXr, hXp⟩ := id hX
  obtain ⟨hb0, hb1, hb2, hb3, hb4, hb5, hb6, hb7, hb8⟩ := id (hXb b hb).2
  refine v_aload_n h (i := 0) dX7_setBudget_0 (q := 1) rfl rfl rfl ?_
  refine v_iload_n h (i := 1) dX7_setBudget_1 (q := 2) rfl rfl rfl ?_
  refine v_callV1 h (c_X7_branchAt hfl hX hb) kX7_branchAt tw292 tw0 (by assumption) (by decide) rfl rfl rfl (by simp [Value.category]) (by decide) (Nat.zero_le _) (Nat.zero_le _) rfl dX7_setBudget_2 (q := 5) rfl ?_
  refine v_astore_n h (i := 3) dX7_setBudget_5 (q := 6) rfl rfl (Nat.le_of_ble_eq_true rfl) rfl ?_
  refine v_iload_n h (i := 2) dX7_setBudget_6 (q := 7) rfl rfl rfl ?_
  refine v_iconst h (v := nI 0) dX7_setBudget_7 (q := 8) rfl (by decide +kernel) ?_
  refine v_ldc h dX7_setBudget_8 (q := 10) rfl tw541 ?_
  refine v_callS0 h (c_X7_checkRange hfl h1 h2) kX7_checkRange rfl tw367 rfl rfl (by simp [Value.category]) (by decide) (Nat.zero_le _) (Nat.zero_le _) rfl dX7_setBudget_10 (q := 13) rfl ?_
  refine v_aload_n h (i := 3) dX7_setBudget_13 (q := 14) rfl rfl rfl ?_
  refine v_geti h fl_X7_165 (by assumption) rfl dX7_setBudget_14 (q := 17) rfl ?_
  refine v_istore h dX7_setBudget_17 (q := 19) rfl (Nat.le_of_ble_eq_true rfl) rfl ?_
  refine v_aload_n h (i := 3) dX7_setBudget_19 (q := 20) rfl rfl rfl ?_
  refine v_iload_n h (i := 2) dX7_setBudget_20 (q := 21) rfl rfl rfl ?_
  refine v_puti h fl_X7_165 (by assumption) rfl rfl dX7_setBudget_21 (q := 24) rfl ?_
  refine v_iload h dX7_setBudget_24 (q := 26) rfl rfl ?_
  refine v_iret h hQ rfl rfl dX7_setBudget_26 (Nat.zero_le _) (Nat.zero_le _) ⟨rfl, rfl, rfl, rfl, rfl⟩
set_option maxHeartbeats 4000000 in
set_option maxRecDepth 100000 in
theorem x1_X7_setBudget {l : Launch} (hfl : l.stackTraces = false) {sz : Nat} {sk : pb_Sk} {rf : pb_Rf} {sg : pb_Sg} {X n : Nat} {B par : Nat → Nat} (hX : pb_sys sk rf X B par n) {x : Int32} (hx : ∀ b, b < n → ¬ x = nI b) {y : Int32} : pb_Met l mX7_setBudget 7 1 6 [.ref X, .int x, .int y] sz sk rf sg (pb_thr "java/lang/IndexOutOfBoundsException" sz sk rf sg) := by
  refine pb_start hfl (by decide +kernel) rfl (pb_c1 rfl) (Nat.le_of_ble_eq_true rfl) (fun F hF h hQ => ?_)
  subst hF
  show pv F 0 0 sz sk rf sg 0 [some (.ref X), some (.int x), some (.int y), none, none] []
  obtain ⟨hX0, hX1, hX2, hX3, hX4, hX5, hX6, hXc, hXj, hXw, hXs, hXn, hXb, hXe, hXr, hXp⟩ := id hX
  refine v_aload_n h (i := 0) dX7_setBudget_0 (q := 1) rfl rfl rfl ?_
  refine v_iload_n h (i := 1) dX7_setBudget_1 (q := 2) rfl rfl rfl ?_
  refine v_callVx h (x_X7_branchAt hfl hX hx) kX7_branchAt tw292 tw0 (by assumption) (by decide) rfl rfl rfl (by simp [Value.category]) (by decide) (by decide) (by decide) rfl dX7_setBudget_2 (q := 5) rfl ?_
  intro sz9 hsz9
  exact v_out h hQ rfl (by decide) (by decide) ⟨rfl, hsz9, rfl, rfl, rfl⟩
set_option maxHeartbeats 4000000 in
set_option maxRecDepth 100000 in
theorem x2_X7_setBudget {l : Launch} (hfl : l.stackTraces = false) {sz : Nat} {sk : pb_Sk} {rf : pb_Rf} {sg : pb_Sg} {X n : Nat} {B par : Nat → Nat} (hX : pb_sys sk rf X B par n) {b : Nat} {x : Int32} (hb : b < n) (hbad : ¬ (nI 0 ≤ x ∧ x ≤ 1000000)) : pb_Met l mX7_setBudget 8 1 6 [.ref X, .int (nI b), .int x] sz sk rf sg (pb_thr "java/lang/IllegalArgumentException" sz sk rf sg) := by
  refine pb_start hfl (by decide +kernel) rfl (pb_c1 rfl) (Nat.le_of_ble_eq_true rfl) (fun F hF h hQ => ?_)
  subst hF
  show pv F 0 0 sz sk rf sg 0 [some (.ref X), some (.int (nI b)), some (.int x), none, none] []
  obtain ⟨hX0, hX1, hX2, hX3, hX4, hX5, hX6, hXc, hXj, hXw, hXs, hXn, hXb, hXe, hXr, hXp⟩ := id hX
  obtain ⟨hb0, hb1, hb2, hb3, hb4, hb5, hb6, hb7, hb8⟩ := id (hXb b hb).2
  refine v_aload_n h (i := 0) dX7_setBudget_0 (q := 1) rfl rfl rfl ?_
  refine v_iload_n h (i := 1) dX7_setBudget_1 (q := 2) rfl rfl rfl ?_
  refine v_callV1 h (c_X7_branchAt hfl hX hb) kX7_branchAt tw292 tw0 (by assumption) (by decide) rfl rfl rfl (by simp [Value.category]) (by decide) (Nat.zero_le _) (Nat.zero_le _) rfl dX7_setBudget_2 (q := 5) rfl ?_
  refine v_astore_n h (i := 3) dX7_setBudget_5 (q := 6) rfl rfl (Nat.le_of_ble_eq_true rfl) rfl ?_
  refine v_iload_n h (i := 2) dX7_setBudget_6 (q := 7) rfl rfl rfl ?_
  refine v_iconst h (v := nI 0) dX7_setBudget_7 (q := 8) rfl (by decide +kernel) ?_
  refine v_ldc h dX7_setBudget_8 (q := 10) rfl tw541 ?_
  refine v_callSx h (x_X7_checkRange hfl (pb_nrng hbad)) kX7_checkRange rfl tw367 rfl rfl (by simp [Value.category]) (by decide) (by decide) (by decide) rfl dX7_setBudget_10 (q := 13) rfl ?_
  intro sz9 hsz9
  exact v_out h hQ rfl (by decide) (by decide) ⟨rfl, hsz9, rfl, rfl, rfl⟩
set_option maxHeartbeats 4000000 in
set_option maxRecDepth 100000 in
theorem c_X7_resolve {l : Launch} (hfl : l.stackTraces = false) {sz : Nat} {sk : pb_Sk} {rf : pb_Rf} {sg : pb_Sg} {X n : Nat} {B par : Nat → Nat} (hX : pb_sys sk rf X B par n) {b t : Nat} {x : Int32} (hb : b < n) (hb1 : 0 < b) (ht : t < 16) (h1 : -1 ≤ x) (h2 : x ≤ nI 1) : pb_Met l mX7_resolve 7 0 0 [.ref X, .int (nI b), .int (nI t), .int x] sz sk rf sg (pb_is (some (.int (sg (B b + 17) t))) sz sk rf (pb_up sg (B b + 17) t x)) := by
  refine pb_start hfl (by decide +kernel) rfl (pb_c1 rfl) (Nat.le_of_ble_eq_true rfl) (fun F hF h hQ => ?_)
  subst hF
  show pv F 0 0 sz sk rf sg 0 [some (.ref X), some (.int (nI b)), some (.int (nI t)), some (.int x), none, none] []
  have hpos := hb1
  obtain ⟨hX0, hX1, hX2, hX3, hX4, hX5, hX6, hXc, hXj, hXw, hXs, hXn, hXb, hXe, hXr, hXp⟩ := id hX
  obtain ⟨hb0, hb1, hb2, hb3, hb4, hb5, hb6, hb7, hb8⟩ := id (hXb b hb).2
  obtain ⟨hf, hpl⟩ := hXp b hpos hb
  refine v_aload_n h (i := 0) dX7_resolve_0 (q := 1) rfl rfl rfl ?_
  refine v_iload_n h (i := 1) dX7_resolve_1 (q := 2) rfl rfl rfl ?_
  refine v_callV1 h (c_X7_branchAt hfl hX hb) kX7_branchAt tw292 tw0 (by assumption) (by decide) rfl rfl rfl (by simp [Value.category]) (by decide) (Nat.zero_le _) (Nat.zero_le _) rfl dX7_resolve_2 (q := 5) rfl ?_
  refine v_astore h dX7_resolve_5 (q := 7) rfl (Nat.le_of_ble_eq_true rfl) rfl ?_
  refine v_iload_n h (i := 2) dX7_resolve_7 (q := 8) rfl rfl rfl ?_
  refine v_callS0 h (c_X7_checkTask hfl ht) kX7_checkTask rfl tw364 rfl rfl (by simp [Value.category]) (by decide) (Nat.zero_le _) (Nat.zero_le _) rfl dX7_resolve_8 (q := 11) rfl ?_
  refine v_iload_n h (i := 3) dX7_resolve_11 (q := 12) rfl rfl rfl ?_
  refine v_iconst h (v := (-1)) dX7_resolve_12 (q := 13) rfl (by decide +kernel) ?_
  refine v_iconst h (v := nI 1) dX7_resolve_13 (q := 14) rfl (by decide +kernel) ?_
  refine v_callS0 h (c_X7_checkRange hfl h1 h2) kX7_checkRange rfl tw367 rfl rfl (by simp [Value.category]) (by decide) (Nat.zero_le _) (Nat.zero_le _) rfl dX7_resolve_14 (q := 17) rfl ?_
  refine v_aload h dX7_resolve_17 (q := 19) rfl rfl ?_
  refine v_getr h fl_X7_157 (by assumption) rfl (by assumption) dX7_resolve_19 (q := 22) rfl ?_
  refine v_ifnonnull h dX7_resolve_22 (tgt := 35) (by decide) ?_
  refine v_aload h dX7_resolve_35 (q := 37) rfl rfl ?_
  refine v_getr h fl_X7_170 (by assumption) rfl (by assumption) dX7_resolve_37 (q := 40) rfl ?_
  refine v_iload_n h (i := 2) dX7_resolve_40 (q := 41) rfl rfl rfl ?_
  refine v_iald h (by assumption) rfl (by first | assumption | omega) (by decide) dX7_resolve_41 (q := 42) rfl ?_
  refine v_istore h dX7_resolve_42 (q := 44) rfl (Nat.le_of_ble_eq_true rfl) rfl ?_
  refine v_aload h dX7_resolve_44 (q := 46) rfl rfl ?_
  refine v_getr h fl_X7_170 (by assumption) rfl (by assumption) dX7_resolve_46 (q := 49) rfl ?_
  refine v_iload_n h (i := 2) dX7_resolve_49 (q := 50) rfl rfl rfl ?_
  refine v_iload_n h (i := 3) dX7_resolve_50 (q := 51) rfl rfl rfl ?_
  refine v_iast h (by assumption) rfl (by first | assumption | omega) (by decide) dX7_resolve_51 (q := 52) rfl ?_
  refine v_iload h dX7_resolve_52 (q := 54) rfl rfl ?_
  refine v_iret h hQ rfl rfl dX7_resolve_54 (Nat.zero_le _) (Nat.zero_le _) ⟨rfl, rfl, rfl, rfl, rfl⟩
set_option maxHeartbeats 4000000 in
set_option maxRecDepth 100000 in
theorem x1_X7_resolve {l : Launch} (hfl : l.stackTraces = false) {sz : Nat} {sk : pb_Sk} {rf : pb_Rf} {sg : pb_Sg} {X n : Nat} {B par : Nat → Nat} (hX : pb_sys sk rf X B par n) {x : Int32} (hx : ∀ b, b < n → ¬ x = nI b) {t y : Int32} : pb_Met l mX7_resolve 7 1 6 [.ref X, .int x, .int t, .int y] sz sk rf sg (pb_thr "java/lang/IndexOutOfBoundsException" sz sk rf sg) := by
  refine pb_start hfl (by decide +kernel) rfl (pb_c1 rfl) (Nat.le_of_ble_eq_true rfl) (fun F hF h hQ => ?_)
  subst hF
  show pv F 0 0 sz sk rf sg 0 [some (.ref X), some (.int x), some (.int t), some (.int y), none, none] []
  obtain ⟨hX0, hX1, hX2, hX3, hX4, hX5, hX6, hXc, hXj, hXw, hXs, hXn, hXb, hXe, hXr, hXp⟩ := id hX
  refine v_aload_n h (i := 0) dX7_resolve_0 (q := 1) rfl rfl rfl ?_
  refine v_iload_n h (i := 1) dX7_resolve_1 (q := 2) rfl rfl rfl ?_
  refine v_callVx h (x_X7_branchAt hfl hX hx) kX7_branchAt tw292 tw0 (by assumption) (by decide) rfl rfl rfl (by simp [Value.category]) (by decide) (by decide) (by decide) rfl dX7_resolve_2 (q := 5) rfl ?_
  intro sz9 hsz9
  exact v_out h hQ rfl (by decide) (by decide) ⟨rfl, hsz9, rfl, rfl, rfl⟩
set_option maxHeartbeats 4000000 in
set_option maxRecDepth 100000 in
theorem x2_X7_resolve {l : Launch} (hfl : l.stackTraces = false) {sz : Nat} {sk : pb_Sk} {rf : pb_Rf} {sg : pb_Sg} {X n : Nat} {B par : Nat → Nat} (hX : pb_sys sk rf X B par n) {b : Nat} (hb : b < n) {t y : Int32} (hbad : ¬ ((nI 0 ≤ t ∧ t ≤ nI 15) ∧ (-1 ≤ y ∧ y ≤ nI 1))) : pb_Met l mX7_resolve 8 1 6 [.ref X, .int (nI b), .int t, .int y] sz sk rf sg (pb_thr "java/lang/IllegalArgumentException" sz sk rf sg) := by
  refine pb_start hfl (by decide +kernel) rfl (pb_c1 rfl) (Nat.le_of_ble_eq_true rfl) (fun F hF h hQ => ?_)
  subst hF
  show pv F 0 0 sz sk rf sg 0 [some (.ref X), some (.int (nI b)), some (.int t), some (.int y), none, none] []
  obtain ⟨hX0, hX1, hX2, hX3, hX4, hX5, hX6, hXc, hXj, hXw, hXs, hXn, hXb, hXe, hXr, hXp⟩ := id hX
  refine v_aload_n h (i := 0) dX7_resolve_0 (q := 1) rfl rfl rfl ?_
  refine v_iload_n h (i := 1) dX7_resolve_1 (q := 2) rfl rfl rfl ?_
  refine v_callV1 h (c_X7_branchAt hfl hX hb) kX7_branchAt tw292 tw0 (by assumption) (by decide) rfl rfl rfl (by simp [Value.category]) (by decide) (Nat.zero_le _) (Nat.zero_le _) rfl dX7_resolve_2 (q := 5) rfl ?_
  refine v_astore h dX7_resolve_5 (q := 7) rfl (Nat.le_of_ble_eq_true rfl) rfl ?_
  refine v_iload_n h (i := 2) dX7_resolve_7 (q := 8) rfl rfl rfl ?_
  by_cases hk1 : nI 0 ≤ t ∧ t ≤ nI 15
  · skip
    refine v_callS0 h (c2_X7_checkTask hfl hk1.1 hk1.2) kX7_checkTask rfl tw364 rfl rfl (by simp [Value.category]) (by decide) (Nat.zero_le _) (Nat.zero_le _) rfl dX7_resolve_8 (q := 11) rfl ?_
    refine v_iload_n h (i := 3) dX7_resolve_11 (q := 12) rfl rfl rfl ?_
    refine v_iconst h (v := (-1)) dX7_resolve_12 (q := 13) rfl (by decide +kernel) ?_
    refine v_iconst h (v := nI 1) dX7_resolve_13 (q := 14) rfl (by decide +kernel) ?_
    by_cases hk2 : -1 ≤ y ∧ y ≤ nI 1
    · skip
      refine v_callS0 h (c_X7_checkRange hfl hk2.1 hk2.2) kX7_checkRange rfl tw367 rfl rfl (by simp [Value.category]) (by decide) (Nat.zero_le _) (Nat.zero_le _) rfl dX7_resolve_14 (q := 17) rfl ?_
      exact absurd ⟨hk1, hk2⟩ hbad
    · skip
      refine v_callSx h (x_X7_checkRange hfl (pb_nrng hk2)) kX7_checkRange rfl tw367 rfl rfl (by simp [Value.category]) (by decide) (by decide) (by decide) rfl dX7_resolve_14 (q := 17) rfl ?_
      intro sz9 hsz9
      exact v_out h hQ rfl (by decide) (by decide) ⟨rfl, hsz9, rfl, rfl, rfl⟩
  · skip
    refine v_callSx h (x_X7_checkTask hfl (pb_nrng hk1)) kX7_checkTask rfl tw364 rfl rfl (by simp [Value.category]) (by decide) (by decide) (by decide) rfl dX7_resolve_8 (q := 11) rfl ?_
    intro sz9 hsz9
    exact v_out h hQ rfl (by decide) (by decide) ⟨rfl, hsz9, rfl, rfl, rfl⟩
set_option maxHeartbeats 4000000 in
set_option maxRecDepth 100000 in
theorem x3_X7_resolve {l : Launch} (hfl : l.stackTraces = false) {sz : Nat} {sk : pb_Sk} {rf : pb_Rf} {sg : pb_Sg} {X n : Nat} {B par : Nat → Nat} (hX : pb_sys sk rf X B par n) {b t : Nat} {x : Int32} (hb : b < n) (hz : b = 0) (ht : t < 16) (h1 : -1 ≤ x) (h2 : x ≤ nI 1) : pb_Met l mX7_resolve 8 1 6 [.ref X, .int (nI b), .int (nI t), .int x] sz sk rf sg (pb_thr "java/lang/IllegalStateException" sz sk rf sg) := by
  refine pb_start hfl (by decide +kernel) rfl (pb_c1 rfl) (Nat.le_of_ble_eq_true rfl) (fun F hF h hQ => ?_)
  subst hF
  show pv F 0 0 sz sk rf sg 0 [some (.ref X), some (.int (nI b)), some (.int (nI t)), some (.int x), none, none] []
  obtain ⟨hX0, hX1, hX2, hX3, hX4, hX5, hX6, hXc, hXj, hXw, hXs, hXn, hXb, hXe, hXr, hXp⟩ := id hX
  obtain ⟨hb0, hb1, hb2, hb3, hb4, hb5, hb6, hb7, hb8⟩ := id (hXb b hb).2
  have hf : rf (B b) 1 = none := by rw [hz]; exact hXr
  refine v_aload_n h (i := 0) dX7_resolve_0 (q := 1) rfl rfl rfl ?_
  refine v_iload_n h (i := 1) dX7_resolve_1 (q := 2) rfl rfl rfl ?_
  refine v_callV1 h (c_X7_branchAt hfl hX hb) kX7_branchAt tw292 tw0 (by assumption) (by decide) rfl rfl rfl (by simp [Value.category]) (by decide) (Nat.zero_le _) (Nat.zero_le _) rfl dX7_resolve_2 (q := 5) rfl ?_
  refine v_astore h dX7_resolve_5 (q := 7) rfl (Nat.le_of_ble_eq_true rfl) rfl ?_
  refine v_iload_n h (i := 2) dX7_resolve_7 (q := 8) rfl rfl rfl ?_
  refine v_callS0 h (c_X7_checkTask hfl ht) kX7_checkTask rfl tw364 rfl rfl (by simp [Value.category]) (by decide) (Nat.zero_le _) (Nat.zero_le _) rfl dX7_resolve_8 (q := 11) rfl ?_
  refine v_iload_n h (i := 3) dX7_resolve_11 (q := 12) rfl rfl rfl ?_
  refine v_iconst h (v := (-1)) dX7_resolve_12 (q := 13) rfl (by decide +kernel) ?_
  refine v_iconst h (v := nI 1) dX7_resolve_13 (q := 14) rfl (by decide +kernel) ?_
  refine v_callS0 h (c_X7_checkRange hfl h1 h2) kX7_checkRange rfl tw367 rfl rfl (by simp [Value.category]) (by decide) (Nat.zero_le _) (Nat.zero_le _) rfl dX7_resolve_14 (q := 17) rfl ?_
  refine v_aload h dX7_resolve_17 (q := 19) rfl rfl ?_
  refine v_getn h fl_X7_157 (by assumption) rfl (by assumption) dX7_resolve_19 (q := 22) rfl ?_
  refine v_ifnonnullN h dX7_resolve_22 (q := 25) rfl ?_
  refine v_throw h hQ rfl (th_X7_93) (is := 168) (text := "the branch 0 has no parent") (by decide +kernel) rfl dX7_resolve_25 dX7_resolve_28 dX7_resolve_29 dX7_resolve_31 dX7_resolve_34 (by decide) (by decide) (by decide) (by decide) (fun sz9 hsz9 => ⟨rfl, hsz9, rfl, rfl, rfl⟩)
set_option maxHeartbeats 4000000 in
set_option maxRecDepth 100000 in
theorem c_X7_give {l : Launch} (hfl : l.stackTraces = false) {sz : Nat} {sk : pb_Sk} {rf : pb_Rf} {sg : pb_Sg} {X n : Nat} {B par : Nat → Nat} (hX : pb_sys sk rf X B par n) {b c : Nat} (hb : b < n) (hcl : c < 5) : pb_Met l mX7_give 7 0 0 [.ref X, .int (nI c), .int (nI b)] sz sk rf sg (pb_is (some (.int (sg (X + 20 + 1) c))) sz sk rf (pb_up sg (X + 20 + 1) c (nI b))) := by
  refine pb_start hfl (by decide +kernel) rfl (pb_c1 rfl) (Nat.le_of_ble_eq_true rfl) (fun F hF h hQ => ?_)
  subst hF
  show pv F 0 0 sz sk rf sg 0 [some (.ref X), some (.int (nI c)), some (.int (nI b)), none] []
  obtain ⟨hX0, hX1, hX2, hX3, hX4, hX5, hX6, hXc, hXj, hXw, hXs, hXn, hXb, hXe, hXr, hXp⟩ := id hX
  obtain ⟨hc0, hc1, hc2, hc3, hc4, hc5, hc6⟩ := id hXc
  refine v_aload_n h (i := 0) dX7_give_0 (q := 1) rfl rfl rfl ?_
  refine v_iload_n h (i := 2) dX7_give_1 (q := 2) rfl rfl rfl ?_
  refine v_callV1 h (c_X7_branchAt hfl hX hb) kX7_branchAt tw292 tw0 (by assumption) (by decide) rfl rfl rfl (by simp [Value.category]) (by decide) (Nat.zero_le _) (Nat.zero_le _) rfl dX7_give_2 (q := 5) rfl ?_
  refine v_pop h dX7_give_5 (q := 6) rfl rfl ?_
  refine v_iload_n h (i := 1) dX7_give_6 (q := 7) rfl rfl rfl ?_
  refine v_iconst h (v := nI 0) dX7_give_7 (q := 8) rfl (by decide +kernel) ?_
  refine v_iconst h (v := nI 4) dX7_give_8 (q := 9) rfl (by decide +kernel) ?_
  refine v_callS0 h (c_X7_checkRange hfl (nI_le (Nat.zero_le c) (by omega)) (nI_le (show c ≤ 4 by omega) (by decide))) kX7_checkRange rfl tw367 rfl rfl (by simp [Value.category]) (by decide) (Nat.zero_le _) (Nat.zero_le _) rfl dX7_give_9 (q := 12) rfl ?_
  refine v_aload_n h (i := 0) dX7_give_12 (q := 13) rfl rfl rfl ?_
  refine v_getr h fl_X7_25 (by assumption) rfl (by assumption) dX7_give_13 (q := 16) rfl ?_
  refine v_getr h fl_X7_203 (by assumption) rfl (by assumption) dX7_give_16 (q := 19) rfl ?_
  refine v_iload_n h (i := 1) dX7_give_19 (q := 20) rfl rfl rfl ?_
  refine v_iald h (by assumption) rfl (by first | assumption | omega) (by decide) dX7_give_20 (q := 21) rfl ?_
  refine v_istore_n h (i := 3) dX7_give_21 (q := 22) rfl rfl (Nat.le_of_ble_eq_true rfl) rfl ?_
  refine v_aload_n h (i := 0) dX7_give_22 (q := 23) rfl rfl rfl ?_
  refine v_getr h fl_X7_25 (by assumption) rfl (by assumption) dX7_give_23 (q := 26) rfl ?_
  refine v_getr h fl_X7_203 (by assumption) rfl (by assumption) dX7_give_26 (q := 29) rfl ?_
  refine v_iload_n h (i := 1) dX7_give_29 (q := 30) rfl rfl rfl ?_
  refine v_iload_n h (i := 2) dX7_give_30 (q := 31) rfl rfl rfl ?_
  refine v_iast h (by assumption) rfl (by first | assumption | omega) (by decide) dX7_give_31 (q := 32) rfl ?_
  refine v_iload_n h (i := 3) dX7_give_32 (q := 33) rfl rfl rfl ?_
  refine v_iret h hQ rfl rfl dX7_give_33 (Nat.zero_le _) (Nat.zero_le _) ⟨rfl, rfl, rfl, rfl, rfl⟩
set_option maxHeartbeats 4000000 in
set_option maxRecDepth 100000 in
theorem x1_X7_give {l : Launch} (hfl : l.stackTraces = false) {sz : Nat} {sk : pb_Sk} {rf : pb_Rf} {sg : pb_Sg} {X n : Nat} {B par : Nat → Nat} (hX : pb_sys sk rf X B par n) {x : Int32} (hx : ∀ b, b < n → ¬ x = nI b) {c : Int32} : pb_Met l mX7_give 7 1 6 [.ref X, .int c, .int x] sz sk rf sg (pb_thr "java/lang/IndexOutOfBoundsException" sz sk rf sg) := by
  refine pb_start hfl (by decide +kernel) rfl (pb_c1 rfl) (Nat.le_of_ble_eq_true rfl) (fun F hF h hQ => ?_)
  subst hF
  show pv F 0 0 sz sk rf sg 0 [some (.ref X), some (.int c), some (.int x), none] []
  obtain ⟨hX0, hX1, hX2, hX3, hX4, hX5, hX6, hXc, hXj, hXw, hXs, hXn, hXb, hXe, hXr, hXp⟩ := id hX
  refine v_aload_n h (i := 0) dX7_give_0 (q := 1) rfl rfl rfl ?_
  refine v_iload_n h (i := 2) dX7_give_1 (q := 2) rfl rfl rfl ?_
  refine v_callVx h (x_X7_branchAt hfl hX hx) kX7_branchAt tw292 tw0 (by assumption) (by decide) rfl rfl rfl (by simp [Value.category]) (by decide) (by decide) (by decide) rfl dX7_give_2 (q := 5) rfl ?_
  intro sz9 hsz9
  exact v_out h hQ rfl (by decide) (by decide) ⟨rfl, hsz9, rfl, rfl, rfl⟩
set_option maxHeartbeats 4000000 in
set_option maxRecDepth 100000 in
theorem x2_X7_give {l : Launch} (hfl : l.stackTraces = false) {sz : Nat} {sk : pb_Sk} {rf : pb_Rf} {sg : pb_Sg} {X n : Nat} {B par : Nat → Nat} (hX : pb_sys sk rf X B par n) {b : Nat} (hb : b < n) {c : Int32} (hbad : ¬ (nI 0 ≤ c ∧ c ≤ nI 4)) : pb_Met l mX7_give 8 1 6 [.ref X, .int c, .int (nI b)] sz sk rf sg (pb_thr "java/lang/IllegalArgumentException" sz sk rf sg) := by
  refine pb_start hfl (by decide +kernel) rfl (pb_c1 rfl) (Nat.le_of_ble_eq_true rfl) (fun F hF h hQ => ?_)
  subst hF
  show pv F 0 0 sz sk rf sg 0 [some (.ref X), some (.int c), some (.int (nI b)), none] []
  obtain ⟨hX0, hX1, hX2, hX3, hX4, hX5, hX6, hXc, hXj, hXw, hXs, hXn, hXb, hXe, hXr, hXp⟩ := id hX
  refine v_aload_n h (i := 0) dX7_give_0 (q := 1) rfl rfl rfl ?_
  refine v_iload_n h (i := 2) dX7_give_1 (q := 2) rfl rfl rfl ?_
  refine v_callV1 h (c_X7_branchAt hfl hX hb) kX7_branchAt tw292 tw0 (by assumption) (by decide) rfl rfl rfl (by simp [Value.category]) (by decide) (Nat.zero_le _) (Nat.zero_le _) rfl dX7_give_2 (q := 5) rfl ?_
  refine v_pop h dX7_give_5 (q := 6) rfl rfl ?_
  refine v_iload_n h (i := 1) dX7_give_6 (q := 7) rfl rfl rfl ?_
  refine v_iconst h (v := nI 0) dX7_give_7 (q := 8) rfl (by decide +kernel) ?_
  refine v_iconst h (v := nI 4) dX7_give_8 (q := 9) rfl (by decide +kernel) ?_
  refine v_callSx h (x_X7_checkRange hfl (pb_nrng hbad)) kX7_checkRange rfl tw367 rfl rfl (by simp [Value.category]) (by decide) (by decide) (by decide) rfl dX7_give_9 (q := 12) rfl ?_
  intro sz9 hsz9
  exact v_out h hQ rfl (by decide) (by decide) ⟨rfl, hsz9, rfl, rfl, rfl⟩
set_option maxHeartbeats 4000000 in
set_option maxRecDepth 100000 in
theorem c_X7_lend {l : Launch} (hfl : l.stackTraces = false) {sz : Nat} {sk : pb_Sk} {rf : pb_Rf} {sg : pb_Sg} {X n : Nat} {B par : Nat → Nat} (hX : pb_sys sk rf X B par n) {b c lo hi k : Nat} (hb : b < n) (hcl : c < 5) (hlo : lo ≤ hi) (hhi : hi < 400) (hk : sg (X + 20) 2 = nI k) (hk40 : k < 40) : pb_Met l mX7_lend 7 0 0 [.ref X, .int (nI c), .int (nI b), .int (nI lo), .int (nI hi)] sz sk rf sg (pb_is (some (.int (nI (k + 1)))) sz sk rf (pb_up (pb_fillN sg (X + 20 + 3 + c) lo (nI b) (hi + 1 - lo)) (X + 20) 2 ((pb_fillN sg (X + 20 + 3 + c) lo (nI b) (hi + 1 - lo)) (X + 20) 2 + nI 1))) := by
  refine pb_start hfl (by decide +kernel) rfl (pb_c1 rfl) (Nat.le_of_ble_eq_true rfl) (fun F hF h hQ => ?_)
  subst hF
  show pv F 0 0 sz sk rf sg 0 [some (.ref X), some (.int (nI c)), some (.int (nI b)), some (.int (nI lo)), some (.int (nI hi))] []
  obtain ⟨hX0, hX1, hX2, hX3, hX4, hX5, hX6, hXc, hXj, hXw, hXs, hXn, hXb, hXe, hXr, hXp⟩ := id hX
  obtain ⟨hc0, hc1, hc2, hc3, hc4, hc5, hc6⟩ := id hXc
  refine v_aload_n h (i := 0) dX7_lend_0 (q := 1) rfl rfl rfl ?_
  refine v_iload_n h (i := 2) dX7_lend_1 (q := 2) rfl rfl rfl ?_
  refine v_callV1 h (c_X7_branchAt hfl hX hb) kX7_branchAt tw292 tw0 (by assumption) (by decide) rfl rfl rfl (by simp [Value.category]) (by decide) (Nat.zero_le _) (Nat.zero_le _) rfl dX7_lend_2 (q := 5) rfl ?_
  refine v_pop h dX7_lend_5 (q := 6) rfl rfl ?_
  refine v_iload_n h (i := 1) dX7_lend_6 (q := 7) rfl rfl rfl ?_
  refine v_iconst h (v := nI 0) dX7_lend_7 (q := 8) rfl (by decide +kernel) ?_
  refine v_iconst h (v := nI 4) dX7_lend_8 (q := 9) rfl (by decide +kernel) ?_
  refine v_callS0 h (c_X7_checkRange hfl (nI_le (Nat.zero_le c) (by omega)) (nI_le (show c ≤ 4 by omega) (by decide))) kX7_checkRange rfl tw367 rfl rfl (by simp [Value.category]) (by decide) (Nat.zero_le _) (Nat.zero_le _) rfl dX7_lend_9 (q := 12) rfl ?_
  refine v_iload_n h (i := 3) dX7_lend_12 (q := 13) rfl rfl rfl ?_
  refine v_iconst h (v := nI 0) dX7_lend_13 (q := 14) rfl (by decide +kernel) ?_
  refine v_sipush h (v := nI 399) dX7_lend_14 (q := 17) rfl (by decide +kernel) ?_
  refine v_callS0 h (c_X7_checkRange hfl (nI_le (Nat.zero_le lo) (by omega)) (nI_le (show lo ≤ 399 by omega) (by decide))) kX7_checkRange rfl tw367 rfl rfl (by simp [Value.category]) (by decide) (Nat.zero_le _) (Nat.zero_le _) rfl dX7_lend_17 (q := 20) rfl ?_
  refine v_iload h dX7_lend_20 (q := 22) rfl rfl ?_
  refine v_iload_n h (i := 3) dX7_lend_22 (q := 23) rfl rfl rfl ?_
  refine v_sipush h (v := nI 399) dX7_lend_23 (q := 26) rfl (by decide +kernel) ?_
  refine v_callS0 h (c_X7_checkRange hfl (nI_le hlo (by omega)) (nI_le (show hi ≤ 399 by omega) (by decide))) kX7_checkRange rfl tw367 rfl rfl (by simp [Value.category]) (by decide) (Nat.zero_le _) (Nat.zero_le _) rfl dX7_lend_26 (q := 29) rfl ?_
  refine v_aload_n h (i := 0) dX7_lend_29 (q := 30) rfl rfl rfl ?_
  refine v_getr h fl_X7_25 (by assumption) rfl (by assumption) dX7_lend_30 (q := 33) rfl ?_
  refine v_geti h fl_X7_206 (by assumption) rfl dX7_lend_33 (q := 36) rfl ?_
  refine v_bipush h (v := nI 40) dX7_lend_36 (q := 38) rfl (by decide +kernel) ?_
  refine v_icmp_lt h dX7_lend_38 (q := 41) rfl (tgt := 51) (by decide) (fun c1 => ?_) (fun c1 => absurd (by rw [hk]; exact nI_lt hk40 (by omega)) c1)
  refine v_aload_n h (i := 0) dX7_lend_51 (q := 52) rfl rfl rfl ?_
  refine v_getr h fl_X7_25 (by assumption) rfl (by assumption) dX7_lend_52 (q := 55) rfl ?_
  refine v_iload_n h (i := 1) dX7_lend_55 (q := 56) rfl rfl rfl ?_
  refine v_iload_n h (i := 2) dX7_lend_56 (q := 57) rfl rfl rfl ?_
  refine v_iload_n h (i := 3) dX7_lend_57 (q := 58) rfl rfl rfl ?_
  refine v_iload h dX7_lend_58 (q := 60) rfl rfl ?_
  refine v_callV0 h (c_X1_lendOut hfl hXc hcl hlo hhi) kX1_lendOut tw716 tw718 (by assumption) (by decide) rfl rfl rfl (by simp [Value.category]) (by decide) (Nat.zero_le _) (Nat.zero_le _) rfl dX7_lend_60 (q := 63) rfl ?_
  refine v_aload_n h (i := 0) dX7_lend_63 (q := 64) rfl rfl rfl ?_
  refine v_getr h fl_X7_25 (by assumption) rfl (by assumption) dX7_lend_64 (q := 67) rfl ?_
  refine v_geti h fl_X7_206 (by assumption) rfl dX7_lend_67 (q := 70) rfl ?_
  refine v_eq (st' := [.int (nI (k + 1))]) (by rw [pb_up_self, pb_fill_at, if_neg (by omega), hk, nI_add]) ?_
  refine v_iret h hQ rfl rfl dX7_lend_70 (Nat.zero_le _) (Nat.zero_le _) ⟨rfl, rfl, rfl, rfl, rfl⟩
set_option maxHeartbeats 4000000 in
set_option maxRecDepth 100000 in
theorem x1_X7_lend {l : Launch} (hfl : l.stackTraces = false) {sz : Nat} {sk : pb_Sk} {rf : pb_Rf} {sg : pb_Sg} {X n : Nat} {B par : Nat → Nat} (hX : pb_sys sk rf X B par n) {x : Int32} (hx : ∀ b, b < n → ¬ x = nI b) {c lo hi : Int32} : pb_Met l mX7_lend 7 1 6 [.ref X, .int c, .int x, .int lo, .int hi] sz sk rf sg (pb_thr "java/lang/IndexOutOfBoundsException" sz sk rf sg) := by
  refine pb_start hfl (by decide +kernel) rfl (pb_c1 rfl) (Nat.le_of_ble_eq_true rfl) (fun F hF h hQ => ?_)
  subst hF
  show pv F 0 0 sz sk rf sg 0 [some (.ref X), some (.int c), some (.int x), some (.int lo), some (.int hi)] []
  obtain ⟨hX0, hX1, hX2, hX3, hX4, hX5, hX6, hXc, hXj, hXw, hXs, hXn, hXb, hXe, hXr, hXp⟩ := id hX
  refine v_aload_n h (i := 0) dX7_lend_0 (q := 1) rfl rfl rfl ?_
  refine v_iload_n h (i := 2) dX7_lend_1 (q := 2) rfl rfl rfl ?_
  refine v_callVx h (x_X7_branchAt hfl hX hx) kX7_branchAt tw292 tw0 (by assumption) (by decide) rfl rfl rfl (by simp [Value.category]) (by decide) (by decide) (by decide) rfl dX7_lend_2 (q := 5) rfl ?_
  intro sz9 hsz9
  exact v_out h hQ rfl (by decide) (by decide) ⟨rfl, hsz9, rfl, rfl, rfl⟩
set_option maxHeartbeats 4000000 in
set_option maxRecDepth 100000 in
theorem x2_X7_lend {l : Launch} (hfl : l.stackTraces = false) {sz : Nat} {sk : pb_Sk} {rf : pb_Rf} {sg : pb_Sg} {X n : Nat} {B par : Nat → Nat} (hX : pb_sys sk rf X B par n) {b : Nat} (hb : b < n) {c lo hi : Int32} (hbad : ¬ ((nI 0 ≤ c ∧ c ≤ nI 4) ∧ (nI 0 ≤ lo ∧ lo ≤ nI 399) ∧ (lo ≤ hi ∧ hi ≤ nI 399))) : pb_Met l mX7_lend 8 1 6 [.ref X, .int c, .int (nI b), .int lo, .int hi] sz sk rf sg (pb_thr "java/lang/IllegalArgumentException" sz sk rf sg) := by
  refine pb_start hfl (by decide +kernel) rfl (pb_c1 rfl) (Nat.le_of_ble_eq_true rfl) (fun F hF h hQ => ?_)
  subst hF
  show pv F 0 0 sz sk rf sg 0 [some (.ref X), some (.int c), some (.int (nI b)), some (.int lo), some (.int hi)] []
  obtain ⟨hX0, hX1, hX2, hX3, hX4, hX5, hX6, hXc, hXj, hXw, hXs, hXn, hXb, hXe, hXr, hXp⟩ := id hX
  refine v_aload_n h (i := 0) dX7_lend_0 (q := 1) rfl rfl rfl ?_
  refine v_iload_n h (i := 2) dX7_lend_1 (q := 2) rfl rfl rfl ?_
  refine v_callV1 h (c_X7_branchAt hfl hX hb) kX7_branchAt tw292 tw0 (by assumption) (by decide) rfl rfl rfl (by simp [Value.category]) (by decide) (Nat.zero_le _) (Nat.zero_le _) rfl dX7_lend_2 (q := 5) rfl ?_
  refine v_pop h dX7_lend_5 (q := 6) rfl rfl ?_
  refine v_iload_n h (i := 1) dX7_lend_6 (q := 7) rfl rfl rfl ?_
  refine v_iconst h (v := nI 0) dX7_lend_7 (q := 8) rfl (by decide +kernel) ?_
  refine v_iconst h (v := nI 4) dX7_lend_8 (q := 9) rfl (by decide +kernel) ?_
  by_cases hk1 : nI 0 ≤ c ∧ c ≤ nI 4
  · skip
    refine v_callS0 h (c_X7_checkRange hfl hk1.1 hk1.2) kX7_checkRange rfl tw367 rfl rfl (by simp [Value.category]) (by decide) (Nat.zero_le _) (Nat.zero_le _) rfl dX7_lend_9 (q := 12) rfl ?_
    refine v_iload_n h (i := 3) dX7_lend_12 (q := 13) rfl rfl rfl ?_
    refine v_iconst h (v := nI 0) dX7_lend_13 (q := 14) rfl (by decide +kernel) ?_
    refine v_sipush h (v := nI 399) dX7_lend_14 (q := 17) rfl (by decide +kernel) ?_
    by_cases hk2 : nI 0 ≤ lo ∧ lo ≤ nI 399
    · skip
      refine v_callS0 h (c_X7_checkRange hfl hk2.1 hk2.2) kX7_checkRange rfl tw367 rfl rfl (by simp [Value.category]) (by decide) (Nat.zero_le _) (Nat.zero_le _) rfl dX7_lend_17 (q := 20) rfl ?_
      refine v_iload h dX7_lend_20 (q := 22) rfl rfl ?_
      refine v_iload_n h (i := 3) dX7_lend_22 (q := 23) rfl rfl rfl ?_
      refine v_sipush h (v := nI 399) dX7_lend_23 (q := 26) rfl (by decide +kernel) ?_
      by_cases hk3 : lo ≤ hi ∧ hi ≤ nI 399
      · skip
        refine v_callS0 h (c_X7_checkRange hfl hk3.1 hk3.2) kX7_checkRange rfl tw367 rfl rfl (by simp [Value.category]) (by decide) (Nat.zero_le _) (Nat.zero_le _) rfl dX7_lend_26 (q := 29) rfl ?_
        exact absurd ⟨hk1, hk2, hk3⟩ hbad
      · skip
        refine v_callSx h (x_X7_checkRange hfl (pb_nrng hk3)) kX7_checkRange rfl tw367 rfl rfl (by simp [Value.category]) (by decide) (by decide) (by decide) rfl dX7_lend_26 (q := 29) rfl ?_
        intro sz9 hsz9
        exact v_out h hQ rfl (by decide) (by decide) ⟨rfl, hsz9, rfl, rfl, rfl⟩
    · skip
      refine v_callSx h (x_X7_checkRange hfl (pb_nrng hk2)) kX7_checkRange rfl tw367 rfl rfl (by simp [Value.category]) (by decide) (by decide) (by decide) rfl dX7_lend_17 (q := 20) rfl ?_
      intro sz9 hsz9
      exact v_out h hQ rfl (by decide) (by decide) ⟨rfl, hsz9, rfl, rfl, rfl⟩
  · skip
    refine v_callSx h (x_X7_checkRange hfl (pb_nrng hk1)) kX7_checkRange rfl tw367 rfl rfl (by simp [Value.category]) (by decide) (by decide) (by decide) rfl dX7_lend_9 (q := 12) rfl ?_
    intro sz9 hsz9
    exact v_out h hQ rfl (by decide) (by decide) ⟨rfl, hsz9, rfl, rfl, rfl⟩
set_option maxHeartbeats 4000000 in
set_option maxRecDepth 100000 in
theorem x3_X7_lend {l : Launch} (hfl : l.stackTraces = false) {sz : Nat} {sk : pb_Sk} {rf : pb_Rf} {sg : pb_Sg} {X n : Nat} {B par : Nat → Nat} (hX : pb_sys sk rf X B par n) {b c lo hi : Nat} (hb : b < n) (hcl : c < 5) (hlo : lo ≤ hi) (hhi : hi < 400) (hk : sg (X + 20) 2 = nI 40) : pb_Met l mX7_lend 8 1 6 [.ref X, .int (nI c), .int (nI b), .int (nI lo), .int (nI hi)] sz sk rf sg (pb_thr "java/lang/IllegalStateException" sz sk rf sg) := by
  refine pb_start hfl (by decide +kernel) rfl (pb_c1 rfl) (Nat.le_of_ble_eq_true rfl) (fun F hF h hQ => ?_)
  subst hF
  show pv F 0 0 sz sk rf sg 0 [some (.ref X), some (.int (nI c)), some (.int (nI b)), some (.int (nI lo)), some (.int (nI hi))] []
  obtain ⟨hX0, hX1, hX2, hX3, hX4, hX5, hX6, hXc, hXj, hXw, hXs, hXn, hXb, hXe, hXr, hXp⟩ := id hX
  obtain ⟨hc0, hc1, hc2, hc3, hc4, hc5, hc6⟩ := id hXc
  refine v_aload_n h (i := 0) dX7_lend_0 (q := 1) rfl rfl rfl ?_
  refine v_iload_n h (i := 2) dX7_lend_1 (q := 2) rfl rfl rfl ?_
  refine v_callV1 h (c_X7_branchAt hfl hX hb) kX7_branchAt tw292 tw0 (by assumption) (by decide) rfl rfl rfl (by simp [Value.category]) (by decide) (Nat.zero_le _) (Nat.zero_le _) rfl dX7_lend_2 (q := 5) rfl ?_
  refine v_pop h dX7_lend_5 (q := 6) rfl rfl ?_
  refine v_iload_n h (i := 1) dX7_lend_6 (q := 7) rfl rfl rfl ?_
  refine v_iconst h (v := nI 0) dX7_lend_7 (q := 8) rfl (by decide +kernel) ?_
  refine v_iconst h (v := nI 4) dX7_lend_8 (q := 9) rfl (by decide +kernel) ?_
  refine v_callS0 h (c_X7_checkRange hfl (nI_le (Nat.zero_le c) (by omega)) (nI_le (show c ≤ 4 by omega) (by decide))) kX7_checkRange rfl tw367 rfl rfl (by simp [Value.category]) (by decide) (Nat.zero_le _) (Nat.zero_le _) rfl dX7_lend_9 (q := 12) rfl ?_
  refine v_iload_n h (i := 3) dX7_lend_12 (q := 13) rfl rfl rfl ?_
  refine v_iconst h (v := nI 0) dX7_lend_13 (q := 14) rfl (by decide +kernel) ?_
  refine v_sipush h (v := nI 399) dX7_lend_14 (q := 17) rfl (by decide +kernel) ?_
  refine v_callS0 h (c_X7_checkRange hfl (nI_le (Nat.zero_le lo) (by omega)) (nI_le (show lo ≤ 399 by omega) (by decide))) kX7_checkRange rfl tw367 rfl rfl (by simp [Value.category]) (by decide) (Nat.zero_le _) (Nat.zero_le _) rfl dX7_lend_17 (q := 20) rfl ?_
  refine v_iload h dX7_lend_20 (q := 22) rfl rfl ?_
  refine v_iload_n h (i := 3) dX7_lend_22 (q := 23) rfl rfl rfl ?_
  refine v_sipush h (v := nI 399) dX7_lend_23 (q := 26) rfl (by decide +kernel) ?_
  refine v_callS0 h (c_X7_checkRange hfl (nI_le hlo (by omega)) (nI_le (show hi ≤ 399 by omega) (by decide))) kX7_checkRange rfl tw367 rfl rfl (by simp [Value.category]) (by decide) (Nat.zero_le _) (Nat.zero_le _) rfl dX7_lend_26 (q := 29) rfl ?_
  refine v_aload_n h (i := 0) dX7_lend_29 (q := 30) rfl rfl rfl ?_
  refine v_getr h fl_X7_25 (by assumption) rfl (by assumption) dX7_lend_30 (q := 33) rfl ?_
  refine v_geti h fl_X7_206 (by assumption) rfl dX7_lend_33 (q := 36) rfl ?_
  refine v_bipush h (v := nI 40) dX7_lend_36 (q := 38) rfl (by decide +kernel) ?_
  refine v_icmp_lt h dX7_lend_38 (q := 41) rfl (tgt := 51) (by decide) (fun c1 => absurd c1 (by rw [hk]; exact nI_nlt (Nat.le_refl _) (by omega))) (fun c1 => ?_)
  refine v_throw h hQ rfl (th_X7_93) (is := 209) (text := "there are as many loans as can be") (by decide +kernel) rfl dX7_lend_41 dX7_lend_44 dX7_lend_45 dX7_lend_47 dX7_lend_50 (by decide) (by decide) (by decide) (by decide) (fun sz9 hsz9 => ⟨rfl, hsz9, rfl, rfl, rfl⟩)
set_option maxHeartbeats 4000000 in
set_option maxRecDepth 100000 in
theorem c_X7_holder {l : Launch} (hfl : l.stackTraces = false) {sz : Nat} {sk : pb_Sk} {rf : pb_Rf} {sg : pb_Sg} {X n : Nat} {B par : Nat → Nat} (hX : pb_sys sk rf X B par n) {c dy : Nat} (hcl : c < 5) (hd : dy < 400) : pb_Met l mX7_holder 7 0 0 [.ref X, .int (nI c), .int (nI dy)] sz sk rf sg (pb_is (some (.int (pb_held sg (X + 20) c dy))) sz sk rf sg) := by
  refine pb_start hfl (by decide +kernel) rfl (pb_c1 rfl) (Nat.le_of_ble_eq_true rfl) (fun F hF h hQ => ?_)
  subst hF
  show pv F 0 0 sz sk rf sg 0 [some (.ref X), some (.int (nI c)), some (.int (nI dy))] []
  obtain ⟨hX0, hX1, hX2, hX3, hX4, hX5, hX6, hXc, hXj, hXw, hXs, hXn, hXb, hXe, hXr, hXp⟩ := id hX
  obtain ⟨hc0, hc1, hc2, hc3, hc4, hc5, hc6⟩ := id hXc
  refine v_iload_n h (i := 1) dX7_holder_0 (q := 1) rfl rfl rfl ?_
  refine v_iconst h (v := nI 0) dX7_holder_1 (q := 2) rfl (by decide +kernel) ?_
  refine v_iconst h (v := nI 4) dX7_holder_2 (q := 3) rfl (by decide +kernel) ?_
  refine v_callS0 h (c_X7_checkRange hfl (nI_le (Nat.zero_le c) (by omega)) (nI_le (show c ≤ 4 by omega) (by decide))) kX7_checkRange rfl tw367 rfl rfl (by simp [Value.category]) (by decide) (Nat.zero_le _) (Nat.zero_le _) rfl dX7_holder_3 (q := 6) rfl ?_
  refine v_iload_n h (i := 2) dX7_holder_6 (q := 7) rfl rfl rfl ?_
  refine v_iconst h (v := nI 0) dX7_holder_7 (q := 8) rfl (by decide +kernel) ?_
  refine v_sipush h (v := nI 399) dX7_holder_8 (q := 11) rfl (by decide +kernel) ?_
  refine v_callS0 h (c_X7_checkRange hfl (nI_le (Nat.zero_le dy) (by omega)) (nI_le (show dy ≤ 399 by omega) (by decide))) kX7_checkRange rfl tw367 rfl rfl (by simp [Value.category]) (by decide) (Nat.zero_le _) (Nat.zero_le _) rfl dX7_holder_11 (q := 14) rfl ?_
  refine v_aload_n h (i := 0) dX7_holder_14 (q := 15) rfl rfl rfl ?_
  refine v_getr h fl_X7_25 (by assumption) rfl (by assumption) dX7_holder_15 (q := 18) rfl ?_
  refine v_iload_n h (i := 1) dX7_holder_18 (q := 19) rfl rfl rfl ?_
  refine v_iload_n h (i := 2) dX7_holder_19 (q := 20) rfl rfl rfl ?_
  refine v_callV1 h (c_X1_heldBy hfl hXc hcl hd) kX1_heldBy tw727 tw630 (by assumption) (by decide) rfl rfl rfl (by simp [Value.category]) (by decide) (Nat.zero_le _) (Nat.zero_le _) rfl dX7_holder_20 (q := 23) rfl ?_
  refine v_iret h hQ rfl rfl dX7_holder_23 (Nat.zero_le _) (Nat.zero_le _) ⟨rfl, rfl, rfl, rfl, rfl⟩
set_option maxHeartbeats 4000000 in
set_option maxRecDepth 100000 in
theorem x2_X7_holder {l : Launch} (hfl : l.stackTraces = false) {sz : Nat} {sk : pb_Sk} {rf : pb_Rf} {sg : pb_Sg} {X n : Nat} {B par : Nat → Nat} (hX : pb_sys sk rf X B par n) {c dy : Int32} (hbad : ¬ ((nI 0 ≤ c ∧ c ≤ nI 4) ∧ (nI 0 ≤ dy ∧ dy ≤ nI 399))) : pb_Met l mX7_holder 8 1 6 [.ref X, .int c, .int dy] sz sk rf sg (pb_thr "java/lang/IllegalArgumentException" sz sk rf sg) := by
  refine pb_start hfl (by decide +kernel) rfl (pb_c1 rfl) (Nat.le_of_ble_eq_true rfl) (fun F hF h hQ => ?_)
  subst hF
  show pv F 0 0 sz sk rf sg 0 [some (.ref X), some (.int c), some (.int dy)] []
  obtain ⟨hX0, hX1, hX2, hX3, hX4, hX5, hX6, hXc, hXj, hXw, hXs, hXn, hXb, hXe, hXr, hXp⟩ := id hX
  refine v_iload_n h (i := 1) dX7_holder_0 (q := 1) rfl rfl rfl ?_
  refine v_iconst h (v := nI 0) dX7_holder_1 (q := 2) rfl (by decide +kernel) ?_
  refine v_iconst h (v := nI 4) dX7_holder_2 (q := 3) rfl (by decide +kernel) ?_
  by_cases hk1 : nI 0 ≤ c ∧ c ≤ nI 4
  · skip
    refine v_callS0 h (c_X7_checkRange hfl hk1.1 hk1.2) kX7_checkRange rfl tw367 rfl rfl (by simp [Value.category]) (by decide) (Nat.zero_le _) (Nat.zero_le _) rfl dX7_holder_3 (q := 6) rfl ?_
    refine v_iload_n h (i := 2) dX7_holder_6 (q := 7) rfl rfl rfl ?_
    refine v_iconst h (v := nI 0) dX7_holder_7 (q := 8) rfl (by decide +kernel) ?_
    refine v_sipush h (v := nI 399) dX7_holder_8 (q := 11) rfl (by decide +kernel) ?_
    by_cases hk2 : nI 0 ≤ dy ∧ dy ≤ nI 399
    · skip
      refine v_callS0 h (c_X7_checkRange hfl hk2.1 hk2.2) kX7_checkRange rfl tw367 rfl rfl (by simp [Value.category]) (by decide) (Nat.zero_le _) (Nat.zero_le _) rfl dX7_holder_11 (q := 14) rfl ?_
      exact absurd ⟨hk1, hk2⟩ hbad
    · skip
      refine v_callSx h (x_X7_checkRange hfl (pb_nrng hk2)) kX7_checkRange rfl tw367 rfl rfl (by simp [Value.category]) (by decide) (by decide) (by decide) rfl dX7_holder_11 (q := 14) rfl ?_
      intro sz9 hsz9
      exact v_out h hQ rfl (by decide) (by decide) ⟨rfl, hsz9, rfl, rfl, rfl⟩
  · skip
    refine v_callSx h (x_X7_checkRange hfl (pb_nrng hk1)) kX7_checkRange rfl tw367 rfl rfl (by simp [Value.category]) (by decide) (by decide) (by decide) rfl dX7_holder_3 (q := 6) rfl ?_
    intro sz9 hsz9
    exact v_out h hQ rfl (by decide) (by decide) ⟨rfl, hsz9, rfl, rfl, rfl⟩
set_option maxHeartbeats 4000000 in
set_option maxRecDepth 100000 in
theorem c_X7_tail {l : Launch} (hfl : l.stackTraces = false) {sz : Nat} {sk : pb_Sk} {rf : pb_Rf} {sg : pb_Sg} {X n : Nat} {B par : Nat → Nat} (hX : pb_sys sk rf X B par n) {b t : Nat} (hb : b < n) (ht : t < 16) : pb_Met l mX7_tail 7 0 0 [.ref X, .int (nI b), .int (nI t)] sz sk rf sg (pb_is (some (.int (pb_meas sg (X + 34) (B b + 1) (X + 34 + 1) t))) sz sk rf (pb_meas sg (X + 34) (B b + 1))) := by
  refine pb_start hfl (by decide +kernel) rfl (pb_c1 rfl) (Nat.le_of_ble_eq_true rfl) (fun F hF h hQ => ?_)
  subst hF
  show pv F 0 0 sz sk rf sg 0 [some (.ref X), some (.int (nI b)), some (.int (nI t)), none] []
  obtain ⟨hX0, hX1, hX2, hX3, hX4, hX5, hX6, hXc, hXj, hXw, hXs, hXn, hXb, hXe, hXr, hXp⟩ := id hX
  obtain ⟨hb0, hb1, hb2, hb3, hb4, hb5, hb6, hb7, hb8⟩ := id (hXb b hb).2
  obtain ⟨hp0, hp1, hp2, hp3, hp4, hp5, hp6, hp7, hp8⟩ := id hb5
  obtain ⟨hw0, hw1, hw2, hw3, hw4⟩ := id hXw
  refine v_aload_n h (i := 0) dX7_tail_0 (q := 1) rfl rfl rfl ?_
  refine v_iload_n h (i := 1) dX7_tail_1 (q := 2) rfl rfl rfl ?_
  refine v_callV1 h (c_X7_branchAt hfl hX hb) kX7_branchAt tw292 tw0 (by assumption) (by decide) rfl rfl rfl (by simp [Value.category]) (by decide) (Nat.zero_le _) (Nat.zero_le _) rfl dX7_tail_2 (q := 5) rfl ?_
  refine v_astore_n h (i := 3) dX7_tail_5 (q := 6) rfl rfl (Nat.le_of_ble_eq_true rfl) rfl ?_
  refine v_iload_n h (i := 2) dX7_tail_6 (q := 7) rfl rfl rfl ?_
  refine v_callS0 h (c_X7_checkTask hfl ht) kX7_checkTask rfl tw364 rfl rfl (by simp [Value.category]) (by decide) (Nat.zero_le _) (Nat.zero_le _) rfl dX7_tail_7 (q := 10) rfl ?_
  refine v_aload_n h (i := 0) dX7_tail_10 (q := 11) rfl rfl rfl ?_
  refine v_getr h fl_X7_39 (by assumption) rfl (by assumption) dX7_tail_11 (q := 14) rfl ?_
  refine v_aload_n h (i := 3) dX7_tail_14 (q := 15) rfl rfl rfl ?_
  refine v_getr h fl_X7_65 (by assumption) rfl (by assumption) dX7_tail_15 (q := 18) rfl ?_
  refine v_callV0 h (c_X6_measure hfl hXw hb5) kX6_measure tw609 tw611 (by assumption) (by decide) rfl rfl rfl (by simp [Value.category]) (by decide) (Nat.zero_le _) (Nat.zero_le _) rfl dX7_tail_18 (q := 21) rfl ?_
  refine v_aload_n h (i := 0) dX7_tail_21 (q := 22) rfl rfl rfl ?_
  refine v_getr h fl_X7_39 (by assumption) rfl (by assumption) dX7_tail_22 (q := 25) rfl ?_
  refine v_getr h fl_X7_222 (by assumption) rfl (by assumption) dX7_tail_25 (q := 28) rfl ?_
  refine v_iload_n h (i := 2) dX7_tail_28 (q := 29) rfl rfl rfl ?_
  refine v_iald h (by assumption) rfl (by first | assumption | omega) (by decide) dX7_tail_29 (q := 30) rfl ?_
  refine v_iret h hQ rfl rfl dX7_tail_30 (Nat.zero_le _) (Nat.zero_le _) ⟨rfl, rfl, rfl, rfl, rfl⟩
set_option maxHeartbeats 4000000 in
set_option maxRecDepth 100000 in
theorem x1_X7_tail {l : Launch} (hfl : l.stackTraces = false) {sz : Nat} {sk : pb_Sk} {rf : pb_Rf} {sg : pb_Sg} {X n : Nat} {B par : Nat → Nat} (hX : pb_sys sk rf X B par n) {x : Int32} (hx : ∀ b, b < n → ¬ x = nI b) {t : Int32} : pb_Met l mX7_tail 7 1 6 [.ref X, .int x, .int t] sz sk rf sg (pb_thr "java/lang/IndexOutOfBoundsException" sz sk rf sg) := by
  refine pb_start hfl (by decide +kernel) rfl (pb_c1 rfl) (Nat.le_of_ble_eq_true rfl) (fun F hF h hQ => ?_)
  subst hF
  show pv F 0 0 sz sk rf sg 0 [some (.ref X), some (.int x), some (.int t), none] []
  obtain ⟨hX0, hX1, hX2, hX3, hX4, hX5, hX6, hXc, hXj, hXw, hXs, hXn, hXb, hXe, hXr, hXp⟩ := id hX
  refine v_aload_n h (i := 0) dX7_tail_0 (q := 1) rfl rfl rfl ?_
  refine v_iload_n h (i := 1) dX7_tail_1 (q := 2) rfl rfl rfl ?_
  refine v_callVx h (x_X7_branchAt hfl hX hx) kX7_branchAt tw292 tw0 (by assumption) (by decide) rfl rfl rfl (by simp [Value.category]) (by decide) (by decide) (by decide) rfl dX7_tail_2 (q := 5) rfl ?_
  intro sz9 hsz9
  exact v_out h hQ rfl (by decide) (by decide) ⟨rfl, hsz9, rfl, rfl, rfl⟩
set_option maxHeartbeats 4000000 in
set_option maxRecDepth 100000 in
theorem x2_X7_tail {l : Launch} (hfl : l.stackTraces = false) {sz : Nat} {sk : pb_Sk} {rf : pb_Rf} {sg : pb_Sg} {X n : Nat} {B par : Nat → Nat} (hX : pb_sys sk rf X B par n) {b : Nat} (hb : b < n) {t : Int32} (hbad : ¬ (nI 0 ≤ t ∧ t ≤ nI 15)) : pb_Met l mX7_tail 8 1 6 [.ref X, .int (nI b), .int t] sz sk rf sg (pb_thr "java/lang/IllegalArgumentException" sz sk rf sg) := by
  refine pb_start hfl (by decide +kernel) rfl (pb_c1 rfl) (Nat.le_of_ble_eq_true rfl) (fun F hF h hQ => ?_)
  subst hF
  show pv F 0 0 sz sk rf sg 0 [some (.ref X), some (.int (nI b)), some (.int t), none] []
  obtain ⟨hX0, hX1, hX2, hX3, hX4, hX5, hX6, hXc, hXj, hXw, hXs, hXn, hXb, hXe, hXr, hXp⟩ := id hX
  refine v_aload_n h (i := 0) dX7_tail_0 (q := 1) rfl rfl rfl ?_
  refine v_iload_n h (i := 1) dX7_tail_1 (q := 2) rfl rfl rfl ?_
  refine v_callV1 h (c_X7_branchAt hfl hX hb) kX7_branchAt tw292 tw0 (by assumption) (by decide) rfl rfl rfl (by simp [Value.category]) (by decide) (Nat.zero_le _) (Nat.zero_le _) rfl dX7_tail_2 (q := 5) rfl ?_
  refine v_astore_n h (i := 3) dX7_tail_5 (q := 6) rfl rfl (Nat.le_of_ble_eq_true rfl) rfl ?_
  refine v_iload_n h (i := 2) dX7_tail_6 (q := 7) rfl rfl rfl ?_
  refine v_callSx h (x_X7_checkTask hfl (pb_nrng hbad)) kX7_checkTask rfl tw364 rfl rfl (by simp [Value.category]) (by decide) (by decide) (by decide) rfl dX7_tail_7 (q := 10) rfl ?_
  intro sz9 hsz9
  exact v_out h hQ rfl (by decide) (by decide) ⟨rfl, hsz9, rfl, rfl, rfl⟩
set_option maxHeartbeats 4000000 in
set_option maxRecDepth 100000 in
theorem c_X7_slack {l : Launch} (hfl : l.stackTraces = false) {sz : Nat} {sk : pb_Sk} {rf : pb_Rf} {sg : pb_Sg} {X n : Nat} {B par : Nat → Nat} (hX : pb_sys sk rf X B par n) {b t : Nat} (hb : b < n) (ht : t < 16) (hh : pb_has (sg (B b + 1 + 1)) t = true) : pb_Met l mX7_slack 7 0 0 [.ref X, .int (nI b), .int (nI t)] sz sk rf sg (pb_is (some (.int (pb_meas sg (X + 34) (B b + 1) (X + 34) 2 - pb_meas sg (X + 34) (B b + 1) (X + 34 + 2) t - pb_meas sg (X + 34) (B b + 1) (X + 34 + 1) t))) sz sk rf (pb_meas sg (X + 34) (B b + 1))) := by
  refine pb_start hfl (by decide +kernel) rfl (pb_c1 rfl) (Nat.le_of_ble_eq_true rfl) (fun F hF h hQ => ?_)
  subst hF
  show pv F 0 0 sz sk rf sg 0 [some (.ref X), some (.int (nI b)), some (.int (nI t)), none] []
  obtain ⟨hX0, hX1, hX2, hX3, hX4, hX5, hX6, hXc, hXj, hXw, hXs, hXn, hXb, hXe, hXr, hXp⟩ := id hX
  obtain ⟨hb0, hb1, hb2, hb3, hb4, hb5, hb6, hb7, hb8⟩ := id (hXb b hb).2
  obtain ⟨hp0, hp1, hp2, hp3, hp4, hp5, hp6, hp7, hp8⟩ := id hb5
  obtain ⟨hw0, hw1, hw2, hw3, hw4⟩ := id hXw
  refine v_aload_n h (i := 0) dX7_slack_0 (q := 1) rfl rfl rfl ?_
  refine v_iload_n h (i := 1) dX7_slack_1 (q := 2) rfl rfl rfl ?_
  refine v_callV1 h (c_X7_branchAt hfl hX hb) kX7_branchAt tw292 tw0 (by assumption) (by decide) rfl rfl rfl (by simp [Value.category]) (by decide) (Nat.zero_le _) (Nat.zero_le _) rfl dX7_slack_2 (q := 5) rfl ?_
  refine v_astore_n h (i := 3) dX7_slack_5 (q := 6) rfl rfl (Nat.le_of_ble_eq_true rfl) rfl ?_
  refine v_iload_n h (i := 2) dX7_slack_6 (q := 7) rfl rfl rfl ?_
  refine v_callS0 h (c_X7_checkTask hfl ht) kX7_checkTask rfl tw364 rfl rfl (by simp [Value.category]) (by decide) (Nat.zero_le _) (Nat.zero_le _) rfl dX7_slack_7 (q := 10) rfl ?_
  refine v_aload_n h (i := 3) dX7_slack_10 (q := 11) rfl rfl rfl ?_
  refine v_getr h fl_X7_65 (by assumption) rfl (by assumption) dX7_slack_11 (q := 14) rfl ?_
  refine v_iload_n h (i := 2) dX7_slack_14 (q := 15) rfl rfl rfl ?_
  refine v_callV1 h (c_X4_has hfl hb5 ht) kX4_has tw386 tw388 (by assumption) (by decide) rfl rfl rfl (by simp [Value.category]) (by decide) (Nat.zero_le _) (Nat.zero_le _) rfl dX7_slack_15 (q := 18) rfl ?_
  refine v_if_ne h dX7_slack_18 (q := 21) rfl (tgt := 23) (by decide) (fun c1 => ?_) (fun c1 => absurd (hh.symm.trans (pb_b_0.mp c1)) (by decide))
  refine v_aload_n h (i := 0) dX7_slack_23 (q := 24) rfl rfl rfl ?_
  refine v_getr h fl_X7_39 (by assumption) rfl (by assumption) dX7_slack_24 (q := 27) rfl ?_
  refine v_aload_n h (i := 3) dX7_slack_27 (q := 28) rfl rfl rfl ?_
  refine v_getr h fl_X7_65 (by assumption) rfl (by assumption) dX7_slack_28 (q := 31) rfl ?_
  refine v_callV0 h (c_X6_measure hfl hXw hb5) kX6_measure tw609 tw611 (by assumption) (by decide) rfl rfl rfl (by simp [Value.category]) (by decide) (Nat.zero_le _) (Nat.zero_le _) rfl dX7_slack_31 (q := 34) rfl ?_
  refine v_aload_n h (i := 0) dX7_slack_34 (q := 35) rfl rfl rfl ?_
  refine v_getr h fl_X7_39 (by assumption) rfl (by assumption) dX7_slack_35 (q := 38) rfl ?_
  refine v_iload_n h (i := 2) dX7_slack_38 (q := 39) rfl rfl rfl ?_
  refine v_callV1 h (c_X6_slackOf hfl hXw ht) kX6_slackOf tw742 tw744 (by assumption) (by decide) rfl rfl rfl (by simp [Value.category]) (by decide) (Nat.zero_le _) (Nat.zero_le _) rfl dX7_slack_39 (q := 42) rfl ?_
  refine v_iret h hQ rfl rfl dX7_slack_42 (Nat.zero_le _) (Nat.zero_le _) ⟨rfl, rfl, rfl, rfl, rfl⟩
set_option maxHeartbeats 4000000 in
set_option maxRecDepth 100000 in
theorem c0_X7_slack {l : Launch} (hfl : l.stackTraces = false) {sz : Nat} {sk : pb_Sk} {rf : pb_Rf} {sg : pb_Sg} {X n : Nat} {B par : Nat → Nat} (hX : pb_sys sk rf X B par n) {b t : Nat} (hb : b < n) (ht : t < 16) (hh : pb_has (sg (B b + 1 + 1)) t = false) : pb_Met l mX7_slack 7 0 0 [.ref X, .int (nI b), .int (nI t)] sz sk rf sg (pb_is (some (.int (-1))) sz sk rf sg) := by
  refine pb_start hfl (by decide +kernel) rfl (pb_c1 rfl) (Nat.le_of_ble_eq_true rfl) (fun F hF h hQ => ?_)
  subst hF
  show pv F 0 0 sz sk rf sg 0 [some (.ref X), some (.int (nI b)), some (.int (nI t)), none] []
  obtain ⟨hX0, hX1, hX2, hX3, hX4, hX5, hX6, hXc, hXj, hXw, hXs, hXn, hXb, hXe, hXr, hXp⟩ := id hX
  obtain ⟨hb0, hb1, hb2, hb3, hb4, hb5, hb6, hb7, hb8⟩ := id (hXb b hb).2
  obtain ⟨hp0, hp1, hp2, hp3, hp4, hp5, hp6, hp7, hp8⟩ := id hb5
  obtain ⟨hw0, hw1, hw2, hw3, hw4⟩ := id hXw
  refine v_aload_n h (i := 0) dX7_slack_0 (q := 1) rfl rfl rfl ?_
  refine v_iload_n h (i := 1) dX7_slack_1 (q := 2) rfl rfl rfl ?_
  refine v_callV1 h (c_X7_branchAt hfl hX hb) kX7_branchAt tw292 tw0 (by assumption) (by decide) rfl rfl rfl (by simp [Value.category]) (by decide) (Nat.zero_le _) (Nat.zero_le _) rfl dX7_slack_2 (q := 5) rfl ?_
  refine v_astore_n h (i := 3) dX7_slack_5 (q := 6) rfl rfl (Nat.le_of_ble_eq_true rfl) rfl ?_
  refine v_iload_n h (i := 2) dX7_slack_6 (q := 7) rfl rfl rfl ?_
  refine v_callS0 h (c_X7_checkTask hfl ht) kX7_checkTask rfl tw364 rfl rfl (by simp [Value.category]) (by decide) (Nat.zero_le _) (Nat.zero_le _) rfl dX7_slack_7 (q := 10) rfl ?_
  refine v_aload_n h (i := 3) dX7_slack_10 (q := 11) rfl rfl rfl ?_
  refine v_getr h fl_X7_65 (by assumption) rfl (by assumption) dX7_slack_11 (q := 14) rfl ?_
  refine v_iload_n h (i := 2) dX7_slack_14 (q := 15) rfl rfl rfl ?_
  refine v_callV1 h (c_X4_has hfl hb5 ht) kX4_has tw386 tw388 (by assumption) (by decide) rfl rfl rfl (by simp [Value.category]) (by decide) (Nat.zero_le _) (Nat.zero_le _) rfl dX7_slack_15 (q := 18) rfl ?_
  refine v_if_ne h dX7_slack_18 (q := 21) rfl (tgt := 23) (by decide) (fun c1 => absurd (pb_b_0.mpr hh) c1) (fun c1 => ?_)
  refine v_iconst h (v := (-1)) dX7_slack_21 (q := 22) rfl (by decide +kernel) ?_
  refine v_iret h hQ rfl rfl dX7_slack_22 (Nat.zero_le _) (Nat.zero_le _) ⟨rfl, rfl, rfl, rfl, rfl⟩
set_option maxHeartbeats 4000000 in
set_option maxRecDepth 100000 in
theorem x1_X7_slack {l : Launch} (hfl : l.stackTraces = false) {sz : Nat} {sk : pb_Sk} {rf : pb_Rf} {sg : pb_Sg} {X n : Nat} {B par : Nat → Nat} (hX : pb_sys sk rf X B par n) {x : Int32} (hx : ∀ b, b < n → ¬ x = nI b) {t : Int32} : pb_Met l mX7_slack 7 1 6 [.ref X, .int x, .int t] sz sk rf sg (pb_thr "java/lang/IndexOutOfBoundsException" sz sk rf sg) := by
  refine pb_start hfl (by decide +kernel) rfl (pb_c1 rfl) (Nat.le_of_ble_eq_true rfl) (fun F hF h hQ => ?_)
  subst hF
  show pv F 0 0 sz sk rf sg 0 [some (.ref X), some (.int x), some (.int t), none] []
  obtain ⟨hX0, hX1, hX2, hX3, hX4, hX5, hX6, hXc, hXj, hXw, hXs, hXn, hXb, hXe, hXr, hXp⟩ := id hX
  refine v_aload_n h (i := 0) dX7_slack_0 (q := 1) rfl rfl rfl ?_
  refine v_iload_n h (i := 1) dX7_slack_1 (q := 2) rfl rfl rfl ?_
  refine v_callVx h (x_X7_branchAt hfl hX hx) kX7_branchAt tw292 tw0 (by assumption) (by decide) rfl rfl rfl (by simp [Value.category]) (by decide) (by decide) (by decide) rfl dX7_slack_2 (q := 5) rfl ?_
  intro sz9 hsz9
  exact v_out h hQ rfl (by decide) (by decide) ⟨rfl, hsz9, rfl, rfl, rfl⟩
set_option maxHeartbeats 4000000 in
set_option maxRecDepth 100000 in
theorem x2_X7_slack {l : Launch} (hfl : l.stackTraces = false) {sz : Nat} {sk : pb_Sk} {rf : pb_Rf} {sg : pb_Sg} {X n : Nat} {B par : Nat → Nat} (hX : pb_sys sk rf X B par n) {b : Nat} (hb : b < n) {t : Int32} (hbad : ¬ (nI 0 ≤ t ∧ t ≤ nI 15)) : pb_Met l mX7_slack 8 1 6 [.ref X, .int (nI b), .int t] sz sk rf sg (pb_thr "java/lang/IllegalArgumentException" sz sk rf sg) := by
  refine pb_start hfl (by decide +kernel) rfl (pb_c1 rfl) (Nat.le_of_ble_eq_true rfl) (fun F hF h hQ => ?_)
  subst hF
  show pv F 0 0 sz sk rf sg 0 [some (.ref X), some (.int (nI b)), some (.int t), none] []
  obtain ⟨hX0, hX1, hX2, hX3, hX4, hX5, hX6, hXc, hXj, hXw, hXs, hXn, hXb, hXe, hXr, hXp⟩ := id hX
  refine v_aload_n h (i := 0) dX7_slack_0 (q := 1) rfl rfl rfl ?_
  refine v_iload_n h (i := 1) dX7_slack_1 (q := 2) rfl rfl rfl ?_
  refine v_callV1 h (c_X7_branchAt hfl hX hb) kX7_branchAt tw292 tw0 (by assumption) (by decide) rfl rfl rfl (by simp [Value.category]) (by decide) (Nat.zero_le _) (Nat.zero_le _) rfl dX7_slack_2 (q := 5) rfl ?_
  refine v_astore_n h (i := 3) dX7_slack_5 (q := 6) rfl rfl (Nat.le_of_ble_eq_true rfl) rfl ?_
  refine v_iload_n h (i := 2) dX7_slack_6 (q := 7) rfl rfl rfl ?_
  refine v_callSx h (x_X7_checkTask hfl (pb_nrng hbad)) kX7_checkTask rfl tw364 rfl rfl (by simp [Value.category]) (by decide) (by decide) (by decide) rfl dX7_slack_7 (q := 10) rfl ?_
  intro sz9 hsz9
  exact v_out h hQ rfl (by decide) (by decide) ⟨rfl, hsz9, rfl, rfl, rfl⟩
set_option maxHeartbeats 4000000 in
set_option maxRecDepth 100000 in
theorem c_X7_critical {l : Launch} (hfl : l.stackTraces = false) {sz : Nat} {sk : pb_Sk} {rf : pb_Rf} {sg : pb_Sg} {X n : Nat} {B par : Nat → Nat} (hX : pb_sys sk rf X B par n) {b : Nat} (hb : b < n) : pb_Met l mX7_critical 7 0 0 [.ref X, .int (nI b)] sz sk rf sg (pb_is (some (.int (pb_set (fun t => pb_has ((pb_meas sg (X + 34) (B b + 1)) (B b + 1 + 1)) t && decide ((pb_meas sg (X + 34) (B b + 1)) (X + 34) 2 - (pb_meas sg (X + 34) (B b + 1)) (X + 34 + 2) t - (pb_meas sg (X + 34) (B b + 1)) (X + 34 + 1) t = 0)) 16))) sz sk rf ((pb_meas sg (X + 34) (B b + 1)))) := by
  refine pb_start hfl (by decide +kernel) rfl (pb_c1 rfl) (Nat.le_of_ble_eq_true rfl) (fun F hF h hQ => ?_)
  subst hF
  show pv F 0 0 sz sk rf sg 0 [some (.ref X), some (.int (nI b)), none, none, none] []
  obtain ⟨hX0, hX1, hX2, hX3, hX4, hX5, hX6, hXc, hXj, hXw, hXs, hXn, hXb, hXe, hXr, hXp⟩ := id hX
  obtain ⟨hb0, hb1, hb2, hb3, hb4, hb5, hb6, hb7, hb8⟩ := id (hXb b hb).2
  obtain ⟨hp0, hp1, hp2, hp3, hp4, hp5, hp6, hp7, hp8⟩ := id hb5
  obtain ⟨hw0, hw1, hw2, hw3, hw4⟩ := id hXw
  refine v_aload_n h (i := 0) dX7_critical_0 (q := 1) rfl rfl rfl ?_
  refine v_iload_n h (i := 1) dX7_critical_1 (q := 2) rfl rfl rfl ?_
  refine v_callV1 h (c_X7_branchAt hfl hX hb) kX7_branchAt tw292 tw0 (by assumption) (by decide) rfl rfl rfl (by simp [Value.category]) (by decide) (Nat.zero_le _) (Nat.zero_le _) rfl dX7_critical_2 (q := 5) rfl ?_
  refine v_astore_n h (i := 2) dX7_critical_5 (q := 6) rfl rfl (Nat.le_of_ble_eq_true rfl) rfl ?_
  refine v_aload_n h (i := 0) dX7_critical_6 (q := 7) rfl rfl rfl ?_
  refine v_getr h fl_X7_39 (by assumption) rfl (by assumption) dX7_critical_7 (q := 10) rfl ?_
  refine v_aload_n h (i := 2) dX7_critical_10 (q := 11) rfl rfl rfl ?_
  refine v_getr h fl_X7_65 (by assumption) rfl (by assumption) dX7_critical_11 (q := 14) rfl ?_
  refine v_callV0 h (c_X6_measure hfl hXw hb5) kX6_measure tw609 tw611 (by assumption) (by decide) rfl rfl rfl (by simp [Value.category]) (by decide) (Nat.zero_le _) (Nat.zero_le _) rfl dX7_critical_14 (q := 17) rfl ?_
  refine v_iconst h (v := nI 0) dX7_critical_17 (q := 18) rfl (by decide +kernel) ?_
  refine v_istore_n h (i := 3) dX7_critical_18 (q := 19) rfl rfl (Nat.le_of_ble_eq_true rfl) rfl ?_
  refine v_iconst h (v := nI 0) dX7_critical_19 (q := 20) rfl (by decide +kernel) ?_
  refine v_istore h dX7_critical_20 (q := 22) rfl (Nat.le_of_ble_eq_true rfl) rfl ?_
  have lp : ∀ (j i : Nat), i + j = 16 → pv F 0 0 sz sk rf (pb_meas sg (X + 34) (B b + 1)) 22 [some (.ref X), some (.int (nI b)), some (.ref (B b)), some (.int (pb_set (fun t => pb_has ((pb_meas sg (X + 34) (B b + 1)) (B b + 1 + 1)) t && decide ((pb_meas sg (X + 34) (B b + 1)) (X + 34) 2 - (pb_meas sg (X + 34) (B b + 1)) (X + 34 + 2) t - (pb_meas sg (X + 34) (B b + 1)) (X + 34 + 1) t = 0)) i)), some (.int (nI i))] [] := by
    intro j
    induction j with
    | zero =>
      intro i  hi
      obtain rfl : i = 16 := by omega
      refine v_iload h dX7_critical_22 (q := 24) rfl rfl ?_
      refine v_bipush h (v := nI 16) dX7_critical_24 (q := 26) rfl (by decide +kernel) ?_
      refine v_icmp_ge h dX7_critical_26 (q := 29) rfl (tgt := 66) (by decide) (fun c1 => ?_) (fun c1 => pb_kle (Nat.le_refl _) (by decide) c1)
      refine v_iload_n h (i := 3) dX7_critical_66 (q := 67) rfl rfl rfl ?_
      refine v_iret h hQ rfl rfl dX7_critical_67 (Nat.zero_le _) (Nat.zero_le _) ⟨rfl, rfl, rfl, rfl, rfl⟩
    | succ j ih =>
      intro i  hi
      have hi2 : i < 16 := by omega
      refine v_iload h dX7_critical_22 (q := 24) rfl rfl ?_
      refine v_bipush h (v := nI 16) dX7_critical_24 (q := 26) rfl (by decide +kernel) ?_
      refine v_icmp_ge h dX7_critical_26 (q := 29) rfl (tgt := 66) (by decide) (fun c2 => pb_kge hi2 (by decide) c2) (fun c2 => ?_)
      refine v_aload_n h (i := 2) dX7_critical_29 (q := 30) rfl rfl rfl ?_
      refine v_getr h fl_X7_65 (by assumption) rfl (by assumption) dX7_critical_30 (q := 33) rfl ?_
      refine v_iload h dX7_critical_33 (q := 35) rfl rfl ?_
      refine v_callV1 h (c_X4_has hfl hb5 hi2) kX4_has tw386 tw388 (by assumption) (by decide) rfl rfl rfl (by simp [Value.category]) (by decide) (Nat.zero_le _) (Nat.zero_le _) rfl dX7_critical_35 (q := 38) rfl ?_
      refine v_if_eq h dX7_critical_38 (q := 41) rfl (tgt := 60) (by decide) (fun c3 => ?_) (fun c3 => ?_)
      · skip
        have e1 := pb_b_0.mp c3
        have e9 := pb_set_f (c := (fun t => pb_has ((pb_meas sg (X + 34) (B b + 1)) (B b + 1 + 1)) t && decide ((pb_meas sg (X + 34) (B b + 1)) (X + 34) 2 - (pb_meas sg (X + 34) (B b + 1)) (X + 34 + 2) t - (pb_meas sg (X + 34) (B b + 1)) (X + 34 + 1) t = 0))) (n := i) (by simp [e1])
        refine v_iinc h dX7_critical_60 (q := 63) rfl rfl pb_inc rfl ?_
        refine v_goto h dX7_critical_63 (tgt := 22) (by decide) ?_
        have h9 := ih (i + 1) (by omega)
        rw [e9] at h9
        exact h9
      · skip
        have e1 := pb_ne_f (fun q => c3 (pb_b_0.mpr q))
        refine v_aload_n h (i := 0) dX7_critical_41 (q := 42) rfl rfl rfl ?_
        refine v_getr h fl_X7_39 (by assumption) rfl (by assumption) dX7_critical_42 (q := 45) rfl ?_
        refine v_iload h dX7_critical_45 (q := 47) rfl rfl ?_
        refine v_callV1 h (c_X6_slackOf hfl hXw hi2) kX6_slackOf tw742 tw744 (by assumption) (by decide) rfl rfl rfl (by simp [Value.category]) (by decide) (Nat.zero_le _) (Nat.zero_le _) rfl dX7_critical_47 (q := 50) rfl ?_
        refine v_if_ne h dX7_critical_50 (q := 53) rfl (tgt := 60) (by decide) (fun c4 => ?_) (fun c4 => ?_)
        · skip
          have e9 := pb_set_f (c := (fun t => pb_has ((pb_meas sg (X + 34) (B b + 1)) (B b + 1 + 1)) t && decide ((pb_meas sg (X + 34) (B b + 1)) (X + 34) 2 - (pb_meas sg (X + 34) (B b + 1)) (X + 34 + 2) t - (pb_meas sg (X + 34) (B b + 1)) (X + 34 + 1) t = 0))) (n := i) (by simp only [e1, decide_eq_false c4]; rfl)
          refine v_iinc h dX7_critical_60 (q := 63) rfl rfl pb_inc rfl ?_
          refine v_goto h dX7_critical_63 (tgt := 22) (by decide) ?_
          have h9 := ih (i + 1) (by omega)
          rw [e9] at h9
          exact h9
        · skip
          have e9 := pb_set_t (c := (fun t => pb_has ((pb_meas sg (X + 34) (B b + 1)) (B b + 1 + 1)) t && decide ((pb_meas sg (X + 34) (B b + 1)) (X + 34) 2 - (pb_meas sg (X + 34) (B b + 1)) (X + 34 + 2) t - (pb_meas sg (X + 34) (B b + 1)) (X + 34 + 1) t = 0))) (n := i) (by simp only [e1, decide_eq_true c4]; rfl)
          refine v_iload_n h (i := 3) dX7_critical_53 (q := 54) rfl rfl rfl ?_
          refine v_iconst h (v := nI 1) dX7_critical_54 (q := 55) rfl (by decide +kernel) ?_
          refine v_iload h dX7_critical_55 (q := 57) rfl rfl ?_
          refine v_ishl h dX7_critical_57 (q := 58) rfl ?_
          refine v_ior h dX7_critical_58 (q := 59) rfl ?_
          refine v_istore_n h (i := 3) dX7_critical_59 (q := 60) rfl rfl (Nat.le_of_ble_eq_true rfl) rfl ?_
          refine v_iinc h dX7_critical_60 (q := 63) rfl rfl pb_inc rfl ?_
          refine v_goto h dX7_critical_63 (tgt := 22) (by decide) ?_
          have h9 := ih (i + 1) (by omega)
          rw [e9] at h9
          exact h9
  exact lp 16 0 (by omega)
set_option maxHeartbeats 4000000 in
set_option maxRecDepth 100000 in
theorem x1_X7_critical {l : Launch} (hfl : l.stackTraces = false) {sz : Nat} {sk : pb_Sk} {rf : pb_Rf} {sg : pb_Sg} {X n : Nat} {B par : Nat → Nat} (hX : pb_sys sk rf X B par n) {x : Int32} (hx : ∀ b, b < n → ¬ x = nI b) : pb_Met l mX7_critical 7 1 6 [.ref X, .int x] sz sk rf sg (pb_thr "java/lang/IndexOutOfBoundsException" sz sk rf sg) := by
  refine pb_start hfl (by decide +kernel) rfl (pb_c1 rfl) (Nat.le_of_ble_eq_true rfl) (fun F hF h hQ => ?_)
  subst hF
  show pv F 0 0 sz sk rf sg 0 [some (.ref X), some (.int x), none, none, none] []
  obtain ⟨hX0, hX1, hX2, hX3, hX4, hX5, hX6, hXc, hXj, hXw, hXs, hXn, hXb, hXe, hXr, hXp⟩ := id hX
  refine v_aload_n h (i := 0) dX7_critical_0 (q := 1) rfl rfl rfl ?_
  refine v_iload_n h (i := 1) dX7_critical_1 (q := 2) rfl rfl rfl ?_
  refine v_callVx h (x_X7_branchAt hfl hX hx) kX7_branchAt tw292 tw0 (by assumption) (by decide) rfl rfl rfl (by simp [Value.category]) (by decide) (by decide) (by decide) rfl dX7_critical_2 (q := 5) rfl ?_
  intro sz9 hsz9
  exact v_out h hQ rfl (by decide) (by decide) ⟨rfl, hsz9, rfl, rfl, rfl⟩
set_option maxHeartbeats 4000000 in
set_option maxRecDepth 100000 in
theorem c_X7_way {l : Launch} (hfl : l.stackTraces = false) {sz : Nat} {sk : pb_Sk} {rf : pb_Rf} {sg : pb_Sg} {X n : Nat} {B par : Nat → Nat} (hX : pb_sys sk rf X B par n) {b : Nat} (hb : b < n) : pb_Met l mX7_way 7 0 0 [.ref X, .int (nI b)] sz sk rf sg (pb_is (some (.int ((pb_meas sg (X + 34) (B b + 1)) (X + 34) 2))) sz sk rf ((pb_meas sg (X + 34) (B b + 1)))) := by
  refine pb_start hfl (by decide +kernel) rfl (pb_c1 rfl) (Nat.le_of_ble_eq_true rfl) (fun F hF h hQ => ?_)
  subst hF
  show pv F 0 0 sz sk rf sg 0 [some (.ref X), some (.int (nI b)), none] []
  obtain ⟨hX0, hX1, hX2, hX3, hX4, hX5, hX6, hXc, hXj, hXw, hXs, hXn, hXb, hXe, hXr, hXp⟩ := id hX
  obtain ⟨hb0, hb1, hb2, hb3, hb4, hb5, hb6, hb7, hb8⟩ := id (hXb b hb).2
  obtain ⟨hp0, hp1, hp2, hp3, hp4, hp5, hp6, hp7, hp8⟩ := id hb5
  obtain ⟨hw0, hw1, hw2, hw3, hw4⟩ := id hXw
  refine v_aload_n h (i := 0) dX7_way_0 (q := 1) rfl rfl rfl ?_
  refine v_iload_n h (i := 1) dX7_way_1 (q := 2) rfl rfl rfl ?_
  refine v_callV1 h (c_X7_branchAt hfl hX hb) kX7_branchAt tw292 tw0 (by assumption) (by decide) rfl rfl rfl (by simp [Value.category]) (by decide) (Nat.zero_le _) (Nat.zero_le _) rfl dX7_way_2 (q := 5) rfl ?_
  refine v_astore_n h (i := 2) dX7_way_5 (q := 6) rfl rfl (Nat.le_of_ble_eq_true rfl) rfl ?_
  refine v_aload_n h (i := 0) dX7_way_6 (q := 7) rfl rfl rfl ?_
  refine v_getr h fl_X7_39 (by assumption) rfl (by assumption) dX7_way_7 (q := 10) rfl ?_
  refine v_aload_n h (i := 2) dX7_way_10 (q := 11) rfl rfl rfl ?_
  refine v_getr h fl_X7_65 (by assumption) rfl (by assumption) dX7_way_11 (q := 14) rfl ?_
  refine v_callV0 h (c_X6_measure hfl hXw hb5) kX6_measure tw609 tw611 (by assumption) (by decide) rfl rfl rfl (by simp [Value.category]) (by decide) (Nat.zero_le _) (Nat.zero_le _) rfl dX7_way_14 (q := 17) rfl ?_
  refine v_aload_n h (i := 0) dX7_way_17 (q := 18) rfl rfl rfl ?_
  refine v_getr h fl_X7_39 (by assumption) rfl (by assumption) dX7_way_18 (q := 21) rfl ?_
  refine v_geti h fl_X7_228 (by assumption) rfl dX7_way_21 (q := 24) rfl ?_
  refine v_iret h hQ rfl rfl dX7_way_24 (Nat.zero_le _) (Nat.zero_le _) ⟨rfl, rfl, rfl, rfl, rfl⟩
set_option maxHeartbeats 4000000 in
set_option maxRecDepth 100000 in
theorem x1_X7_way {l : Launch} (hfl : l.stackTraces = false) {sz : Nat} {sk : pb_Sk} {rf : pb_Rf} {sg : pb_Sg} {X n : Nat} {B par : Nat → Nat} (hX : pb_sys sk rf X B par n) {x : Int32} (hx : ∀ b, b < n → ¬ x = nI b) : pb_Met l mX7_way 7 1 6 [.ref X, .int x] sz sk rf sg (pb_thr "java/lang/IndexOutOfBoundsException" sz sk rf sg) := by
  refine pb_start hfl (by decide +kernel) rfl (pb_c1 rfl) (Nat.le_of_ble_eq_true rfl) (fun F hF h hQ => ?_)
  subst hF
  show pv F 0 0 sz sk rf sg 0 [some (.ref X), some (.int x), none] []
  obtain ⟨hX0, hX1, hX2, hX3, hX4, hX5, hX6, hXc, hXj, hXw, hXs, hXn, hXb, hXe, hXr, hXp⟩ := id hX
  refine v_aload_n h (i := 0) dX7_way_0 (q := 1) rfl rfl rfl ?_
  refine v_iload_n h (i := 1) dX7_way_1 (q := 2) rfl rfl rfl ?_
  refine v_callVx h (x_X7_branchAt hfl hX hx) kX7_branchAt tw292 tw0 (by assumption) (by decide) rfl rfl rfl (by simp [Value.category]) (by decide) (by decide) (by decide) rfl dX7_way_2 (q := 5) rfl ?_
  intro sz9 hsz9
  exact v_out h hQ rfl (by decide) (by decide) ⟨rfl, hsz9, rfl, rfl, rfl⟩
