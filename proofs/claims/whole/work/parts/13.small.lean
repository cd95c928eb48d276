theorem dX1_lendOut_0 : decode cX1_lendOut 0 = .ok (.iload_n 3, 1) := by decide +kernel
theorem dX1_lendOut_1 : decode cX1_lendOut 1 = .ok (.istore 5, 2) := by decide +kernel
theorem dX1_lendOut_3 : decode cX1_lendOut 3 = .ok (.iload 5, 2) := by decide +kernel
theorem dX1_lendOut_5 : decode cX1_lendOut 5 = .ok (.iload 4, 2) := by decide +kernel
theorem dX1_lendOut_7 : decode cX1_lendOut 7 = .ok (.if_icmp .gt 19, 3) := by decide +kernel
theorem dX1_lendOut_10 : decode cX1_lendOut 10 = .ok (.aload_n 0, 1) := by decide +kernel
theorem dX1_lendOut_11 : decode cX1_lendOut 11 = .ok (.getfield 17, 3) := by decide +kernel
theorem dX1_lendOut_14 : decode cX1_lendOut 14 = .ok (.iload_n 1, 1) := by decide +kernel
theorem dX1_lendOut_15 : decode cX1_lendOut 15 = .ok (.aaload, 1) := by decide +kernel
theorem dX1_lendOut_16 : decode cX1_lendOut 16 = .ok (.iload 5, 2) := by decide +kernel
theorem dX1_lendOut_18 : decode cX1_lendOut 18 = .ok (.iload_n 2, 1) := by decide +kernel
theorem dX1_lendOut_19 : decode cX1_lendOut 19 = .ok (.iastore, 1) := by decide +kernel
theorem dX1_lendOut_20 : decode cX1_lendOut 20 = .ok (.iinc 5 1, 3) := by decide +kernel
theorem dX1_lendOut_23 : decode cX1_lendOut 23 = .ok (.goto (-20), 3) := by decide +kernel
theorem dX1_lendOut_26 : decode cX1_lendOut 26 = .ok (.aload_n 0, 1) := by decide +kernel
theorem dX1_lendOut_27 : decode cX1_lendOut 27 = .ok (.dup, 1) := by decide +kernel
theorem dX1_lendOut_28 : decode cX1_lendOut 28 = .ok (.getfield 20, 3) := by decide +kernel
theorem dX1_lendOut_31 : decode cX1_lendOut 31 = .ok (.iconst 1, 1) := by decide +kernel
theorem dX1_lendOut_32 : decode cX1_lendOut 32 = .ok (.iadd, 1) := by decide +kernel
theorem dX1_lendOut_33 : decode cX1_lendOut 33 = .ok (.putfield 20, 3) := by decide +kernel
theorem dX1_lendOut_36 : decode cX1_lendOut 36 = .ok (.return_, 1) := by decide +kernel
theorem dX1_heldBy_0 : decode cX1_heldBy 0 = .ok (.aload_n 0, 1) := by decide +kernel
theorem dX1_heldBy_1 : decode cX1_heldBy 1 = .ok (.getfield 17, 3) := by decide +kernel
theorem dX1_heldBy_4 : decode cX1_heldBy 4 = .ok (.iload_n 1, 1) := by decide +kernel
theorem dX1_heldBy_5 : decode cX1_heldBy 5 = .ok (.aaload, 1) := by decide +kernel
theorem dX1_heldBy_6 : decode cX1_heldBy 6 = .ok (.iload_n 2, 1) := by decide +kernel
theorem dX1_heldBy_7 : decode cX1_heldBy 7 = .ok (.iaload, 1) := by decide +kernel
theorem dX1_heldBy_8 : decode cX1_heldBy 8 = .ok (.istore_n 3, 1) := by decide +kernel
theorem dX1_heldBy_9 : decode cX1_heldBy 9 = .ok (.iload_n 3, 1) := by decide +kernel
theorem dX1_heldBy_10 : decode cX1_heldBy 10 = .ok (.iconst (-1), 1) := by decide +kernel
theorem dX1_heldBy_11 : decode cX1_heldBy 11 = .ok (.if_icmp .ne 12, 3) := by decide +kernel
theorem dX1_heldBy_14 : decode cX1_heldBy 14 = .ok (.aload_n 0, 1) := by decide +kernel
theorem dX1_heldBy_15 : decode cX1_heldBy 15 = .ok (.getfield 9, 3) := by decide +kernel
theorem dX1_heldBy_18 : decode cX1_heldBy 18 = .ok (.iload_n 1, 1) := by decide +kernel
theorem dX1_heldBy_19 : decode cX1_heldBy 19 = .ok (.iaload, 1) := by decide +kernel
theorem dX1_heldBy_20 : decode cX1_heldBy 20 = .ok (.goto 4, 3) := by decide +kernel
theorem dX1_heldBy_23 : decode cX1_heldBy 23 = .ok (.iload_n 3, 1) := by decide +kernel
theorem dX1_heldBy_24 : decode cX1_heldBy 24 = .ok (.ireturn, 1) := by decide +kernel
theorem dX2_keep_0 : decode cX2_keep 0 = .ok (.aload_n 0, 1) := by decide +kernel
theorem dX2_keep_1 : decode cX2_keep 1 = .ok (.getfield 9, 3) := by decide +kernel
theorem dX2_keep_4 : decode cX2_keep 4 = .ok (.aload_n 0, 1) := by decide +kernel
theorem dX2_keep_5 : decode cX2_keep 5 = .ok (.getfield 27, 3) := by decide +kernel
theorem dX2_keep_8 : decode cX2_keep 8 = .ok (.iload_n 2, 1) := by decide +kernel
theorem dX2_keep_9 : decode cX2_keep 9 = .ok (.iastore, 1) := by decide +kernel
theorem dX2_keep_10 : decode cX2_keep 10 = .ok (.aload_n 0, 1) := by decide +kernel
theorem dX2_keep_11 : decode cX2_keep 11 = .ok (.getfield 15, 3) := by decide +kernel
theorem dX2_keep_14 : decode cX2_keep 14 = .ok (.aload_n 0, 1) := by decide +kernel
theorem dX2_keep_15 : decode cX2_keep 15 = .ok (.getfield 27, 3) := by decide +kernel
theorem dX2_keep_18 : decode cX2_keep 18 = .ok (.aload_n 1, 1) := by decide +kernel
theorem dX2_keep_19 : decode cX2_keep 19 = .ok (.getfield 31, 3) := by decide +kernel
theorem dX2_keep_22 : decode cX2_keep 22 = .ok (.iload_n 2, 1) := by decide +kernel
theorem dX2_keep_23 : decode cX2_keep 23 = .ok (.iaload, 1) := by decide +kernel
theorem dX2_keep_24 : decode cX2_keep 24 = .ok (.iastore, 1) := by decide +kernel
theorem dX2_keep_25 : decode cX2_keep 25 = .ok (.aload_n 0, 1) := by decide +kernel
theorem dX2_keep_26 : decode cX2_keep 26 = .ok (.getfield 18, 3) := by decide +kernel
theorem dX2_keep_29 : decode cX2_keep 29 = .ok (.aload_n 0, 1) := by decide +kernel
theorem dX2_keep_30 : decode cX2_keep 30 = .ok (.getfield 27, 3) := by decide +kernel
theorem dX2_keep_33 : decode cX2_keep 33 = .ok (.aload_n 1, 1) := by decide +kernel
theorem dX2_keep_34 : decode cX2_keep 34 = .ok (.getfield 34, 3) := by decide +kernel
theorem dX2_keep_37 : decode cX2_keep 37 = .ok (.iload_n 2, 1) := by decide +kernel
theorem dX2_keep_38 : decode cX2_keep 38 = .ok (.iaload, 1) := by decide +kernel
theorem dX2_keep_39 : decode cX2_keep 39 = .ok (.iastore, 1) := by decide +kernel
theorem dX2_keep_40 : decode cX2_keep 40 = .ok (.aload_n 0, 1) := by decide +kernel
theorem dX2_keep_41 : decode cX2_keep 41 = .ok (.getfield 21, 3) := by decide +kernel
theorem dX2_keep_44 : decode cX2_keep 44 = .ok (.aload_n 0, 1) := by decide +kernel
theorem dX2_keep_45 : decode cX2_keep 45 = .ok (.getfield 27, 3) := by decide +kernel
theorem dX2_keep_48 : decode cX2_keep 48 = .ok (.aload_n 1, 1) := by decide +kernel
theorem dX2_keep_49 : decode cX2_keep 49 = .ok (.getfield 35, 3) := by decide +kernel
theorem dX2_keep_52 : decode cX2_keep 52 = .ok (.iload_n 2, 1) := by decide +kernel
theorem dX2_keep_53 : decode cX2_keep 53 = .ok (.iaload, 1) := by decide +kernel
theorem dX2_keep_54 : decode cX2_keep 54 = .ok (.iastore, 1) := by decide +kernel
theorem dX2_keep_55 : decode cX2_keep 55 = .ok (.aload_n 0, 1) := by decide +kernel
theorem dX2_keep_56 : decode cX2_keep 56 = .ok (.getfield 24, 3) := by decide +kernel
theorem dX2_keep_59 : decode cX2_keep 59 = .ok (.aload_n 0, 1) := by decide +kernel
theorem dX2_keep_60 : decode cX2_keep 60 = .ok (.getfield 27, 3) := by decide +kernel
theorem dX2_keep_63 : decode cX2_keep 63 = .ok (.aload_n 1, 1) := by decide +kernel
theorem dX2_keep_64 : decode cX2_keep 64 = .ok (.getfield 36, 3) := by decide +kernel
theorem dX2_keep_67 : decode cX2_keep 67 = .ok (.iload_n 2, 1) := by decide +kernel
theorem dX2_keep_68 : decode cX2_keep 68 = .ok (.iaload, 1) := by decide +kernel
theorem dX2_keep_69 : decode cX2_keep 69 = .ok (.iastore, 1) := by decide +kernel
theorem dX2_keep_70 : decode cX2_keep 70 = .ok (.aload_n 0, 1) := by decide +kernel
theorem dX2_keep_71 : decode cX2_keep 71 = .ok (.aload_n 0, 1) := by decide +kernel
theorem dX2_keep_72 : decode cX2_keep 72 = .ok (.getfield 27, 3) := by decide +kernel
theorem dX2_keep_75 : decode cX2_keep 75 = .ok (.iconst 1, 1) := by decide +kernel
theorem dX2_keep_76 : decode cX2_keep 76 = .ok (.iadd, 1) := by decide +kernel
theorem dX2_keep_77 : decode cX2_keep 77 = .ok (.bipush 30, 2) := by decide +kernel
theorem dX2_keep_79 : decode cX2_keep 79 = .ok (.if_icmp .ge 12, 3) := by decide +kernel
theorem dX2_keep_82 : decode cX2_keep 82 = .ok (.aload_n 0, 1) := by decide +kernel
theorem dX2_keep_83 : decode cX2_keep 83 = .ok (.getfield 27, 3) := by decide +kernel
theorem dX2_keep_86 : decode cX2_keep 86 = .ok (.iconst 1, 1) := by decide +kernel
theorem dX2_keep_87 : decode cX2_keep 87 = .ok (.iadd, 1) := by decide +kernel
theorem dX2_keep_88 : decode cX2_keep 88 = .ok (.goto 4, 3) := by decide +kernel
theorem dX2_keep_91 : decode cX2_keep 91 = .ok (.iconst 0, 1) := by decide +kernel
theorem dX2_keep_92 : decode cX2_keep 92 = .ok (.putfield 27, 3) := by decide +kernel
theorem dX2_keep_95 : decode cX2_keep 95 = .ok (.aload_n 0, 1) := by decide +kernel
theorem dX2_keep_96 : decode cX2_keep 96 = .ok (.getfield 37, 3) := by decide +kernel
theorem dX2_keep_99 : decode cX2_keep 99 = .ok (.bipush 30, 2) := by decide +kernel
theorem dX2_keep_101 : decode cX2_keep 101 = .ok (.if_icmp .ge 13, 3) := by decide +kernel
theorem dX2_keep_104 : decode cX2_keep 104 = .ok (.aload_n 0, 1) := by decide +kernel
theorem dX2_keep_105 : decode cX2_keep 105 = .ok (.dup, 1) := by decide +kernel
theorem dX2_keep_106 : decode cX2_keep 106 = .ok (.getfield 37, 3) := by decide +kernel
theorem dX2_keep_109 : decode cX2_keep 109 = .ok (.iconst 1, 1) := by decide +kernel
theorem dX2_keep_110 : decode cX2_keep 110 = .ok (.iadd, 1) := by decide +kernel
theorem dX2_keep_111 : decode cX2_keep 111 = .ok (.putfield 37, 3) := by decide +kernel
theorem dX2_keep_114 : decode cX2_keep 114 = .ok (.return_, 1) := by decide +kernel
theorem dX2_restore_0 : decode cX2_restore 0 = .ok (.aload_n 0, 1) := by decide +kernel
theorem dX2_restore_1 : decode cX2_restore 1 = .ok (.getfield 37, 3) := by decide +kernel
theorem dX2_restore_4 : decode cX2_restore 4 = .ok (.ifCond .le 84, 3) := by decide +kernel
theorem dX2_restore_7 : decode cX2_restore 7 = .ok (.aload_n 0, 1) := by decide +kernel
theorem dX2_restore_8 : decode cX2_restore 8 = .ok (.aload_n 0, 1) := by decide +kernel
theorem dX2_restore_9 : decode cX2_restore 9 = .ok (.getfield 27, 3) := by decide +kernel
theorem dX2_restore_12 : decode cX2_restore 12 = .ok (.ifCond .le 12, 3) := by decide +kernel
theorem dX2_restore_15 : decode cX2_restore 15 = .ok (.aload_n 0, 1) := by decide +kernel
theorem dX2_restore_16 : decode cX2_restore 16 = .ok (.getfield 27, 3) := by decide +kernel
theorem dX2_restore_19 : decode cX2_restore 19 = .ok (.iconst 1, 1) := by decide +kernel
theorem dX2_restore_20 : decode cX2_restore 20 = .ok (.isub, 1) := by decide +kernel
theorem dX2_restore_21 : decode cX2_restore 21 = .ok (.goto 5, 3) := by decide +kernel
theorem dX2_restore_24 : decode cX2_restore 24 = .ok (.bipush 29, 2) := by decide +kernel
theorem dX2_restore_26 : decode cX2_restore 26 = .ok (.putfield 27, 3) := by decide +kernel
theorem dX2_restore_29 : decode cX2_restore 29 = .ok (.aload_n 0, 1) := by decide +kernel
theorem dX2_restore_30 : decode cX2_restore 30 = .ok (.dup, 1) := by decide +kernel
theorem dX2_restore_31 : decode cX2_restore 31 = .ok (.getfield 37, 3) := by decide +kernel
theorem dX2_restore_34 : decode cX2_restore 34 = .ok (.iconst 1, 1) := by decide +kernel
theorem dX2_restore_35 : decode cX2_restore 35 = .ok (.isub, 1) := by decide +kernel
theorem dX2_restore_36 : decode cX2_restore 36 = .ok (.putfield 37, 3) := by decide +kernel
theorem dX2_restore_39 : decode cX2_restore 39 = .ok (.aload_n 1, 1) := by decide +kernel
theorem dX2_restore_40 : decode cX2_restore 40 = .ok (.aload_n 0, 1) := by decide +kernel
theorem dX2_restore_41 : decode cX2_restore 41 = .ok (.getfield 9, 3) := by decide +kernel
theorem dX2_restore_44 : decode cX2_restore 44 = .ok (.aload_n 0, 1) := by decide +kernel
theorem dX2_restore_45 : decode cX2_restore 45 = .ok (.getfield 27, 3) := by decide +kernel
theorem dX2_restore_48 : decode cX2_restore 48 = .ok (.iaload, 1) := by decide +kernel
theorem dX2_restore_49 : decode cX2_restore 49 = .ok (.aload_n 0, 1) := by decide +kernel
theorem dX2_restore_50 : decode cX2_restore 50 = .ok (.getfield 15, 3) := by decide +kernel
theorem dX2_restore_53 : decode cX2_restore 53 = .ok (.aload_n 0, 1) := by decide +kernel
theorem dX2_restore_54 : decode cX2_restore 54 = .ok (.getfield 27, 3) := by decide +kernel
theorem dX2_restore_57 : decode cX2_restore 57 = .ok (.iaload, 1) := by decide +kernel
theorem dX2_restore_58 : decode cX2_restore 58 = .ok (.aload_n 0, 1) := by decide +kernel
theorem dX2_restore_59 : decode cX2_restore 59 = .ok (.getfield 18, 3) := by decide +kernel
theorem dX2_restore_62 : decode cX2_restore 62 = .ok (.aload_n 0, 1) := by decide +kernel
theorem dX2_restore_63 : decode cX2_restore 63 = .ok (.getfield 27, 3) := by decide +kernel
theorem dX2_restore_66 : decode cX2_restore 66 = .ok (.iaload, 1) := by decide +kernel
theorem dX2_restore_67 : decode cX2_restore 67 = .ok (.aload_n 0, 1) := by decide +kernel
theorem dX2_restore_68 : decode cX2_restore 68 = .ok (.getfield 21, 3) := by decide +kernel
theorem dX2_restore_71 : decode cX2_restore 71 = .ok (.aload_n 0, 1) := by decide +kernel
theorem dX2_restore_72 : decode cX2_restore 72 = .ok (.getfield 27, 3) := by decide +kernel
theorem dX2_restore_75 : decode cX2_restore 75 = .ok (.iaload, 1) := by decide +kernel
theorem dX2_restore_76 : decode cX2_restore 76 = .ok (.aload_n 0, 1) := by decide +kernel
theorem dX2_restore_77 : decode cX2_restore 77 = .ok (.getfield 24, 3) := by decide +kernel
theorem dX2_restore_80 : decode cX2_restore 80 = .ok (.aload_n 0, 1) := by decide +kernel
theorem dX2_restore_81 : decode cX2_restore 81 = .ok (.getfield 27, 3) := by decide +kernel
theorem dX2_restore_84 : decode cX2_restore 84 = .ok (.iaload, 1) := by decide +kernel
theorem dX2_restore_85 : decode cX2_restore 85 = .ok (.invokevirtual 40, 3) := by decide +kernel
theorem dX2_restore_88 : decode cX2_restore 88 = .ok (.return_, 1) := by decide +kernel
theorem dX2_forget_0 : decode cX2_forget 0 = .ok (.aload_n 0, 1) := by decide +kernel
theorem dX2_forget_1 : decode cX2_forget 1 = .ok (.iconst 0, 1) := by decide +kernel
theorem dX2_forget_2 : decode cX2_forget 2 = .ok (.putfield 37, 3) := by decide +kernel
theorem dX2_forget_5 : decode cX2_forget 5 = .ok (.return_, 1) := by decide +kernel
theorem dX6_measure_0 : decode cX6_measure 0 = .ok (.iconst 0, 1) := by decide +kernel
theorem dX6_measure_1 : decode cX6_measure 1 = .ok (.istore_n 2, 1) := by decide +kernel
theorem dX6_measure_2 : decode cX6_measure 2 = .ok (.iload_n 2, 1) := by decide +kernel
theorem dX6_measure_3 : decode cX6_measure 3 = .ok (.bipush 16, 2) := by decide +kernel
theorem dX6_measure_5 : decode cX6_measure 5 = .ok (.if_icmp .ge 28, 3) := by decide +kernel
theorem dX6_measure_8 : decode cX6_measure 8 = .ok (.aload_n 0, 1) := by decide +kernel
theorem dX6_measure_9 : decode cX6_measure 9 = .ok (.getfield 9, 3) := by decide +kernel
theorem dX6_measure_12 : decode cX6_measure 12 = .ok (.iload_n 2, 1) := by decide +kernel
theorem dX6_measure_13 : decode cX6_measure 13 = .ok (.aload_n 1, 1) := by decide +kernel
theorem dX6_measure_14 : decode cX6_measure 14 = .ok (.getfield 18, 3) := by decide +kernel
theorem dX6_measure_17 : decode cX6_measure 17 = .ok (.iload_n 2, 1) := by decide +kernel
theorem dX6_measure_18 : decode cX6_measure 18 = .ok (.iaload, 1) := by decide +kernel
theorem dX6_measure_19 : decode cX6_measure 19 = .ok (.iastore, 1) := by decide +kernel
theorem dX6_measure_20 : decode cX6_measure 20 = .ok (.aload_n 0, 1) := by decide +kernel
theorem dX6_measure_21 : decode cX6_measure 21 = .ok (.getfield 15, 3) := by decide +kernel
theorem dX6_measure_24 : decode cX6_measure 24 = .ok (.iload_n 2, 1) := by decide +kernel
theorem dX6_measure_25 : decode cX6_measure 25 = .ok (.iconst 0, 1) := by decide +kernel
theorem dX6_measure_26 : decode cX6_measure 26 = .ok (.iastore, 1) := by decide +kernel
theorem dX6_measure_27 : decode cX6_measure 27 = .ok (.iinc 2 1, 3) := by decide +kernel
theorem dX6_measure_30 : decode cX6_measure 30 = .ok (.goto (-28), 3) := by decide +kernel
theorem dX6_measure_33 : decode cX6_measure 33 = .ok (.iconst 1, 1) := by decide +kernel
theorem dX6_measure_34 : decode cX6_measure 34 = .ok (.istore_n 2, 1) := by decide +kernel
theorem dX6_measure_35 : decode cX6_measure 35 = .ok (.iconst 0, 1) := by decide +kernel
theorem dX6_measure_36 : decode cX6_measure 36 = .ok (.istore_n 3, 1) := by decide +kernel
theorem dX6_measure_37 : decode cX6_measure 37 = .ok (.iload_n 2, 1) := by decide +kernel
theorem dX6_measure_38 : decode cX6_measure 38 = .ok (.ifCond .eq 43, 3) := by decide +kernel
theorem dX6_measure_41 : decode cX6_measure 41 = .ok (.iload_n 3, 1) := by decide +kernel
theorem dX6_measure_42 : decode cX6_measure 42 = .ok (.bipush 16, 2) := by decide +kernel
theorem dX6_measure_44 : decode cX6_measure 44 = .ok (.if_icmp .ge 37, 3) := by decide +kernel
theorem dX6_measure_47 : decode cX6_measure 47 = .ok (.iconst 0, 1) := by decide +kernel
theorem dX6_measure_48 : decode cX6_measure 48 = .ok (.istore_n 2, 1) := by decide +kernel
theorem dX6_measure_49 : decode cX6_measure 49 = .ok (.iconst 0, 1) := by decide +kernel
theorem dX6_measure_50 : decode cX6_measure 50 = .ok (.istore 4, 2) := by decide +kernel
theorem dX6_measure_52 : decode cX6_measure 52 = .ok (.iload 4, 2) := by decide +kernel
theorem dX6_measure_54 : decode cX6_measure 54 = .ok (.bipush 16, 2) := by decide +kernel
theorem dX6_measure_56 : decode cX6_measure 56 = .ok (.if_icmp .ge 19, 3) := by decide +kernel
theorem dX6_measure_59 : decode cX6_measure 59 = .ok (.iload_n 2, 1) := by decide +kernel
theorem dX6_measure_60 : decode cX6_measure 60 = .ok (.aload_n 0, 1) := by decide +kernel
theorem dX6_measure_61 : decode cX6_measure 61 = .ok (.aload_n 1, 1) := by decide +kernel
theorem dX6_measure_62 : decode cX6_measure 62 = .ok (.iload 4, 2) := by decide +kernel
theorem dX6_measure_64 : decode cX6_measure 64 = .ok (.invokevirtual 23, 3) := by decide +kernel
theorem dX6_measure_67 : decode cX6_measure 67 = .ok (.ior, 1) := by decide +kernel
theorem dX6_measure_68 : decode cX6_measure 68 = .ok (.istore_n 2, 1) := by decide +kernel
theorem dX6_measure_69 : decode cX6_measure 69 = .ok (.iinc 4 1, 3) := by decide +kernel
theorem dX6_measure_72 : decode cX6_measure 72 = .ok (.goto (-20), 3) := by decide +kernel
theorem dX6_measure_75 : decode cX6_measure 75 = .ok (.iinc 3 1, 3) := by decide +kernel
theorem dX6_measure_78 : decode cX6_measure 78 = .ok (.goto (-41), 3) := by decide +kernel
theorem dX6_measure_81 : decode cX6_measure 81 = .ok (.aload_n 0, 1) := by decide +kernel
theorem dX6_measure_82 : decode cX6_measure 82 = .ok (.iconst 0, 1) := by decide +kernel
theorem dX6_measure_83 : decode cX6_measure 83 = .ok (.putfield 27, 3) := by decide +kernel
theorem dX6_measure_86 : decode cX6_measure 86 = .ok (.iconst 0, 1) := by decide +kernel
theorem dX6_measure_87 : decode cX6_measure 87 = .ok (.istore_n 3, 1) := by decide +kernel
theorem dX6_measure_88 : decode cX6_measure 88 = .ok (.iload_n 3, 1) := by decide +kernel
theorem dX6_measure_89 : decode cX6_measure 89 = .ok (.bipush 16, 2) := by decide +kernel
theorem dX6_measure_91 : decode cX6_measure 91 = .ok (.if_icmp .ge 26, 3) := by decide +kernel
theorem dX6_measure_94 : decode cX6_measure 94 = .ok (.aload_n 0, 1) := by decide +kernel
theorem dX6_measure_95 : decode cX6_measure 95 = .ok (.aload_n 0, 1) := by decide +kernel
theorem dX6_measure_96 : decode cX6_measure 96 = .ok (.getfield 27, 3) := by decide +kernel
theorem dX6_measure_99 : decode cX6_measure 99 = .ok (.aload_n 0, 1) := by decide +kernel
theorem dX6_measure_100 : decode cX6_measure 100 = .ok (.getfield 9, 3) := by decide +kernel
theorem dX6_measure_103 : decode cX6_measure 103 = .ok (.iload_n 3, 1) := by decide +kernel
theorem dX6_measure_104 : decode cX6_measure 104 = .ok (.iaload, 1) := by decide +kernel
theorem dX6_measure_105 : decode cX6_measure 105 = .ok (.invokestatic 31, 3) := by decide +kernel
theorem dX6_measure_108 : decode cX6_measure 108 = .ok (.putfield 27, 3) := by decide +kernel
theorem dX6_measure_111 : decode cX6_measure 111 = .ok (.iinc 3 1, 3) := by decide +kernel
theorem dX6_measure_114 : decode cX6_measure 114 = .ok (.goto (-26), 3) := by decide +kernel
theorem dX6_measure_117 : decode cX6_measure 117 = .ok (.return_, 1) := by decide +kernel
theorem dX6_stretch_0 : decode cX6_stretch 0 = .ok (.iconst 0, 1) := by decide +kernel
theorem dX6_stretch_1 : decode cX6_stretch 1 = .ok (.istore_n 3, 1) := by decide +kernel
theorem dX6_stretch_2 : decode cX6_stretch 2 = .ok (.iconst 0, 1) := by decide +kernel
theorem dX6_stretch_3 : decode cX6_stretch 3 = .ok (.istore 4, 2) := by decide +kernel
theorem dX6_stretch_5 : decode cX6_stretch 5 = .ok (.iload 4, 2) := by decide +kernel
theorem dX6_stretch_7 : decode cX6_stretch 7 = .ok (.bipush 16, 2) := by decide +kernel
theorem dX6_stretch_9 : decode cX6_stretch 9 = .ok (.if_icmp .ge 123, 3) := by decide +kernel
theorem dX6_stretch_12 : decode cX6_stretch 12 = .ok (.aload_n 1, 1) := by decide +kernel
theorem dX6_stretch_13 : decode cX6_stretch 13 = .ok (.getfield 37, 3) := by decide +kernel
theorem dX6_stretch_16 : decode cX6_stretch 16 = .ok (.iload_n 2, 1) := by decide +kernel
theorem dX6_stretch_17 : decode cX6_stretch 17 = .ok (.iaload, 1) := by decide +kernel
theorem dX6_stretch_18 : decode cX6_stretch 18 = .ok (.iload 4, 2) := by decide +kernel
theorem dX6_stretch_20 : decode cX6_stretch 20 = .ok (.invokestatic 40, 3) := by decide +kernel
theorem dX6_stretch_23 : decode cX6_stretch 23 = .ok (.ifCond .eq 103, 3) := by decide +kernel
theorem dX6_stretch_26 : decode cX6_stretch 26 = .ok (.aload_n 0, 1) := by decide +kernel
theorem dX6_stretch_27 : decode cX6_stretch 27 = .ok (.getfield 15, 3) := by decide +kernel
theorem dX6_stretch_30 : decode cX6_stretch 30 = .ok (.iload 4, 2) := by decide +kernel
theorem dX6_stretch_32 : decode cX6_stretch 32 = .ok (.iaload, 1) := by decide +kernel
theorem dX6_stretch_33 : decode cX6_stretch 33 = .ok (.aload_n 1, 1) := by decide +kernel
theorem dX6_stretch_34 : decode cX6_stretch 34 = .ok (.getfield 18, 3) := by decide +kernel
theorem dX6_stretch_37 : decode cX6_stretch 37 = .ok (.iload 4, 2) := by decide +kernel
theorem dX6_stretch_39 : decode cX6_stretch 39 = .ok (.iaload, 1) := by decide +kernel
theorem dX6_stretch_40 : decode cX6_stretch 40 = .ok (.iadd, 1) := by decide +kernel
theorem dX6_stretch_41 : decode cX6_stretch 41 = .ok (.istore 5, 2) := by decide +kernel
theorem dX6_stretch_43 : decode cX6_stretch 43 = .ok (.aload_n 1, 1) := by decide +kernel
theorem dX6_stretch_44 : decode cX6_stretch 44 = .ok (.getfield 18, 3) := by decide +kernel
theorem dX6_stretch_47 : decode cX6_stretch 47 = .ok (.iload 4, 2) := by decide +kernel
theorem dX6_stretch_49 : decode cX6_stretch 49 = .ok (.iaload, 1) := by decide +kernel
theorem dX6_stretch_50 : decode cX6_stretch 50 = .ok (.aload_n 0, 1) := by decide +kernel
theorem dX6_stretch_51 : decode cX6_stretch 51 = .ok (.getfield 9, 3) := by decide +kernel
theorem dX6_stretch_54 : decode cX6_stretch 54 = .ok (.iload_n 2, 1) := by decide +kernel
theorem dX6_stretch_55 : decode cX6_stretch 55 = .ok (.iaload, 1) := by decide +kernel
theorem dX6_stretch_56 : decode cX6_stretch 56 = .ok (.iadd, 1) := by decide +kernel
theorem dX6_stretch_57 : decode cX6_stretch 57 = .ok (.istore 6, 2) := by decide +kernel
theorem dX6_stretch_59 : decode cX6_stretch 59 = .ok (.iload_n 3, 1) := by decide +kernel
theorem dX6_stretch_60 : decode cX6_stretch 60 = .ok (.iload 5, 2) := by decide +kernel
theorem dX6_stretch_62 : decode cX6_stretch 62 = .ok (.aload_n 0, 1) := by decide +kernel
theorem dX6_stretch_63 : decode cX6_stretch 63 = .ok (.getfield 15, 3) := by decide +kernel
theorem dX6_stretch_66 : decode cX6_stretch 66 = .ok (.iload_n 2, 1) := by decide +kernel
theorem dX6_stretch_67 : decode cX6_stretch 67 = .ok (.iaload, 1) := by decide +kernel
theorem dX6_stretch_68 : decode cX6_stretch 68 = .ok (.if_icmp .gt 15, 3) := by decide +kernel
theorem dX6_stretch_71 : decode cX6_stretch 71 = .ok (.iload 6, 2) := by decide +kernel
theorem dX6_stretch_73 : decode cX6_stretch 73 = .ok (.aload_n 0, 1) := by decide +kernel
theorem dX6_stretch_74 : decode cX6_stretch 74 = .ok (.getfield 9, 3) := by decide +kernel
theorem dX6_stretch_77 : decode cX6_stretch 77 = .ok (.iload 4, 2) := by decide +kernel
theorem dX6_stretch_79 : decode cX6_stretch 79 = .ok (.iaload, 1) := by decide +kernel
theorem dX6_stretch_80 : decode cX6_stretch 80 = .ok (.if_icmp .le 7, 3) := by decide +kernel
theorem dX6_stretch_83 : decode cX6_stretch 83 = .ok (.iconst 1, 1) := by decide +kernel
theorem dX6_stretch_84 : decode cX6_stretch 84 = .ok (.goto 4, 3) := by decide +kernel
theorem dX6_stretch_87 : decode cX6_stretch 87 = .ok (.iconst 0, 1) := by decide +kernel
theorem dX6_stretch_88 : decode cX6_stretch 88 = .ok (.ior, 1) := by decide +kernel
theorem dX6_stretch_89 : decode cX6_stretch 89 = .ok (.istore_n 3, 1) := by decide +kernel
theorem dX6_stretch_90 : decode cX6_stretch 90 = .ok (.aload_n 0, 1) := by decide +kernel
theorem dX6_stretch_91 : decode cX6_stretch 91 = .ok (.getfield 15, 3) := by decide +kernel
theorem dX6_stretch_94 : decode cX6_stretch 94 = .ok (.iload_n 2, 1) := by decide +kernel
theorem dX6_stretch_95 : decode cX6_stretch 95 = .ok (.aload_n 0, 1) := by decide +kernel
theorem dX6_stretch_96 : decode cX6_stretch 96 = .ok (.getfield 15, 3) := by decide +kernel
theorem dX6_stretch_99 : decode cX6_stretch 99 = .ok (.iload_n 2, 1) := by decide +kernel
theorem dX6_stretch_100 : decode cX6_stretch 100 = .ok (.iaload, 1) := by decide +kernel
theorem dX6_stretch_101 : decode cX6_stretch 101 = .ok (.iload 5, 2) := by decide +kernel
theorem dX6_stretch_103 : decode cX6_stretch 103 = .ok (.invokestatic 31, 3) := by decide +kernel
theorem dX6_stretch_106 : decode cX6_stretch 106 = .ok (.iastore, 1) := by decide +kernel
theorem dX6_stretch_107 : decode cX6_stretch 107 = .ok (.aload_n 0, 1) := by decide +kernel
theorem dX6_stretch_108 : decode cX6_stretch 108 = .ok (.getfield 9, 3) := by decide +kernel
theorem dX6_stretch_111 : decode cX6_stretch 111 = .ok (.iload 4, 2) := by decide +kernel
theorem dX6_stretch_113 : decode cX6_stretch 113 = .ok (.aload_n 0, 1) := by decide +kernel
theorem dX6_stretch_114 : decode cX6_stretch 114 = .ok (.getfield 9, 3) := by decide +kernel
theorem dX6_stretch_117 : decode cX6_stretch 117 = .ok (.iload 4, 2) := by decide +kernel
theorem dX6_stretch_119 : decode cX6_stretch 119 = .ok (.iaload, 1) := by decide +kernel
theorem dX6_stretch_120 : decode cX6_stretch 120 = .ok (.iload 6, 2) := by decide +kernel
theorem dX6_stretch_122 : decode cX6_stretch 122 = .ok (.invokestatic 31, 3) := by decide +kernel
theorem dX6_stretch_125 : decode cX6_stretch 125 = .ok (.iastore, 1) := by decide +kernel
theorem dX6_stretch_126 : decode cX6_stretch 126 = .ok (.iinc 4 1, 3) := by decide +kernel
theorem dX6_stretch_129 : decode cX6_stretch 129 = .ok (.goto (-124), 3) := by decide +kernel
theorem dX6_stretch_132 : decode cX6_stretch 132 = .ok (.iload_n 3, 1) := by decide +kernel
theorem dX6_stretch_133 : decode cX6_stretch 133 = .ok (.ireturn, 1) := by decide +kernel
theorem dX6_slackOf_0 : decode cX6_slackOf 0 = .ok (.aload_n 0, 1) := by decide +kernel
theorem dX6_slackOf_1 : decode cX6_slackOf 1 = .ok (.getfield 27, 3) := by decide +kernel
theorem dX6_slackOf_4 : decode cX6_slackOf 4 = .ok (.aload_n 0, 1) := by decide +kernel
theorem dX6_slackOf_5 : decode cX6_slackOf 5 = .ok (.getfield 15, 3) := by decide +kernel
theorem dX6_slackOf_8 : decode cX6_slackOf 8 = .ok (.iload_n 1, 1) := by decide +kernel
theorem dX6_slackOf_9 : decode cX6_slackOf 9 = .ok (.iaload, 1) := by decide +kernel
theorem dX6_slackOf_10 : decode cX6_slackOf 10 = .ok (.isub, 1) := by decide +kernel
theorem dX6_slackOf_11 : decode cX6_slackOf 11 = .ok (.aload_n 0, 1) := by decide +kernel
theorem dX6_slackOf_12 : decode cX6_slackOf 12 = .ok (.getfield 9, 3) := by decide +kernel
theorem dX6_slackOf_15 : decode cX6_slackOf 15 = .ok (.iload_n 1, 1) := by decide +kernel
theorem dX6_slackOf_16 : decode cX6_slackOf 16 = .ok (.iaload, 1) := by decide +kernel
theorem dX6_slackOf_17 : decode cX6_slackOf 17 = .ok (.isub, 1) := by decide +kernel
theorem dX6_slackOf_18 : decode cX6_slackOf 18 = .ok (.ireturn, 1) := by decide +kernel
theorem dJ7_fill_53178_0 : decode cJ7_fill_53178 0 = .ok (.iconst 0, 1) := by decide +kernel
theorem dJ7_fill_53178_1 : decode cJ7_fill_53178 1 = .ok (.istore_n 2, 1) := by decide +kernel
theorem dJ7_fill_53178_2 : decode cJ7_fill_53178 2 = .ok (.aload_n 0, 1) := by decide +kernel
theorem dJ7_fill_53178_3 : decode cJ7_fill_53178 3 = .ok (.arraylength, 1) := by decide +kernel
theorem dJ7_fill_53178_4 : decode cJ7_fill_53178 4 = .ok (.istore_n 3, 1) := by decide +kernel
theorem dJ7_fill_53178_5 : decode cJ7_fill_53178 5 = .ok (.iload_n 2, 1) := by decide +kernel
theorem dJ7_fill_53178_6 : decode cJ7_fill_53178 6 = .ok (.iload_n 3, 1) := by decide +kernel
theorem dJ7_fill_53178_7 : decode cJ7_fill_53178 7 = .ok (.if_icmp .ge 13, 3) := by decide +kernel
theorem dJ7_fill_53178_10 : decode cJ7_fill_53178 10 = .ok (.aload_n 0, 1) := by decide +kernel
theorem dJ7_fill_53178_11 : decode cJ7_fill_53178 11 = .ok (.iload_n 2, 1) := by decide +kernel
theorem dJ7_fill_53178_12 : decode cJ7_fill_53178 12 = .ok (.iload_n 1, 1) := by decide +kernel
theorem dJ7_fill_53178_13 : decode cJ7_fill_53178 13 = .ok (.iastore, 1) := by decide +kernel
theorem dJ7_fill_53178_14 : decode cJ7_fill_53178 14 = .ok (.iinc 2 1, 3) := by decide +kernel
theorem dJ7_fill_53178_17 : decode cJ7_fill_53178 17 = .ok (.goto (-12), 3) := by decide +kernel
theorem dJ7_fill_53178_20 : decode cJ7_fill_53178 20 = .ok (.return_, 1) := by decide +kernel
theorem dJ6_bitCount_0f7a4_0 : decode cJ6_bitCount_0f7a4 0 = .ok (.iload_n 0, 1) := by decide +kernel
theorem dJ6_bitCount_0f7a4_1 : decode cJ6_bitCount_0f7a4 1 = .ok (.iload_n 0, 1) := by decide +kernel
theorem dJ6_bitCount_0f7a4_2 : decode cJ6_bitCount_0f7a4 2 = .ok (.iconst 1, 1) := by decide +kernel
theorem dJ6_bitCount_0f7a4_3 : decode cJ6_bitCount_0f7a4 3 = .ok (.iushr, 1) := by decide +kernel
theorem dJ6_bitCount_0f7a4_4 : decode cJ6_bitCount_0f7a4 4 = .ok (.ldc_w 265, 3) := by decide +kernel
theorem dJ6_bitCount_0f7a4_7 : decode cJ6_bitCount_0f7a4 7 = .ok (.iand, 1) := by decide +kernel
theorem dJ6_bitCount_0f7a4_8 : decode cJ6_bitCount_0f7a4 8 = .ok (.isub, 1) := by decide +kernel
theorem dJ6_bitCount_0f7a4_9 : decode cJ6_bitCount_0f7a4 9 = .ok (.istore_n 0, 1) := by decide +kernel
theorem dJ6_bitCount_0f7a4_10 : decode cJ6_bitCount_0f7a4 10 = .ok (.iload_n 0, 1) := by decide +kernel
theorem dJ6_bitCount_0f7a4_11 : decode cJ6_bitCount_0f7a4 11 = .ok (.ldc_w 266, 3) := by decide +kernel
theorem dJ6_bitCount_0f7a4_14 : decode cJ6_bitCount_0f7a4 14 = .ok (.iand, 1) := by decide +kernel
theorem dJ6_bitCount_0f7a4_15 : decode cJ6_bitCount_0f7a4 15 = .ok (.iload_n 0, 1) := by decide +kernel
theorem dJ6_bitCount_0f7a4_16 : decode cJ6_bitCount_0f7a4 16 = .ok (.iconst 2, 1) := by decide +kernel
theorem dJ6_bitCount_0f7a4_17 : decode cJ6_bitCount_0f7a4 17 = .ok (.iushr, 1) := by decide +kernel
theorem dJ6_bitCount_0f7a4_18 : decode cJ6_bitCount_0f7a4 18 = .ok (.ldc_w 266, 3) := by decide +kernel
theorem dJ6_bitCount_0f7a4_21 : decode cJ6_bitCount_0f7a4 21 = .ok (.iand, 1) := by decide +kernel
theorem dJ6_bitCount_0f7a4_22 : decode cJ6_bitCount_0f7a4 22 = .ok (.iadd, 1) := by decide +kernel
theorem dJ6_bitCount_0f7a4_23 : decode cJ6_bitCount_0f7a4 23 = .ok (.istore_n 0, 1) := by decide +kernel
theorem dJ6_bitCount_0f7a4_24 : decode cJ6_bitCount_0f7a4 24 = .ok (.iload_n 0, 1) := by decide +kernel
theorem dJ6_bitCount_0f7a4_25 : decode cJ6_bitCount_0f7a4 25 = .ok (.iload_n 0, 1) := by decide +kernel
theorem dJ6_bitCount_0f7a4_26 : decode cJ6_bitCount_0f7a4 26 = .ok (.iconst 4, 1) := by decide +kernel
theorem dJ6_bitCount_0f7a4_27 : decode cJ6_bitCount_0f7a4 27 = .ok (.iushr, 1) := by decide +kernel
theorem dJ6_bitCount_0f7a4_28 : decode cJ6_bitCount_0f7a4 28 = .ok (.iadd, 1) := by decide +kernel
theorem dJ6_bitCount_0f7a4_29 : decode cJ6_bitCount_0f7a4 29 = .ok (.ldc_w 267, 3) := by decide +kernel
theorem dJ6_bitCount_0f7a4_32 : decode cJ6_bitCount_0f7a4 32 = .ok (.iand, 1) := by decide +kernel
theorem dJ6_bitCount_0f7a4_33 : decode cJ6_bitCount_0f7a4 33 = .ok (.istore_n 0, 1) := by decide +kernel
theorem dJ6_bitCount_0f7a4_34 : decode cJ6_bitCount_0f7a4 34 = .ok (.iload_n 0, 1) := by decide +kernel
theorem dJ6_bitCount_0f7a4_35 : decode cJ6_bitCount_0f7a4 35 = .ok (.iload_n 0, 1) := by decide +kernel
theorem dJ6_bitCount_0f7a4_36 : decode cJ6_bitCount_0f7a4 36 = .ok (.bipush 8, 2) := by decide +kernel
theorem dJ6_bitCount_0f7a4_38 : decode cJ6_bitCount_0f7a4 38 = .ok (.iushr, 1) := by decide +kernel
theorem dJ6_bitCount_0f7a4_39 : decode cJ6_bitCount_0f7a4 39 = .ok (.iadd, 1) := by decide +kernel
theorem dJ6_bitCount_0f7a4_40 : decode cJ6_bitCount_0f7a4 40 = .ok (.istore_n 0, 1) := by decide +kernel
theorem dJ6_bitCount_0f7a4_41 : decode cJ6_bitCount_0f7a4 41 = .ok (.iload_n 0, 1) := by decide +kernel
theorem dJ6_bitCount_0f7a4_42 : decode cJ6_bitCount_0f7a4 42 = .ok (.iload_n 0, 1) := by decide +kernel
theorem dJ6_bitCount_0f7a4_43 : decode cJ6_bitCount_0f7a4 43 = .ok (.bipush 16, 2) := by decide +kernel
theorem dJ6_bitCount_0f7a4_45 : decode cJ6_bitCount_0f7a4 45 = .ok (.iushr, 1) := by decide +kernel
theorem dJ6_bitCount_0f7a4_46 : decode cJ6_bitCount_0f7a4 46 = .ok (.iadd, 1) := by decide +kernel
theorem dJ6_bitCount_0f7a4_47 : decode cJ6_bitCount_0f7a4 47 = .ok (.istore_n 0, 1) := by decide +kernel
theorem dJ6_bitCount_0f7a4_48 : decode cJ6_bitCount_0f7a4 48 = .ok (.iload_n 0, 1) := by decide +kernel
theorem dJ6_bitCount_0f7a4_49 : decode cJ6_bitCount_0f7a4 49 = .ok (.bipush 63, 2) := by decide +kernel
theorem dJ6_bitCount_0f7a4_51 : decode cJ6_bitCount_0f7a4 51 = .ok (.iand, 1) := by decide +kernel
theorem dJ6_bitCount_0f7a4_52 : decode cJ6_bitCount_0f7a4 52 = .ok (.ireturn, 1) := by decide +kernel
theorem pb_up_at {sg : pb_Sg} {a k b j : Nat} {x : Int32} : pb_up sg a k x b j = if b = a ∧ j = k then x else sg b j := by
  unfold pb_up
  by_cases e : b = a
  · subst e
    simp [upd]
  · simp [e]
def pb_hist (sk : pb_Sk) (rf : pb_Rf) (h : Nat) : Prop := sk h = (8, 0) ∧ rf h 0 = some (h + 1) ∧ rf h 1 = some (h + 2) ∧ rf h 2 = some (h + 3) ∧ rf h 3 = some (h + 4) ∧ rf h 4 = some (h + 5) ∧ sk (h + 1) = (1, 30) ∧ sk (h + 2) = (1, 30) ∧ sk (h + 3) = (1, 30) ∧ sk (h + 4) = (1, 30) ∧ sk (h + 5) = (1, 30)
def pb_nx (n : Nat) : Nat := if n + 1 < 30 then n + 1 else 0
def pb_pv (n : Nat) : Nat := if 0 < n then n - 1 else 29
def pb_keepA (sg : pb_Sg) (o p t n : Nat) : pb_Sg :=
  let a1 := pb_up sg (o + 1) n (nI t)
  let a2 := pb_up a1 (o + 2) n (a1 (p + 1) t)
  let a3 := pb_up a2 (o + 3) n (a2 (p + 2) t)
  let a4 := pb_up a3 (o + 4) n (a3 (p + 3) t)
  let a5 := pb_up a4 (o + 5) n (a4 (p + 4) t)
  pb_up a5 o 5 (nI (pb_nx n))
def pb_keep (sg : pb_Sg) (o p t n s : Nat) : pb_Sg := if s < 30 then pb_up (pb_keepA sg o p t n) o 6 (nI (s + 1)) else pb_keepA sg o p t n
def pb_a2 (sg : pb_Sg) (o n s : Nat) : pb_Sg := pb_up (pb_up sg o 5 (nI (pb_pv n))) o 6 (nI (s - 1))
def pb_rest (sg : pb_Sg) (o p t n s : Nat) : pb_Sg :=
  pb_put (pb_a2 sg o n s) p t (pb_a2 sg o n s (o + 2) (pb_pv n)) (pb_a2 sg o n s (o + 3) (pb_pv n)) (pb_a2 sg o n s (o + 4) (pb_pv n)) (pb_a2 sg o n s (o + 5) (pb_pv n))
set_option maxHeartbeats 4000000 in
set_option maxRecDepth 100000 in
theorem c_X2_keep {l : Launch} (hfl : l.stackTraces = false) {sz : Nat} {sk : pb_Sk} {rf : pb_Rf} {sg : pb_Sg} {o p t nx s : Nat} (hh : pb_hist sk rf o) (hp : pb_plan sk rf p) (ht : t < 16) (hn : sg o 5 = nI nx) (hn30 : nx < 30) (hs : sg o 6 = nI s) (hs30 : s ≤ 30) : pb_Met l mX2_keep 1 0 0 [.ref o, .ref p, .int (nI t)] sz sk rf sg (pb_is none sz sk rf (pb_keep sg o p t nx s)) := by
  refine pb_start hfl (by decide +kernel) rfl (pb_c1 rfl) (Nat.le_of_ble_eq_true rfl) (fun F hF h hQ => ?_)
  subst hF
  show pv F 0 0 sz sk rf sg 0 [some (.ref o), some (.ref p), some (.int (nI t))] []
  obtain ⟨hh0, hh1, hh2, hh3, hh4, hh5, hh6, hh7, hh8, hh9, hh10⟩ := id hh
  obtain ⟨hp0, hp1, hp2, hp3, hp4, hp5, hp6, hp7, hp8⟩ := id hp
  refine v_aload_n h (i := 0) dX2_keep_0 (q := 1) rfl rfl rfl ?_
  refine v_getr h fl_X2_9 (by assumption) rfl (by assumption) dX2_keep_1 (q := 4) rfl ?_
  refine v_aload_n h (i := 0) dX2_keep_4 (q := 5) rfl rfl rfl ?_
  refine v_geti h fl_X2_27 (by assumption) rfl dX2_keep_5 (q := 8) rfl ?_
  refine v_iload_n h (i := 2) dX2_keep_8 (q := 9) rfl rfl rfl ?_
  refine v_iast h (by assumption) (by simp [pb_up_at, hn]) hn30 (by decide) dX2_keep_9 (q := 10) rfl ?_
  refine v_aload_n h (i := 0) dX2_keep_10 (q := 11) rfl rfl rfl ?_
  refine v_getr h fl_X2_15 (by assumption) rfl (by assumption) dX2_keep_11 (q := 14) rfl ?_
  refine v_aload_n h (i := 0) dX2_keep_14 (q := 15) rfl rfl rfl ?_
  refine v_geti h fl_X2_27 (by assumption) rfl dX2_keep_15 (q := 18) rfl ?_
  refine v_aload_n h (i := 1) dX2_keep_18 (q := 19) rfl rfl rfl ?_
  refine v_getr h fl_X2_31 (by assumption) rfl (by assumption) dX2_keep_19 (q := 22) rfl ?_
  refine v_iload_n h (i := 2) dX2_keep_22 (q := 23) rfl rfl rfl ?_
  refine v_iald h (by assumption) rfl (by first | assumption | omega) (by decide) dX2_keep_23 (q := 24) rfl ?_
  refine v_iast h (by assumption) (by simp [pb_up_at, hn]) hn30 (by decide) dX2_keep_24 (q := 25) rfl ?_
  refine v_aload_n h (i := 0) dX2_keep_25 (q := 26) rfl rfl rfl ?_
  refine v_getr h fl_X2_18 (by assumption) rfl (by assumption) dX2_keep_26 (q := 29) rfl ?_
  refine v_aload_n h (i := 0) dX2_keep_29 (q := 30) rfl rfl rfl ?_
  refine v_geti h fl_X2_27 (by assumption) rfl dX2_keep_30 (q := 33) rfl ?_
  refine v_aload_n h (i := 1) dX2_keep_33 (q := 34) rfl rfl rfl ?_
  refine v_getr h fl_X2_34 (by assumption) rfl (by assumption) dX2_keep_34 (q := 37) rfl ?_
  refine v_iload_n h (i := 2) dX2_keep_37 (q := 38) rfl rfl rfl ?_
  refine v_iald h (by assumption) rfl (by first | assumption | omega) (by decide) dX2_keep_38 (q := 39) rfl ?_
  refine v_iast h (by assumption) (by simp [pb_up_at, hn]) hn30 (by decide) dX2_keep_39 (q := 40) rfl ?_
  refine v_aload_n h (i := 0) dX2_keep_40 (q := 41) rfl rfl rfl ?_
  refine v_getr h fl_X2_21 (by assumption) rfl (by assumption) dX2_keep_41 (q := 44) rfl ?_
  refine v_aload_n h (i := 0) dX2_keep_44 (q := 45) rfl rfl rfl ?_
  refine v_geti h fl_X2_27 (by assumption) rfl dX2_keep_45 (q := 48) rfl ?_
  refine v_aload_n h (i := 1) dX2_keep_48 (q := 49) rfl rfl rfl ?_
  refine v_getr h fl_X2_35 (by assumption) rfl (by assumption) dX2_keep_49 (q := 52) rfl ?_
  refine v_iload_n h (i := 2) dX2_keep_52 (q := 53) rfl rfl rfl ?_
  refine v_iald h (by assumption) rfl (by first | assumption | omega) (by decide) dX2_keep_53 (q := 54) rfl ?_
  refine v_iast h (by assumption) (by simp [pb_up_at, hn]) hn30 (by decide) dX2_keep_54 (q := 55) rfl ?_
  refine v_aload_n h (i := 0) dX2_keep_55 (q := 56) rfl rfl rfl ?_
  refine v_getr h fl_X2_24 (by assumption) rfl (by assumption) dX2_keep_56 (q := 59) rfl ?_
  refine v_aload_n h (i := 0) dX2_keep_59 (q := 60) rfl rfl rfl ?_
  refine v_geti h fl_X2_27 (by assumption) rfl dX2_keep_60 (q := 63) rfl ?_
  refine v_aload_n h (i := 1) dX2_keep_63 (q := 64) rfl rfl rfl ?_
  refine v_getr h fl_X2_36 (by assumption) rfl (by assumption) dX2_keep_64 (q := 67) rfl ?_
  refine v_iload_n h (i := 2) dX2_keep_67 (q := 68) rfl rfl rfl ?_
  refine v_iald h (by assumption) rfl (by first | assumption | omega) (by decide) dX2_keep_68 (q := 69) rfl ?_
  refine v_iast h (by assumption) (by simp [pb_up_at, hn]) hn30 (by decide) dX2_keep_69 (q := 70) rfl ?_
  refine v_aload_n h (i := 0) dX2_keep_70 (q := 71) rfl rfl rfl ?_
  refine v_aload_n h (i := 0) dX2_keep_71 (q := 72) rfl rfl rfl ?_
  refine v_geti h fl_X2_27 (by assumption) rfl dX2_keep_72 (q := 75) rfl ?_
  refine v_iconst h (v := nI 1) dX2_keep_75 (q := 76) rfl (by decide +kernel) ?_
  refine v_iadd h dX2_keep_76 (q := 77) rfl ?_
  refine v_bipush h (v := nI 30) dX2_keep_77 (q := 79) rfl (by decide +kernel) ?_
  refine v_icmp_ge h dX2_keep_79 (q := 82) rfl (tgt := 91) (by decide) (fun c1 => ?_) (fun c1 => ?_)
  · skip
    have h9 : 30 ≤ nx + 1 := (nI_leI (by omega) (by omega)).mp (by simpa [pb_up_at, hn, nI_add] using c1)
    have e9 : pb_nx nx = 0 := if_neg (by omega)
    refine v_iconst h (v := nI 0) dX2_keep_91 (q := 92) rfl (by decide +kernel) ?_
    refine v_eq (st' := [.int (nI (pb_nx nx)), .ref o]) (by simp [pb_up_at, hn, e9, nI_add]) ?_
    refine v_puti h fl_X2_27 (by assumption) rfl rfl dX2_keep_92 (q := 95) rfl ?_
    refine v_aload_n h (i := 0) dX2_keep_95 (q := 96) rfl rfl rfl ?_
    refine v_geti h fl_X2_37 (by assumption) rfl dX2_keep_96 (q := 99) rfl ?_
    refine v_bipush h (v := nI 30) dX2_keep_99 (q := 101) rfl (by decide +kernel) ?_
    refine v_icmp_ge h dX2_keep_101 (q := 104) rfl (tgt := 114) (by decide) (fun c2 => ?_) (fun c2 => ?_)
    · skip
      have h8 : 30 ≤ s := (nI_leI (by omega) (by omega)).mp (by simpa [pb_up_at, hs] using c2)
      have e8 : pb_keep sg o p t nx s = pb_keepA sg o p t nx := if_neg (by omega)
      refine v_vret h hQ rfl dX2_keep_114 (Nat.zero_le _) (Nat.zero_le _) ⟨rfl, rfl, rfl, rfl, by rw [e8]; rfl⟩
    · skip
      have h8 : ¬ 30 ≤ s := fun q => c2 (by simpa [pb_up_at, hs] using (nI_leI (a := 30) (b := s) (by omega) (by omega)).mpr q)
      have e8 : pb_keep sg o p t nx s = pb_up (pb_keepA sg o p t nx) o 6 (nI (s + 1)) := if_pos (by omega)
      refine v_aload_n h (i := 0) dX2_keep_104 (q := 105) rfl rfl rfl ?_
      refine v_dup h dX2_keep_105 (q := 106) rfl rfl ?_
      refine v_geti h fl_X2_37 (by assumption) rfl dX2_keep_106 (q := 109) rfl ?_
      refine v_iconst h (v := nI 1) dX2_keep_109 (q := 110) rfl (by decide +kernel) ?_
      refine v_iadd h dX2_keep_110 (q := 111) rfl ?_
      refine v_eq (st' := [.int (nI (s + 1)), .ref o]) (by simp [pb_up_at, hs, nI_add]) ?_
      refine v_puti h fl_X2_37 (by assumption) rfl rfl dX2_keep_111 (q := 114) rfl ?_
      refine v_vret h hQ rfl dX2_keep_114 (Nat.zero_le _) (Nat.zero_le _) ⟨rfl, rfl, rfl, rfl, by rw [e8]; rfl⟩
  · skip
    have h9 : ¬ 30 ≤ nx + 1 := fun q => c1 (by simpa [pb_up_at, hn, nI_add] using (nI_leI (a := 30) (b := nx + 1) (by omega) (by omega)).mpr q)
    have e9 : pb_nx nx = nx + 1 := if_pos (by omega)
    refine v_aload_n h (i := 0) dX2_keep_82 (q := 83) rfl rfl rfl ?_
    refine v_geti h fl_X2_27 (by assumption) rfl dX2_keep_83 (q := 86) rfl ?_
    refine v_iconst h (v := nI 1) dX2_keep_86 (q := 87) rfl (by decide +kernel) ?_
    refine v_iadd h dX2_keep_87 (q := 88) rfl ?_
    refine v_goto h dX2_keep_88 (tgt := 92) (by decide) ?_
    refine v_eq (st' := [.int (nI (pb_nx nx)), .ref o]) (by simp [pb_up_at, hn, e9, nI_add]) ?_
    refine v_puti h fl_X2_27 (by assumption) rfl rfl dX2_keep_92 (q := 95) rfl ?_
    refine v_aload_n h (i := 0) dX2_keep_95 (q := 96) rfl rfl rfl ?_
    refine v_geti h fl_X2_37 (by assumption) rfl dX2_keep_96 (q := 99) rfl ?_
    refine v_bipush h (v := nI 30) dX2_keep_99 (q := 101) rfl (by decide +kernel) ?_
    refine v_icmp_ge h dX2_keep_101 (q := 104) rfl (tgt := 114) (by decide) (fun c3 => ?_) (fun c3 => ?_)
    · skip
      have h8 : 30 ≤ s := (nI_leI (by omega) (by omega)).mp (by simpa [pb_up_at, hs] using c3)
      have e8 : pb_keep sg o p t nx s = pb_keepA sg o p t nx := if_neg (by omega)
      refine v_vret h hQ rfl dX2_keep_114 (Nat.zero_le _) (Nat.zero_le _) ⟨rfl, rfl, rfl, rfl, by rw [e8]; rfl⟩
    · skip
      have h8 : ¬ 30 ≤ s := fun q => c3 (by simpa [pb_up_at, hs] using (nI_leI (a := 30) (b := s) (by omega) (by omega)).mpr q)
      have e8 : pb_keep sg o p t nx s = pb_up (pb_keepA sg o p t nx) o 6 (nI (s + 1)) := if_pos (by omega)
      refine v_aload_n h (i := 0) dX2_keep_104 (q := 105) rfl rfl rfl ?_
      refine v_dup h dX2_keep_105 (q := 106) rfl rfl ?_
      refine v_geti h fl_X2_37 (by assumption) rfl dX2_keep_106 (q := 109) rfl ?_
      refine v_iconst h (v := nI 1) dX2_keep_109 (q := 110) rfl (by decide +kernel) ?_
      refine v_iadd h dX2_keep_110 (q := 111) rfl ?_
      refine v_eq (st' := [.int (nI (s + 1)), .ref o]) (by simp [pb_up_at, hs, nI_add]) ?_
      refine v_puti h fl_X2_37 (by assumption) rfl rfl dX2_keep_111 (q := 114) rfl ?_
      refine v_vret h hQ rfl dX2_keep_114 (Nat.zero_le _) (Nat.zero_le _) ⟨rfl, rfl, rfl, rfl, by rw [e8]; rfl⟩
set_option maxHeartbeats 4000000 in
set_option maxRecDepth 100000 in
theorem c_X2_restore {l : Launch} (hfl : l.stackTraces = false) {sz : Nat} {sk : pb_Sk} {rf : pb_Rf} {sg : pb_Sg} {o p t nx s : Nat} (hh : pb_hist sk rf o) (hp : pb_plan sk rf p) (ht : t < 16) (hn : sg o 5 = nI nx) (hn30 : nx < 30) (hs : sg o 6 = nI s) (hs0 : 0 < s) (hs30 : s ≤ 30) (hc : sg (o + 1) (pb_pv nx) = nI t) : pb_Met l mX2_restore 2 0 0 [.ref o, .ref p] sz sk rf sg (pb_is none sz sk rf (pb_rest sg o p t nx s)) := by
  refine pb_start hfl (by decide +kernel) rfl (pb_c1 rfl) (Nat.le_of_ble_eq_true rfl) (fun F hF h hQ => ?_)
  subst hF
  show pv F 0 0 sz sk rf sg 0 [some (.ref o), some (.ref p)] []
  obtain ⟨hh0, hh1, hh2, hh3, hh4, hh5, hh6, hh7, hh8, hh9, hh10⟩ := id hh
  obtain ⟨hp0, hp1, hp2, hp3, hp4, hp5, hp6, hp7, hp8⟩ := id hp
  have hv30 : pb_pv nx < 30 := by unfold pb_pv; split <;> omega
  refine v_aload_n h (i := 0) dX2_restore_0 (q := 1) rfl rfl rfl ?_
  refine v_geti h fl_X2_37 (by assumption) rfl dX2_restore_1 (q := 4) rfl ?_
  refine v_if_le h dX2_restore_4 (q := 7) rfl (tgt := 88) (by decide) (fun c1 => absurd c1 (by rw [hs]; exact nI_nle hs0 (by omega))) (fun c1 => ?_)
  refine v_aload_n h (i := 0) dX2_restore_7 (q := 8) rfl rfl rfl ?_
  refine v_aload_n h (i := 0) dX2_restore_8 (q := 9) rfl rfl rfl ?_
  refine v_geti h fl_X2_27 (by assumption) rfl dX2_restore_9 (q := 12) rfl ?_
  refine v_if_le h dX2_restore_12 (q := 15) rfl (tgt := 24) (by decide) (fun c2 => ?_) (fun c2 => ?_)
  · skip
    have h9 : ¬ 0 < nx := fun q => absurd c2 (by rw [hn]; exact nI_nle q (by omega))
    have e9 : pb_pv nx = 29 := if_neg h9
    refine v_bipush h (v := nI 29) dX2_restore_24 (q := 26) rfl (by decide +kernel) ?_
    refine v_eq (st' := [.int (nI (pb_pv nx)), .ref o]) (by first | (rw [e9]; done) | (rw [e9, hn, pk_sub (by omega)])) ?_
    refine v_puti h fl_X2_27 (by assumption) rfl rfl dX2_restore_26 (q := 29) rfl ?_
    refine v_aload_n h (i := 0) dX2_restore_29 (q := 30) rfl rfl rfl ?_
    refine v_dup h dX2_restore_30 (q := 31) rfl rfl ?_
    refine v_geti h fl_X2_37 (by assumption) rfl dX2_restore_31 (q := 34) rfl ?_
    refine v_iconst h (v := nI 1) dX2_restore_34 (q := 35) rfl (by decide +kernel) ?_
    refine v_isub h dX2_restore_35 (q := 36) rfl ?_
    refine v_eq (st' := [.int (nI (s - 1)), .ref o]) (by simp [pb_up_at, hs, pk_sub hs0]) ?_
    refine v_puti h fl_X2_37 (by assumption) rfl rfl dX2_restore_36 (q := 39) rfl ?_
    refine v_aload_n h (i := 1) dX2_restore_39 (q := 40) rfl rfl rfl ?_
    refine v_aload_n h (i := 0) dX2_restore_40 (q := 41) rfl rfl rfl ?_
    refine v_getr h fl_X2_9 (by assumption) rfl (by assumption) dX2_restore_41 (q := 44) rfl ?_
    refine v_aload_n h (i := 0) dX2_restore_44 (q := 45) rfl rfl rfl ?_
    refine v_geti h fl_X2_27 (by assumption) rfl dX2_restore_45 (q := 48) rfl ?_
    refine v_iald h (by assumption) (by simp [pb_up_at]) hv30 (by decide) dX2_restore_48 (q := 49) rfl ?_
    refine v_aload_n h (i := 0) dX2_restore_49 (q := 50) rfl rfl rfl ?_
    refine v_getr h fl_X2_15 (by assumption) rfl (by assumption) dX2_restore_50 (q := 53) rfl ?_
    refine v_aload_n h (i := 0) dX2_restore_53 (q := 54) rfl rfl rfl ?_
    refine v_geti h fl_X2_27 (by assumption) rfl dX2_restore_54 (q := 57) rfl ?_
    refine v_iald h (by assumption) (by simp [pb_up_at]) hv30 (by decide) dX2_restore_57 (q := 58) rfl ?_
    refine v_aload_n h (i := 0) dX2_restore_58 (q := 59) rfl rfl rfl ?_
    refine v_getr h fl_X2_18 (by assumption) rfl (by assumption) dX2_restore_59 (q := 62) rfl ?_
    refine v_aload_n h (i := 0) dX2_restore_62 (q := 63) rfl rfl rfl ?_
    refine v_geti h fl_X2_27 (by assumption) rfl dX2_restore_63 (q := 66) rfl ?_
    refine v_iald h (by assumption) (by simp [pb_up_at]) hv30 (by decide) dX2_restore_66 (q := 67) rfl ?_
    refine v_aload_n h (i := 0) dX2_restore_67 (q := 68) rfl rfl rfl ?_
    refine v_getr h fl_X2_21 (by assumption) rfl (by assumption) dX2_restore_68 (q := 71) rfl ?_
    refine v_aload_n h (i := 0) dX2_restore_71 (q := 72) rfl rfl rfl ?_
    refine v_geti h fl_X2_27 (by assumption) rfl dX2_restore_72 (q := 75) rfl ?_
    refine v_iald h (by assumption) (by simp [pb_up_at]) hv30 (by decide) dX2_restore_75 (q := 76) rfl ?_
    refine v_aload_n h (i := 0) dX2_restore_76 (q := 77) rfl rfl rfl ?_
    refine v_getr h fl_X2_24 (by assumption) rfl (by assumption) dX2_restore_77 (q := 80) rfl ?_
    refine v_aload_n h (i := 0) dX2_restore_80 (q := 81) rfl rfl rfl ?_
    refine v_geti h fl_X2_27 (by assumption) rfl dX2_restore_81 (q := 84) rfl ?_
    refine v_iald h (by assumption) (by simp [pb_up_at]) hv30 (by decide) dX2_restore_84 (q := 85) rfl ?_
    refine v_eq (st' := [.int (pb_a2 sg o nx s (o + 5) (pb_pv nx)), .int (pb_a2 sg o nx s (o + 4) (pb_pv nx)), .int (pb_a2 sg o nx s (o + 3) (pb_pv nx)), .int (pb_a2 sg o nx s (o + 2) (pb_pv nx)), .int (nI t), .ref p]) (by simp [pb_a2, pb_up_at, hc]) ?_
    refine v_callV0 h (c_X4_put hfl hp ht) kX4_put tw462 tw396 (by assumption) (by decide) rfl rfl rfl (by simp [Value.category]) (by decide) (Nat.zero_le _) (Nat.zero_le _) rfl dX2_restore_85 (q := 88) rfl ?_
    refine v_vret h hQ rfl dX2_restore_88 (Nat.zero_le _) (Nat.zero_le _) ⟨rfl, rfl, rfl, rfl, rfl⟩
  · skip
    have h9 : 0 < nx := by
          rcases Nat.eq_zero_or_pos nx with q | q
          · exact absurd (by rw [hn, q]; decide) c2
          · exact q
    have e9 : pb_pv nx = nx - 1 := if_pos h9
    refine v_aload_n h (i := 0) dX2_restore_15 (q := 16) rfl rfl rfl ?_
    refine v_geti h fl_X2_27 (by assumption) rfl dX2_restore_16 (q := 19) rfl ?_
    refine v_iconst h (v := nI 1) dX2_restore_19 (q := 20) rfl (by decide +kernel) ?_
    refine v_isub h dX2_restore_20 (q := 21) rfl ?_
    refine v_goto h dX2_restore_21 (tgt := 26) (by decide) ?_
    refine v_eq (st' := [.int (nI (pb_pv nx)), .ref o]) (by first | (rw [e9]; done) | (rw [e9, hn, pk_sub (by omega)])) ?_
    refine v_puti h fl_X2_27 (by assumption) rfl rfl dX2_restore_26 (q := 29) rfl ?_
    refine v_aload_n h (i := 0) dX2_restore_29 (q := 30) rfl rfl rfl ?_
    refine v_dup h dX2_restore_30 (q := 31) rfl rfl ?_
    refine v_geti h fl_X2_37 (by assumption) rfl dX2_restore_31 (q := 34) rfl ?_
    refine v_iconst h (v := nI 1) dX2_restore_34 (q := 35) rfl (by decide +kernel) ?_
    refine v_isub h dX2_restore_35 (q := 36) rfl ?_
    refine v_eq (st' := [.int (nI (s - 1)), .ref o]) (by simp [pb_up_at, hs, pk_sub hs0]) ?_
    refine v_puti h fl_X2_37 (by assumption) rfl rfl dX2_restore_36 (q := 39) rfl ?_
    refine v_aload_n h (i := 1) dX2_restore_39 (q := 40) rfl rfl rfl ?_
    refine v_aload_n h (i := 0) dX2_restore_40 (q := 41) rfl rfl rfl ?_
    refine v_getr h fl_X2_9 (by assumption) rfl (by assumption) dX2_restore_41 (q := 44) rfl ?_
    refine v_aload_n h (i := 0) dX2_restore_44 (q := 45) rfl rfl rfl ?_
    refine v_geti h fl_X2_27 (by assumption) rfl dX2_restore_45 (q := 48) rfl ?_
    refine v_iald h (by assumption) (by simp [pb_up_at]) hv30 (by decide) dX2_restore_48 (q := 49) rfl ?_
    refine v_aload_n h (i := 0) dX2_restore_49 (q := 50) rfl rfl rfl ?_
    refine v_getr h fl_X2_15 (by assumption) rfl (by assumption) dX2_restore_50 (q := 53) rfl ?_
    refine v_aload_n h (i := 0) dX2_restore_53 (q := 54) rfl rfl rfl ?_
    refine v_geti h fl_X2_27 (by assumption) rfl dX2_restore_54 (q := 57) rfl ?_
    refine v_iald h (by assumption) (by simp [pb_up_at]) hv30 (by decide) dX2_restore_57 (q := 58) rfl ?_
    refine v_aload_n h (i := 0) dX2_restore_58 (q := 59) rfl rfl rfl ?_
    refine v_getr h fl_X2_18 (by assumption) rfl (by assumption) dX2_restore_59 (q := 62) rfl ?_
    refine v_aload_n h (i := 0) dX2_restore_62 (q := 63) rfl rfl rfl ?_
    refine v_geti h fl_X2_27 (by assumption) rfl dX2_restore_63 (q := 66) rfl ?_
    refine v_iald h (by assumption) (by simp [pb_up_at]) hv30 (by decide) dX2_restore_66 (q := 67) rfl ?_
    refine v_aload_n h (i := 0) dX2_restore_67 (q := 68) rfl rfl rfl ?_
    refine v_getr h fl_X2_21 (by assumption) rfl (by assumption) dX2_restore_68 (q := 71) rfl ?_
    refine v_aload_n h (i := 0) dX2_restore_71 (q := 72) rfl rfl rfl ?_
    refine v_geti h fl_X2_27 (by assumption) rfl dX2_restore_72 (q := 75) rfl ?_
    refine v_iald h (by assumption) (by simp [pb_up_at]) hv30 (by decide) dX2_restore_75 (q := 76) rfl ?_
    refine v_aload_n h (i := 0) dX2_restore_76 (q := 77) rfl rfl rfl ?_
    refine v_getr h fl_X2_24 (by assumption) rfl (by assumption) dX2_restore_77 (q := 80) rfl ?_
    refine v_aload_n h (i := 0) dX2_restore_80 (q := 81) rfl rfl rfl ?_
    refine v_geti h fl_X2_27 (by assumption) rfl dX2_restore_81 (q := 84) rfl ?_
    refine v_iald h (by assumption) (by simp [pb_up_at]) hv30 (by decide) dX2_restore_84 (q := 85) rfl ?_
    refine v_eq (st' := [.int (pb_a2 sg o nx s (o + 5) (pb_pv nx)), .int (pb_a2 sg o nx s (o + 4) (pb_pv nx)), .int (pb_a2 sg o nx s (o + 3) (pb_pv nx)), .int (pb_a2 sg o nx s (o + 2) (pb_pv nx)), .int (nI t), .ref p]) (by simp [pb_a2, pb_up_at, hc]) ?_
    refine v_callV0 h (c_X4_put hfl hp ht) kX4_put tw462 tw396 (by assumption) (by decide) rfl rfl rfl (by simp [Value.category]) (by decide) (Nat.zero_le _) (Nat.zero_le _) rfl dX2_restore_85 (q := 88) rfl ?_
    refine v_vret h hQ rfl dX2_restore_88 (Nat.zero_le _) (Nat.zero_le _) ⟨rfl, rfl, rfl, rfl, rfl⟩
set_option maxHeartbeats 4000000 in
set_option maxRecDepth 100000 in
theorem c_X2_forget {l : Launch} (hfl : l.stackTraces = false) {sz : Nat} {sk : pb_Sk} {rf : pb_Rf} {sg : pb_Sg} {o : Nat} (hh : pb_hist sk rf o) : pb_Met l mX2_forget 1 0 0 [.ref o] sz sk rf sg (pb_is none sz sk rf (pb_up sg o 6 (nI 0))) := by
  refine pb_start hfl (by decide +kernel) rfl (pb_c1 rfl) (Nat.le_of_ble_eq_true rfl) (fun F hF h hQ => ?_)
  subst hF
  show pv F 0 0 sz sk rf sg 0 [some (.ref o)] []
  have hh0 := hh.1
  refine v_aload_n h (i := 0) dX2_forget_0 (q := 1) rfl rfl rfl ?_
  refine v_iconst h (v := nI 0) dX2_forget_1 (q := 2) rfl (by decide +kernel) ?_
  refine v_puti h fl_X2_37 (by assumption) rfl rfl dX2_forget_2 (q := 5) rfl ?_
  refine v_vret h hQ rfl dX2_forget_5 (Nat.zero_le _) (Nat.zero_le _) ⟨rfl, rfl, rfl, rfl, rfl⟩
def pb_crews (sk : pb_Sk) (rf : pb_Rf) (c : Nat) : Prop := sk c = (7, 0) ∧ rf c 0 = some (c + 1) ∧ rf c 1 = some (c + 2) ∧ sk (c + 1) = (1, 5) ∧ sk (c + 2) = (5, 5) ∧ (∀ i, i < 5 → rf (c + 2) i = some (c + 3 + i)) ∧ ∀ i, i < 5 → sk (c + 3 + i) = (1, 400)
def pb_held (sg : pb_Sg) (c i d : Nat) : Int32 := if sg (c + 3 + i) d = -1 then sg (c + 1) i else sg (c + 3 + i) d
/-- the cells k from lo on, m of them, of the array a become x -/
def pb_fillN (sg : pb_Sg) (a lo : Nat) (x : Int32) : Nat → pb_Sg
  | 0 => sg
  | n + 1 => pb_up (pb_fillN sg a lo x n) a (lo + n) x
set_option maxHeartbeats 4000000 in
set_option maxRecDepth 100000 in
theorem c_X1_heldBy {l : Launch} (hfl : l.stackTraces = false) {sz : Nat} {sk : pb_Sk} {rf : pb_Rf} {sg : pb_Sg} {c i d : Nat} (hc : pb_crews sk rf c) (hi : i < 5) (hd : d < 400) : pb_Met l mX1_heldBy 1 0 0 [.ref c, .int (nI i), .int (nI d)] sz sk rf sg (pb_is (some (.int (pb_held sg c i d))) sz sk rf sg) := by
  refine pb_start hfl (by decide +kernel) rfl (pb_c1 rfl) (Nat.le_of_ble_eq_true rfl) (fun F hF h hQ => ?_)
  subst hF
  show pv F 0 0 sz sk rf sg 0 [some (.ref c), some (.int (nI i)), some (.int (nI d)), none] []
  obtain ⟨hc0, hc1, hc2, hc3, hc4, hc5, hc6⟩ := id hc
  have hr := hc6 i hi
  refine v_aload_n h (i := 0) dX1_heldBy_0 (q := 1) rfl rfl rfl ?_
  refine v_getr h fl_X1_17 (by assumption) rfl (by assumption) dX1_heldBy_1 (q := 4) rfl ?_
  refine v_iload_n h (i := 1) dX1_heldBy_4 (q := 5) rfl rfl rfl ?_
  refine v_aald5 h (by assumption) rfl (by first | assumption | omega) (by decide) (by rw [hc5 i hi]) dX1_heldBy_5 (q := 6) rfl ?_
  refine v_iload_n h (i := 2) dX1_heldBy_6 (q := 7) rfl rfl rfl ?_
  refine v_iald h (by assumption) rfl (by first | assumption | omega) (by decide) dX1_heldBy_7 (q := 8) rfl ?_
  refine v_istore_n h (i := 3) dX1_heldBy_8 (q := 9) rfl rfl (Nat.le_of_ble_eq_true rfl) rfl ?_
  refine v_iload_n h (i := 3) dX1_heldBy_9 (q := 10) rfl rfl rfl ?_
  refine v_iconst h (v := (-1)) dX1_heldBy_10 (q := 11) rfl (by decide +kernel) ?_
  refine v_icmp_ne h dX1_heldBy_11 (q := 14) rfl (tgt := 23) (by decide) (fun c1 => ?_) (fun c1 => ?_)
  · skip
    have e9 : pb_held sg c i d = sg (c + 3 + i) d := if_neg c1
    refine v_iload_n h (i := 3) dX1_heldBy_23 (q := 24) rfl rfl rfl ?_
    refine v_iret h hQ rfl rfl dX1_heldBy_24 (Nat.zero_le _) (Nat.zero_le _) ⟨by rw [e9], rfl, rfl, rfl, rfl⟩
  · skip
    have e9 : pb_held sg c i d = sg (c + 1) i := if_pos c1
    refine v_aload_n h (i := 0) dX1_heldBy_14 (q := 15) rfl rfl rfl ?_
    refine v_getr h fl_X1_9 (by assumption) rfl (by assumption) dX1_heldBy_15 (q := 18) rfl ?_
    refine v_iload_n h (i := 1) dX1_heldBy_18 (q := 19) rfl rfl rfl ?_
    refine v_iald h (by assumption) rfl (by first | assumption | omega) (by decide) dX1_heldBy_19 (q := 20) rfl ?_
    refine v_goto h dX1_heldBy_20 (tgt := 24) (by decide) ?_
    refine v_iret h hQ rfl rfl dX1_heldBy_24 (Nat.zero_le _) (Nat.zero_le _) ⟨by rw [e9], rfl, rfl, rfl, rfl⟩
set_option maxHeartbeats 4000000 in
set_option maxRecDepth 100000 in
theorem c_X1_lendOut {l : Launch} (hfl : l.stackTraces = false) {sz : Nat} {sk : pb_Sk} {rf : pb_Rf} {sg : pb_Sg} {c i lo hi : Nat} {x : Int32} (hc : pb_crews sk rf c) (hi5 : i < 5) (hlo : lo ≤ hi) (hhi : hi < 400) : pb_Met l mX1_lendOut 1 0 0 [.ref c, .int (nI i), .int x, .int (nI lo), .int (nI hi)] sz sk rf sg (pb_is none sz sk rf (pb_up (pb_fillN sg (c + 3 + i) lo x (hi + 1 - lo)) c 2 ((pb_fillN sg (c + 3 + i) lo x (hi + 1 - lo)) c 2 + nI 1))) := by
  refine pb_start hfl (by decide +kernel) rfl (pb_c1 rfl) (Nat.le_of_ble_eq_true rfl) (fun F hF h hQ => ?_)
  subst hF
  show pv F 0 0 sz sk rf sg 0 [some (.ref c), some (.int (nI i)), some (.int x), some (.int (nI lo)), some (.int (nI hi)), none] []
  obtain ⟨hc0, hc1, hc2, hc3, hc4, hc5, hc6⟩ := id hc
  have hr := hc6 i hi5
  refine v_iload_n h (i := 3) dX1_lendOut_0 (q := 1) rfl rfl rfl ?_
  refine v_istore h dX1_lendOut_1 (q := 3) rfl (Nat.le_of_ble_eq_true rfl) rfl ?_
  have lpb : ∀ (jb ib : Nat), ib + jb = (hi + 1 - lo) → pv F 0 0 sz sk rf (pb_fillN sg (c + 3 + i) lo x ib) 3 [some (.ref c), some (.int (nI i)), some (.int x), some (.int (nI lo)), some (.int (nI hi)), some (.int (nI (lo + ib)))] [] := by
    intro jb
    induction jb with
    | zero =>
      intro ib  hib
      obtain rfl : ib = (hi + 1 - lo) := by omega
      refine v_iload h dX1_lendOut_3 (q := 5) rfl rfl ?_
      refine v_iload h dX1_lendOut_5 (q := 7) rfl rfl ?_
      refine v_icmp_gt h dX1_lendOut_7 (q := 10) rfl (tgt := 26) (by decide) (fun c1 => ?_) (fun c1 => absurd (nI_lt (by omega) (by omega)) c1)
      refine v_aload_n h (i := 0) dX1_lendOut_26 (q := 27) rfl rfl rfl ?_
      refine v_dup h dX1_lendOut_27 (q := 28) rfl rfl ?_
      refine v_geti h fl_X1_20 (by assumption) rfl dX1_lendOut_28 (q := 31) rfl ?_
      refine v_iconst h (v := nI 1) dX1_lendOut_31 (q := 32) rfl (by decide +kernel) ?_
      refine v_iadd h dX1_lendOut_32 (q := 33) rfl ?_
      refine v_puti h fl_X1_20 (by assumption) rfl rfl dX1_lendOut_33 (q := 36) rfl ?_
      refine v_vret h hQ rfl dX1_lendOut_36 (Nat.zero_le _) (Nat.zero_le _) ⟨rfl, rfl, rfl, rfl, rfl⟩
    | succ jb ihb =>
      intro ib  hib
      have hi2b : ib < (hi + 1 - lo) := by omega
      refine v_iload h dX1_lendOut_3 (q := 5) rfl rfl ?_
      refine v_iload h dX1_lendOut_5 (q := 7) rfl rfl ?_
      refine v_icmp_gt h dX1_lendOut_7 (q := 10) rfl (tgt := 26) (by decide) (fun c2 => absurd c2 (nI_nlt (by omega) (by omega))) (fun c2 => ?_)
      refine v_aload_n h (i := 0) dX1_lendOut_10 (q := 11) rfl rfl rfl ?_
      refine v_getr h fl_X1_17 (by assumption) rfl (by assumption) dX1_lendOut_11 (q := 14) rfl ?_
      refine v_iload_n h (i := 1) dX1_lendOut_14 (q := 15) rfl rfl rfl ?_
      refine v_aald5 h (by assumption) rfl (by first | assumption | omega) (by decide) (by rw [hc5 i hi5]) dX1_lendOut_15 (q := 16) rfl ?_
      refine v_iload h dX1_lendOut_16 (q := 18) rfl rfl ?_
      refine v_iload_n h (i := 2) dX1_lendOut_18 (q := 19) rfl rfl rfl ?_
      refine v_iast h (by assumption) rfl (by first | assumption | omega) (by decide) dX1_lendOut_19 (q := 20) rfl ?_
      refine v_iinc h dX1_lendOut_20 (q := 23) rfl rfl pb_inc rfl ?_
      refine v_goto h dX1_lendOut_23 (tgt := 3) (by decide) ?_
      exact ihb (ib + 1) (by omega)
  exact lpb (hi + 1 - lo) 0 (by omega)
set_option maxHeartbeats 4000000 in
set_option maxRecDepth 100000 in
theorem c_J7_fill_53178 {l : Launch} (hfl : l.stackTraces = false) {sz : Nat} {sk : pb_Sk} {rf : pb_Rf} {sg : pb_Sg} {a m : Nat} {x : Int32} (ha : sk a = (1, m)) (hm : m ≤ 100000) : pb_Met l mJ7_fill_53178 1 0 0 [.ref a, .int x] sz sk rf sg (pb_is none sz sk rf (pb_fillN sg a 0 x m)) := by
  refine pb_start hfl (by decide +kernel) rfl (pb_c1 rfl) (Nat.le_of_ble_eq_true rfl) (fun F hF h hQ => ?_)
  subst hF
  show pv F 0 0 sz sk rf sg 0 [some (.ref a), some (.int x), none, none] []
  refine v_iconst h (v := nI 0) dJ7_fill_53178_0 (q := 1) rfl (by decide +kernel) ?_
  refine v_istore_n h (i := 2) dJ7_fill_53178_1 (q := 2) rfl rfl (Nat.le_of_ble_eq_true rfl) rfl ?_
  refine v_aload_n h (i := 0) dJ7_fill_53178_2 (q := 3) rfl rfl rfl ?_
  refine v_alen h (by assumption) (by decide) dJ7_fill_53178_3 (q := 4) rfl ?_
  refine v_istore_n h (i := 3) dJ7_fill_53178_4 (q := 5) rfl rfl (Nat.le_of_ble_eq_true rfl) rfl ?_
  have lp : ∀ (j i : Nat), i + j = m → pv F 0 0 sz sk rf (pb_fillN sg a 0 x i) 5 [some (.ref a), some (.int x), some (.int (nI i)), some (.int (nI m))] [] := by
    intro j
    induction j with
    | zero =>
      intro i  hi
      obtain rfl : i = m := by omega
      refine v_iload_n h (i := 2) dJ7_fill_53178_5 (q := 6) rfl rfl rfl ?_
      refine v_iload_n h (i := 3) dJ7_fill_53178_6 (q := 7) rfl rfl rfl ?_
      refine v_icmp_ge h dJ7_fill_53178_7 (q := 10) rfl (tgt := 20) (by decide) (fun c1 => ?_) (fun c1 => pb_kle (Nat.le_refl _) (by omega) c1)
      refine v_vret h hQ rfl dJ7_fill_53178_20 (Nat.zero_le _) (Nat.zero_le _) ⟨rfl, rfl, rfl, rfl, rfl⟩
    | succ j ih =>
      intro i  hi
      have hi2 : i < m := by omega
      refine v_iload_n h (i := 2) dJ7_fill_53178_5 (q := 6) rfl rfl rfl ?_
      refine v_iload_n h (i := 3) dJ7_fill_53178_6 (q := 7) rfl rfl rfl ?_
      refine v_icmp_ge h dJ7_fill_53178_7 (q := 10) rfl (tgt := 20) (by decide) (fun c2 => pb_kge hi2 (by omega) c2) (fun c2 => ?_)
      refine v_aload_n h (i := 0) dJ7_fill_53178_10 (q := 11) rfl rfl rfl ?_
      refine v_iload_n h (i := 2) dJ7_fill_53178_11 (q := 12) rfl rfl rfl ?_
      refine v_iload_n h (i := 1) dJ7_fill_53178_12 (q := 13) rfl rfl rfl ?_
      refine v_iast h ha (show nI i = nI (0 + i) by rw [Nat.zero_add]) (by omega) (by omega) dJ7_fill_53178_13 (q := 14) rfl ?_
      refine v_iinc h dJ7_fill_53178_14 (q := 17) rfl rfl pb_inc rfl ?_
      refine v_goto h dJ7_fill_53178_17 (tgt := 5) (by decide) ?_
      exact ih (i + 1) (by omega)
  exact lp m 0 (by omega)
def pb_us (x y : Int32) : Int32 := (x.toUInt32 >>> (y.toUInt32 &&& Int32.toUInt32 31)).toInt32
def pb_bc1 (x : Int32) : Int32 := x - (pb_us x (nI 1) &&& 1431655765)
def pb_bc2 (x : Int32) : Int32 := (x &&& 858993459) + (pb_us x (nI 2) &&& 858993459)
def pb_bc3 (x : Int32) : Int32 := (x + pb_us x (nI 4)) &&& 252645135
def pb_bc4 (x : Int32) : Int32 := x + pb_us x (nI 8)
def pb_bc5 (x : Int32) : Int32 := x + pb_us x (nI 16)
def pb_bc (x : Int32) : Int32 := pb_bc5 (pb_bc4 (pb_bc3 (pb_bc2 (pb_bc1 x)))) &&& nI 63
set_option maxHeartbeats 4000000 in
set_option maxRecDepth 100000 in
theorem c_J6_bitCount_0f7a4 {l : Launch} (hfl : l.stackTraces = false) {sz : Nat} {sk : pb_Sk} {rf : pb_Rf} {sg : pb_Sg} {x : Int32} : pb_Met l mJ6_bitCount_0f7a4 1 0 0 [.int x] sz sk rf sg (pb_is (some (.int (pb_bc x))) sz sk rf sg) := by
  refine pb_start hfl (by decide +kernel) rfl (pb_c1 rfl) (Nat.le_of_ble_eq_true rfl) (fun F hF h hQ => ?_)
  subst hF
  show pv F 0 0 sz sk rf sg 0 [some (.int x)] []
  refine v_iload_n h (i := 0) dJ6_bitCount_0f7a4_0 (q := 1) rfl rfl rfl ?_
  refine v_iload_n h (i := 0) dJ6_bitCount_0f7a4_1 (q := 2) rfl rfl rfl ?_
  refine v_iconst h (v := nI 1) dJ6_bitCount_0f7a4_2 (q := 3) rfl (by decide +kernel) ?_
  refine v_iushr h dJ6_bitCount_0f7a4_3 (q := 4) rfl rfl ?_
  refine v_ldcw h dJ6_bitCount_0f7a4_4 (q := 7) rfl tw795 ?_
  refine v_iand h dJ6_bitCount_0f7a4_7 (q := 8) rfl ?_
  refine v_isub h dJ6_bitCount_0f7a4_8 (q := 9) rfl ?_
  refine v_istore_n h (i := 0) dJ6_bitCount_0f7a4_9 (q := 10) rfl rfl (Nat.le_of_ble_eq_true rfl) rfl ?_
  refine v_iload_n h (i := 0) dJ6_bitCount_0f7a4_10 (q := 11) rfl rfl rfl ?_
  refine v_ldcw h dJ6_bitCount_0f7a4_11 (q := 14) rfl tw796 ?_
  refine v_iand h dJ6_bitCount_0f7a4_14 (q := 15) rfl ?_
  refine v_iload_n h (i := 0) dJ6_bitCount_0f7a4_15 (q := 16) rfl rfl rfl ?_
  refine v_iconst h (v := nI 2) dJ6_bitCount_0f7a4_16 (q := 17) rfl (by decide +kernel) ?_
  refine v_iushr h dJ6_bitCount_0f7a4_17 (q := 18) rfl rfl ?_
  refine v_ldcw h dJ6_bitCount_0f7a4_18 (q := 21) rfl tw796 ?_
  refine v_iand h dJ6_bitCount_0f7a4_21 (q := 22) rfl ?_
  refine v_iadd h dJ6_bitCount_0f7a4_22 (q := 23) rfl ?_
  refine v_istore_n h (i := 0) dJ6_bitCount_0f7a4_23 (q := 24) rfl rfl (Nat.le_of_ble_eq_true rfl) rfl ?_
  refine v_iload_n h (i := 0) dJ6_bitCount_0f7a4_24 (q := 25) rfl rfl rfl ?_
  refine v_iload_n h (i := 0) dJ6_bitCount_0f7a4_25 (q := 26) rfl rfl rfl ?_
  refine v_iconst h (v := nI 4) dJ6_bitCount_0f7a4_26 (q := 27) rfl (by decide +kernel) ?_
  refine v_iushr h dJ6_bitCount_0f7a4_27 (q := 28) rfl rfl ?_
  refine v_iadd h dJ6_bitCount_0f7a4_28 (q := 29) rfl ?_
  refine v_ldcw h dJ6_bitCount_0f7a4_29 (q := 32) rfl tw797 ?_
  refine v_iand h dJ6_bitCount_0f7a4_32 (q := 33) rfl ?_
  refine v_istore_n h (i := 0) dJ6_bitCount_0f7a4_33 (q := 34) rfl rfl (Nat.le_of_ble_eq_true rfl) rfl ?_
  refine v_iload_n h (i := 0) dJ6_bitCount_0f7a4_34 (q := 35) rfl rfl rfl ?_
  refine v_iload_n h (i := 0) dJ6_bitCount_0f7a4_35 (q := 36) rfl rfl rfl ?_
  refine v_bipush h (v := nI 8) dJ6_bitCount_0f7a4_36 (q := 38) rfl (by decide +kernel) ?_
  refine v_iushr h dJ6_bitCount_0f7a4_38 (q := 39) rfl rfl ?_
  refine v_iadd h dJ6_bitCount_0f7a4_39 (q := 40) rfl ?_
  refine v_istore_n h (i := 0) dJ6_bitCount_0f7a4_40 (q := 41) rfl rfl (Nat.le_of_ble_eq_true rfl) rfl ?_
  refine v_iload_n h (i := 0) dJ6_bitCount_0f7a4_41 (q := 42) rfl rfl rfl ?_
  refine v_iload_n h (i := 0) dJ6_bitCount_0f7a4_42 (q := 43) rfl rfl rfl ?_
  refine v_bipush h (v := nI 16) dJ6_bitCount_0f7a4_43 (q := 45) rfl (by decide +kernel) ?_
  refine v_iushr h dJ6_bitCount_0f7a4_45 (q := 46) rfl rfl ?_
  refine v_iadd h dJ6_bitCount_0f7a4_46 (q := 47) rfl ?_
  refine v_istore_n h (i := 0) dJ6_bitCount_0f7a4_47 (q := 48) rfl rfl (Nat.le_of_ble_eq_true rfl) rfl ?_
  refine v_iload_n h (i := 0) dJ6_bitCount_0f7a4_48 (q := 49) rfl rfl rfl ?_
  refine v_bipush h (v := nI 63) dJ6_bitCount_0f7a4_49 (q := 51) rfl (by decide +kernel) ?_
  refine v_iand h dJ6_bitCount_0f7a4_51 (q := 52) rfl ?_
  refine v_iret h hQ rfl rfl dJ6_bitCount_0f7a4_52 (Nat.zero_le _) (Nat.zero_le _) ⟨rfl, rfl, rfl, rfl, rfl⟩
def pb_ways (sk : pb_Sk) (rf : pb_Rf) (w : Nat) : Prop := sk w = (12, 0) ∧ rf w 0 = some (w + 1) ∧ rf w 1 = some (w + 2) ∧ sk (w + 1) = (1, 16) ∧ sk (w + 2) = (1, 16)
def pb_mx (x y : Int32) : Int32 := if x < y then y else x
theorem pb_b_or (a b : Bool) : pb_b a ||| pb_b b = pb_b (a || b) := by cases a <;> cases b <;> decide
/-- one need of a task: the memory, and whether one grew -/
def pb_str1 (sg : pb_Sg) (w p t k : Nat) : pb_Sg :=
  let a1 := pb_up sg (w + 2) t (pb_mx (sg (w + 2) t) (sg (w + 2) k + sg (p + 1) k))
  pb_up a1 (w + 1) k (pb_mx (a1 (w + 1) k) (sg (p + 1) k + sg (w + 1) t))
def pb_grw (sg : pb_Sg) (w p t k : Nat) : Bool := decide (sg (w + 2) t < sg (w + 2) k + sg (p + 1) k) || decide (sg (w + 1) k < sg (p + 1) k + sg (w + 1) t)
def pb_strN (sg : pb_Sg) (w p t : Nat) : Nat → pb_Sg × Bool
  | 0 => (sg, false)
  | n + 1 => if pb_in ((pb_strN sg w p t n).1 (p + 4) t) n = true then (pb_str1 (pb_strN sg w p t n).1 w p t n, (pb_strN sg w p t n).2 || pb_grw (pb_strN sg w p t n).1 w p t n) else pb_strN sg w p t n
set_option maxHeartbeats 4000000 in
set_option maxRecDepth 100000 in
theorem c_X6_stretch {l : Launch} (hfl : l.stackTraces = false) {sz : Nat} {sk : pb_Sk} {rf : pb_Rf} {sg : pb_Sg} {w p t : Nat} (hw : pb_ways sk rf w) (hp : pb_plan sk rf p) (ht : t < 16) : pb_Met l mX6_stretch 2 0 0 [.ref w, .ref p, .int (nI t)] sz sk rf sg (pb_is (some (.int (pb_b (pb_strN sg w p t 16).2))) sz sk rf ((pb_strN sg w p t 16).1)) := by
  refine pb_start hfl (by decide +kernel) rfl (pb_c1 rfl) (Nat.le_of_ble_eq_true rfl) (fun F hF h hQ => ?_)
  subst hF
  show pv F 0 0 sz sk rf sg 0 [some (.ref w), some (.ref p), some (.int (nI t)), none, none, none, none] []
  obtain ⟨hw0, hw1, hw2, hw3, hw4⟩ := id hw
  obtain ⟨hp0, hp1, hp2, hp3, hp4, hp5, hp6, hp7, hp8⟩ := id hp
  refine v_iconst h (v := nI 0) dX6_stretch_0 (q := 1) rfl (by decide +kernel) ?_
  refine v_istore_n h (i := 3) dX6_stretch_1 (q := 2) rfl rfl (Nat.le_of_ble_eq_true rfl) rfl ?_
  refine v_iconst h (v := nI 0) dX6_stretch_2 (q := 3) rfl (by decide +kernel) ?_
  refine v_istore h dX6_stretch_3 (q := 5) rfl (Nat.le_of_ble_eq_true rfl) rfl ?_
  have lp : ∀ (j i : Nat), i + j = 16 → pv F 0 0 sz sk rf (pb_strN sg w p t i).1 5 [some (.ref w), some (.ref p), some (.int (nI t)), some (.int (pb_b (pb_strN sg w p t i).2)), some (.int (nI i)), none, none] [] := by
    intro j
    induction j with
    | zero =>
      intro i  hi
      obtain rfl : i = 16 := by omega
      refine v_iload h dX6_stretch_5 (q := 7) rfl rfl ?_
      refine v_bipush h (v := nI 16) dX6_stretch_7 (q := 9) rfl (by decide +kernel) ?_
      refine v_icmp_ge h dX6_stretch_9 (q := 12) rfl (tgt := 132) (by decide) (fun c1 => ?_) (fun c1 => pb_kle (Nat.le_refl _) (by decide) c1)
      refine v_iload_n h (i := 3) dX6_stretch_132 (q := 133) rfl rfl rfl ?_
      refine v_iret h hQ rfl (by first | exact rfl | exact pb_b_nar _) dX6_stretch_133 (Nat.zero_le _) (Nat.zero_le _) ⟨rfl, rfl, rfl, rfl, rfl⟩
    | succ j ih =>
      intro i  hi
      have hi2 : i < 16 := by omega
      refine v_iload h dX6_stretch_5 (q := 7) rfl rfl ?_
      refine v_bipush h (v := nI 16) dX6_stretch_7 (q := 9) rfl (by decide +kernel) ?_
      refine v_icmp_ge h dX6_stretch_9 (q := 12) rfl (tgt := 132) (by decide) (fun c2 => pb_kge hi2 (by decide) c2) (fun c2 => ?_)
      refine v_aload_n h (i := 1) dX6_stretch_12 (q := 13) rfl rfl rfl ?_
      refine v_getr h fl_X6_37 (by assumption) rfl (by assumption) dX6_stretch_13 (q := 16) rfl ?_
      refine v_iload_n h (i := 2) dX6_stretch_16 (q := 17) rfl rfl rfl ?_
      refine v_iald h (by assumption) rfl (by first | assumption | omega) (by decide) dX6_stretch_17 (q := 18) rfl ?_
      refine v_iload h dX6_stretch_18 (q := 20) rfl rfl ?_
      refine v_callSN1 h (c_X7_contains hfl (show i < 32 by omega)) kX7_contains rfl tw617 rfl rfl (by simp [Value.category]) (by decide) (Nat.zero_le _) (Nat.zero_le _) rfl dX6_stretch_20 (q := 23) rfl ?_
      refine v_if_eq h dX6_stretch_23 (q := 26) rfl (tgt := 126) (by decide) (fun c3 => ?_) (fun c3 => ?_)
      · skip
        have e8 := pb_b_0.mp c3
        have e9 : pb_strN sg w p t (i + 1) = (pb_strN sg w p t i) := if_neg (by rw [e8]; decide)
        have h9 := ih (i + 1) (by omega)
        rw [e9] at h9
        refine v_iinc h dX6_stretch_126 (q := 129) rfl rfl pb_inc rfl ?_
        refine v_goto h dX6_stretch_129 (tgt := 5) (by decide) ?_
        refine v_wk (by simp [pb_wk]) h9
      · skip
        have e8 := pb_ne_f (fun q => c3 (pb_b_0.mpr q))
        have e9 : pb_strN sg w p t (i + 1) = (pb_str1 (pb_strN sg w p t i).1 w p t i, (pb_strN sg w p t i).2 || pb_grw (pb_strN sg w p t i).1 w p t i) := if_pos e8
        have h9 := ih (i + 1) (by omega)
        rw [e9] at h9
        refine v_aload_n h (i := 0) dX6_stretch_26 (q := 27) rfl rfl rfl ?_
        refine v_getr h fl_X6_15 (by assumption) rfl (by assumption) dX6_stretch_27 (q := 30) rfl ?_
        refine v_iload h dX6_stretch_30 (q := 32) rfl rfl ?_
        refine v_iald h (by assumption) rfl (by first | assumption | omega) (by decide) dX6_stretch_32 (q := 33) rfl ?_
        refine v_aload_n h (i := 1) dX6_stretch_33 (q := 34) rfl rfl rfl ?_
        refine v_getr h fl_X6_18 (by assumption) rfl (by assumption) dX6_stretch_34 (q := 37) rfl ?_
        refine v_iload h dX6_stretch_37 (q := 39) rfl rfl ?_
        refine v_iald h (by assumption) rfl (by first | assumption | omega) (by decide) dX6_stretch_39 (q := 40) rfl ?_
        refine v_iadd h dX6_stretch_40 (q := 41) rfl ?_
        refine v_istore h dX6_stretch_41 (q := 43) rfl (Nat.le_of_ble_eq_true rfl) rfl ?_
        refine v_aload_n h (i := 1) dX6_stretch_43 (q := 44) rfl rfl rfl ?_
        refine v_getr h fl_X6_18 (by assumption) rfl (by assumption) dX6_stretch_44 (q := 47) rfl ?_
        refine v_iload h dX6_stretch_47 (q := 49) rfl rfl ?_
        refine v_iald h (by assumption) rfl (by first | assumption | omega) (by decide) dX6_stretch_49 (q := 50) rfl ?_
        refine v_aload_n h (i := 0) dX6_stretch_50 (q := 51) rfl rfl rfl ?_
        refine v_getr h fl_X6_9 (by assumption) rfl (by assumption) dX6_stretch_51 (q := 54) rfl ?_
        refine v_iload_n h (i := 2) dX6_stretch_54 (q := 55) rfl rfl rfl ?_
        refine v_iald h (by assumption) rfl (by first | assumption | omega) (by decide) dX6_stretch_55 (q := 56) rfl ?_
        refine v_iadd h dX6_stretch_56 (q := 57) rfl ?_
        refine v_istore h dX6_stretch_57 (q := 59) rfl (Nat.le_of_ble_eq_true rfl) rfl ?_
        refine v_iload_n h (i := 3) dX6_stretch_59 (q := 60) rfl rfl rfl ?_
        refine v_iload h dX6_stretch_60 (q := 62) rfl rfl ?_
        refine v_aload_n h (i := 0) dX6_stretch_62 (q := 63) rfl rfl rfl ?_
        refine v_getr h fl_X6_15 (by assumption) rfl (by assumption) dX6_stretch_63 (q := 66) rfl ?_
        refine v_iload_n h (i := 2) dX6_stretch_66 (q := 67) rfl rfl rfl ?_
        refine v_iald h (by assumption) rfl (by first | assumption | omega) (by decide) dX6_stretch_67 (q := 68) rfl ?_
        refine v_icmp_gt h dX6_stretch_68 (q := 71) rfl (tgt := 83) (by decide) (fun cA => ?_) (fun cA => ?_)
        · skip
          have e7 : pb_b (pb_grw (pb_strN sg w p t i).1 w p t i) = nI 1 := by unfold pb_grw; rw [decide_eq_true cA]; rfl
          refine v_iconst h (v := nI 1) dX6_stretch_83 (q := 84) rfl (by decide +kernel) ?_
          refine v_goto h dX6_stretch_84 (tgt := 88) (by decide) ?_
          rw [← e7]
          refine v_ior h dX6_stretch_88 (q := 89) rfl ?_
          rw [pb_b_or]
          refine v_istore_n h (i := 3) dX6_stretch_89 (q := 90) rfl rfl (Nat.le_of_ble_eq_true rfl) rfl ?_
          refine v_aload_n h (i := 0) dX6_stretch_90 (q := 91) rfl rfl rfl ?_
          refine v_getr h fl_X6_15 (by assumption) rfl (by assumption) dX6_stretch_91 (q := 94) rfl ?_
          refine v_iload_n h (i := 2) dX6_stretch_94 (q := 95) rfl rfl rfl ?_
          refine v_aload_n h (i := 0) dX6_stretch_95 (q := 96) rfl rfl rfl ?_
          refine v_getr h fl_X6_15 (by assumption) rfl (by assumption) dX6_stretch_96 (q := 99) rfl ?_
          refine v_iload_n h (i := 2) dX6_stretch_99 (q := 100) rfl rfl rfl ?_
          refine v_iald h (by assumption) rfl (by first | assumption | omega) (by decide) dX6_stretch_100 (q := 101) rfl ?_
          refine v_iload h dX6_stretch_101 (q := 103) rfl rfl ?_
          refine v_max h tw618 tw619 tw62 tw620 (by decide) (by simp [Value.category]) (Nat.zero_le _) (Nat.zero_le _) rfl dX6_stretch_103 (q := 106) rfl ?_
          refine v_iast h (by assumption) rfl (by first | assumption | omega) (by decide) dX6_stretch_106 (q := 107) rfl ?_
          refine v_aload_n h (i := 0) dX6_stretch_107 (q := 108) rfl rfl rfl ?_
          refine v_getr h fl_X6_9 (by assumption) rfl (by assumption) dX6_stretch_108 (q := 111) rfl ?_
          refine v_iload h dX6_stretch_111 (q := 113) rfl rfl ?_
          refine v_aload_n h (i := 0) dX6_stretch_113 (q := 114) rfl rfl rfl ?_
          refine v_getr h fl_X6_9 (by assumption) rfl (by assumption) dX6_stretch_114 (q := 117) rfl ?_
          refine v_iload h dX6_stretch_117 (q := 119) rfl rfl ?_
          refine v_iald h (by assumption) rfl (by first | assumption | omega) (by decide) dX6_stretch_119 (q := 120) rfl ?_
          refine v_iload h dX6_stretch_120 (q := 122) rfl rfl ?_
          refine v_max h tw618 tw619 tw62 tw620 (by decide) (by simp [Value.category]) (Nat.zero_le _) (Nat.zero_le _) rfl dX6_stretch_122 (q := 125) rfl ?_
          refine v_iast h (by assumption) rfl (by first | assumption | omega) (by decide) dX6_stretch_125 (q := 126) rfl ?_
          refine v_iinc h dX6_stretch_126 (q := 129) rfl rfl pb_inc rfl ?_
          refine v_goto h dX6_stretch_129 (tgt := 5) (by decide) ?_
          refine v_wk (by simp [pb_wk]) h9
        · skip
          refine v_iload h dX6_stretch_71 (q := 73) rfl rfl ?_
          refine v_aload_n h (i := 0) dX6_stretch_73 (q := 74) rfl rfl rfl ?_
          refine v_getr h fl_X6_9 (by assumption) rfl (by assumption) dX6_stretch_74 (q := 77) rfl ?_
          refine v_iload h dX6_stretch_77 (q := 79) rfl rfl ?_
          refine v_iald h (by assumption) rfl (by first | assumption | omega) (by decide) dX6_stretch_79 (q := 80) rfl ?_
          refine v_icmp_le h dX6_stretch_80 (q := 83) rfl (tgt := 87) (by decide) (fun c5 => ?_) (fun c5 => ?_)
          · skip
            have e7 : pb_b (pb_grw (pb_strN sg w p t i).1 w p t i) = nI 0 := by unfold pb_grw; rw [decide_eq_false cA, decide_eq_false (Int32.not_lt.mpr c5)]; rfl
            refine v_iconst h (v := nI 0) dX6_stretch_87 (q := 88) rfl (by decide +kernel) ?_
            rw [← e7]
            refine v_ior h dX6_stretch_88 (q := 89) rfl ?_
            rw [pb_b_or]
            refine v_istore_n h (i := 3) dX6_stretch_89 (q := 90) rfl rfl (Nat.le_of_ble_eq_true rfl) rfl ?_
            refine v_aload_n h (i := 0) dX6_stretch_90 (q := 91) rfl rfl rfl ?_
            refine v_getr h fl_X6_15 (by assumption) rfl (by assumption) dX6_stretch_91 (q := 94) rfl ?_
            refine v_iload_n h (i := 2) dX6_stretch_94 (q := 95) rfl rfl rfl ?_
            refine v_aload_n h (i := 0) dX6_stretch_95 (q := 96) rfl rfl rfl ?_
            refine v_getr h fl_X6_15 (by assumption) rfl (by assumption) dX6_stretch_96 (q := 99) rfl ?_
            refine v_iload_n h (i := 2) dX6_stretch_99 (q := 100) rfl rfl rfl ?_
            refine v_iald h (by assumption) rfl (by first | assumption | omega) (by decide) dX6_stretch_100 (q := 101) rfl ?_
            refine v_iload h dX6_stretch_101 (q := 103) rfl rfl ?_
            refine v_max h tw618 tw619 tw62 tw620 (by decide) (by simp [Value.category]) (Nat.zero_le _) (Nat.zero_le _) rfl dX6_stretch_103 (q := 106) rfl ?_
            refine v_iast h (by assumption) rfl (by first | assumption | omega) (by decide) dX6_stretch_106 (q := 107) rfl ?_
            refine v_aload_n h (i := 0) dX6_stretch_107 (q := 108) rfl rfl rfl ?_
            refine v_getr h fl_X6_9 (by assumption) rfl (by assumption) dX6_stretch_108 (q := 111) rfl ?_
            refine v_iload h dX6_stretch_111 (q := 113) rfl rfl ?_
            refine v_aload_n h (i := 0) dX6_stretch_113 (q := 114) rfl rfl rfl ?_
            refine v_getr h fl_X6_9 (by assumption) rfl (by assumption) dX6_stretch_114 (q := 117) rfl ?_
            refine v_iload h dX6_stretch_117 (q := 119) rfl rfl ?_
            refine v_iald h (by assumption) rfl (by first | assumption | omega) (by decide) dX6_stretch_119 (q := 120) rfl ?_
            refine v_iload h dX6_stretch_120 (q := 122) rfl rfl ?_
            refine v_max h tw618 tw619 tw62 tw620 (by decide) (by simp [Value.category]) (Nat.zero_le _) (Nat.zero_le _) rfl dX6_stretch_122 (q := 125) rfl ?_
            refine v_iast h (by assumption) rfl (by first | assumption | omega) (by decide) dX6_stretch_125 (q := 126) rfl ?_
            refine v_iinc h dX6_stretch_126 (q := 129) rfl rfl pb_inc rfl ?_
            refine v_goto h dX6_stretch_129 (tgt := 5) (by decide) ?_
            refine v_wk (by simp [pb_wk]) h9
          · skip
            have e7 : pb_b (pb_grw (pb_strN sg w p t i).1 w p t i) = nI 1 := by unfold pb_grw; rw [decide_eq_true (Int32.not_le.mp c5), Bool.or_true]; rfl
            refine v_iconst h (v := nI 1) dX6_stretch_83 (q := 84) rfl (by decide +kernel) ?_
            refine v_goto h dX6_stretch_84 (tgt := 88) (by decide) ?_
            rw [← e7]
            refine v_ior h dX6_stretch_88 (q := 89) rfl ?_
            rw [pb_b_or]
            refine v_istore_n h (i := 3) dX6_stretch_89 (q := 90) rfl rfl (Nat.le_of_ble_eq_true rfl) rfl ?_
            refine v_aload_n h (i := 0) dX6_stretch_90 (q := 91) rfl rfl rfl ?_
            refine v_getr h fl_X6_15 (by assumption) rfl (by assumption) dX6_stretch_91 (q := 94) rfl ?_
            refine v_iload_n h (i := 2) dX6_stretch_94 (q := 95) rfl rfl rfl ?_
            refine v_aload_n h (i := 0) dX6_stretch_95 (q := 96) rfl rfl rfl ?_
            refine v_getr h fl_X6_15 (by assumption) rfl (by assumption) dX6_stretch_96 (q := 99) rfl ?_
            refine v_iload_n h (i := 2) dX6_stretch_99 (q := 100) rfl rfl rfl ?_
            refine v_iald h (by assumption) rfl (by first | assumption | omega) (by decide) dX6_stretch_100 (q := 101) rfl ?_
            refine v_iload h dX6_stretch_101 (q := 103) rfl rfl ?_
            refine v_max h tw618 tw619 tw62 tw620 (by decide) (by simp [Value.category]) (Nat.zero_le _) (Nat.zero_le _) rfl dX6_stretch_103 (q := 106) rfl ?_
            refine v_iast h (by assumption) rfl (by first | assumption | omega) (by decide) dX6_stretch_106 (q := 107) rfl ?_
            refine v_aload_n h (i := 0) dX6_stretch_107 (q := 108) rfl rfl rfl ?_
            refine v_getr h fl_X6_9 (by assumption) rfl (by assumption) dX6_stretch_108 (q := 111) rfl ?_
            refine v_iload h dX6_stretch_111 (q := 113) rfl rfl ?_
            refine v_aload_n h (i := 0) dX6_stretch_113 (q := 114) rfl rfl rfl ?_
            refine v_getr h fl_X6_9 (by assumption) rfl (by assumption) dX6_stretch_114 (q := 117) rfl ?_
            refine v_iload h dX6_stretch_117 (q := 119) rfl rfl ?_
            refine v_iald h (by assumption) rfl (by first | assumption | omega) (by decide) dX6_stretch_119 (q := 120) rfl ?_
            refine v_iload h dX6_stretch_120 (q := 122) rfl rfl ?_
            refine v_max h tw618 tw619 tw62 tw620 (by decide) (by simp [Value.category]) (Nat.zero_le _) (Nat.zero_le _) rfl dX6_stretch_122 (q := 125) rfl ?_
            refine v_iast h (by assumption) rfl (by first | assumption | omega) (by decide) dX6_stretch_125 (q := 126) rfl ?_
            refine v_iinc h dX6_stretch_126 (q := 129) rfl rfl pb_inc rfl ?_
            refine v_goto h dX6_stretch_129 (tgt := 5) (by decide) ?_
            refine v_wk (by simp [pb_wk]) h9
  exact lp 16 0 (by omega)
set_option maxHeartbeats 4000000 in
set_option maxRecDepth 100000 in
theorem c_X6_slackOf {l : Launch} (hfl : l.stackTraces = false) {sz : Nat} {sk : pb_Sk} {rf : pb_Rf} {sg : pb_Sg} {w t : Nat} (hw : pb_ways sk rf w) (ht : t < 16) : pb_Met l mX6_slackOf 1 0 0 [.ref w, .int (nI t)] sz sk rf sg (pb_is (some (.int (sg w 2 - sg (w + 2) t - sg (w + 1) t))) sz sk rf sg) := by
  refine pb_start hfl (by decide +kernel) rfl (pb_c1 rfl) (Nat.le_of_ble_eq_true rfl) (fun F hF h hQ => ?_)
  subst hF
  show pv F 0 0 sz sk rf sg 0 [some (.ref w), some (.int (nI t))] []
  obtain ⟨hw0, hw1, hw2, hw3, hw4⟩ := id hw
  refine v_aload_n h (i := 0) dX6_slackOf_0 (q := 1) rfl rfl rfl ?_
  refine v_geti h fl_X6_27 (by assumption) rfl dX6_slackOf_1 (q := 4) rfl ?_
  refine v_aload_n h (i := 0) dX6_slackOf_4 (q := 5) rfl rfl rfl ?_
  refine v_getr h fl_X6_15 (by assumption) rfl (by assumption) dX6_slackOf_5 (q := 8) rfl ?_
  refine v_iload_n h (i := 1) dX6_slackOf_8 (q := 9) rfl rfl rfl ?_
  refine v_iald h (by assumption) rfl (by first | assumption | omega) (by decide) dX6_slackOf_9 (q := 10) rfl ?_
  refine v_isub h dX6_slackOf_10 (q := 11) rfl ?_
  refine v_aload_n h (i := 0) dX6_slackOf_11 (q := 12) rfl rfl rfl ?_
  refine v_getr h fl_X6_9 (by assumption) rfl (by assumption) dX6_slackOf_12 (q := 15) rfl ?_
  refine v_iload_n h (i := 1) dX6_slackOf_15 (q := 16) rfl rfl rfl ?_
  refine v_iald h (by assumption) rfl (by first | assumption | omega) (by decide) dX6_slackOf_16 (q := 17) rfl ?_
  refine v_isub h dX6_slackOf_17 (q := 18) rfl ?_
  refine v_iret h hQ rfl rfl dX6_slackOf_18 (Nat.zero_le _) (Nat.zero_le _) ⟨rfl, rfl, rfl, rfl, rfl⟩
