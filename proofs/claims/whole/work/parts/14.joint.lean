theorem dX3_join_0 : decode cX3_join 0 = .ok (.aload_n 0, 1) := by decide +kernel
theorem dX3_join_1 : decode cX3_join 1 = .ok (.iconst 0, 1) := by decide +kernel
theorem dX3_join_2 : decode cX3_join 2 = .ok (.putfield 18, 3) := by decide +kernel
theorem dX3_join_5 : decode cX3_join 5 = .ok (.aload_n 0, 1) := by decide +kernel
theorem dX3_join_6 : decode cX3_join 6 = .ok (.iconst 0, 1) := by decide +kernel
theorem dX3_join_7 : decode cX3_join 7 = .ok (.putfield 22, 3) := by decide +kernel
theorem dX3_join_10 : decode cX3_join 10 = .ok (.iconst 0, 1) := by decide +kernel
theorem dX3_join_11 : decode cX3_join 11 = .ok (.istore_n 3, 1) := by decide +kernel
theorem dX3_join_12 : decode cX3_join 12 = .ok (.iload_n 3, 1) := by decide +kernel
theorem dX3_join_13 : decode cX3_join 13 = .ok (.bipush 16, 2) := by decide +kernel
theorem dX3_join_15 : decode cX3_join 15 = .ok (.if_icmp .ge 111, 3) := by decide +kernel
theorem dX3_join_18 : decode cX3_join 18 = .ok (.aload_n 1, 1) := by decide +kernel
theorem dX3_join_19 : decode cX3_join 19 = .ok (.getfield 25, 3) := by decide +kernel
theorem dX3_join_22 : decode cX3_join 22 = .ok (.aload_n 2, 1) := by decide +kernel
theorem dX3_join_23 : decode cX3_join 23 = .ok (.getfield 25, 3) := by decide +kernel
theorem dX3_join_26 : decode cX3_join 26 = .ok (.aload_n 1, 1) := by decide +kernel
theorem dX3_join_27 : decode cX3_join 27 = .ok (.getfield 28, 3) := by decide +kernel
theorem dX3_join_30 : decode cX3_join 30 = .ok (.iload_n 3, 1) := by decide +kernel
theorem dX3_join_31 : decode cX3_join 31 = .ok (.invokestatic 31, 3) := by decide +kernel
theorem dX3_join_34 : decode cX3_join 34 = .ok (.ifCond .eq 69, 3) := by decide +kernel
theorem dX3_join_37 : decode cX3_join 37 = .ok (.aload_n 0, 1) := by decide +kernel
theorem dX3_join_38 : decode cX3_join 38 = .ok (.dup, 1) := by decide +kernel
theorem dX3_join_39 : decode cX3_join 39 = .ok (.getfield 18, 3) := by decide +kernel
theorem dX3_join_42 : decode cX3_join 42 = .ok (.iconst 1, 1) := by decide +kernel
theorem dX3_join_43 : decode cX3_join 43 = .ok (.iload_n 3, 1) := by decide +kernel
theorem dX3_join_44 : decode cX3_join 44 = .ok (.ishl, 1) := by decide +kernel
theorem dX3_join_45 : decode cX3_join 45 = .ok (.ior, 1) := by decide +kernel
theorem dX3_join_46 : decode cX3_join 46 = .ok (.putfield 18, 3) := by decide +kernel
theorem dX3_join_49 : decode cX3_join 49 = .ok (.aload_n 1, 1) := by decide +kernel
theorem dX3_join_50 : decode cX3_join 50 = .ok (.getfield 35, 3) := by decide +kernel
theorem dX3_join_53 : decode cX3_join 53 = .ok (.iload_n 3, 1) := by decide +kernel
theorem dX3_join_54 : decode cX3_join 54 = .ok (.iaload, 1) := by decide +kernel
theorem dX3_join_55 : decode cX3_join 55 = .ok (.iconst (-1), 1) := by decide +kernel
theorem dX3_join_56 : decode cX3_join 56 = .ok (.if_icmp .ne 15, 3) := by decide +kernel
theorem dX3_join_59 : decode cX3_join 59 = .ok (.aload_n 0, 1) := by decide +kernel
theorem dX3_join_60 : decode cX3_join 60 = .ok (.dup, 1) := by decide +kernel
theorem dX3_join_61 : decode cX3_join 61 = .ok (.getfield 22, 3) := by decide +kernel
theorem dX3_join_64 : decode cX3_join 64 = .ok (.iconst 1, 1) := by decide +kernel
theorem dX3_join_65 : decode cX3_join 65 = .ok (.iload_n 3, 1) := by decide +kernel
theorem dX3_join_66 : decode cX3_join 66 = .ok (.ishl, 1) := by decide +kernel
theorem dX3_join_67 : decode cX3_join 67 = .ok (.ior, 1) := by decide +kernel
theorem dX3_join_68 : decode cX3_join 68 = .ok (.putfield 22, 3) := by decide +kernel
theorem dX3_join_71 : decode cX3_join 71 = .ok (.aload_n 0, 1) := by decide +kernel
theorem dX3_join_72 : decode cX3_join 72 = .ok (.getfield 12, 3) := by decide +kernel
theorem dX3_join_75 : decode cX3_join 75 = .ok (.aload_n 1, 1) := by decide +kernel
theorem dX3_join_76 : decode cX3_join 76 = .ok (.getfield 35, 3) := by decide +kernel
theorem dX3_join_79 : decode cX3_join 79 = .ok (.iload_n 3, 1) := by decide +kernel
theorem dX3_join_80 : decode cX3_join 80 = .ok (.iaload, 1) := by decide +kernel
theorem dX3_join_81 : decode cX3_join 81 = .ok (.iconst 1, 1) := by decide +kernel
theorem dX3_join_82 : decode cX3_join 82 = .ok (.if_icmp .ne 10, 3) := by decide +kernel
theorem dX3_join_85 : decode cX3_join 85 = .ok (.aload_n 2, 1) := by decide +kernel
theorem dX3_join_86 : decode cX3_join 86 = .ok (.getfield 25, 3) := by decide +kernel
theorem dX3_join_89 : decode cX3_join 89 = .ok (.goto 7, 3) := by decide +kernel
theorem dX3_join_92 : decode cX3_join 92 = .ok (.aload_n 1, 1) := by decide +kernel
theorem dX3_join_93 : decode cX3_join 93 = .ok (.getfield 25, 3) := by decide +kernel
theorem dX3_join_96 : decode cX3_join 96 = .ok (.iload_n 3, 1) := by decide +kernel
theorem dX3_join_97 : decode cX3_join 97 = .ok (.invokevirtual 39, 3) := by decide +kernel
theorem dX3_join_100 : decode cX3_join 100 = .ok (.goto 20, 3) := by decide +kernel
theorem dX3_join_103 : decode cX3_join 103 = .ok (.aload_n 0, 1) := by decide +kernel
theorem dX3_join_104 : decode cX3_join 104 = .ok (.aload_n 1, 1) := by decide +kernel
theorem dX3_join_105 : decode cX3_join 105 = .ok (.getfield 25, 3) := by decide +kernel
theorem dX3_join_108 : decode cX3_join 108 = .ok (.aload_n 2, 1) := by decide +kernel
theorem dX3_join_109 : decode cX3_join 109 = .ok (.getfield 25, 3) := by decide +kernel
theorem dX3_join_112 : decode cX3_join 112 = .ok (.aload_n 1, 1) := by decide +kernel
theorem dX3_join_113 : decode cX3_join 113 = .ok (.getfield 28, 3) := by decide +kernel
theorem dX3_join_116 : decode cX3_join 116 = .ok (.iload_n 3, 1) := by decide +kernel
theorem dX3_join_117 : decode cX3_join 117 = .ok (.invokevirtual 43, 3) := by decide +kernel
theorem dX3_join_120 : decode cX3_join 120 = .ok (.iinc 3 1, 3) := by decide +kernel
theorem dX3_join_123 : decode cX3_join 123 = .ok (.goto (-111), 3) := by decide +kernel
theorem dX3_join_126 : decode cX3_join 126 = .ok (.return_, 1) := by decide +kernel
theorem dX3_clash_0 : decode cX3_clash 0 = .ok (.aload_n 0, 1) := by decide +kernel
theorem dX3_clash_1 : decode cX3_clash 1 = .ok (.aload_n 2, 1) := by decide +kernel
theorem dX3_clash_2 : decode cX3_clash 2 = .ok (.iload_n 3, 1) := by decide +kernel
theorem dX3_clash_3 : decode cX3_clash 3 = .ok (.invokevirtual 47, 3) := by decide +kernel
theorem dX3_clash_6 : decode cX3_clash 6 = .ok (.ifCond .ne 21, 3) := by decide +kernel
theorem dX3_clash_9 : decode cX3_clash 9 = .ok (.aload_n 1, 1) := by decide +kernel
theorem dX3_clash_10 : decode cX3_clash 10 = .ok (.aload_n 2, 1) := by decide +kernel
theorem dX3_clash_11 : decode cX3_clash 11 = .ok (.iload_n 3, 1) := by decide +kernel
theorem dX3_clash_12 : decode cX3_clash 12 = .ok (.invokevirtual 47, 3) := by decide +kernel
theorem dX3_clash_15 : decode cX3_clash 15 = .ok (.ifCond .ne 12, 3) := by decide +kernel
theorem dX3_clash_18 : decode cX3_clash 18 = .ok (.aload_n 0, 1) := by decide +kernel
theorem dX3_clash_19 : decode cX3_clash 19 = .ok (.aload_n 1, 1) := by decide +kernel
theorem dX3_clash_20 : decode cX3_clash 20 = .ok (.iload_n 3, 1) := by decide +kernel
theorem dX3_clash_21 : decode cX3_clash 21 = .ok (.invokevirtual 47, 3) := by decide +kernel
theorem dX3_clash_24 : decode cX3_clash 24 = .ok (.ifCond .eq 5, 3) := by decide +kernel
theorem dX3_clash_27 : decode cX3_clash 27 = .ok (.iconst 0, 1) := by decide +kernel
theorem dX3_clash_28 : decode cX3_clash 28 = .ok (.ireturn, 1) := by decide +kernel
theorem dX3_clash_29 : decode cX3_clash 29 = .ok (.aload_n 0, 1) := by decide +kernel
theorem dX3_clash_30 : decode cX3_clash 30 = .ok (.iload_n 3, 1) := by decide +kernel
theorem dX3_clash_31 : decode cX3_clash 31 = .ok (.invokevirtual 51, 3) := by decide +kernel
theorem dX3_clash_34 : decode cX3_clash 34 = .ok (.ifCond .eq 19, 3) := by decide +kernel
theorem dX3_clash_37 : decode cX3_clash 37 = .ok (.aload_n 1, 1) := by decide +kernel
theorem dX3_clash_38 : decode cX3_clash 38 = .ok (.iload_n 3, 1) := by decide +kernel
theorem dX3_clash_39 : decode cX3_clash 39 = .ok (.invokevirtual 51, 3) := by decide +kernel
theorem dX3_clash_42 : decode cX3_clash 42 = .ok (.ifCond .eq 11, 3) := by decide +kernel
theorem dX3_clash_45 : decode cX3_clash 45 = .ok (.aload_n 2, 1) := by decide +kernel
theorem dX3_clash_46 : decode cX3_clash 46 = .ok (.iload_n 3, 1) := by decide +kernel
theorem dX3_clash_47 : decode cX3_clash 47 = .ok (.invokevirtual 51, 3) := by decide +kernel
theorem dX3_clash_50 : decode cX3_clash 50 = .ok (.ifCond .ne 5, 3) := by decide +kernel
theorem dX3_clash_53 : decode cX3_clash 53 = .ok (.iconst 1, 1) := by decide +kernel
theorem dX3_clash_54 : decode cX3_clash 54 = .ok (.ireturn, 1) := by decide +kernel
theorem dX3_clash_55 : decode cX3_clash 55 = .ok (.aload_n 0, 1) := by decide +kernel
theorem dX3_clash_56 : decode cX3_clash 56 = .ok (.getfield 55, 3) := by decide +kernel
theorem dX3_clash_59 : decode cX3_clash 59 = .ok (.iload_n 3, 1) := by decide +kernel
theorem dX3_clash_60 : decode cX3_clash 60 = .ok (.iaload, 1) := by decide +kernel
theorem dX3_clash_61 : decode cX3_clash 61 = .ok (.aload_n 1, 1) := by decide +kernel
theorem dX3_clash_62 : decode cX3_clash 62 = .ok (.getfield 55, 3) := by decide +kernel
theorem dX3_clash_65 : decode cX3_clash 65 = .ok (.iload_n 3, 1) := by decide +kernel
theorem dX3_clash_66 : decode cX3_clash 66 = .ok (.iaload, 1) := by decide +kernel
theorem dX3_clash_67 : decode cX3_clash 67 = .ok (.aload_n 2, 1) := by decide +kernel
theorem dX3_clash_68 : decode cX3_clash 68 = .ok (.getfield 55, 3) := by decide +kernel
theorem dX3_clash_71 : decode cX3_clash 71 = .ok (.iload_n 3, 1) := by decide +kernel
theorem dX3_clash_72 : decode cX3_clash 72 = .ok (.iaload, 1) := by decide +kernel
theorem dX3_clash_73 : decode cX3_clash 73 = .ok (.invokestatic 58, 3) := by decide +kernel
theorem dX3_clash_76 : decode cX3_clash 76 = .ok (.ifCond .ne 51, 3) := by decide +kernel
theorem dX3_clash_79 : decode cX3_clash 79 = .ok (.aload_n 0, 1) := by decide +kernel
theorem dX3_clash_80 : decode cX3_clash 80 = .ok (.getfield 62, 3) := by decide +kernel
theorem dX3_clash_83 : decode cX3_clash 83 = .ok (.iload_n 3, 1) := by decide +kernel
theorem dX3_clash_84 : decode cX3_clash 84 = .ok (.iaload, 1) := by decide +kernel
theorem dX3_clash_85 : decode cX3_clash 85 = .ok (.aload_n 1, 1) := by decide +kernel
theorem dX3_clash_86 : decode cX3_clash 86 = .ok (.getfield 62, 3) := by decide +kernel
theorem dX3_clash_89 : decode cX3_clash 89 = .ok (.iload_n 3, 1) := by decide +kernel
theorem dX3_clash_90 : decode cX3_clash 90 = .ok (.iaload, 1) := by decide +kernel
theorem dX3_clash_91 : decode cX3_clash 91 = .ok (.aload_n 2, 1) := by decide +kernel
theorem dX3_clash_92 : decode cX3_clash 92 = .ok (.getfield 62, 3) := by decide +kernel
theorem dX3_clash_95 : decode cX3_clash 95 = .ok (.iload_n 3, 1) := by decide +kernel
theorem dX3_clash_96 : decode cX3_clash 96 = .ok (.iaload, 1) := by decide +kernel
theorem dX3_clash_97 : decode cX3_clash 97 = .ok (.invokestatic 58, 3) := by decide +kernel
theorem dX3_clash_100 : decode cX3_clash 100 = .ok (.ifCond .ne 27, 3) := by decide +kernel
theorem dX3_clash_103 : decode cX3_clash 103 = .ok (.aload_n 0, 1) := by decide +kernel
theorem dX3_clash_104 : decode cX3_clash 104 = .ok (.getfield 65, 3) := by decide +kernel
theorem dX3_clash_107 : decode cX3_clash 107 = .ok (.iload_n 3, 1) := by decide +kernel
theorem dX3_clash_108 : decode cX3_clash 108 = .ok (.iaload, 1) := by decide +kernel
theorem dX3_clash_109 : decode cX3_clash 109 = .ok (.aload_n 1, 1) := by decide +kernel
theorem dX3_clash_110 : decode cX3_clash 110 = .ok (.getfield 65, 3) := by decide +kernel
theorem dX3_clash_113 : decode cX3_clash 113 = .ok (.iload_n 3, 1) := by decide +kernel
theorem dX3_clash_114 : decode cX3_clash 114 = .ok (.iaload, 1) := by decide +kernel
theorem dX3_clash_115 : decode cX3_clash 115 = .ok (.aload_n 2, 1) := by decide +kernel
theorem dX3_clash_116 : decode cX3_clash 116 = .ok (.getfield 65, 3) := by decide +kernel
theorem dX3_clash_119 : decode cX3_clash 119 = .ok (.iload_n 3, 1) := by decide +kernel
theorem dX3_clash_120 : decode cX3_clash 120 = .ok (.iaload, 1) := by decide +kernel
theorem dX3_clash_121 : decode cX3_clash 121 = .ok (.invokestatic 58, 3) := by decide +kernel
theorem dX3_clash_124 : decode cX3_clash 124 = .ok (.ifCond .eq 7, 3) := by decide +kernel
theorem dX3_clash_127 : decode cX3_clash 127 = .ok (.iconst 1, 1) := by decide +kernel
theorem dX3_clash_128 : decode cX3_clash 128 = .ok (.goto 4, 3) := by decide +kernel
theorem dX3_clash_131 : decode cX3_clash 131 = .ok (.iconst 0, 1) := by decide +kernel
theorem dX3_clash_132 : decode cX3_clash 132 = .ok (.ireturn, 1) := by decide +kernel
theorem dX3_apart_0 : decode cX3_apart 0 = .ok (.iload_n 0, 1) := by decide +kernel
theorem dX3_apart_1 : decode cX3_apart 1 = .ok (.iload_n 2, 1) := by decide +kernel
theorem dX3_apart_2 : decode cX3_apart 2 = .ok (.if_icmp .eq 17, 3) := by decide +kernel
theorem dX3_apart_5 : decode cX3_apart 5 = .ok (.iload_n 1, 1) := by decide +kernel
theorem dX3_apart_6 : decode cX3_apart 6 = .ok (.iload_n 2, 1) := by decide +kernel
theorem dX3_apart_7 : decode cX3_apart 7 = .ok (.if_icmp .eq 12, 3) := by decide +kernel
theorem dX3_apart_10 : decode cX3_apart 10 = .ok (.iload_n 0, 1) := by decide +kernel
theorem dX3_apart_11 : decode cX3_apart 11 = .ok (.iload_n 1, 1) := by decide +kernel
theorem dX3_apart_12 : decode cX3_apart 12 = .ok (.if_icmp .eq 7, 3) := by decide +kernel
theorem dX3_apart_15 : decode cX3_apart 15 = .ok (.iconst 1, 1) := by decide +kernel
theorem dX3_apart_16 : decode cX3_apart 16 = .ok (.goto 4, 3) := by decide +kernel
theorem dX3_apart_19 : decode cX3_apart 19 = .ok (.iconst 0, 1) := by decide +kernel
theorem dX3_apart_20 : decode cX3_apart 20 = .ok (.ireturn, 1) := by decide +kernel
theorem dX3_joinTask_0 : decode cX3_joinTask 0 = .ok (.aload_n 1, 1) := by decide +kernel
theorem dX3_joinTask_1 : decode cX3_joinTask 1 = .ok (.aload_n 3, 1) := by decide +kernel
theorem dX3_joinTask_2 : decode cX3_joinTask 2 = .ok (.iload 4, 2) := by decide +kernel
theorem dX3_joinTask_4 : decode cX3_joinTask 4 = .ok (.invokevirtual 47, 3) := by decide +kernel
theorem dX3_joinTask_7 : decode cX3_joinTask 7 = .ok (.ifCond .eq 16, 3) := by decide +kernel
theorem dX3_joinTask_10 : decode cX3_joinTask 10 = .ok (.aload_n 0, 1) := by decide +kernel
theorem dX3_joinTask_11 : decode cX3_joinTask 11 = .ok (.getfield 12, 3) := by decide +kernel
theorem dX3_joinTask_14 : decode cX3_joinTask 14 = .ok (.aload_n 2, 1) := by decide +kernel
theorem dX3_joinTask_15 : decode cX3_joinTask 15 = .ok (.iload 4, 2) := by decide +kernel
theorem dX3_joinTask_17 : decode cX3_joinTask 17 = .ok (.invokevirtual 39, 3) := by decide +kernel
theorem dX3_joinTask_20 : decode cX3_joinTask 20 = .ok (.goto 157, 3) := by decide +kernel
theorem dX3_joinTask_23 : decode cX3_joinTask 23 = .ok (.aload_n 2, 1) := by decide +kernel
theorem dX3_joinTask_24 : decode cX3_joinTask 24 = .ok (.aload_n 3, 1) := by decide +kernel
theorem dX3_joinTask_25 : decode cX3_joinTask 25 = .ok (.iload 4, 2) := by decide +kernel
theorem dX3_joinTask_27 : decode cX3_joinTask 27 = .ok (.invokevirtual 47, 3) := by decide +kernel
theorem dX3_joinTask_30 : decode cX3_joinTask 30 = .ok (.ifCond .ne 13, 3) := by decide +kernel
theorem dX3_joinTask_33 : decode cX3_joinTask 33 = .ok (.aload_n 1, 1) := by decide +kernel
theorem dX3_joinTask_34 : decode cX3_joinTask 34 = .ok (.aload_n 2, 1) := by decide +kernel
theorem dX3_joinTask_35 : decode cX3_joinTask 35 = .ok (.iload 4, 2) := by decide +kernel
theorem dX3_joinTask_37 : decode cX3_joinTask 37 = .ok (.invokevirtual 47, 3) := by decide +kernel
theorem dX3_joinTask_40 : decode cX3_joinTask 40 = .ok (.ifCond .eq 16, 3) := by decide +kernel
theorem dX3_joinTask_43 : decode cX3_joinTask 43 = .ok (.aload_n 0, 1) := by decide +kernel
theorem dX3_joinTask_44 : decode cX3_joinTask 44 = .ok (.getfield 12, 3) := by decide +kernel
theorem dX3_joinTask_47 : decode cX3_joinTask 47 = .ok (.aload_n 1, 1) := by decide +kernel
theorem dX3_joinTask_48 : decode cX3_joinTask 48 = .ok (.iload 4, 2) := by decide +kernel
theorem dX3_joinTask_50 : decode cX3_joinTask 50 = .ok (.invokevirtual 39, 3) := by decide +kernel
theorem dX3_joinTask_53 : decode cX3_joinTask 53 = .ok (.goto 124, 3) := by decide +kernel
theorem dX3_joinTask_56 : decode cX3_joinTask 56 = .ok (.aload_n 1, 1) := by decide +kernel
theorem dX3_joinTask_57 : decode cX3_joinTask 57 = .ok (.getfield 68, 3) := by decide +kernel
theorem dX3_joinTask_60 : decode cX3_joinTask 60 = .ok (.iload 4, 2) := by decide +kernel
theorem dX3_joinTask_62 : decode cX3_joinTask 62 = .ok (.iaload, 1) := by decide +kernel
theorem dX3_joinTask_63 : decode cX3_joinTask 63 = .ok (.aload_n 3, 1) := by decide +kernel
theorem dX3_joinTask_64 : decode cX3_joinTask 64 = .ok (.getfield 68, 3) := by decide +kernel
theorem dX3_joinTask_67 : decode cX3_joinTask 67 = .ok (.iload 4, 2) := by decide +kernel
theorem dX3_joinTask_69 : decode cX3_joinTask 69 = .ok (.iaload, 1) := by decide +kernel
theorem dX3_joinTask_70 : decode cX3_joinTask 70 = .ok (.ixor, 1) := by decide +kernel
theorem dX3_joinTask_71 : decode cX3_joinTask 71 = .ok (.istore 5, 2) := by decide +kernel
theorem dX3_joinTask_73 : decode cX3_joinTask 73 = .ok (.aload_n 0, 1) := by decide +kernel
theorem dX3_joinTask_74 : decode cX3_joinTask 74 = .ok (.getfield 12, 3) := by decide +kernel
theorem dX3_joinTask_77 : decode cX3_joinTask 77 = .ok (.iload 4, 2) := by decide +kernel
theorem dX3_joinTask_79 : decode cX3_joinTask 79 = .ok (.aload_n 1, 1) := by decide +kernel
theorem dX3_joinTask_80 : decode cX3_joinTask 80 = .ok (.getfield 55, 3) := by decide +kernel
theorem dX3_joinTask_83 : decode cX3_joinTask 83 = .ok (.iload 4, 2) := by decide +kernel
theorem dX3_joinTask_85 : decode cX3_joinTask 85 = .ok (.iaload, 1) := by decide +kernel
theorem dX3_joinTask_86 : decode cX3_joinTask 86 = .ok (.aload_n 2, 1) := by decide +kernel
theorem dX3_joinTask_87 : decode cX3_joinTask 87 = .ok (.getfield 55, 3) := by decide +kernel
theorem dX3_joinTask_90 : decode cX3_joinTask 90 = .ok (.iload 4, 2) := by decide +kernel
theorem dX3_joinTask_92 : decode cX3_joinTask 92 = .ok (.iaload, 1) := by decide +kernel
theorem dX3_joinTask_93 : decode cX3_joinTask 93 = .ok (.aload_n 3, 1) := by decide +kernel
theorem dX3_joinTask_94 : decode cX3_joinTask 94 = .ok (.getfield 55, 3) := by decide +kernel
theorem dX3_joinTask_97 : decode cX3_joinTask 97 = .ok (.iload 4, 2) := by decide +kernel
theorem dX3_joinTask_99 : decode cX3_joinTask 99 = .ok (.iaload, 1) := by decide +kernel
theorem dX3_joinTask_100 : decode cX3_joinTask 100 = .ok (.invokestatic 71, 3) := by decide +kernel
theorem dX3_joinTask_103 : decode cX3_joinTask 103 = .ok (.aload_n 1, 1) := by decide +kernel
theorem dX3_joinTask_104 : decode cX3_joinTask 104 = .ok (.getfield 62, 3) := by decide +kernel
theorem dX3_joinTask_107 : decode cX3_joinTask 107 = .ok (.iload 4, 2) := by decide +kernel
theorem dX3_joinTask_109 : decode cX3_joinTask 109 = .ok (.iaload, 1) := by decide +kernel
theorem dX3_joinTask_110 : decode cX3_joinTask 110 = .ok (.aload_n 2, 1) := by decide +kernel
theorem dX3_joinTask_111 : decode cX3_joinTask 111 = .ok (.getfield 62, 3) := by decide +kernel
theorem dX3_joinTask_114 : decode cX3_joinTask 114 = .ok (.iload 4, 2) := by decide +kernel
theorem dX3_joinTask_116 : decode cX3_joinTask 116 = .ok (.iaload, 1) := by decide +kernel
theorem dX3_joinTask_117 : decode cX3_joinTask 117 = .ok (.aload_n 3, 1) := by decide +kernel
theorem dX3_joinTask_118 : decode cX3_joinTask 118 = .ok (.getfield 62, 3) := by decide +kernel
theorem dX3_joinTask_121 : decode cX3_joinTask 121 = .ok (.iload 4, 2) := by decide +kernel
theorem dX3_joinTask_123 : decode cX3_joinTask 123 = .ok (.iaload, 1) := by decide +kernel
theorem dX3_joinTask_124 : decode cX3_joinTask 124 = .ok (.invokestatic 71, 3) := by decide +kernel
theorem dX3_joinTask_127 : decode cX3_joinTask 127 = .ok (.aload_n 1, 1) := by decide +kernel
theorem dX3_joinTask_128 : decode cX3_joinTask 128 = .ok (.getfield 65, 3) := by decide +kernel
theorem dX3_joinTask_131 : decode cX3_joinTask 131 = .ok (.iload 4, 2) := by decide +kernel
theorem dX3_joinTask_133 : decode cX3_joinTask 133 = .ok (.iaload, 1) := by decide +kernel
theorem dX3_joinTask_134 : decode cX3_joinTask 134 = .ok (.aload_n 2, 1) := by decide +kernel
theorem dX3_joinTask_135 : decode cX3_joinTask 135 = .ok (.getfield 65, 3) := by decide +kernel
theorem dX3_joinTask_138 : decode cX3_joinTask 138 = .ok (.iload 4, 2) := by decide +kernel
theorem dX3_joinTask_140 : decode cX3_joinTask 140 = .ok (.iaload, 1) := by decide +kernel
theorem dX3_joinTask_141 : decode cX3_joinTask 141 = .ok (.aload_n 3, 1) := by decide +kernel
theorem dX3_joinTask_142 : decode cX3_joinTask 142 = .ok (.getfield 65, 3) := by decide +kernel
theorem dX3_joinTask_145 : decode cX3_joinTask 145 = .ok (.iload 4, 2) := by decide +kernel
theorem dX3_joinTask_147 : decode cX3_joinTask 147 = .ok (.iaload, 1) := by decide +kernel
theorem dX3_joinTask_148 : decode cX3_joinTask 148 = .ok (.invokestatic 71, 3) := by decide +kernel
theorem dX3_joinTask_151 : decode cX3_joinTask 151 = .ok (.aload_n 1, 1) := by decide +kernel
theorem dX3_joinTask_152 : decode cX3_joinTask 152 = .ok (.getfield 68, 3) := by decide +kernel
theorem dX3_joinTask_155 : decode cX3_joinTask 155 = .ok (.iload 4, 2) := by decide +kernel
theorem dX3_joinTask_157 : decode cX3_joinTask 157 = .ok (.iaload, 1) := by decide +kernel
theorem dX3_joinTask_158 : decode cX3_joinTask 158 = .ok (.iload 5, 2) := by decide +kernel
theorem dX3_joinTask_160 : decode cX3_joinTask 160 = .ok (.iand, 1) := by decide +kernel
theorem dX3_joinTask_161 : decode cX3_joinTask 161 = .ok (.aload_n 2, 1) := by decide +kernel
theorem dX3_joinTask_162 : decode cX3_joinTask 162 = .ok (.getfield 68, 3) := by decide +kernel
theorem dX3_joinTask_165 : decode cX3_joinTask 165 = .ok (.iload 4, 2) := by decide +kernel
theorem dX3_joinTask_167 : decode cX3_joinTask 167 = .ok (.iaload, 1) := by decide +kernel
theorem dX3_joinTask_168 : decode cX3_joinTask 168 = .ok (.iload 5, 2) := by decide +kernel
theorem dX3_joinTask_170 : decode cX3_joinTask 170 = .ok (.iconst (-1), 1) := by decide +kernel
theorem dX3_joinTask_171 : decode cX3_joinTask 171 = .ok (.ixor, 1) := by decide +kernel
theorem dX3_joinTask_172 : decode cX3_joinTask 172 = .ok (.iand, 1) := by decide +kernel
theorem dX3_joinTask_173 : decode cX3_joinTask 173 = .ok (.ior, 1) := by decide +kernel
theorem dX3_joinTask_174 : decode cX3_joinTask 174 = .ok (.invokevirtual 75, 3) := by decide +kernel
theorem dX3_joinTask_177 : decode cX3_joinTask 177 = .ok (.return_, 1) := by decide +kernel
theorem dX3_mixed_0 : decode cX3_mixed 0 = .ok (.iload_n 0, 1) := by decide +kernel
theorem dX3_mixed_1 : decode cX3_mixed 1 = .ok (.iload_n 2, 1) := by decide +kernel
theorem dX3_mixed_2 : decode cX3_mixed 2 = .ok (.if_icmp .ne 7, 3) := by decide +kernel
theorem dX3_mixed_5 : decode cX3_mixed 5 = .ok (.iload_n 1, 1) := by decide +kernel
theorem dX3_mixed_6 : decode cX3_mixed 6 = .ok (.goto 4, 3) := by decide +kernel
theorem dX3_mixed_9 : decode cX3_mixed 9 = .ok (.iload_n 0, 1) := by decide +kernel
theorem dX3_mixed_10 : decode cX3_mixed 10 = .ok (.ireturn, 1) := by decide +kernel
theorem dX0_startFrom_0 : decode cX0_startFrom 0 = .ok (.aload_n 0, 1) := by decide +kernel
theorem dX0_startFrom_1 : decode cX0_startFrom 1 = .ok (.getfield 18, 3) := by decide +kernel
theorem dX0_startFrom_4 : decode cX0_startFrom 4 = .ok (.aload_n 1, 1) := by decide +kernel
theorem dX0_startFrom_5 : decode cX0_startFrom 5 = .ok (.invokevirtual 44, 3) := by decide +kernel
theorem dX0_startFrom_8 : decode cX0_startFrom 8 = .ok (.aload_n 0, 1) := by decide +kernel
theorem dX0_startFrom_9 : decode cX0_startFrom 9 = .ok (.getfield 24, 3) := by decide +kernel
theorem dX0_startFrom_12 : decode cX0_startFrom 12 = .ok (.invokevirtual 48, 3) := by decide +kernel
theorem dX0_startFrom_15 : decode cX0_startFrom 15 = .ok (.aload_n 0, 1) := by decide +kernel
theorem dX0_startFrom_16 : decode cX0_startFrom 16 = .ok (.getfield 28, 3) := by decide +kernel
theorem dX0_startFrom_19 : decode cX0_startFrom 19 = .ok (.iconst (-1), 1) := by decide +kernel
theorem dX0_startFrom_20 : decode cX0_startFrom 20 = .ok (.invokestatic 51, 3) := by decide +kernel
theorem dX0_startFrom_23 : decode cX0_startFrom 23 = .ok (.return_, 1) := by decide +kernel
def pb_wiN (sg : pb_Sg) (w p : Nat) : Nat → pb_Sg
  | 0 => sg
  | n + 1 => pb_up (pb_up (pb_wiN sg w p n) (w + 1) n (pb_wiN sg w p n (p + 1) n)) (w + 2) n (nI 0)
def pb_rdN (sg : pb_Sg) (w p : Nat) : Nat → pb_Sg × Bool
  | 0 => (sg, false)
  | n + 1 => ((pb_strN (pb_rdN sg w p n).1 w p n 16).1, (pb_rdN sg w p n).2 || (pb_strN (pb_rdN sg w p n).1 w p n 16).2)
def pb_rds (w p : Nat) : Nat → pb_Sg → pb_Sg
  | 0, s => s
  | n + 1, s => if (pb_rdN s w p 16).2 = true then pb_rds w p n (pb_rdN s w p 16).1 else (pb_rdN s w p 16).1
def pb_lgN (sg : pb_Sg) (w : Nat) : Nat → pb_Sg
  | 0 => pb_up sg w 2 (nI 0)
  | n + 1 => pb_up (pb_lgN sg w n) w 2 (pb_mx (pb_lgN sg w n w 2) (pb_lgN sg w n (w + 1) n))
def pb_meas (sg : pb_Sg) (w p : Nat) : pb_Sg := pb_lgN (pb_rds w p 16 (pb_wiN sg w p 16)) w 16
set_option maxHeartbeats 4000000 in
set_option maxRecDepth 100000 in
theorem c_X6_measure {l : Launch} (hfl : l.stackTraces = false) {sz : Nat} {sk : pb_Sk} {rf : pb_Rf} {sg : pb_Sg} {w p : Nat} (hw : pb_ways sk rf w) (hp : pb_plan sk rf p) : pb_Met l mX6_measure 3 0 0 [.ref w, .ref p] sz sk rf sg (pb_is none sz sk rf (pb_meas sg w p)) := by
  refine pb_start hfl (by decide +kernel) rfl (pb_c1 rfl) (Nat.le_of_ble_eq_true rfl) (fun F hF h hQ => ?_)
  subst hF
  show pv F 0 0 sz sk rf sg 0 [some (.ref w), some (.ref p), none, none, none] []
  obtain ⟨hw0, hw1, hw2, hw3, hw4⟩ := id hw
  obtain ⟨hp0, hp1, hp2, hp3, hp4, hp5, hp6, hp7, hp8⟩ := id hp
  have tail : pv F 0 0 sz sk rf (pb_rds w p 16 (pb_wiN sg w p 16)) 81 [some (.ref w), some (.ref p), none, none, none] [] := by
    refine v_aload_n h (i := 0) dX6_measure_81 (q := 82) rfl rfl rfl ?_
    refine v_iconst h (v := nI 0) dX6_measure_82 (q := 83) rfl (by decide +kernel) ?_
    refine v_puti h fl_X6_27 (by assumption) rfl rfl dX6_measure_83 (q := 86) rfl ?_
    refine v_iconst h (v := nI 0) dX6_measure_86 (q := 87) rfl (by decide +kernel) ?_
    refine v_istore_n h (i := 3) dX6_measure_87 (q := 88) rfl rfl (Nat.le_of_ble_eq_true rfl) rfl ?_
    have lp : ∀ (j i : Nat), i + j = 16 → pv F 0 0 sz sk rf (pb_lgN (pb_rds w p 16 (pb_wiN sg w p 16)) w i) 88 [some (.ref w), some (.ref p), none, some (.int (nI i)), none] [] := by
      intro j
      induction j with
      | zero =>
        intro i  hi
        obtain rfl : i = 16 := by omega
        refine v_iload_n h (i := 3) dX6_measure_88 (q := 89) rfl rfl rfl ?_
        refine v_bipush h (v := nI 16) dX6_measure_89 (q := 91) rfl (by decide +kernel) ?_
        refine v_icmp_ge h dX6_measure_91 (q := 94) rfl (tgt := 117) (by decide) (fun c1 => ?_) (fun c1 => pb_kle (Nat.le_refl _) (by decide) c1)
        refine v_vret h hQ rfl dX6_measure_117 (Nat.zero_le _) (Nat.zero_le _) ⟨rfl, rfl, rfl, rfl, rfl⟩
      | succ j ih =>
        intro i  hi
        have hi2 : i < 16 := by omega
        refine v_iload_n h (i := 3) dX6_measure_88 (q := 89) rfl rfl rfl ?_
        refine v_bipush h (v := nI 16) dX6_measure_89 (q := 91) rfl (by decide +kernel) ?_
        refine v_icmp_ge h dX6_measure_91 (q := 94) rfl (tgt := 117) (by decide) (fun c2 => pb_kge hi2 (by decide) c2) (fun c2 => ?_)
        refine v_aload_n h (i := 0) dX6_measure_94 (q := 95) rfl rfl rfl ?_
        refine v_aload_n h (i := 0) dX6_measure_95 (q := 96) rfl rfl rfl ?_
        refine v_geti h fl_X6_27 (by assumption) rfl dX6_measure_96 (q := 99) rfl ?_
        refine v_aload_n h (i := 0) dX6_measure_99 (q := 100) rfl rfl rfl ?_
        refine v_getr h fl_X6_9 (by assumption) rfl (by assumption) dX6_measure_100 (q := 103) rfl ?_
        refine v_iload_n h (i := 3) dX6_measure_103 (q := 104) rfl rfl rfl ?_
        refine v_iald h (by assumption) rfl (by first | assumption | omega) (by decide) dX6_measure_104 (q := 105) rfl ?_
        refine v_max h tw618 tw619 tw62 tw620 (by decide) (by simp [Value.category]) (Nat.zero_le _) (Nat.zero_le _) rfl dX6_measure_105 (q := 108) rfl ?_
        refine v_puti h fl_X6_27 (by assumption) rfl rfl dX6_measure_108 (q := 111) rfl ?_
        refine v_iinc h dX6_measure_111 (q := 114) rfl rfl pb_inc rfl ?_
        refine v_goto h dX6_measure_114 (tgt := 88) (by decide) ?_
        exact ih (i + 1) (by omega)
    exact lp 16 0 (by omega)
  refine v_iconst h (v := nI 0) dX6_measure_0 (q := 1) rfl (by decide +kernel) ?_
  refine v_istore_n h (i := 2) dX6_measure_1 (q := 2) rfl rfl (Nat.le_of_ble_eq_true rfl) rfl ?_
  have lp : ∀ (j i : Nat), i + j = 16 → pv F 0 0 sz sk rf (pb_wiN sg w p i) 2 [some (.ref w), some (.ref p), some (.int (nI i)), none, none] [] := by
    intro j
    induction j with
    | zero =>
      intro i  hi
      obtain rfl : i = 16 := by omega
      refine v_iload_n h (i := 2) dX6_measure_2 (q := 3) rfl rfl rfl ?_
      refine v_bipush h (v := nI 16) dX6_measure_3 (q := 5) rfl (by decide +kernel) ?_
      refine v_icmp_ge h dX6_measure_5 (q := 8) rfl (tgt := 33) (by decide) (fun c3 => ?_) (fun c3 => pb_kle (Nat.le_refl _) (by decide) c3)
      refine v_iconst h (v := nI 1) dX6_measure_33 (q := 34) rfl (by decide +kernel) ?_
      refine v_istore_n h (i := 2) dX6_measure_34 (q := 35) rfl rfl (Nat.le_of_ble_eq_true rfl) rfl ?_
      refine v_wk (L' := [some (.ref w), some (.ref p), some (.int (pb_b true)), none, none]) (by simp [pb_wk]; rfl) ?_
      refine v_iconst h (v := nI 0) dX6_measure_35 (q := 36) rfl (by decide +kernel) ?_
      refine v_istore_n h (i := 3) dX6_measure_36 (q := 37) rfl rfl (Nat.le_of_ble_eq_true rfl) rfl ?_
      have lp : ∀ (j i : Nat) (g : Bool) (S : pb_Sg), i + j = 16 → (if g = true then pb_rds w p j S else S) = pb_rds w p 16 (pb_wiN sg w p 16) → pv F 0 0 sz sk rf S 37 [some (.ref w), some (.ref p), some (.int (pb_b g)), some (.int (nI i)), none] [] := by
        intro j
        induction j with
        | zero =>
          intro i g S hi hy0
          obtain rfl : i = 16 := by omega
          refine v_iload_n h (i := 2) dX6_measure_37 (q := 38) rfl rfl rfl ?_
          refine v_if_eq h dX6_measure_38 (q := 41) rfl (tgt := 81) (by decide) (fun c4 => ?_) (fun c4 => ?_)
          · skip
            have e8 := pb_b_0.mp c4
            subst e8
            refine v_cast (sg' := pb_rds w p 16 (pb_wiN sg w p 16)) rfl rfl hy0 (v_wk (by simp [pb_wk]) tail)
          · skip
            have e8 := pb_ne_f (fun q => c4 (pb_b_0.mpr q))
            subst e8
            refine v_iload_n h (i := 3) dX6_measure_41 (q := 42) rfl rfl rfl ?_
            refine v_bipush h (v := nI 16) dX6_measure_42 (q := 44) rfl (by decide +kernel) ?_
            refine v_icmp_ge h dX6_measure_44 (q := 47) rfl (tgt := 81) (by decide) (fun c5 => ?_) (fun c5 => pb_kle (Nat.le_refl _) (by decide) c5)
            exact v_cast (sg' := pb_rds w p 16 (pb_wiN sg w p 16)) rfl rfl hy0 (v_wk (by simp [pb_wk]) tail)
        | succ j ih =>
          intro i g S hi hy0
          have hi2 : i < 16 := by omega
          refine v_iload_n h (i := 2) dX6_measure_37 (q := 38) rfl rfl rfl ?_
          refine v_if_eq h dX6_measure_38 (q := 41) rfl (tgt := 81) (by decide) (fun c6 => ?_) (fun c6 => ?_)
          · skip
            have e8 := pb_b_0.mp c6
            subst e8
            refine v_cast (sg' := pb_rds w p 16 (pb_wiN sg w p 16)) rfl rfl hy0 (v_wk (by simp [pb_wk]) tail)
          · skip
            have e8 := pb_ne_f (fun q => c6 (pb_b_0.mpr q))
            subst e8
            refine v_iload_n h (i := 3) dX6_measure_41 (q := 42) rfl rfl rfl ?_
            refine v_bipush h (v := nI 16) dX6_measure_42 (q := 44) rfl (by decide +kernel) ?_
            refine v_icmp_ge h dX6_measure_44 (q := 47) rfl (tgt := 81) (by decide) (fun c7 => pb_kge hi2 (by decide) c7) (fun c7 => ?_)
            refine v_iconst h (v := nI 0) dX6_measure_47 (q := 48) rfl (by decide +kernel) ?_
            refine v_istore_n h (i := 2) dX6_measure_48 (q := 49) rfl rfl (Nat.le_of_ble_eq_true rfl) rfl ?_
            refine v_iconst h (v := nI 0) dX6_measure_49 (q := 50) rfl (by decide +kernel) ?_
            refine v_istore h dX6_measure_50 (q := 52) rfl (Nat.le_of_ble_eq_true rfl) rfl ?_
            have lpb : ∀ (jb ib : Nat), ib + jb = 16 → pv F 0 0 sz sk rf (pb_rdN S w p ib).1 52 [some (.ref w), some (.ref p), some (.int (pb_b (pb_rdN S w p ib).2)), some (.int (nI i)), some (.int (nI ib))] [] := by
              intro jb
              induction jb with
              | zero =>
                intro ib  hib
                obtain rfl : ib = 16 := by omega
                refine v_iload h dX6_measure_52 (q := 54) rfl rfl ?_
                refine v_bipush h (v := nI 16) dX6_measure_54 (q := 56) rfl (by decide +kernel) ?_
                refine v_icmp_ge h dX6_measure_56 (q := 59) rfl (tgt := 75) (by decide) (fun c8 => ?_) (fun c8 => pb_kle (Nat.le_refl _) (by decide) c8)
                refine v_iinc h dX6_measure_75 (q := 78) rfl rfl pb_inc rfl ?_
                refine v_goto h dX6_measure_78 (tgt := 37) (by decide) ?_
                refine v_wk (by simp [pb_wk]) (ih (i + 1) (pb_rdN S w p 16).2 (pb_rdN S w p 16).1 (by omega) ?_)
                rw [← hy0]
                rfl
              | succ jb ihb =>
                intro ib  hib
                have hi2b : ib < 16 := by omega
                refine v_iload h dX6_measure_52 (q := 54) rfl rfl ?_
                refine v_bipush h (v := nI 16) dX6_measure_54 (q := 56) rfl (by decide +kernel) ?_
                refine v_icmp_ge h dX6_measure_56 (q := 59) rfl (tgt := 75) (by decide) (fun c9 => pb_kge hi2b (by decide) c9) (fun c9 => ?_)
                refine v_iload_n h (i := 2) dX6_measure_59 (q := 60) rfl rfl rfl ?_
                refine v_aload_n h (i := 0) dX6_measure_60 (q := 61) rfl rfl rfl ?_
                refine v_aload_n h (i := 1) dX6_measure_61 (q := 62) rfl rfl rfl ?_
                refine v_iload h dX6_measure_62 (q := 64) rfl rfl ?_
                refine v_callV1 h (c_X6_stretch hfl hw hp hi2b) kX6_stretch tw613 tw5 (by assumption) (by decide) rfl rfl rfl (by simp [Value.category]) (by decide) (Nat.zero_le _) (Nat.zero_le _) rfl dX6_measure_64 (q := 67) rfl ?_
                refine v_ior h dX6_measure_67 (q := 68) rfl ?_
                rw [pb_b_or]
                refine v_istore_n h (i := 2) dX6_measure_68 (q := 69) rfl rfl (Nat.le_of_ble_eq_true rfl) rfl ?_
                refine v_iinc h dX6_measure_69 (q := 72) rfl rfl pb_inc rfl ?_
                refine v_goto h dX6_measure_72 (tgt := 52) (by decide) ?_
                exact ihb (ib + 1) (by omega)
            exact lpb 16 0 (by omega)
      exact lp 16 0 true _ (by omega) rfl
    | succ j ih =>
      intro i  hi
      have hi2 : i < 16 := by omega
      refine v_iload_n h (i := 2) dX6_measure_2 (q := 3) rfl rfl rfl ?_
      refine v_bipush h (v := nI 16) dX6_measure_3 (q := 5) rfl (by decide +kernel) ?_
      refine v_icmp_ge h dX6_measure_5 (q := 8) rfl (tgt := 33) (by decide) (fun c10 => pb_kge hi2 (by decide) c10) (fun c10 => ?_)
      refine v_aload_n h (i := 0) dX6_measure_8 (q := 9) rfl rfl rfl ?_
      refine v_getr h fl_X6_9 (by assumption) rfl (by assumption) dX6_measure_9 (q := 12) rfl ?_
      refine v_iload_n h (i := 2) dX6_measure_12 (q := 13) rfl rfl rfl ?_
      refine v_aload_n h (i := 1) dX6_measure_13 (q := 14) rfl rfl rfl ?_
      refine v_getr h fl_X6_18 (by assumption) rfl (by assumption) dX6_measure_14 (q := 17) rfl ?_
      refine v_iload_n h (i := 2) dX6_measure_17 (q := 18) rfl rfl rfl ?_
      refine v_iald h (by assumption) rfl (by first | assumption | omega) (by decide) dX6_measure_18 (q := 19) rfl ?_
      refine v_iast h (by assumption) rfl (by first | assumption | omega) (by decide) dX6_measure_19 (q := 20) rfl ?_
      refine v_aload_n h (i := 0) dX6_measure_20 (q := 21) rfl rfl rfl ?_
      refine v_getr h fl_X6_15 (by assumption) rfl (by assumption) dX6_measure_21 (q := 24) rfl ?_
      refine v_iload_n h (i := 2) dX6_measure_24 (q := 25) rfl rfl rfl ?_
      refine v_iconst h (v := nI 0) dX6_measure_25 (q := 26) rfl (by decide +kernel) ?_
      refine v_iast h (by assumption) rfl (by first | assumption | omega) (by decide) dX6_measure_26 (q := 27) rfl ?_
      refine v_iinc h dX6_measure_27 (q := 30) rfl rfl pb_inc rfl ?_
      refine v_goto h dX6_measure_30 (tgt := 2) (by decide) ?_
      exact ih (i + 1) (by omega)
  exact lp 16 0 (by omega)
def pb_apt (a o b : Int32) : Bool := decide (¬ a = b ∧ ¬ o = b ∧ ¬ a = o)
def pb_mix (a o b : Int32) : Int32 := if a = b then o else a
def pb_clash (sg : pb_Sg) (p r s t : Nat) : Bool := if (pb_same sg p s t || pb_same sg r s t || pb_same sg p r t) = true then false else if (!pb_has (sg (p + 1)) t || !pb_has (sg (r + 1)) t || !pb_has (sg (s + 1)) t) = true then true else pb_apt (sg (p + 1) t) (sg (r + 1) t) (sg (s + 1) t) || pb_apt (sg (p + 2) t) (sg (r + 2) t) (sg (s + 2) t) || pb_apt (sg (p + 3) t) (sg (r + 3) t) (sg (s + 3) t)
def pb_jm (sg : pb_Sg) (J p r s t : Nat) : pb_Sg := pb_put sg (J + 1) t (pb_mix (sg (p + 1) t) (sg (r + 1) t) (sg (s + 1) t)) (pb_mix (sg (p + 2) t) (sg (r + 2) t) (sg (s + 2) t)) (pb_mix (sg (p + 3) t) (sg (r + 3) t) (sg (s + 3) t)) ((sg (p + 4) t &&& (sg (p + 4) t ^^^ sg (s + 4) t)) ||| (sg (r + 4) t &&& ((sg (p + 4) t ^^^ sg (s + 4) t) ^^^ (-1))))
def pb_jt (sg : pb_Sg) (J p r s t : Nat) : pb_Sg := if pb_same sg p s t = true then pb_take sg (J + 1) r t else if (pb_same sg r s t || pb_same sg p r t) = true then pb_take sg (J + 1) p t else pb_jm sg J p r s t
def pb_joint (sk : pb_Sk) (rf : pb_Rf) (J : Nat) : Prop := sk J = (9, 0) ∧ rf J 0 = some (J + 1) ∧ pb_plan sk rf (J + 1)
def pb_br (sk : pb_Sk) (rf : pb_Rf) (b : Nat) : Prop := sk b = (6, 0) ∧ rf b 2 = some (b + 1) ∧ rf b 3 = some (b + 6) ∧ rf b 4 = some (b + 11) ∧ rf b 5 = some (b + 17) ∧ pb_plan sk rf (b + 1) ∧ pb_plan sk rf (b + 6) ∧ pb_hist sk rf (b + 11) ∧ sk (b + 17) = (1, 16)
def pb_jb (sg : pb_Sg) (J t : Nat) : pb_Sg := pb_up sg J 1 (sg J 1 ||| (nI 1 <<< (nI t &&& 31)))
def pb_jc (sg : pb_Sg) (J t : Nat) : pb_Sg := pb_up (pb_jb sg J t) J 2 ((pb_jb sg J t) J 2 ||| (nI 1 <<< (nI t &&& 31)))
def pb_jna (sg : pb_Sg) (J b t : Nat) : pb_Sg := if pb_jb sg J t (b + 17) t = -1 then pb_jc sg J t else pb_jb sg J t
def pb_jn1 (sg : pb_Sg) (J b f t : Nat) : pb_Sg := if pb_clash sg (b + 1) (f + 1) (b + 6) t = true then (if pb_jna sg J b t (b + 17) t = nI 1 then pb_take (pb_jna sg J b t) (J + 1) (f + 1) t else pb_take (pb_jna sg J b t) (J + 1) (b + 1) t) else pb_jt sg J (b + 1) (f + 1) (b + 6) t
def pb_jnN (sg : pb_Sg) (J b f : Nat) : Nat → pb_Sg
  | 0 => pb_up (pb_up sg J 1 (nI 0)) J 2 (nI 0)
  | n + 1 => pb_jn1 (pb_jnN sg J b f n) J b f n
set_option maxHeartbeats 4000000 in
set_option maxRecDepth 100000 in
theorem c_X3_apart {l : Launch} (hfl : l.stackTraces = false) {sz : Nat} {sk : pb_Sk} {rf : pb_Rf} {sg : pb_Sg} {x y z : Int32} : pb_Met l mX3_apart 1 0 0 [.int x, .int y, .int z] sz sk rf sg (pb_is (some (.int (pb_b (pb_apt x y z)))) sz sk rf sg) := by
  refine pb_start hfl (by decide +kernel) rfl (pb_c1 rfl) (Nat.le_of_ble_eq_true rfl) (fun F hF h hQ => ?_)
  subst hF
  show pv F 0 0 sz sk rf sg 0 [some (.int x), some (.int y), some (.int z)] []
  refine v_iload_n h (i := 0) dX3_apart_0 (q := 1) rfl rfl rfl ?_
  refine v_iload_n h (i := 2) dX3_apart_1 (q := 2) rfl rfl rfl ?_
  refine v_icmp_eq h dX3_apart_2 (q := 5) rfl (tgt := 19) (by decide) (fun c1 => ?_) (fun c1 => ?_)
  · skip
    have e9 : pb_b (pb_apt x y z) = nI 0 := by unfold pb_apt; rw [decide_eq_false (fun q => q.1 c1)]; rfl
    refine v_iconst h (v := nI 0) dX3_apart_19 (q := 20) rfl (by decide +kernel) ?_
    refine v_iret h hQ rfl (by first | exact rfl | exact pb_b_nar _) dX3_apart_20 (Nat.zero_le _) (Nat.zero_le _) ⟨by rw [e9], rfl, rfl, rfl, rfl⟩
  · skip
    refine v_iload_n h (i := 1) dX3_apart_5 (q := 6) rfl rfl rfl ?_
    refine v_iload_n h (i := 2) dX3_apart_6 (q := 7) rfl rfl rfl ?_
    refine v_icmp_eq h dX3_apart_7 (q := 10) rfl (tgt := 19) (by decide) (fun c2 => ?_) (fun c2 => ?_)
    · skip
      have e9 : pb_b (pb_apt x y z) = nI 0 := by unfold pb_apt; rw [decide_eq_false (fun q => q.2.1 c2)]; rfl
      refine v_iconst h (v := nI 0) dX3_apart_19 (q := 20) rfl (by decide +kernel) ?_
      refine v_iret h hQ rfl (by first | exact rfl | exact pb_b_nar _) dX3_apart_20 (Nat.zero_le _) (Nat.zero_le _) ⟨by rw [e9], rfl, rfl, rfl, rfl⟩
    · skip
      refine v_iload_n h (i := 0) dX3_apart_10 (q := 11) rfl rfl rfl ?_
      refine v_iload_n h (i := 1) dX3_apart_11 (q := 12) rfl rfl rfl ?_
      refine v_icmp_eq h dX3_apart_12 (q := 15) rfl (tgt := 19) (by decide) (fun c3 => ?_) (fun c3 => ?_)
      · skip
        have e9 : pb_b (pb_apt x y z) = nI 0 := by unfold pb_apt; rw [decide_eq_false (fun q => q.2.2 c3)]; rfl
        refine v_iconst h (v := nI 0) dX3_apart_19 (q := 20) rfl (by decide +kernel) ?_
        refine v_iret h hQ rfl (by first | exact rfl | exact pb_b_nar _) dX3_apart_20 (Nat.zero_le _) (Nat.zero_le _) ⟨by rw [e9], rfl, rfl, rfl, rfl⟩
      · skip
        have e9 : pb_b (pb_apt x y z) = nI 1 := by unfold pb_apt; rw [decide_eq_true ⟨c1, c2, c3⟩]; rfl
        refine v_iconst h (v := nI 1) dX3_apart_15 (q := 16) rfl (by decide +kernel) ?_
        refine v_goto h dX3_apart_16 (tgt := 20) (by decide) ?_
        refine v_iret h hQ rfl (by first | exact rfl | exact pb_b_nar _) dX3_apart_20 (Nat.zero_le _) (Nat.zero_le _) ⟨by rw [e9], rfl, rfl, rfl, rfl⟩
set_option maxHeartbeats 4000000 in
set_option maxRecDepth 100000 in
theorem c_X3_mixed {l : Launch} (hfl : l.stackTraces = false) {sz : Nat} {sk : pb_Sk} {rf : pb_Rf} {sg : pb_Sg} {x y z : Int32} : pb_Met l mX3_mixed 1 0 0 [.int x, .int y, .int z] sz sk rf sg (pb_is (some (.int (pb_mix x y z))) sz sk rf sg) := by
  refine pb_start hfl (by decide +kernel) rfl (pb_c1 rfl) (Nat.le_of_ble_eq_true rfl) (fun F hF h hQ => ?_)
  subst hF
  show pv F 0 0 sz sk rf sg 0 [some (.int x), some (.int y), some (.int z)] []
  refine v_iload_n h (i := 0) dX3_mixed_0 (q := 1) rfl rfl rfl ?_
  refine v_iload_n h (i := 2) dX3_mixed_1 (q := 2) rfl rfl rfl ?_
  refine v_icmp_ne h dX3_mixed_2 (q := 5) rfl (tgt := 9) (by decide) (fun c1 => ?_) (fun c1 => ?_)
  · skip
    have e9 : pb_mix x y z = x := if_neg c1
    refine v_iload_n h (i := 0) dX3_mixed_9 (q := 10) rfl rfl rfl ?_
    refine v_iret h hQ rfl rfl dX3_mixed_10 (Nat.zero_le _) (Nat.zero_le _) ⟨by rw [e9], rfl, rfl, rfl, rfl⟩
  · skip
    have e9 : pb_mix x y z = y := if_pos c1
    refine v_iload_n h (i := 1) dX3_mixed_5 (q := 6) rfl rfl rfl ?_
    refine v_goto h dX3_mixed_6 (tgt := 10) (by decide) ?_
    refine v_iret h hQ rfl rfl dX3_mixed_10 (Nat.zero_le _) (Nat.zero_le _) ⟨by rw [e9], rfl, rfl, rfl, rfl⟩
set_option maxHeartbeats 4000000 in
set_option maxRecDepth 100000 in
theorem c_X3_clash {l : Launch} (hfl : l.stackTraces = false) {sz : Nat} {sk : pb_Sk} {rf : pb_Rf} {sg : pb_Sg} {p r s t : Nat} (hp : pb_plan sk rf p) (hr : pb_plan sk rf r) (hs : pb_plan sk rf s) (ht : t < 16) : pb_Met l mX3_clash 2 0 0 [.ref p, .ref r, .ref s, .int (nI t)] sz sk rf sg (pb_is (some (.int (pb_b (pb_clash sg p r s t)))) sz sk rf sg) := by
  refine pb_start hfl (by decide +kernel) rfl (pb_c1 rfl) (Nat.le_of_ble_eq_true rfl) (fun F hF h hQ => ?_)
  subst hF
  show pv F 0 0 sz sk rf sg 0 [some (.ref p), some (.ref r), some (.ref s), some (.int (nI t))] []
  obtain ⟨hp0, hp1, hp2, hp3, hp4, hp5, hp6, hp7, hp8⟩ := id hp
  obtain ⟨hr0, hr1, hr2, hr3, hr4, hr5, hr6, hr7, hr8⟩ := id hr
  obtain ⟨hs0, hs1, hs2, hs3, hs4, hs5, hs6, hs7, hs8⟩ := id hs
  refine v_aload_n h (i := 0) dX3_clash_0 (q := 1) rfl rfl rfl ?_
  refine v_aload_n h (i := 2) dX3_clash_1 (q := 2) rfl rfl rfl ?_
  refine v_iload_n h (i := 3) dX3_clash_2 (q := 3) rfl rfl rfl ?_
  refine v_callV1 h (c_X4_same hfl hp hs ht) kX4_same tw564 tw566 (by assumption) (by decide) rfl rfl rfl (by simp [Value.category]) (by decide) (Nat.zero_le _) (Nat.zero_le _) rfl dX3_clash_3 (q := 6) rfl ?_
  refine v_if_ne h dX3_clash_6 (q := 9) rfl (tgt := 27) (by decide) (fun c1 => ?_) (fun c1 => ?_)
  · skip
    have e1 := pb_ne_f (fun q => c1 (pb_b_0.mpr q))
    have e9 : pb_b (pb_clash sg p r s t) = nI 0 := by simp [pb_clash, e1]; rfl
    refine v_iconst h (v := nI 0) dX3_clash_27 (q := 28) rfl (by decide +kernel) ?_
    refine v_iret h hQ rfl (by first | exact rfl | exact pb_b_nar _) dX3_clash_28 (Nat.zero_le _) (Nat.zero_le _) ⟨by rw [e9], rfl, rfl, rfl, rfl⟩
  · skip
    have e1 := pb_b_0.mp c1
    refine v_aload_n h (i := 1) dX3_clash_9 (q := 10) rfl rfl rfl ?_
    refine v_aload_n h (i := 2) dX3_clash_10 (q := 11) rfl rfl rfl ?_
    refine v_iload_n h (i := 3) dX3_clash_11 (q := 12) rfl rfl rfl ?_
    refine v_callV1 h (c_X4_same hfl hr hs ht) kX4_same tw564 tw566 (by assumption) (by decide) rfl rfl rfl (by simp [Value.category]) (by decide) (Nat.zero_le _) (Nat.zero_le _) rfl dX3_clash_12 (q := 15) rfl ?_
    refine v_if_ne h dX3_clash_15 (q := 18) rfl (tgt := 27) (by decide) (fun c2 => ?_) (fun c2 => ?_)
    · skip
      have e2 := pb_ne_f (fun q => c2 (pb_b_0.mpr q))
      have e9 : pb_b (pb_clash sg p r s t) = nI 0 := by simp [pb_clash, e1, e2]; rfl
      refine v_iconst h (v := nI 0) dX3_clash_27 (q := 28) rfl (by decide +kernel) ?_
      refine v_iret h hQ rfl (by first | exact rfl | exact pb_b_nar _) dX3_clash_28 (Nat.zero_le _) (Nat.zero_le _) ⟨by rw [e9], rfl, rfl, rfl, rfl⟩
    · skip
      have e2 := pb_b_0.mp c2
      refine v_aload_n h (i := 0) dX3_clash_18 (q := 19) rfl rfl rfl ?_
      refine v_aload_n h (i := 1) dX3_clash_19 (q := 20) rfl rfl rfl ?_
      refine v_iload_n h (i := 3) dX3_clash_20 (q := 21) rfl rfl rfl ?_
      refine v_callV1 h (c_X4_same hfl hp hr ht) kX4_same tw564 tw566 (by assumption) (by decide) rfl rfl rfl (by simp [Value.category]) (by decide) (Nat.zero_le _) (Nat.zero_le _) rfl dX3_clash_21 (q := 24) rfl ?_
      refine v_if_eq h dX3_clash_24 (q := 27) rfl (tgt := 29) (by decide) (fun c3 => ?_) (fun c3 => ?_)
      · skip
        have e3 := pb_b_0.mp c3
        refine v_aload_n h (i := 0) dX3_clash_29 (q := 30) rfl rfl rfl ?_
        refine v_iload_n h (i := 3) dX3_clash_30 (q := 31) rfl rfl rfl ?_
        refine v_callV1 h (c_X4_has hfl hp ht) kX4_has tw568 tw388 (by assumption) (by decide) rfl rfl rfl (by simp [Value.category]) (by decide) (Nat.zero_le _) (Nat.zero_le _) rfl dX3_clash_31 (q := 34) rfl ?_
        refine v_if_eq h dX3_clash_34 (q := 37) rfl (tgt := 53) (by decide) (fun c4 => ?_) (fun c4 => ?_)
        · skip
          have e4 := pb_b_0.mp c4
          have e9 : pb_b (pb_clash sg p r s t) = nI 1 := by simp [pb_clash, e1, e2, e3, e4]; rfl
          refine v_iconst h (v := nI 1) dX3_clash_53 (q := 54) rfl (by decide +kernel) ?_
          refine v_iret h hQ rfl (by first | exact rfl | exact pb_b_nar _) dX3_clash_54 (Nat.zero_le _) (Nat.zero_le _) ⟨by rw [e9], rfl, rfl, rfl, rfl⟩
        · skip
          have e4 := pb_ne_f (fun q => c4 (pb_b_0.mpr q))
          refine v_aload_n h (i := 1) dX3_clash_37 (q := 38) rfl rfl rfl ?_
          refine v_iload_n h (i := 3) dX3_clash_38 (q := 39) rfl rfl rfl ?_
          refine v_callV1 h (c_X4_has hfl hr ht) kX4_has tw568 tw388 (by assumption) (by decide) rfl rfl rfl (by simp [Value.category]) (by decide) (Nat.zero_le _) (Nat.zero_le _) rfl dX3_clash_39 (q := 42) rfl ?_
          refine v_if_eq h dX3_clash_42 (q := 45) rfl (tgt := 53) (by decide) (fun c5 => ?_) (fun c5 => ?_)
          · skip
            have e5 := pb_b_0.mp c5
            have e9 : pb_b (pb_clash sg p r s t) = nI 1 := by simp [pb_clash, e1, e2, e3, e4, e5]; rfl
            refine v_iconst h (v := nI 1) dX3_clash_53 (q := 54) rfl (by decide +kernel) ?_
            refine v_iret h hQ rfl (by first | exact rfl | exact pb_b_nar _) dX3_clash_54 (Nat.zero_le _) (Nat.zero_le _) ⟨by rw [e9], rfl, rfl, rfl, rfl⟩
          · skip
            have e5 := pb_ne_f (fun q => c5 (pb_b_0.mpr q))
            refine v_aload_n h (i := 2) dX3_clash_45 (q := 46) rfl rfl rfl ?_
            refine v_iload_n h (i := 3) dX3_clash_46 (q := 47) rfl rfl rfl ?_
            refine v_callV1 h (c_X4_has hfl hs ht) kX4_has tw568 tw388 (by assumption) (by decide) rfl rfl rfl (by simp [Value.category]) (by decide) (Nat.zero_le _) (Nat.zero_le _) rfl dX3_clash_47 (q := 50) rfl ?_
            refine v_if_ne h dX3_clash_50 (q := 53) rfl (tgt := 55) (by decide) (fun c6 => ?_) (fun c6 => ?_)
            · skip
              have e6 := pb_ne_f (fun q => c6 (pb_b_0.mpr q))
              refine v_aload_n h (i := 0) dX3_clash_55 (q := 56) rfl rfl rfl ?_
              refine v_getr h fl_X3_55 (by assumption) rfl (by assumption) dX3_clash_56 (q := 59) rfl ?_
              refine v_iload_n h (i := 3) dX3_clash_59 (q := 60) rfl rfl rfl ?_
              refine v_iald h (by assumption) rfl (by first | assumption | omega) (by decide) dX3_clash_60 (q := 61) rfl ?_
              refine v_aload_n h (i := 1) dX3_clash_61 (q := 62) rfl rfl rfl ?_
              refine v_getr h fl_X3_55 (by assumption) rfl (by assumption) dX3_clash_62 (q := 65) rfl ?_
              refine v_iload_n h (i := 3) dX3_clash_65 (q := 66) rfl rfl rfl ?_
              refine v_iald h (by assumption) rfl (by first | assumption | omega) (by decide) dX3_clash_66 (q := 67) rfl ?_
              refine v_aload_n h (i := 2) dX3_clash_67 (q := 68) rfl rfl rfl ?_
              refine v_getr h fl_X3_55 (by assumption) rfl (by assumption) dX3_clash_68 (q := 71) rfl ?_
              refine v_iload_n h (i := 3) dX3_clash_71 (q := 72) rfl rfl rfl ?_
              refine v_iald h (by assumption) rfl (by first | assumption | omega) (by decide) dX3_clash_72 (q := 73) rfl ?_
              refine v_callS1 h (c_X3_apart hfl ) kX3_apart rfl tw569 rfl rfl (by simp [Value.category]) (by decide) (Nat.zero_le _) (Nat.zero_le _) rfl dX3_clash_73 (q := 76) rfl ?_
              refine v_if_ne h dX3_clash_76 (q := 79) rfl (tgt := 127) (by decide) (fun c7 => ?_) (fun c7 => ?_)
              · skip
                have e7 := pb_ne_f (fun q => c7 (pb_b_0.mpr q))
                have e9 : pb_b (pb_clash sg p r s t) = nI 1 := by simp [pb_clash, e1, e2, e3, e4, e5, e6, e7]; rfl
                refine v_iconst h (v := nI 1) dX3_clash_127 (q := 128) rfl (by decide +kernel) ?_
                refine v_goto h dX3_clash_128 (tgt := 132) (by decide) ?_
                refine v_iret h hQ rfl (by first | exact rfl | exact pb_b_nar _) dX3_clash_132 (Nat.zero_le _) (Nat.zero_le _) ⟨by rw [e9], rfl, rfl, rfl, rfl⟩
              · skip
                have e7 := pb_b_0.mp c7
                refine v_aload_n h (i := 0) dX3_clash_79 (q := 80) rfl rfl rfl ?_
                refine v_getr h fl_X3_62 (by assumption) rfl (by assumption) dX3_clash_80 (q := 83) rfl ?_
                refine v_iload_n h (i := 3) dX3_clash_83 (q := 84) rfl rfl rfl ?_
                refine v_iald h (by assumption) rfl (by first | assumption | omega) (by decide) dX3_clash_84 (q := 85) rfl ?_
                refine v_aload_n h (i := 1) dX3_clash_85 (q := 86) rfl rfl rfl ?_
                refine v_getr h fl_X3_62 (by assumption) rfl (by assumption) dX3_clash_86 (q := 89) rfl ?_
                refine v_iload_n h (i := 3) dX3_clash_89 (q := 90) rfl rfl rfl ?_
                refine v_iald h (by assumption) rfl (by first | assumption | omega) (by decide) dX3_clash_90 (q := 91) rfl ?_
                refine v_aload_n h (i := 2) dX3_clash_91 (q := 92) rfl rfl rfl ?_
                refine v_getr h fl_X3_62 (by assumption) rfl (by assumption) dX3_clash_92 (q := 95) rfl ?_
                refine v_iload_n h (i := 3) dX3_clash_95 (q := 96) rfl rfl rfl ?_
                refine v_iald h (by assumption) rfl (by first | assumption | omega) (by decide) dX3_clash_96 (q := 97) rfl ?_
                refine v_callS1 h (c_X3_apart hfl ) kX3_apart rfl tw569 rfl rfl (by simp [Value.category]) (by decide) (Nat.zero_le _) (Nat.zero_le _) rfl dX3_clash_97 (q := 100) rfl ?_
                refine v_if_ne h dX3_clash_100 (q := 103) rfl (tgt := 127) (by decide) (fun c8 => ?_) (fun c8 => ?_)
                · skip
                  have e8 := pb_ne_f (fun q => c8 (pb_b_0.mpr q))
                  have e9 : pb_b (pb_clash sg p r s t) = nI 1 := by simp [pb_clash, e1, e2, e3, e4, e5, e6, e7, e8]; rfl
                  refine v_iconst h (v := nI 1) dX3_clash_127 (q := 128) rfl (by decide +kernel) ?_
                  refine v_goto h dX3_clash_128 (tgt := 132) (by decide) ?_
                  refine v_iret h hQ rfl (by first | exact rfl | exact pb_b_nar _) dX3_clash_132 (Nat.zero_le _) (Nat.zero_le _) ⟨by rw [e9], rfl, rfl, rfl, rfl⟩
                · skip
                  have e8 := pb_b_0.mp c8
                  refine v_aload_n h (i := 0) dX3_clash_103 (q := 104) rfl rfl rfl ?_
                  refine v_getr h fl_X3_65 (by assumption) rfl (by assumption) dX3_clash_104 (q := 107) rfl ?_
                  refine v_iload_n h (i := 3) dX3_clash_107 (q := 108) rfl rfl rfl ?_
                  refine v_iald h (by assumption) rfl (by first | assumption | omega) (by decide) dX3_clash_108 (q := 109) rfl ?_
                  refine v_aload_n h (i := 1) dX3_clash_109 (q := 110) rfl rfl rfl ?_
                  refine v_getr h fl_X3_65 (by assumption) rfl (by assumption) dX3_clash_110 (q := 113) rfl ?_
                  refine v_iload_n h (i := 3) dX3_clash_113 (q := 114) rfl rfl rfl ?_
                  refine v_iald h (by assumption) rfl (by first | assumption | omega) (by decide) dX3_clash_114 (q := 115) rfl ?_
                  refine v_aload_n h (i := 2) dX3_clash_115 (q := 116) rfl rfl rfl ?_
                  refine v_getr h fl_X3_65 (by assumption) rfl (by assumption) dX3_clash_116 (q := 119) rfl ?_
                  refine v_iload_n h (i := 3) dX3_clash_119 (q := 120) rfl rfl rfl ?_
                  refine v_iald h (by assumption) rfl (by first | assumption | omega) (by decide) dX3_clash_120 (q := 121) rfl ?_
                  refine v_callS1 h (c_X3_apart hfl ) kX3_apart rfl tw569 rfl rfl (by simp [Value.category]) (by decide) (Nat.zero_le _) (Nat.zero_le _) rfl dX3_clash_121 (q := 124) rfl ?_
                  refine v_if_eq h dX3_clash_124 (q := 127) rfl (tgt := 131) (by decide) (fun c9 => ?_) (fun c9 => ?_)
                  · skip
                    have ea := pb_b_0.mp c9
                    have e9 : pb_b (pb_clash sg p r s t) = nI 0 := by simp [pb_clash, e1, e2, e3, e4, e5, e6, e7, e8, ea]; rfl
                    refine v_iconst h (v := nI 0) dX3_clash_131 (q := 132) rfl (by decide +kernel) ?_
                    refine v_iret h hQ rfl (by first | exact rfl | exact pb_b_nar _) dX3_clash_132 (Nat.zero_le _) (Nat.zero_le _) ⟨by rw [e9], rfl, rfl, rfl, rfl⟩
                  · skip
                    have ea := pb_ne_f (fun q => c9 (pb_b_0.mpr q))
                    have e9 : pb_b (pb_clash sg p r s t) = nI 1 := by simp [pb_clash, e1, e2, e3, e4, e5, e6, e7, e8, ea]; rfl
                    refine v_iconst h (v := nI 1) dX3_clash_127 (q := 128) rfl (by decide +kernel) ?_
                    refine v_goto h dX3_clash_128 (tgt := 132) (by decide) ?_
                    refine v_iret h hQ rfl (by first | exact rfl | exact pb_b_nar _) dX3_clash_132 (Nat.zero_le _) (Nat.zero_le _) ⟨by rw [e9], rfl, rfl, rfl, rfl⟩
            · skip
              have e6 := pb_b_0.mp c6
              have e9 : pb_b (pb_clash sg p r s t) = nI 1 := by simp [pb_clash, e1, e2, e3, e4, e5, e6]; rfl
              refine v_iconst h (v := nI 1) dX3_clash_53 (q := 54) rfl (by decide +kernel) ?_
              refine v_iret h hQ rfl (by first | exact rfl | exact pb_b_nar _) dX3_clash_54 (Nat.zero_le _) (Nat.zero_le _) ⟨by rw [e9], rfl, rfl, rfl, rfl⟩
      · skip
        have e3 := pb_ne_f (fun q => c3 (pb_b_0.mpr q))
        have e9 : pb_b (pb_clash sg p r s t) = nI 0 := by simp [pb_clash, e1, e2, e3]; rfl
        refine v_iconst h (v := nI 0) dX3_clash_27 (q := 28) rfl (by decide +kernel) ?_
        refine v_iret h hQ rfl (by first | exact rfl | exact pb_b_nar _) dX3_clash_28 (Nat.zero_le _) (Nat.zero_le _) ⟨by rw [e9], rfl, rfl, rfl, rfl⟩
set_option maxHeartbeats 4000000 in
set_option maxRecDepth 100000 in
theorem c_X3_joinTask {l : Launch} (hfl : l.stackTraces = false) {sz : Nat} {sk : pb_Sk} {rf : pb_Rf} {sg : pb_Sg} {J p r s t : Nat} (hj : pb_joint sk rf J) (hp : pb_plan sk rf p) (hr : pb_plan sk rf r) (hs : pb_plan sk rf s) (ht : t < 16) : pb_Met l mX3_joinTask 3 0 0 [.ref J, .ref p, .ref r, .ref s, .int (nI t)] sz sk rf sg (pb_is none sz sk rf (pb_jt sg J p r s t)) := by
  refine pb_start hfl (by decide +kernel) rfl (pb_c1 rfl) (Nat.le_of_ble_eq_true rfl) (fun F hF h hQ => ?_)
  subst hF
  show pv F 0 0 sz sk rf sg 0 [some (.ref J), some (.ref p), some (.ref r), some (.ref s), some (.int (nI t)), none] []
  obtain ⟨hj0, hj1, hj2⟩ := id hj
  obtain ⟨hp0, hp1, hp2, hp3, hp4, hp5, hp6, hp7, hp8⟩ := id hp
  obtain ⟨hr0, hr1, hr2, hr3, hr4, hr5, hr6, hr7, hr8⟩ := id hr
  obtain ⟨hs0, hs1, hs2, hs3, hs4, hs5, hs6, hs7, hs8⟩ := id hs
  have hj3 := hj2.1
  refine v_aload_n h (i := 1) dX3_joinTask_0 (q := 1) rfl rfl rfl ?_
  refine v_aload_n h (i := 3) dX3_joinTask_1 (q := 2) rfl rfl rfl ?_
  refine v_iload h dX3_joinTask_2 (q := 4) rfl rfl ?_
  refine v_callV1 h (c_X4_same hfl hp hs ht) kX4_same tw564 tw566 (by assumption) (by decide) rfl rfl rfl (by simp [Value.category]) (by decide) (Nat.zero_le _) (Nat.zero_le _) rfl dX3_joinTask_4 (q := 7) rfl ?_
  refine v_if_eq h dX3_joinTask_7 (q := 10) rfl (tgt := 23) (by decide) (fun c1 => ?_) (fun c1 => ?_)
  · skip
    have e1 := pb_b_0.mp c1
    refine v_aload_n h (i := 2) dX3_joinTask_23 (q := 24) rfl rfl rfl ?_
    refine v_aload_n h (i := 3) dX3_joinTask_24 (q := 25) rfl rfl rfl ?_
    refine v_iload h dX3_joinTask_25 (q := 27) rfl rfl ?_
    refine v_callV1 h (c_X4_same hfl hr hs ht) kX4_same tw564 tw566 (by assumption) (by decide) rfl rfl rfl (by simp [Value.category]) (by decide) (Nat.zero_le _) (Nat.zero_le _) rfl dX3_joinTask_27 (q := 30) rfl ?_
    refine v_if_ne h dX3_joinTask_30 (q := 33) rfl (tgt := 43) (by decide) (fun c2 => ?_) (fun c2 => ?_)
    · skip
      have e2 := pb_ne_f (fun q => c2 (pb_b_0.mpr q))
      have e9 : pb_jt sg J p r s t = pb_take sg (J + 1) p t := by simp [pb_jt, e1, e2]
      refine v_aload_n h (i := 0) dX3_joinTask_43 (q := 44) rfl rfl rfl ?_
      refine v_getr h fl_X3_12 (by assumption) rfl (by assumption) dX3_joinTask_44 (q := 47) rfl ?_
      refine v_aload_n h (i := 1) dX3_joinTask_47 (q := 48) rfl rfl rfl ?_
      refine v_iload h dX3_joinTask_48 (q := 50) rfl rfl ?_
      refine v_callV0 h (c_X4_take hfl hj2 hp ht) kX4_take tw572 tw521 (by assumption) (by decide) rfl rfl rfl (by simp [Value.category]) (by decide) (Nat.zero_le _) (Nat.zero_le _) rfl dX3_joinTask_50 (q := 53) rfl ?_
      refine v_goto h dX3_joinTask_53 (tgt := 177) (by decide) ?_
      refine v_vret h hQ rfl dX3_joinTask_177 (Nat.zero_le _) (Nat.zero_le _) ⟨rfl, rfl, rfl, rfl, e9.symm⟩
    · skip
      have e2 := pb_b_0.mp c2
      refine v_aload_n h (i := 1) dX3_joinTask_33 (q := 34) rfl rfl rfl ?_
      refine v_aload_n h (i := 2) dX3_joinTask_34 (q := 35) rfl rfl rfl ?_
      refine v_iload h dX3_joinTask_35 (q := 37) rfl rfl ?_
      refine v_callV1 h (c_X4_same hfl hp hr ht) kX4_same tw564 tw566 (by assumption) (by decide) rfl rfl rfl (by simp [Value.category]) (by decide) (Nat.zero_le _) (Nat.zero_le _) rfl dX3_joinTask_37 (q := 40) rfl ?_
      refine v_if_eq h dX3_joinTask_40 (q := 43) rfl (tgt := 56) (by decide) (fun c3 => ?_) (fun c3 => ?_)
      · skip
        have e3 := pb_b_0.mp c3
        have e9 : pb_jt sg J p r s t = pb_jm sg J p r s t := by unfold pb_jt; rw [if_neg (by rw [e1]; decide), if_neg (by rw [e2, e3]; decide)]
        refine v_aload_n h (i := 1) dX3_joinTask_56 (q := 57) rfl rfl rfl ?_
        refine v_getr h fl_X3_68 (by assumption) rfl (by assumption) dX3_joinTask_57 (q := 60) rfl ?_
        refine v_iload h dX3_joinTask_60 (q := 62) rfl rfl ?_
        refine v_iald h (by assumption) rfl (by first | assumption | omega) (by decide) dX3_joinTask_62 (q := 63) rfl ?_
        refine v_aload_n h (i := 3) dX3_joinTask_63 (q := 64) rfl rfl rfl ?_
        refine v_getr h fl_X3_68 (by assumption) rfl (by assumption) dX3_joinTask_64 (q := 67) rfl ?_
        refine v_iload h dX3_joinTask_67 (q := 69) rfl rfl ?_
        refine v_iald h (by assumption) rfl (by first | assumption | omega) (by decide) dX3_joinTask_69 (q := 70) rfl ?_
        refine v_ixor h dX3_joinTask_70 (q := 71) rfl ?_
        refine v_istore h dX3_joinTask_71 (q := 73) rfl (Nat.le_of_ble_eq_true rfl) rfl ?_
        refine v_aload_n h (i := 0) dX3_joinTask_73 (q := 74) rfl rfl rfl ?_
        refine v_getr h fl_X3_12 (by assumption) rfl (by assumption) dX3_joinTask_74 (q := 77) rfl ?_
        refine v_iload h dX3_joinTask_77 (q := 79) rfl rfl ?_
        refine v_aload_n h (i := 1) dX3_joinTask_79 (q := 80) rfl rfl rfl ?_
        refine v_getr h fl_X3_55 (by assumption) rfl (by assumption) dX3_joinTask_80 (q := 83) rfl ?_
        refine v_iload h dX3_joinTask_83 (q := 85) rfl rfl ?_
        refine v_iald h (by assumption) rfl (by first | assumption | omega) (by decide) dX3_joinTask_85 (q := 86) rfl ?_
        refine v_aload_n h (i := 2) dX3_joinTask_86 (q := 87) rfl rfl rfl ?_
        refine v_getr h fl_X3_55 (by assumption) rfl (by assumption) dX3_joinTask_87 (q := 90) rfl ?_
        refine v_iload h dX3_joinTask_90 (q := 92) rfl rfl ?_
        refine v_iald h (by assumption) rfl (by first | assumption | omega) (by decide) dX3_joinTask_92 (q := 93) rfl ?_
        refine v_aload_n h (i := 3) dX3_joinTask_93 (q := 94) rfl rfl rfl ?_
        refine v_getr h fl_X3_55 (by assumption) rfl (by assumption) dX3_joinTask_94 (q := 97) rfl ?_
        refine v_iload h dX3_joinTask_97 (q := 99) rfl rfl ?_
        refine v_iald h (by assumption) rfl (by first | assumption | omega) (by decide) dX3_joinTask_99 (q := 100) rfl ?_
        refine v_callS1 h (c_X3_mixed hfl ) kX3_mixed rfl tw577 rfl rfl (by simp [Value.category]) (by decide) (Nat.zero_le _) (Nat.zero_le _) rfl dX3_joinTask_100 (q := 103) rfl ?_
        refine v_aload_n h (i := 1) dX3_joinTask_103 (q := 104) rfl rfl rfl ?_
        refine v_getr h fl_X3_62 (by assumption) rfl (by assumption) dX3_joinTask_104 (q := 107) rfl ?_
        refine v_iload h dX3_joinTask_107 (q := 109) rfl rfl ?_
        refine v_iald h (by assumption) rfl (by first | assumption | omega) (by decide) dX3_joinTask_109 (q := 110) rfl ?_
        refine v_aload_n h (i := 2) dX3_joinTask_110 (q := 111) rfl rfl rfl ?_
        refine v_getr h fl_X3_62 (by assumption) rfl (by assumption) dX3_joinTask_111 (q := 114) rfl ?_
        refine v_iload h dX3_joinTask_114 (q := 116) rfl rfl ?_
        refine v_iald h (by assumption) rfl (by first | assumption | omega) (by decide) dX3_joinTask_116 (q := 117) rfl ?_
        refine v_aload_n h (i := 3) dX3_joinTask_117 (q := 118) rfl rfl rfl ?_
        refine v_getr h fl_X3_62 (by assumption) rfl (by assumption) dX3_joinTask_118 (q := 121) rfl ?_
        refine v_iload h dX3_joinTask_121 (q := 123) rfl rfl ?_
        refine v_iald h (by assumption) rfl (by first | assumption | omega) (by decide) dX3_joinTask_123 (q := 124) rfl ?_
        refine v_callS1 h (c_X3_mixed hfl ) kX3_mixed rfl tw577 rfl rfl (by simp [Value.category]) (by decide) (Nat.zero_le _) (Nat.zero_le _) rfl dX3_joinTask_124 (q := 127) rfl ?_
        refine v_aload_n h (i := 1) dX3_joinTask_127 (q := 128) rfl rfl rfl ?_
        refine v_getr h fl_X3_65 (by assumption) rfl (by assumption) dX3_joinTask_128 (q := 131) rfl ?_
        refine v_iload h dX3_joinTask_131 (q := 133) rfl rfl ?_
        refine v_iald h (by assumption) rfl (by first | assumption | omega) (by decide) dX3_joinTask_133 (q := 134) rfl ?_
        refine v_aload_n h (i := 2) dX3_joinTask_134 (q := 135) rfl rfl rfl ?_
        refine v_getr h fl_X3_65 (by assumption) rfl (by assumption) dX3_joinTask_135 (q := 138) rfl ?_
        refine v_iload h dX3_joinTask_138 (q := 140) rfl rfl ?_
        refine v_iald h (by assumption) rfl (by first | assumption | omega) (by decide) dX3_joinTask_140 (q := 141) rfl ?_
        refine v_aload_n h (i := 3) dX3_joinTask_141 (q := 142) rfl rfl rfl ?_
        refine v_getr h fl_X3_65 (by assumption) rfl (by assumption) dX3_joinTask_142 (q := 145) rfl ?_
        refine v_iload h dX3_joinTask_145 (q := 147) rfl rfl ?_
        refine v_iald h (by assumption) rfl (by first | assumption | omega) (by decide) dX3_joinTask_147 (q := 148) rfl ?_
        refine v_callS1 h (c_X3_mixed hfl ) kX3_mixed rfl tw577 rfl rfl (by simp [Value.category]) (by decide) (Nat.zero_le _) (Nat.zero_le _) rfl dX3_joinTask_148 (q := 151) rfl ?_
        refine v_aload_n h (i := 1) dX3_joinTask_151 (q := 152) rfl rfl rfl ?_
        refine v_getr h fl_X3_68 (by assumption) rfl (by assumption) dX3_joinTask_152 (q := 155) rfl ?_
        refine v_iload h dX3_joinTask_155 (q := 157) rfl rfl ?_
        refine v_iald h (by assumption) rfl (by first | assumption | omega) (by decide) dX3_joinTask_157 (q := 158) rfl ?_
        refine v_iload h dX3_joinTask_158 (q := 160) rfl rfl ?_
        refine v_iand h dX3_joinTask_160 (q := 161) rfl ?_
        refine v_aload_n h (i := 2) dX3_joinTask_161 (q := 162) rfl rfl rfl ?_
        refine v_getr h fl_X3_68 (by assumption) rfl (by assumption) dX3_joinTask_162 (q := 165) rfl ?_
        refine v_iload h dX3_joinTask_165 (q := 167) rfl rfl ?_
        refine v_iald h (by assumption) rfl (by first | assumption | omega) (by decide) dX3_joinTask_167 (q := 168) rfl ?_
        refine v_iload h dX3_joinTask_168 (q := 170) rfl rfl ?_
        refine v_iconst h (v := (-1)) dX3_joinTask_170 (q := 171) rfl (by decide +kernel) ?_
        refine v_ixor h dX3_joinTask_171 (q := 172) rfl ?_
        refine v_iand h dX3_joinTask_172 (q := 173) rfl ?_
        refine v_ior h dX3_joinTask_173 (q := 174) rfl ?_
        refine v_callV0 h (c_X4_put hfl hj2 ht) kX4_put tw580 tw396 (by assumption) (by decide) rfl rfl rfl (by simp [Value.category]) (by decide) (Nat.zero_le _) (Nat.zero_le _) rfl dX3_joinTask_174 (q := 177) rfl ?_
        refine v_vret h hQ rfl dX3_joinTask_177 (Nat.zero_le _) (Nat.zero_le _) ⟨rfl, rfl, rfl, rfl, e9.symm⟩
      · skip
        have e3 := pb_ne_f (fun q => c3 (pb_b_0.mpr q))
        have e9 : pb_jt sg J p r s t = pb_take sg (J + 1) p t := by simp [pb_jt, e1, e3]
        refine v_aload_n h (i := 0) dX3_joinTask_43 (q := 44) rfl rfl rfl ?_
        refine v_getr h fl_X3_12 (by assumption) rfl (by assumption) dX3_joinTask_44 (q := 47) rfl ?_
        refine v_aload_n h (i := 1) dX3_joinTask_47 (q := 48) rfl rfl rfl ?_
        refine v_iload h dX3_joinTask_48 (q := 50) rfl rfl ?_
        refine v_callV0 h (c_X4_take hfl hj2 hp ht) kX4_take tw572 tw521 (by assumption) (by decide) rfl rfl rfl (by simp [Value.category]) (by decide) (Nat.zero_le _) (Nat.zero_le _) rfl dX3_joinTask_50 (q := 53) rfl ?_
        refine v_goto h dX3_joinTask_53 (tgt := 177) (by decide) ?_
        refine v_vret h hQ rfl dX3_joinTask_177 (Nat.zero_le _) (Nat.zero_le _) ⟨rfl, rfl, rfl, rfl, e9.symm⟩
  · skip
    have e1 := pb_ne_f (fun q => c1 (pb_b_0.mpr q))
    have e9 : pb_jt sg J p r s t = pb_take sg (J + 1) r t := if_pos e1
    refine v_aload_n h (i := 0) dX3_joinTask_10 (q := 11) rfl rfl rfl ?_
    refine v_getr h fl_X3_12 (by assumption) rfl (by assumption) dX3_joinTask_11 (q := 14) rfl ?_
    refine v_aload_n h (i := 2) dX3_joinTask_14 (q := 15) rfl rfl rfl ?_
    refine v_iload h dX3_joinTask_15 (q := 17) rfl rfl ?_
    refine v_callV0 h (c_X4_take hfl hj2 hr ht) kX4_take tw572 tw521 (by assumption) (by decide) rfl rfl rfl (by simp [Value.category]) (by decide) (Nat.zero_le _) (Nat.zero_le _) rfl dX3_joinTask_17 (q := 20) rfl ?_
    refine v_goto h dX3_joinTask_20 (tgt := 177) (by decide) ?_
    refine v_vret h hQ rfl dX3_joinTask_177 (Nat.zero_le _) (Nat.zero_le _) ⟨rfl, rfl, rfl, rfl, e9.symm⟩
set_option maxHeartbeats 4000000 in
set_option maxRecDepth 100000 in
theorem c_X3_join {l : Launch} (hfl : l.stackTraces = false) {sz : Nat} {sk : pb_Sk} {rf : pb_Rf} {sg : pb_Sg} {J b f : Nat} (hj : pb_joint sk rf J) (hb : pb_br sk rf b) (hf : pb_br sk rf f) : pb_Met l mX3_join 4 0 0 [.ref J, .ref b, .ref f] sz sk rf sg (pb_is none sz sk rf (pb_jnN sg J b f 16)) := by
  refine pb_start hfl (by decide +kernel) rfl (pb_c1 rfl) (Nat.le_of_ble_eq_true rfl) (fun F hF h hQ => ?_)
  subst hF
  show pv F 0 0 sz sk rf sg 0 [some (.ref J), some (.ref b), some (.ref f), none] []
  obtain ⟨hj0, hj1, hj2⟩ := id hj
  obtain ⟨hb0, hb1, hb2, hb3, hb4, hb5, hb6, hb7, hb8⟩ := id hb
  obtain ⟨hf0, hf1, hf2, hf3, hf4, hf5, hf6, hf7, hf8⟩ := id hf
  have hj3 := hj2.1
  refine v_aload_n h (i := 0) dX3_join_0 (q := 1) rfl rfl rfl ?_
  refine v_iconst h (v := nI 0) dX3_join_1 (q := 2) rfl (by decide +kernel) ?_
  refine v_puti h fl_X3_18 (by assumption) rfl rfl dX3_join_2 (q := 5) rfl ?_
  refine v_aload_n h (i := 0) dX3_join_5 (q := 6) rfl rfl rfl ?_
  refine v_iconst h (v := nI 0) dX3_join_6 (q := 7) rfl (by decide +kernel) ?_
  refine v_puti h fl_X3_22 (by assumption) rfl rfl dX3_join_7 (q := 10) rfl ?_
  refine v_iconst h (v := nI 0) dX3_join_10 (q := 11) rfl (by decide +kernel) ?_
  refine v_istore_n h (i := 3) dX3_join_11 (q := 12) rfl rfl (Nat.le_of_ble_eq_true rfl) rfl ?_
  have lp : ∀ (j i : Nat), i + j = 16 → pv F 0 0 sz sk rf (pb_jnN sg J b f i) 12 [some (.ref J), some (.ref b), some (.ref f), some (.int (nI i))] [] := by
    intro j
    induction j with
    | zero =>
      intro i  hi
      obtain rfl : i = 16 := by omega
      refine v_iload_n h (i := 3) dX3_join_12 (q := 13) rfl rfl rfl ?_
      refine v_bipush h (v := nI 16) dX3_join_13 (q := 15) rfl (by decide +kernel) ?_
      refine v_icmp_ge h dX3_join_15 (q := 18) rfl (tgt := 126) (by decide) (fun c1 => ?_) (fun c1 => pb_kle (Nat.le_refl _) (by decide) c1)
      refine v_vret h hQ rfl dX3_join_126 (Nat.zero_le _) (Nat.zero_le _) ⟨rfl, rfl, rfl, rfl, rfl⟩
    | succ j ih =>
      intro i  hi
      have hi2 : i < 16 := by omega
      refine v_iload_n h (i := 3) dX3_join_12 (q := 13) rfl rfl rfl ?_
      refine v_bipush h (v := nI 16) dX3_join_13 (q := 15) rfl (by decide +kernel) ?_
      refine v_icmp_ge h dX3_join_15 (q := 18) rfl (tgt := 126) (by decide) (fun c2 => pb_kge hi2 (by decide) c2) (fun c2 => ?_)
      refine v_aload_n h (i := 1) dX3_join_18 (q := 19) rfl rfl rfl ?_
      refine v_getr h fl_X3_25 (by assumption) rfl (by assumption) dX3_join_19 (q := 22) rfl ?_
      refine v_aload_n h (i := 2) dX3_join_22 (q := 23) rfl rfl rfl ?_
      refine v_getr h fl_X3_25 (by assumption) rfl (by assumption) dX3_join_23 (q := 26) rfl ?_
      refine v_aload_n h (i := 1) dX3_join_26 (q := 27) rfl rfl rfl ?_
      refine v_getr h fl_X3_28 (by assumption) rfl (by assumption) dX3_join_27 (q := 30) rfl ?_
      refine v_iload_n h (i := 3) dX3_join_30 (q := 31) rfl rfl rfl ?_
      refine v_callS1 h (c_X3_clash hfl hb5 hf5 hb6 hi2) kX3_clash rfl tw561 rfl rfl (by simp [Value.category]) (by decide) (Nat.zero_le _) (Nat.zero_le _) rfl dX3_join_31 (q := 34) rfl ?_
      refine v_if_eq h dX3_join_34 (q := 37) rfl (tgt := 103) (by decide) (fun c3 => ?_) (fun c3 => ?_)
      · skip
        have e8 := pb_b_0.mp c3
        have e9 : pb_jn1 (pb_jnN sg J b f i) J b f i = pb_jt (pb_jnN sg J b f i) J (b + 1) (f + 1) (b + 6) i := if_neg (by rw [e8]; decide)
        refine v_aload_n h (i := 0) dX3_join_103 (q := 104) rfl rfl rfl ?_
        refine v_aload_n h (i := 1) dX3_join_104 (q := 105) rfl rfl rfl ?_
        refine v_getr h fl_X3_25 (by assumption) rfl (by assumption) dX3_join_105 (q := 108) rfl ?_
        refine v_aload_n h (i := 2) dX3_join_108 (q := 109) rfl rfl rfl ?_
        refine v_getr h fl_X3_25 (by assumption) rfl (by assumption) dX3_join_109 (q := 112) rfl ?_
        refine v_aload_n h (i := 1) dX3_join_112 (q := 113) rfl rfl rfl ?_
        refine v_getr h fl_X3_28 (by assumption) rfl (by assumption) dX3_join_113 (q := 116) rfl ?_
        refine v_iload_n h (i := 3) dX3_join_116 (q := 117) rfl rfl rfl ?_
        refine v_callV0 h (c_X3_joinTask hfl hj hb5 hf5 hb6 hi2) kX3_joinTask tw573 tw2 (by assumption) (by decide) rfl rfl rfl (by simp [Value.category]) (by decide) (Nat.zero_le _) (Nat.zero_le _) rfl dX3_join_117 (q := 120) rfl ?_
        refine v_iinc h dX3_join_120 (q := 123) rfl rfl pb_inc rfl ?_
        refine v_goto h dX3_join_123 (tgt := 12) (by decide) ?_
        have h9 := ih (i + 1) (by omega)
        rw [show pb_jnN sg J b f (i + 1) = pb_jn1 (pb_jnN sg J b f i) J b f i from rfl, e9] at h9
        exact h9
      · skip
        have e8 := pb_ne_f (fun q => c3 (pb_b_0.mpr q))
        refine v_aload_n h (i := 0) dX3_join_37 (q := 38) rfl rfl rfl ?_
        refine v_dup h dX3_join_38 (q := 39) rfl rfl ?_
        refine v_geti h fl_X3_18 (by assumption) rfl dX3_join_39 (q := 42) rfl ?_
        refine v_iconst h (v := nI 1) dX3_join_42 (q := 43) rfl (by decide +kernel) ?_
        refine v_iload_n h (i := 3) dX3_join_43 (q := 44) rfl rfl rfl ?_
        refine v_ishl h dX3_join_44 (q := 45) rfl ?_
        refine v_ior h dX3_join_45 (q := 46) rfl ?_
        refine v_puti h fl_X3_18 (by assumption) rfl rfl dX3_join_46 (q := 49) rfl ?_
        refine v_aload_n h (i := 1) dX3_join_49 (q := 50) rfl rfl rfl ?_
        refine v_getr h fl_X3_35 (by assumption) rfl (by assumption) dX3_join_50 (q := 53) rfl ?_
        refine v_iload_n h (i := 3) dX3_join_53 (q := 54) rfl rfl rfl ?_
        refine v_iald h (by assumption) rfl (by first | assumption | omega) (by decide) dX3_join_54 (q := 55) rfl ?_
        refine v_iconst h (v := (-1)) dX3_join_55 (q := 56) rfl (by decide +kernel) ?_
        refine v_icmp_ne h dX3_join_56 (q := 59) rfl (tgt := 71) (by decide) (fun c4 => ?_) (fun c4 => ?_)
        · skip
          have e5 : pb_jna (pb_jnN sg J b f i) J b i = pb_jb (pb_jnN sg J b f i) J i := if_neg c4
          refine v_sg e5.symm ?_
          refine v_aload_n h (i := 0) dX3_join_71 (q := 72) rfl rfl rfl ?_
          refine v_getr h fl_X3_12 (by assumption) rfl (by assumption) dX3_join_72 (q := 75) rfl ?_
          refine v_aload_n h (i := 1) dX3_join_75 (q := 76) rfl rfl rfl ?_
          refine v_getr h fl_X3_35 (by assumption) rfl (by assumption) dX3_join_76 (q := 79) rfl ?_
          refine v_iload_n h (i := 3) dX3_join_79 (q := 80) rfl rfl rfl ?_
          refine v_iald h (by assumption) rfl (by first | assumption | omega) (by decide) dX3_join_80 (q := 81) rfl ?_
          refine v_iconst h (v := nI 1) dX3_join_81 (q := 82) rfl (by decide +kernel) ?_
          refine v_icmp_ne h dX3_join_82 (q := 85) rfl (tgt := 92) (by decide) (fun c5 => ?_) (fun c5 => ?_)
          · skip
            have e9 : pb_jn1 (pb_jnN sg J b f i) J b f i = pb_take (pb_jna (pb_jnN sg J b f i) J b i) (J + 1) (b + 1) i := by unfold pb_jn1; rw [if_pos e8, if_neg c5]
            refine v_aload_n h (i := 1) dX3_join_92 (q := 93) rfl rfl rfl ?_
            refine v_getr h fl_X3_25 (by assumption) rfl (by assumption) dX3_join_93 (q := 96) rfl ?_
            refine v_iload_n h (i := 3) dX3_join_96 (q := 97) rfl rfl rfl ?_
            refine v_callV0 h (c_X4_take hfl hj2 (by assumption) hi2) kX4_take tw572 tw521 (by assumption) (by decide) rfl rfl rfl (by simp [Value.category]) (by decide) (Nat.zero_le _) (Nat.zero_le _) rfl dX3_join_97 (q := 100) rfl ?_
            refine v_goto h dX3_join_100 (tgt := 120) (by decide) ?_
            refine v_iinc h dX3_join_120 (q := 123) rfl rfl pb_inc rfl ?_
            refine v_goto h dX3_join_123 (tgt := 12) (by decide) ?_
            have h9 := ih (i + 1) (by omega)
            rw [show pb_jnN sg J b f (i + 1) = pb_jn1 (pb_jnN sg J b f i) J b f i from rfl, e9] at h9
            exact h9
          · skip
            have e9 : pb_jn1 (pb_jnN sg J b f i) J b f i = pb_take (pb_jna (pb_jnN sg J b f i) J b i) (J + 1) (f + 1) i := by unfold pb_jn1; rw [if_pos e8, if_pos c5]
            refine v_aload_n h (i := 2) dX3_join_85 (q := 86) rfl rfl rfl ?_
            refine v_getr h fl_X3_25 (by assumption) rfl (by assumption) dX3_join_86 (q := 89) rfl ?_
            refine v_goto h dX3_join_89 (tgt := 96) (by decide) ?_
            refine v_iload_n h (i := 3) dX3_join_96 (q := 97) rfl rfl rfl ?_
            refine v_callV0 h (c_X4_take hfl hj2 (by assumption) hi2) kX4_take tw572 tw521 (by assumption) (by decide) rfl rfl rfl (by simp [Value.category]) (by decide) (Nat.zero_le _) (Nat.zero_le _) rfl dX3_join_97 (q := 100) rfl ?_
            refine v_goto h dX3_join_100 (tgt := 120) (by decide) ?_
            refine v_iinc h dX3_join_120 (q := 123) rfl rfl pb_inc rfl ?_
            refine v_goto h dX3_join_123 (tgt := 12) (by decide) ?_
            have h9 := ih (i + 1) (by omega)
            rw [show pb_jnN sg J b f (i + 1) = pb_jn1 (pb_jnN sg J b f i) J b f i from rfl, e9] at h9
            exact h9
        · skip
          have e5 : pb_jna (pb_jnN sg J b f i) J b i = pb_jc (pb_jnN sg J b f i) J i := if_pos c4
          refine v_aload_n h (i := 0) dX3_join_59 (q := 60) rfl rfl rfl ?_
          refine v_dup h dX3_join_60 (q := 61) rfl rfl ?_
          refine v_geti h fl_X3_22 (by assumption) rfl dX3_join_61 (q := 64) rfl ?_
          refine v_iconst h (v := nI 1) dX3_join_64 (q := 65) rfl (by decide +kernel) ?_
          refine v_iload_n h (i := 3) dX3_join_65 (q := 66) rfl rfl rfl ?_
          refine v_ishl h dX3_join_66 (q := 67) rfl ?_
          refine v_ior h dX3_join_67 (q := 68) rfl ?_
          refine v_puti h fl_X3_22 (by assumption) rfl rfl dX3_join_68 (q := 71) rfl ?_
          refine v_sg e5.symm ?_
          refine v_aload_n h (i := 0) dX3_join_71 (q := 72) rfl rfl rfl ?_
          refine v_getr h fl_X3_12 (by assumption) rfl (by assumption) dX3_join_72 (q := 75) rfl ?_
          refine v_aload_n h (i := 1) dX3_join_75 (q := 76) rfl rfl rfl ?_
          refine v_getr h fl_X3_35 (by assumption) rfl (by assumption) dX3_join_76 (q := 79) rfl ?_
          refine v_iload_n h (i := 3) dX3_join_79 (q := 80) rfl rfl rfl ?_
          refine v_iald h (by assumption) rfl (by first | assumption | omega) (by decide) dX3_join_80 (q := 81) rfl ?_
          refine v_iconst h (v := nI 1) dX3_join_81 (q := 82) rfl (by decide +kernel) ?_
          refine v_icmp_ne h dX3_join_82 (q := 85) rfl (tgt := 92) (by decide) (fun c6 => ?_) (fun c6 => ?_)
          · skip
            have e9 : pb_jn1 (pb_jnN sg J b f i) J b f i = pb_take (pb_jna (pb_jnN sg J b f i) J b i) (J + 1) (b + 1) i := by unfold pb_jn1; rw [if_pos e8, if_neg c6]
            refine v_aload_n h (i := 1) dX3_join_92 (q := 93) rfl rfl rfl ?_
            refine v_getr h fl_X3_25 (by assumption) rfl (by assumption) dX3_join_93 (q := 96) rfl ?_
            refine v_iload_n h (i := 3) dX3_join_96 (q := 97) rfl rfl rfl ?_
            refine v_callV0 h (c_X4_take hfl hj2 (by assumption) hi2) kX4_take tw572 tw521 (by assumption) (by decide) rfl rfl rfl (by simp [Value.category]) (by decide) (Nat.zero_le _) (Nat.zero_le _) rfl dX3_join_97 (q := 100) rfl ?_
            refine v_goto h dX3_join_100 (tgt := 120) (by decide) ?_
            refine v_iinc h dX3_join_120 (q := 123) rfl rfl pb_inc rfl ?_
            refine v_goto h dX3_join_123 (tgt := 12) (by decide) ?_
            have h9 := ih (i + 1) (by omega)
            rw [show pb_jnN sg J b f (i + 1) = pb_jn1 (pb_jnN sg J b f i) J b f i from rfl, e9] at h9
            exact h9
          · skip
            have e9 : pb_jn1 (pb_jnN sg J b f i) J b f i = pb_take (pb_jna (pb_jnN sg J b f i) J b i) (J + 1) (f + 1) i := by unfold pb_jn1; rw [if_pos e8, if_pos c6]
            refine v_aload_n h (i := 2) dX3_join_85 (q := 86) rfl rfl rfl ?_
            refine v_getr h fl_X3_25 (by assumption) rfl (by assumption) dX3_join_86 (q := 89) rfl ?_
            refine v_goto h dX3_join_89 (tgt := 96) (by decide) ?_
            refine v_iload_n h (i := 3) dX3_join_96 (q := 97) rfl rfl rfl ?_
            refine v_callV0 h (c_X4_take hfl hj2 (by assumption) hi2) kX4_take tw572 tw521 (by assumption) (by decide) rfl rfl rfl (by simp [Value.category]) (by decide) (Nat.zero_le _) (Nat.zero_le _) rfl dX3_join_97 (q := 100) rfl ?_
            refine v_goto h dX3_join_100 (tgt := 120) (by decide) ?_
            refine v_iinc h dX3_join_120 (q := 123) rfl rfl pb_inc rfl ?_
            refine v_goto h dX3_join_123 (tgt := 12) (by decide) ?_
            have h9 := ih (i + 1) (by omega)
            rw [show pb_jnN sg J b f (i + 1) = pb_jn1 (pb_jnN sg J b f i) J b f i from rfl, e9] at h9
            exact h9
  exact lp 16 0 (by omega)
set_option maxHeartbeats 4000000 in
set_option maxRecDepth 100000 in
theorem c_X0_startFrom {l : Launch} (hfl : l.stackTraces = false) {sz : Nat} {sk : pb_Sk} {rf : pb_Rf} {sg : pb_Sg} {b r : Nat} (hb : pb_br sk rf b) (hr : pb_plan sk rf r) : pb_Met l mX0_startFrom 4 0 0 [.ref b, .ref r] sz sk rf sg (pb_is none sz sk rf (pb_fillN (pb_up (pb_copyN sg (b + 6) r 16) (b + 11) 6 (nI 0)) (b + 17) 0 (-1) 16)) := by
  refine pb_start hfl (by decide +kernel) rfl (pb_c1 rfl) (Nat.le_of_ble_eq_true rfl) (fun F hF h hQ => ?_)
  subst hF
  show pv F 0 0 sz sk rf sg 0 [some (.ref b), some (.ref r)] []
  obtain ⟨hb0, hb1, hb2, hb3, hb4, hb5, hb6, hb7, hb8⟩ := id hb
  have hb9 := hb6.1
  have hb10 := hb7.1
  refine v_aload_n h (i := 0) dX0_startFrom_0 (q := 1) rfl rfl rfl ?_
  refine v_getr h fl_X0_18 (by assumption) rfl (by assumption) dX0_startFrom_1 (q := 4) rfl ?_
  refine v_aload_n h (i := 1) dX0_startFrom_4 (q := 5) rfl rfl rfl ?_
  refine v_callV0 h (c_X4_copyFrom hfl hb6 hr) kX4_copyFrom tw690 tw517 (by assumption) (by decide) rfl rfl rfl (by simp [Value.category]) (by decide) (Nat.zero_le _) (Nat.zero_le _) rfl dX0_startFrom_5 (q := 8) rfl ?_
  refine v_aload_n h (i := 0) dX0_startFrom_8 (q := 9) rfl rfl rfl ?_
  refine v_getr h fl_X0_24 (by assumption) rfl (by assumption) dX0_startFrom_9 (q := 12) rfl ?_
  refine v_callV0 h (c_X2_forget hfl hb7) kX2_forget tw691 tw525 (by assumption) (by decide) rfl rfl rfl (by simp [Value.category]) (by decide) (Nat.zero_le _) (Nat.zero_le _) rfl dX0_startFrom_12 (q := 15) rfl ?_
  refine v_aload_n h (i := 0) dX0_startFrom_15 (q := 16) rfl rfl rfl ?_
  refine v_getr h fl_X0_28 (by assumption) rfl (by assumption) dX0_startFrom_16 (q := 19) rfl ?_
  refine v_iconst h (v := (-1)) dX0_startFrom_19 (q := 20) rfl (by decide +kernel) ?_
  refine v_callS0 h (c_J7_fill_53178 hfl hb8 (by omega)) kJ7_fill_53178 rfl tw692 rfl rfl (by simp [Value.category]) (by decide) (Nat.zero_le _) (Nat.zero_le _) rfl dX0_startFrom_20 (q := 23) rfl ?_
  refine v_vret h hQ rfl dX0_startFrom_23 (Nat.zero_le _) (Nat.zero_le _) ⟨rfl, rfl, rfl, rfl, rfl⟩
