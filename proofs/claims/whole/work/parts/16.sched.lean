theorem dX5_start_0 : decode cX5_start 0 = .ok (.aload_n 0, 1) := by decide +kernel
theorem dX5_start_1 : decode cX5_start 1 = .ok (.iconst 0, 1) := by decide +kernel
theorem dX5_start_2 : decode cX5_start 2 = .ok (.putfield 20, 3) := by decide +kernel
theorem dX5_start_5 : decode cX5_start 5 = .ok (.aload_n 0, 1) := by decide +kernel
theorem dX5_start_6 : decode cX5_start 6 = .ok (.getfield 9, 3) := by decide +kernel
theorem dX5_start_9 : decode cX5_start 9 = .ok (.iconst (-1), 1) := by decide +kernel
theorem dX5_start_10 : decode cX5_start 10 = .ok (.invokestatic 24, 3) := by decide +kernel
theorem dX5_start_13 : decode cX5_start 13 = .ok (.iconst 0, 1) := by decide +kernel
theorem dX5_start_14 : decode cX5_start 14 = .ok (.istore_n 3, 1) := by decide +kernel
theorem dX5_start_15 : decode cX5_start 15 = .ok (.iload_n 3, 1) := by decide +kernel
theorem dX5_start_16 : decode cX5_start 16 = .ok (.iconst 5, 1) := by decide +kernel
theorem dX5_start_17 : decode cX5_start 17 = .ok (.if_icmp .ge 52, 3) := by decide +kernel
theorem dX5_start_20 : decode cX5_start 20 = .ok (.iconst 0, 1) := by decide +kernel
theorem dX5_start_21 : decode cX5_start 21 = .ok (.istore 4, 2) := by decide +kernel
theorem dX5_start_23 : decode cX5_start 23 = .ok (.iload 4, 2) := by decide +kernel
theorem dX5_start_25 : decode cX5_start 25 = .ok (.sipush 400, 3) := by decide +kernel
theorem dX5_start_28 : decode cX5_start 28 = .ok (.if_icmp .ge 35, 3) := by decide +kernel
theorem dX5_start_31 : decode cX5_start 31 = .ok (.aload_n 0, 1) := by decide +kernel
theorem dX5_start_32 : decode cX5_start 32 = .ok (.getfield 17, 3) := by decide +kernel
theorem dX5_start_35 : decode cX5_start 35 = .ok (.iload_n 3, 1) := by decide +kernel
theorem dX5_start_36 : decode cX5_start 36 = .ok (.aaload, 1) := by decide +kernel
theorem dX5_start_37 : decode cX5_start 37 = .ok (.iload 4, 2) := by decide +kernel
theorem dX5_start_39 : decode cX5_start 39 = .ok (.aload_n 1, 1) := by decide +kernel
theorem dX5_start_40 : decode cX5_start 40 = .ok (.iload_n 3, 1) := by decide +kernel
theorem dX5_start_41 : decode cX5_start 41 = .ok (.iload 4, 2) := by decide +kernel
theorem dX5_start_43 : decode cX5_start 43 = .ok (.invokevirtual 30, 3) := by decide +kernel
theorem dX5_start_46 : decode cX5_start 46 = .ok (.iload_n 2, 1) := by decide +kernel
theorem dX5_start_47 : decode cX5_start 47 = .ok (.if_icmp .ne 7, 3) := by decide +kernel
theorem dX5_start_50 : decode cX5_start 50 = .ok (.iconst (-1), 1) := by decide +kernel
theorem dX5_start_51 : decode cX5_start 51 = .ok (.goto 5, 3) := by decide +kernel
theorem dX5_start_54 : decode cX5_start 54 = .ok (.bipush (-2), 2) := by decide +kernel
theorem dX5_start_56 : decode cX5_start 56 = .ok (.iastore, 1) := by decide +kernel
theorem dX5_start_57 : decode cX5_start 57 = .ok (.iinc 4 1, 3) := by decide +kernel
theorem dX5_start_60 : decode cX5_start 60 = .ok (.goto (-37), 3) := by decide +kernel
theorem dX5_start_63 : decode cX5_start 63 = .ok (.iinc 3 1, 3) := by decide +kernel
theorem dX5_start_66 : decode cX5_start 66 = .ok (.goto (-51), 3) := by decide +kernel
theorem dX5_start_69 : decode cX5_start 69 = .ok (.return_, 1) := by decide +kernel
theorem dX5_placeByTails_0 : decode cX5_placeByTails 0 = .ok (.aload_n 1, 1) := by decide +kernel
theorem dX5_placeByTails_1 : decode cX5_placeByTails 1 = .ok (.invokevirtual 36, 3) := by decide +kernel
theorem dX5_placeByTails_4 : decode cX5_placeByTails 4 = .ok (.istore_n 3, 1) := by decide +kernel
theorem dX5_placeByTails_5 : decode cX5_placeByTails 5 = .ok (.iconst 0, 1) := by decide +kernel
theorem dX5_placeByTails_6 : decode cX5_placeByTails 6 = .ok (.istore 4, 2) := by decide +kernel
theorem dX5_placeByTails_8 : decode cX5_placeByTails 8 = .ok (.iload 4, 2) := by decide +kernel
theorem dX5_placeByTails_10 : decode cX5_placeByTails 10 = .ok (.bipush 16, 2) := by decide +kernel
theorem dX5_placeByTails_12 : decode cX5_placeByTails 12 = .ok (.if_icmp .ge 58, 3) := by decide +kernel
theorem dX5_placeByTails_15 : decode cX5_placeByTails 15 = .ok (.aload_n 0, 1) := by decide +kernel
theorem dX5_placeByTails_16 : decode cX5_placeByTails 16 = .ok (.aload_n 1, 1) := by decide +kernel
theorem dX5_placeByTails_17 : decode cX5_placeByTails 17 = .ok (.iload_n 3, 1) := by decide +kernel
theorem dX5_placeByTails_18 : decode cX5_placeByTails 18 = .ok (.aload_n 2, 1) := by decide +kernel
theorem dX5_placeByTails_19 : decode cX5_placeByTails 19 = .ok (.invokevirtual 42, 3) := by decide +kernel
theorem dX5_placeByTails_22 : decode cX5_placeByTails 22 = .ok (.istore 5, 2) := by decide +kernel
theorem dX5_placeByTails_24 : decode cX5_placeByTails 24 = .ok (.iload 5, 2) := by decide +kernel
theorem dX5_placeByTails_26 : decode cX5_placeByTails 26 = .ok (.iconst (-1), 1) := by decide +kernel
theorem dX5_placeByTails_27 : decode cX5_placeByTails 27 = .ok (.if_icmp .ne 4, 3) := by decide +kernel
theorem dX5_placeByTails_30 : decode cX5_placeByTails 30 = .ok (.return_, 1) := by decide +kernel
theorem dX5_placeByTails_31 : decode cX5_placeByTails 31 = .ok (.iload_n 3, 1) := by decide +kernel
theorem dX5_placeByTails_32 : decode cX5_placeByTails 32 = .ok (.iconst 1, 1) := by decide +kernel
theorem dX5_placeByTails_33 : decode cX5_placeByTails 33 = .ok (.iload 5, 2) := by decide +kernel
theorem dX5_placeByTails_35 : decode cX5_placeByTails 35 = .ok (.ishl, 1) := by decide +kernel
theorem dX5_placeByTails_36 : decode cX5_placeByTails 36 = .ok (.iconst (-1), 1) := by decide +kernel
theorem dX5_placeByTails_37 : decode cX5_placeByTails 37 = .ok (.ixor, 1) := by decide +kernel
theorem dX5_placeByTails_38 : decode cX5_placeByTails 38 = .ok (.iand, 1) := by decide +kernel
theorem dX5_placeByTails_39 : decode cX5_placeByTails 39 = .ok (.istore_n 3, 1) := by decide +kernel
theorem dX5_placeByTails_40 : decode cX5_placeByTails 40 = .ok (.aload_n 0, 1) := by decide +kernel
theorem dX5_placeByTails_41 : decode cX5_placeByTails 41 = .ok (.aload_n 1, 1) := by decide +kernel
theorem dX5_placeByTails_42 : decode cX5_placeByTails 42 = .ok (.iload 5, 2) := by decide +kernel
theorem dX5_placeByTails_44 : decode cX5_placeByTails 44 = .ok (.invokevirtual 46, 3) := by decide +kernel
theorem dX5_placeByTails_47 : decode cX5_placeByTails 47 = .ok (.istore 6, 2) := by decide +kernel
theorem dX5_placeByTails_49 : decode cX5_placeByTails 49 = .ok (.iload 6, 2) := by decide +kernel
theorem dX5_placeByTails_51 : decode cX5_placeByTails 51 = .ok (.iconst (-1), 1) := by decide +kernel
theorem dX5_placeByTails_52 : decode cX5_placeByTails 52 = .ok (.if_icmp .eq 12, 3) := by decide +kernel
theorem dX5_placeByTails_55 : decode cX5_placeByTails 55 = .ok (.aload_n 0, 1) := by decide +kernel
theorem dX5_placeByTails_56 : decode cX5_placeByTails 56 = .ok (.aload_n 1, 1) := by decide +kernel
theorem dX5_placeByTails_57 : decode cX5_placeByTails 57 = .ok (.iload 5, 2) := by decide +kernel
theorem dX5_placeByTails_59 : decode cX5_placeByTails 59 = .ok (.iload 6, 2) := by decide +kernel
theorem dX5_placeByTails_61 : decode cX5_placeByTails 61 = .ok (.invokevirtual 50, 3) := by decide +kernel
theorem dX5_placeByTails_64 : decode cX5_placeByTails 64 = .ok (.iinc 4 1, 3) := by decide +kernel
theorem dX5_placeByTails_67 : decode cX5_placeByTails 67 = .ok (.goto (-59), 3) := by decide +kernel
theorem dX5_placeByTails_70 : decode cX5_placeByTails 70 = .ok (.return_, 1) := by decide +kernel
theorem dX5_nextByTails_0 : decode cX5_nextByTails 0 = .ok (.iconst (-1), 1) := by decide +kernel
theorem dX5_nextByTails_1 : decode cX5_nextByTails 1 = .ok (.istore 4, 2) := by decide +kernel
theorem dX5_nextByTails_3 : decode cX5_nextByTails 3 = .ok (.iconst 0, 1) := by decide +kernel
theorem dX5_nextByTails_4 : decode cX5_nextByTails 4 = .ok (.istore 5, 2) := by decide +kernel
theorem dX5_nextByTails_6 : decode cX5_nextByTails 6 = .ok (.iconst 0, 1) := by decide +kernel
theorem dX5_nextByTails_7 : decode cX5_nextByTails 7 = .ok (.istore 6, 2) := by decide +kernel
theorem dX5_nextByTails_9 : decode cX5_nextByTails 9 = .ok (.iload 6, 2) := by decide +kernel
theorem dX5_nextByTails_11 : decode cX5_nextByTails 11 = .ok (.bipush 16, 2) := by decide +kernel
theorem dX5_nextByTails_13 : decode cX5_nextByTails 13 = .ok (.if_icmp .ge 39, 3) := by decide +kernel
theorem dX5_nextByTails_16 : decode cX5_nextByTails 16 = .ok (.aload_n 0, 1) := by decide +kernel
theorem dX5_nextByTails_17 : decode cX5_nextByTails 17 = .ok (.aload_n 1, 1) := by decide +kernel
theorem dX5_nextByTails_18 : decode cX5_nextByTails 18 = .ok (.iload_n 2, 1) := by decide +kernel
theorem dX5_nextByTails_19 : decode cX5_nextByTails 19 = .ok (.iload 6, 2) := by decide +kernel
theorem dX5_nextByTails_21 : decode cX5_nextByTails 21 = .ok (.invokevirtual 54, 3) := by decide +kernel
theorem dX5_nextByTails_24 : decode cX5_nextByTails 24 = .ok (.ifCond .eq 22, 3) := by decide +kernel
theorem dX5_nextByTails_27 : decode cX5_nextByTails 27 = .ok (.aload_n 3, 1) := by decide +kernel
theorem dX5_nextByTails_28 : decode cX5_nextByTails 28 = .ok (.iload 6, 2) := by decide +kernel
theorem dX5_nextByTails_30 : decode cX5_nextByTails 30 = .ok (.iaload, 1) := by decide +kernel
theorem dX5_nextByTails_31 : decode cX5_nextByTails 31 = .ok (.iload 5, 2) := by decide +kernel
theorem dX5_nextByTails_33 : decode cX5_nextByTails 33 = .ok (.if_icmp .le 13, 3) := by decide +kernel
theorem dX5_nextByTails_36 : decode cX5_nextByTails 36 = .ok (.iload 6, 2) := by decide +kernel
theorem dX5_nextByTails_38 : decode cX5_nextByTails 38 = .ok (.istore 4, 2) := by decide +kernel
theorem dX5_nextByTails_40 : decode cX5_nextByTails 40 = .ok (.aload_n 3, 1) := by decide +kernel
theorem dX5_nextByTails_41 : decode cX5_nextByTails 41 = .ok (.iload 6, 2) := by decide +kernel
theorem dX5_nextByTails_43 : decode cX5_nextByTails 43 = .ok (.iaload, 1) := by decide +kernel
theorem dX5_nextByTails_44 : decode cX5_nextByTails 44 = .ok (.istore 5, 2) := by decide +kernel
theorem dX5_nextByTails_46 : decode cX5_nextByTails 46 = .ok (.iinc 6 1, 3) := by decide +kernel
theorem dX5_nextByTails_49 : decode cX5_nextByTails 49 = .ok (.goto (-40), 3) := by decide +kernel
theorem dX5_nextByTails_52 : decode cX5_nextByTails 52 = .ok (.iload 4, 2) := by decide +kernel
theorem dX5_nextByTails_54 : decode cX5_nextByTails 54 = .ok (.ireturn, 1) := by decide +kernel
theorem dX5_endByAll_0 : decode cX5_endByAll 0 = .ok (.aload_n 0, 1) := by decide +kernel
theorem dX5_endByAll_1 : decode cX5_endByAll 1 = .ok (.aload_n 1, 1) := by decide +kernel
theorem dX5_endByAll_2 : decode cX5_endByAll 2 = .ok (.aload_n 1, 1) := by decide +kernel
theorem dX5_endByAll_3 : decode cX5_endByAll 3 = .ok (.invokevirtual 36, 3) := by decide +kernel
theorem dX5_endByAll_6 : decode cX5_endByAll 6 = .ok (.iconst (-1), 1) := by decide +kernel
theorem dX5_endByAll_7 : decode cX5_endByAll 7 = .ok (.sipush 400, 3) := by decide +kernel
theorem dX5_endByAll_10 : decode cX5_endByAll 10 = .ok (.iconst 0, 1) := by decide +kernel
theorem dX5_endByAll_11 : decode cX5_endByAll 11 = .ok (.invokestatic 58, 3) := by decide +kernel
theorem dX5_endByAll_14 : decode cX5_endByAll 14 = .ok (.istore_n 2, 1) := by decide +kernel
theorem dX5_endByAll_15 : decode cX5_endByAll 15 = .ok (.iload_n 2, 1) := by decide +kernel
theorem dX5_endByAll_16 : decode cX5_endByAll 16 = .ok (.sipush 400, 3) := by decide +kernel
theorem dX5_endByAll_19 : decode cX5_endByAll 19 = .ok (.if_icmp .ge 7, 3) := by decide +kernel
theorem dX5_endByAll_22 : decode cX5_endByAll 22 = .ok (.iload_n 2, 1) := by decide +kernel
theorem dX5_endByAll_23 : decode cX5_endByAll 23 = .ok (.goto 4, 3) := by decide +kernel
theorem dX5_endByAll_26 : decode cX5_endByAll 26 = .ok (.iconst (-1), 1) := by decide +kernel
theorem dX5_endByAll_27 : decode cX5_endByAll 27 = .ok (.ireturn, 1) := by decide +kernel
theorem dX5_endByOrders_0 : decode cX5_endByOrders 0 = .ok (.iload_n 2, 1) := by decide +kernel
theorem dX5_endByOrders_1 : decode cX5_endByOrders 1 = .ok (.ifCond .eq 10, 3) := by decide +kernel
theorem dX5_endByOrders_4 : decode cX5_endByOrders 4 = .ok (.iload 5, 2) := by decide +kernel
theorem dX5_endByOrders_6 : decode cX5_endByOrders 6 = .ok (.bipush 6, 2) := by decide +kernel
theorem dX5_endByOrders_8 : decode cX5_endByOrders 8 = .ok (.if_icmp .lt 5, 3) := by decide +kernel
theorem dX5_endByOrders_11 : decode cX5_endByOrders 11 = .ok (.iload_n 3, 1) := by decide +kernel
theorem dX5_endByOrders_12 : decode cX5_endByOrders 12 = .ok (.ireturn, 1) := by decide +kernel
theorem dX5_endByOrders_13 : decode cX5_endByOrders 13 = .ok (.iload 4, 2) := by decide +kernel
theorem dX5_endByOrders_15 : decode cX5_endByOrders 15 = .ok (.istore 6, 2) := by decide +kernel
theorem dX5_endByOrders_17 : decode cX5_endByOrders 17 = .ok (.iconst 0, 1) := by decide +kernel
theorem dX5_endByOrders_18 : decode cX5_endByOrders 18 = .ok (.istore 7, 2) := by decide +kernel
theorem dX5_endByOrders_20 : decode cX5_endByOrders 20 = .ok (.iload 7, 2) := by decide +kernel
theorem dX5_endByOrders_22 : decode cX5_endByOrders 22 = .ok (.bipush 16, 2) := by decide +kernel
theorem dX5_endByOrders_24 : decode cX5_endByOrders 24 = .ok (.if_icmp .ge 105, 3) := by decide +kernel
theorem dX5_endByOrders_27 : decode cX5_endByOrders 27 = .ok (.aload_n 0, 1) := by decide +kernel
theorem dX5_endByOrders_28 : decode cX5_endByOrders 28 = .ok (.aload_n 1, 1) := by decide +kernel
theorem dX5_endByOrders_29 : decode cX5_endByOrders 29 = .ok (.iload_n 2, 1) := by decide +kernel
theorem dX5_endByOrders_30 : decode cX5_endByOrders 30 = .ok (.iload 7, 2) := by decide +kernel
theorem dX5_endByOrders_32 : decode cX5_endByOrders 32 = .ok (.invokevirtual 54, 3) := by decide +kernel
theorem dX5_endByOrders_35 : decode cX5_endByOrders 35 = .ok (.ifCond .eq 13, 3) := by decide +kernel
theorem dX5_endByOrders_38 : decode cX5_endByOrders 38 = .ok (.aload_n 0, 1) := by decide +kernel
theorem dX5_endByOrders_39 : decode cX5_endByOrders 39 = .ok (.aload_n 1, 1) := by decide +kernel
theorem dX5_endByOrders_40 : decode cX5_endByOrders 40 = .ok (.iload 7, 2) := by decide +kernel
theorem dX5_endByOrders_42 : decode cX5_endByOrders 42 = .ok (.invokevirtual 46, 3) := by decide +kernel
theorem dX5_endByOrders_45 : decode cX5_endByOrders 45 = .ok (.goto 4, 3) := by decide +kernel
theorem dX5_endByOrders_48 : decode cX5_endByOrders 48 = .ok (.iconst (-1), 1) := by decide +kernel
theorem dX5_endByOrders_49 : decode cX5_endByOrders 49 = .ok (.istore 8, 2) := by decide +kernel
theorem dX5_endByOrders_51 : decode cX5_endByOrders 51 = .ok (.iload_n 3, 1) := by decide +kernel
theorem dX5_endByOrders_52 : decode cX5_endByOrders 52 = .ok (.iload 8, 2) := by decide +kernel
theorem dX5_endByOrders_54 : decode cX5_endByOrders 54 = .ok (.aload_n 1, 1) := by decide +kernel
theorem dX5_endByOrders_55 : decode cX5_endByOrders 55 = .ok (.getfield 62, 3) := by decide +kernel
theorem dX5_endByOrders_58 : decode cX5_endByOrders 58 = .ok (.iload 7, 2) := by decide +kernel
theorem dX5_endByOrders_60 : decode cX5_endByOrders 60 = .ok (.iaload, 1) := by decide +kernel
theorem dX5_endByOrders_61 : decode cX5_endByOrders 61 = .ok (.iadd, 1) := by decide +kernel
theorem dX5_endByOrders_62 : decode cX5_endByOrders 62 = .ok (.iconst 1, 1) := by decide +kernel
theorem dX5_endByOrders_63 : decode cX5_endByOrders 63 = .ok (.isub, 1) := by decide +kernel
theorem dX5_endByOrders_64 : decode cX5_endByOrders 64 = .ok (.invokestatic 65, 3) := by decide +kernel
theorem dX5_endByOrders_67 : decode cX5_endByOrders 67 = .ok (.istore 9, 2) := by decide +kernel
theorem dX5_endByOrders_69 : decode cX5_endByOrders 69 = .ok (.iload 8, 2) := by decide +kernel
theorem dX5_endByOrders_71 : decode cX5_endByOrders 71 = .ok (.iconst (-1), 1) := by decide +kernel
theorem dX5_endByOrders_72 : decode cX5_endByOrders 72 = .ok (.if_icmp .eq 51, 3) := by decide +kernel
theorem dX5_endByOrders_75 : decode cX5_endByOrders 75 = .ok (.iload 9, 2) := by decide +kernel
theorem dX5_endByOrders_77 : decode cX5_endByOrders 77 = .ok (.iload 6, 2) := by decide +kernel
theorem dX5_endByOrders_79 : decode cX5_endByOrders 79 = .ok (.if_icmp .ge 44, 3) := by decide +kernel
theorem dX5_endByOrders_82 : decode cX5_endByOrders 82 = .ok (.aload_n 0, 1) := by decide +kernel
theorem dX5_endByOrders_83 : decode cX5_endByOrders 83 = .ok (.aload_n 1, 1) := by decide +kernel
theorem dX5_endByOrders_84 : decode cX5_endByOrders 84 = .ok (.iload 7, 2) := by decide +kernel
theorem dX5_endByOrders_86 : decode cX5_endByOrders 86 = .ok (.iload 8, 2) := by decide +kernel
theorem dX5_endByOrders_88 : decode cX5_endByOrders 88 = .ok (.invokevirtual 50, 3) := by decide +kernel
theorem dX5_endByOrders_91 : decode cX5_endByOrders 91 = .ok (.aload_n 0, 1) := by decide +kernel
theorem dX5_endByOrders_92 : decode cX5_endByOrders 92 = .ok (.aload_n 1, 1) := by decide +kernel
theorem dX5_endByOrders_93 : decode cX5_endByOrders 93 = .ok (.iload_n 2, 1) := by decide +kernel
theorem dX5_endByOrders_94 : decode cX5_endByOrders 94 = .ok (.iconst 1, 1) := by decide +kernel
theorem dX5_endByOrders_95 : decode cX5_endByOrders 95 = .ok (.iload 7, 2) := by decide +kernel
theorem dX5_endByOrders_97 : decode cX5_endByOrders 97 = .ok (.ishl, 1) := by decide +kernel
theorem dX5_endByOrders_98 : decode cX5_endByOrders 98 = .ok (.iconst (-1), 1) := by decide +kernel
theorem dX5_endByOrders_99 : decode cX5_endByOrders 99 = .ok (.ixor, 1) := by decide +kernel
theorem dX5_endByOrders_100 : decode cX5_endByOrders 100 = .ok (.iand, 1) := by decide +kernel
theorem dX5_endByOrders_101 : decode cX5_endByOrders 101 = .ok (.iload 9, 2) := by decide +kernel
theorem dX5_endByOrders_103 : decode cX5_endByOrders 103 = .ok (.iload 6, 2) := by decide +kernel
theorem dX5_endByOrders_105 : decode cX5_endByOrders 105 = .ok (.iload 5, 2) := by decide +kernel
theorem dX5_endByOrders_107 : decode cX5_endByOrders 107 = .ok (.iconst 1, 1) := by decide +kernel
theorem dX5_endByOrders_108 : decode cX5_endByOrders 108 = .ok (.iadd, 1) := by decide +kernel
theorem dX5_endByOrders_109 : decode cX5_endByOrders 109 = .ok (.invokestatic 58, 3) := by decide +kernel
theorem dX5_endByOrders_112 : decode cX5_endByOrders 112 = .ok (.istore 6, 2) := by decide +kernel
theorem dX5_endByOrders_114 : decode cX5_endByOrders 114 = .ok (.aload_n 0, 1) := by decide +kernel
theorem dX5_endByOrders_115 : decode cX5_endByOrders 115 = .ok (.aload_n 1, 1) := by decide +kernel
theorem dX5_endByOrders_116 : decode cX5_endByOrders 116 = .ok (.iload 7, 2) := by decide +kernel
theorem dX5_endByOrders_118 : decode cX5_endByOrders 118 = .ok (.iload 8, 2) := by decide +kernel
theorem dX5_endByOrders_120 : decode cX5_endByOrders 120 = .ok (.invokevirtual 70, 3) := by decide +kernel
theorem dX5_endByOrders_123 : decode cX5_endByOrders 123 = .ok (.iinc 7 1, 3) := by decide +kernel
theorem dX5_endByOrders_126 : decode cX5_endByOrders 126 = .ok (.goto (-106), 3) := by decide +kernel
theorem dX5_endByOrders_129 : decode cX5_endByOrders 129 = .ok (.iload 6, 2) := by decide +kernel
theorem dX5_endByOrders_131 : decode cX5_endByOrders 131 = .ok (.ireturn, 1) := by decide +kernel
theorem dX5_ready_0 : decode cX5_ready 0 = .ok (.iload_n 2, 1) := by decide +kernel
theorem dX5_ready_1 : decode cX5_ready 1 = .ok (.iload_n 3, 1) := by decide +kernel
theorem dX5_ready_2 : decode cX5_ready 2 = .ok (.invokestatic 73, 3) := by decide +kernel
theorem dX5_ready_5 : decode cX5_ready 5 = .ok (.ifCond .eq 23, 3) := by decide +kernel
theorem dX5_ready_8 : decode cX5_ready 8 = .ok (.aload_n 1, 1) := by decide +kernel
theorem dX5_ready_9 : decode cX5_ready 9 = .ok (.getfield 77, 3) := by decide +kernel
theorem dX5_ready_12 : decode cX5_ready 12 = .ok (.iload_n 3, 1) := by decide +kernel
theorem dX5_ready_13 : decode cX5_ready 13 = .ok (.iaload, 1) := by decide +kernel
theorem dX5_ready_14 : decode cX5_ready 14 = .ok (.aload_n 0, 1) := by decide +kernel
theorem dX5_ready_15 : decode cX5_ready 15 = .ok (.getfield 20, 3) := by decide +kernel
theorem dX5_ready_18 : decode cX5_ready 18 = .ok (.iconst (-1), 1) := by decide +kernel
theorem dX5_ready_19 : decode cX5_ready 19 = .ok (.ixor, 1) := by decide +kernel
theorem dX5_ready_20 : decode cX5_ready 20 = .ok (.iand, 1) := by decide +kernel
theorem dX5_ready_21 : decode cX5_ready 21 = .ok (.ifCond .ne 7, 3) := by decide +kernel
theorem dX5_ready_24 : decode cX5_ready 24 = .ok (.iconst 1, 1) := by decide +kernel
theorem dX5_ready_25 : decode cX5_ready 25 = .ok (.goto 4, 3) := by decide +kernel
theorem dX5_ready_28 : decode cX5_ready 28 = .ok (.iconst 0, 1) := by decide +kernel
theorem dX5_ready_29 : decode cX5_ready 29 = .ok (.ireturn, 1) := by decide +kernel
theorem dX5_earliest_0 : decode cX5_earliest 0 = .ok (.aload_n 1, 1) := by decide +kernel
theorem dX5_earliest_1 : decode cX5_earliest 1 = .ok (.getfield 62, 3) := by decide +kernel
theorem dX5_earliest_4 : decode cX5_earliest 4 = .ok (.iload_n 2, 1) := by decide +kernel
theorem dX5_earliest_5 : decode cX5_earliest 5 = .ok (.iaload, 1) := by decide +kernel
theorem dX5_earliest_6 : decode cX5_earliest 6 = .ok (.istore_n 3, 1) := by decide +kernel
theorem dX5_earliest_7 : decode cX5_earliest 7 = .ok (.aload_n 1, 1) := by decide +kernel
theorem dX5_earliest_8 : decode cX5_earliest 8 = .ok (.getfield 80, 3) := by decide +kernel
theorem dX5_earliest_11 : decode cX5_earliest 11 = .ok (.iload_n 2, 1) := by decide +kernel
theorem dX5_earliest_12 : decode cX5_earliest 12 = .ok (.iaload, 1) := by decide +kernel
theorem dX5_earliest_13 : decode cX5_earliest 13 = .ok (.istore 4, 2) := by decide +kernel
theorem dX5_earliest_15 : decode cX5_earliest 15 = .ok (.aload_n 0, 1) := by decide +kernel
theorem dX5_earliest_16 : decode cX5_earliest 16 = .ok (.aload_n 1, 1) := by decide +kernel
theorem dX5_earliest_17 : decode cX5_earliest 17 = .ok (.iload_n 2, 1) := by decide +kernel
theorem dX5_earliest_18 : decode cX5_earliest 18 = .ok (.invokevirtual 83, 3) := by decide +kernel
theorem dX5_earliest_21 : decode cX5_earliest 21 = .ok (.istore 5, 2) := by decide +kernel
theorem dX5_earliest_23 : decode cX5_earliest 23 = .ok (.iload 4, 2) := by decide +kernel
theorem dX5_earliest_25 : decode cX5_earliest 25 = .ok (.ifCond .lt 9, 3) := by decide +kernel
theorem dX5_earliest_28 : decode cX5_earliest 28 = .ok (.iload 4, 2) := by decide +kernel
theorem dX5_earliest_30 : decode cX5_earliest 30 = .ok (.iconst 5, 1) := by decide +kernel
theorem dX5_earliest_31 : decode cX5_earliest 31 = .ok (.if_icmp .lt 20, 3) := by decide +kernel
theorem dX5_earliest_34 : decode cX5_earliest 34 = .ok (.iload 5, 2) := by decide +kernel
theorem dX5_earliest_36 : decode cX5_earliest 36 = .ok (.iload_n 3, 1) := by decide +kernel
theorem dX5_earliest_37 : decode cX5_earliest 37 = .ok (.iadd, 1) := by decide +kernel
theorem dX5_earliest_38 : decode cX5_earliest 38 = .ok (.sipush 400, 3) := by decide +kernel
theorem dX5_earliest_41 : decode cX5_earliest 41 = .ok (.if_icmp .gt 8, 3) := by decide +kernel
theorem dX5_earliest_44 : decode cX5_earliest 44 = .ok (.iload 5, 2) := by decide +kernel
theorem dX5_earliest_46 : decode cX5_earliest 46 = .ok (.goto 4, 3) := by decide +kernel
theorem dX5_earliest_49 : decode cX5_earliest 49 = .ok (.iconst (-1), 1) := by decide +kernel
theorem dX5_earliest_50 : decode cX5_earliest 50 = .ok (.ireturn, 1) := by decide +kernel
theorem dX5_earliest_51 : decode cX5_earliest 51 = .ok (.iconst 0, 1) := by decide +kernel
theorem dX5_earliest_52 : decode cX5_earliest 52 = .ok (.istore 6, 2) := by decide +kernel
theorem dX5_earliest_54 : decode cX5_earliest 54 = .ok (.iload 5, 2) := by decide +kernel
theorem dX5_earliest_56 : decode cX5_earliest 56 = .ok (.istore 7, 2) := by decide +kernel
theorem dX5_earliest_58 : decode cX5_earliest 58 = .ok (.iload 7, 2) := by decide +kernel
theorem dX5_earliest_60 : decode cX5_earliest 60 = .ok (.sipush 400, 3) := by decide +kernel
theorem dX5_earliest_63 : decode cX5_earliest 63 = .ok (.if_icmp .ge 46, 3) := by decide +kernel
theorem dX5_earliest_66 : decode cX5_earliest 66 = .ok (.aload_n 0, 1) := by decide +kernel
theorem dX5_earliest_67 : decode cX5_earliest 67 = .ok (.getfield 17, 3) := by decide +kernel
theorem dX5_earliest_70 : decode cX5_earliest 70 = .ok (.iload 4, 2) := by decide +kernel
theorem dX5_earliest_72 : decode cX5_earliest 72 = .ok (.aaload, 1) := by decide +kernel
theorem dX5_earliest_73 : decode cX5_earliest 73 = .ok (.iload 7, 2) := by decide +kernel
theorem dX5_earliest_75 : decode cX5_earliest 75 = .ok (.iaload, 1) := by decide +kernel
theorem dX5_earliest_76 : decode cX5_earliest 76 = .ok (.iconst (-1), 1) := by decide +kernel
theorem dX5_earliest_77 : decode cX5_earliest 77 = .ok (.if_icmp .ne 10, 3) := by decide +kernel
theorem dX5_earliest_80 : decode cX5_earliest 80 = .ok (.iload 6, 2) := by decide +kernel
theorem dX5_earliest_82 : decode cX5_earliest 82 = .ok (.iconst 1, 1) := by decide +kernel
theorem dX5_earliest_83 : decode cX5_earliest 83 = .ok (.iadd, 1) := by decide +kernel
theorem dX5_earliest_84 : decode cX5_earliest 84 = .ok (.goto 4, 3) := by decide +kernel
theorem dX5_earliest_87 : decode cX5_earliest 87 = .ok (.iconst 0, 1) := by decide +kernel
theorem dX5_earliest_88 : decode cX5_earliest 88 = .ok (.istore 6, 2) := by decide +kernel
theorem dX5_earliest_90 : decode cX5_earliest 90 = .ok (.iload 6, 2) := by decide +kernel
theorem dX5_earliest_92 : decode cX5_earliest 92 = .ok (.iload_n 3, 1) := by decide +kernel
theorem dX5_earliest_93 : decode cX5_earliest 93 = .ok (.if_icmp .ne 10, 3) := by decide +kernel
theorem dX5_earliest_96 : decode cX5_earliest 96 = .ok (.iload 7, 2) := by decide +kernel
theorem dX5_earliest_98 : decode cX5_earliest 98 = .ok (.iload_n 3, 1) := by decide +kernel
theorem dX5_earliest_99 : decode cX5_earliest 99 = .ok (.isub, 1) := by decide +kernel
theorem dX5_earliest_100 : decode cX5_earliest 100 = .ok (.iconst 1, 1) := by decide +kernel
theorem dX5_earliest_101 : decode cX5_earliest 101 = .ok (.iadd, 1) := by decide +kernel
theorem dX5_earliest_102 : decode cX5_earliest 102 = .ok (.ireturn, 1) := by decide +kernel
theorem dX5_earliest_103 : decode cX5_earliest 103 = .ok (.iinc 7 1, 3) := by decide +kernel
theorem dX5_earliest_106 : decode cX5_earliest 106 = .ok (.goto (-48), 3) := by decide +kernel
theorem dX5_earliest_109 : decode cX5_earliest 109 = .ok (.iconst (-1), 1) := by decide +kernel
theorem dX5_earliest_110 : decode cX5_earliest 110 = .ok (.ireturn, 1) := by decide +kernel
theorem dX5_dayBehindNeeds_0 : decode cX5_dayBehindNeeds 0 = .ok (.iconst 0, 1) := by decide +kernel
theorem dX5_dayBehindNeeds_1 : decode cX5_dayBehindNeeds 1 = .ok (.istore_n 3, 1) := by decide +kernel
theorem dX5_dayBehindNeeds_2 : decode cX5_dayBehindNeeds 2 = .ok (.iconst 0, 1) := by decide +kernel
theorem dX5_dayBehindNeeds_3 : decode cX5_dayBehindNeeds 3 = .ok (.istore 4, 2) := by decide +kernel
theorem dX5_dayBehindNeeds_5 : decode cX5_dayBehindNeeds 5 = .ok (.iload 4, 2) := by decide +kernel
theorem dX5_dayBehindNeeds_7 : decode cX5_dayBehindNeeds 7 = .ok (.bipush 16, 2) := by decide +kernel
theorem dX5_dayBehindNeeds_9 : decode cX5_dayBehindNeeds 9 = .ok (.if_icmp .ge 43, 3) := by decide +kernel
theorem dX5_dayBehindNeeds_12 : decode cX5_dayBehindNeeds 12 = .ok (.aload_n 1, 1) := by decide +kernel
theorem dX5_dayBehindNeeds_13 : decode cX5_dayBehindNeeds 13 = .ok (.getfield 77, 3) := by decide +kernel
theorem dX5_dayBehindNeeds_16 : decode cX5_dayBehindNeeds 16 = .ok (.iload_n 2, 1) := by decide +kernel
theorem dX5_dayBehindNeeds_17 : decode cX5_dayBehindNeeds 17 = .ok (.iaload, 1) := by decide +kernel
theorem dX5_dayBehindNeeds_18 : decode cX5_dayBehindNeeds 18 = .ok (.iload 4, 2) := by decide +kernel
theorem dX5_dayBehindNeeds_20 : decode cX5_dayBehindNeeds 20 = .ok (.invokestatic 73, 3) := by decide +kernel
theorem dX5_dayBehindNeeds_23 : decode cX5_dayBehindNeeds 23 = .ok (.ifCond .eq 23, 3) := by decide +kernel
theorem dX5_dayBehindNeeds_26 : decode cX5_dayBehindNeeds 26 = .ok (.iload_n 3, 1) := by decide +kernel
theorem dX5_dayBehindNeeds_27 : decode cX5_dayBehindNeeds 27 = .ok (.aload_n 0, 1) := by decide +kernel
theorem dX5_dayBehindNeeds_28 : decode cX5_dayBehindNeeds 28 = .ok (.getfield 9, 3) := by decide +kernel
theorem dX5_dayBehindNeeds_31 : decode cX5_dayBehindNeeds 31 = .ok (.iload 4, 2) := by decide +kernel
theorem dX5_dayBehindNeeds_33 : decode cX5_dayBehindNeeds 33 = .ok (.iaload, 1) := by decide +kernel
theorem dX5_dayBehindNeeds_34 : decode cX5_dayBehindNeeds 34 = .ok (.aload_n 1, 1) := by decide +kernel
theorem dX5_dayBehindNeeds_35 : decode cX5_dayBehindNeeds 35 = .ok (.getfield 62, 3) := by decide +kernel
theorem dX5_dayBehindNeeds_38 : decode cX5_dayBehindNeeds 38 = .ok (.iload 4, 2) := by decide +kernel
theorem dX5_dayBehindNeeds_40 : decode cX5_dayBehindNeeds 40 = .ok (.iaload, 1) := by decide +kernel
theorem dX5_dayBehindNeeds_41 : decode cX5_dayBehindNeeds 41 = .ok (.iadd, 1) := by decide +kernel
theorem dX5_dayBehindNeeds_42 : decode cX5_dayBehindNeeds 42 = .ok (.invokestatic 65, 3) := by decide +kernel
theorem dX5_dayBehindNeeds_45 : decode cX5_dayBehindNeeds 45 = .ok (.istore_n 3, 1) := by decide +kernel
theorem dX5_dayBehindNeeds_46 : decode cX5_dayBehindNeeds 46 = .ok (.iinc 4 1, 3) := by decide +kernel
theorem dX5_dayBehindNeeds_49 : decode cX5_dayBehindNeeds 49 = .ok (.goto (-44), 3) := by decide +kernel
theorem dX5_dayBehindNeeds_52 : decode cX5_dayBehindNeeds 52 = .ok (.iload_n 3, 1) := by decide +kernel
theorem dX5_dayBehindNeeds_53 : decode cX5_dayBehindNeeds 53 = .ok (.ireturn, 1) := by decide +kernel
theorem dX5_place_0 : decode cX5_place 0 = .ok (.aload_n 0, 1) := by decide +kernel
theorem dX5_place_1 : decode cX5_place 1 = .ok (.getfield 9, 3) := by decide +kernel
theorem dX5_place_4 : decode cX5_place 4 = .ok (.iload_n 2, 1) := by decide +kernel
theorem dX5_place_5 : decode cX5_place 5 = .ok (.iload_n 3, 1) := by decide +kernel
theorem dX5_place_6 : decode cX5_place 6 = .ok (.iastore, 1) := by decide +kernel
theorem dX5_place_7 : decode cX5_place 7 = .ok (.aload_n 0, 1) := by decide +kernel
theorem dX5_place_8 : decode cX5_place 8 = .ok (.dup, 1) := by decide +kernel
theorem dX5_place_9 : decode cX5_place 9 = .ok (.getfield 20, 3) := by decide +kernel
theorem dX5_place_12 : decode cX5_place 12 = .ok (.iconst 1, 1) := by decide +kernel
theorem dX5_place_13 : decode cX5_place 13 = .ok (.iload_n 2, 1) := by decide +kernel
theorem dX5_place_14 : decode cX5_place 14 = .ok (.ishl, 1) := by decide +kernel
theorem dX5_place_15 : decode cX5_place 15 = .ok (.ior, 1) := by decide +kernel
theorem dX5_place_16 : decode cX5_place 16 = .ok (.putfield 20, 3) := by decide +kernel
theorem dX5_place_19 : decode cX5_place 19 = .ok (.aload_n 0, 1) := by decide +kernel
theorem dX5_place_20 : decode cX5_place 20 = .ok (.aload_n 1, 1) := by decide +kernel
theorem dX5_place_21 : decode cX5_place 21 = .ok (.iload_n 2, 1) := by decide +kernel
theorem dX5_place_22 : decode cX5_place 22 = .ok (.iload_n 3, 1) := by decide +kernel
theorem dX5_place_23 : decode cX5_place 23 = .ok (.iload_n 2, 1) := by decide +kernel
theorem dX5_place_24 : decode cX5_place 24 = .ok (.invokevirtual 86, 3) := by decide +kernel
theorem dX5_place_27 : decode cX5_place 27 = .ok (.return_, 1) := by decide +kernel
theorem dX5_takeBack_0 : decode cX5_takeBack 0 = .ok (.aload_n 0, 1) := by decide +kernel
theorem dX5_takeBack_1 : decode cX5_takeBack 1 = .ok (.getfield 9, 3) := by decide +kernel
theorem dX5_takeBack_4 : decode cX5_takeBack 4 = .ok (.iload_n 2, 1) := by decide +kernel
theorem dX5_takeBack_5 : decode cX5_takeBack 5 = .ok (.iconst (-1), 1) := by decide +kernel
theorem dX5_takeBack_6 : decode cX5_takeBack 6 = .ok (.iastore, 1) := by decide +kernel
theorem dX5_takeBack_7 : decode cX5_takeBack 7 = .ok (.aload_n 0, 1) := by decide +kernel
theorem dX5_takeBack_8 : decode cX5_takeBack 8 = .ok (.dup, 1) := by decide +kernel
theorem dX5_takeBack_9 : decode cX5_takeBack 9 = .ok (.getfield 20, 3) := by decide +kernel
theorem dX5_takeBack_12 : decode cX5_takeBack 12 = .ok (.iconst 1, 1) := by decide +kernel
theorem dX5_takeBack_13 : decode cX5_takeBack 13 = .ok (.iload_n 2, 1) := by decide +kernel
theorem dX5_takeBack_14 : decode cX5_takeBack 14 = .ok (.ishl, 1) := by decide +kernel
theorem dX5_takeBack_15 : decode cX5_takeBack 15 = .ok (.iconst (-1), 1) := by decide +kernel
theorem dX5_takeBack_16 : decode cX5_takeBack 16 = .ok (.ixor, 1) := by decide +kernel
theorem dX5_takeBack_17 : decode cX5_takeBack 17 = .ok (.iand, 1) := by decide +kernel
theorem dX5_takeBack_18 : decode cX5_takeBack 18 = .ok (.putfield 20, 3) := by decide +kernel
theorem dX5_takeBack_21 : decode cX5_takeBack 21 = .ok (.aload_n 0, 1) := by decide +kernel
theorem dX5_takeBack_22 : decode cX5_takeBack 22 = .ok (.aload_n 1, 1) := by decide +kernel
theorem dX5_takeBack_23 : decode cX5_takeBack 23 = .ok (.iload_n 2, 1) := by decide +kernel
theorem dX5_takeBack_24 : decode cX5_takeBack 24 = .ok (.iload_n 3, 1) := by decide +kernel
theorem dX5_takeBack_25 : decode cX5_takeBack 25 = .ok (.iconst (-1), 1) := by decide +kernel
theorem dX5_takeBack_26 : decode cX5_takeBack 26 = .ok (.invokevirtual 86, 3) := by decide +kernel
theorem dX5_takeBack_29 : decode cX5_takeBack 29 = .ok (.return_, 1) := by decide +kernel
theorem dX5_markWork_0 : decode cX5_markWork 0 = .ok (.aload_n 1, 1) := by decide +kernel
theorem dX5_markWork_1 : decode cX5_markWork 1 = .ok (.getfield 80, 3) := by decide +kernel
theorem dX5_markWork_4 : decode cX5_markWork 4 = .ok (.iload_n 2, 1) := by decide +kernel
theorem dX5_markWork_5 : decode cX5_markWork 5 = .ok (.iaload, 1) := by decide +kernel
theorem dX5_markWork_6 : decode cX5_markWork 6 = .ok (.istore 5, 2) := by decide +kernel
theorem dX5_markWork_8 : decode cX5_markWork 8 = .ok (.iload_n 3, 1) := by decide +kernel
theorem dX5_markWork_9 : decode cX5_markWork 9 = .ok (.ifCond .lt 14, 3) := by decide +kernel
theorem dX5_markWork_12 : decode cX5_markWork 12 = .ok (.iload 5, 2) := by decide +kernel
theorem dX5_markWork_14 : decode cX5_markWork 14 = .ok (.ifCond .lt 9, 3) := by decide +kernel
theorem dX5_markWork_17 : decode cX5_markWork 17 = .ok (.iload 5, 2) := by decide +kernel
theorem dX5_markWork_19 : decode cX5_markWork 19 = .ok (.iconst 5, 1) := by decide +kernel
theorem dX5_markWork_20 : decode cX5_markWork 20 = .ok (.if_icmp .lt 4, 3) := by decide +kernel
theorem dX5_markWork_23 : decode cX5_markWork 23 = .ok (.return_, 1) := by decide +kernel
theorem dX5_markWork_24 : decode cX5_markWork 24 = .ok (.iload_n 3, 1) := by decide +kernel
theorem dX5_markWork_25 : decode cX5_markWork 25 = .ok (.aload_n 1, 1) := by decide +kernel
theorem dX5_markWork_26 : decode cX5_markWork 26 = .ok (.getfield 62, 3) := by decide +kernel
theorem dX5_markWork_29 : decode cX5_markWork 29 = .ok (.iload_n 2, 1) := by decide +kernel
theorem dX5_markWork_30 : decode cX5_markWork 30 = .ok (.iaload, 1) := by decide +kernel
theorem dX5_markWork_31 : decode cX5_markWork 31 = .ok (.iadd, 1) := by decide +kernel
theorem dX5_markWork_32 : decode cX5_markWork 32 = .ok (.istore 6, 2) := by decide +kernel
theorem dX5_markWork_34 : decode cX5_markWork 34 = .ok (.iload_n 3, 1) := by decide +kernel
theorem dX5_markWork_35 : decode cX5_markWork 35 = .ok (.istore 7, 2) := by decide +kernel
theorem dX5_markWork_37 : decode cX5_markWork 37 = .ok (.iload 7, 2) := by decide +kernel
theorem dX5_markWork_39 : decode cX5_markWork 39 = .ok (.iload 6, 2) := by decide +kernel
theorem dX5_markWork_41 : decode cX5_markWork 41 = .ok (.if_icmp .ge 29, 3) := by decide +kernel
theorem dX5_markWork_44 : decode cX5_markWork 44 = .ok (.iload 7, 2) := by decide +kernel
theorem dX5_markWork_46 : decode cX5_markWork 46 = .ok (.sipush 400, 3) := by decide +kernel
theorem dX5_markWork_49 : decode cX5_markWork 49 = .ok (.if_icmp .ge 21, 3) := by decide +kernel
theorem dX5_markWork_52 : decode cX5_markWork 52 = .ok (.aload_n 0, 1) := by decide +kernel
theorem dX5_markWork_53 : decode cX5_markWork 53 = .ok (.getfield 17, 3) := by decide +kernel
theorem dX5_markWork_56 : decode cX5_markWork 56 = .ok (.iload 5, 2) := by decide +kernel
theorem dX5_markWork_58 : decode cX5_markWork 58 = .ok (.aaload, 1) := by decide +kernel
theorem dX5_markWork_59 : decode cX5_markWork 59 = .ok (.iload 7, 2) := by decide +kernel
theorem dX5_markWork_61 : decode cX5_markWork 61 = .ok (.iload 4, 2) := by decide +kernel
theorem dX5_markWork_63 : decode cX5_markWork 63 = .ok (.iastore, 1) := by decide +kernel
theorem dX5_markWork_64 : decode cX5_markWork 64 = .ok (.iinc 7 1, 3) := by decide +kernel
theorem dX5_markWork_67 : decode cX5_markWork 67 = .ok (.goto (-30), 3) := by decide +kernel
theorem dX5_markWork_70 : decode cX5_markWork 70 = .ok (.return_, 1) := by decide +kernel
theorem dX5_endOf_0 : decode cX5_endOf 0 = .ok (.iconst (-1), 1) := by decide +kernel
theorem dX5_endOf_1 : decode cX5_endOf 1 = .ok (.istore_n 2, 1) := by decide +kernel
theorem dX5_endOf_2 : decode cX5_endOf 2 = .ok (.iconst 0, 1) := by decide +kernel
theorem dX5_endOf_3 : decode cX5_endOf 3 = .ok (.istore_n 3, 1) := by decide +kernel
theorem dX5_endOf_4 : decode cX5_endOf 4 = .ok (.iload_n 3, 1) := by decide +kernel
theorem dX5_endOf_5 : decode cX5_endOf 5 = .ok (.bipush 16, 2) := by decide +kernel
theorem dX5_endOf_7 : decode cX5_endOf 7 = .ok (.if_icmp .ge 40, 3) := by decide +kernel
theorem dX5_endOf_10 : decode cX5_endOf 10 = .ok (.aload_n 0, 1) := by decide +kernel
theorem dX5_endOf_11 : decode cX5_endOf 11 = .ok (.getfield 20, 3) := by decide +kernel
theorem dX5_endOf_14 : decode cX5_endOf 14 = .ok (.iload_n 3, 1) := by decide +kernel
theorem dX5_endOf_15 : decode cX5_endOf 15 = .ok (.invokestatic 73, 3) := by decide +kernel
theorem dX5_endOf_18 : decode cX5_endOf 18 = .ok (.ifCond .eq 23, 3) := by decide +kernel
theorem dX5_endOf_21 : decode cX5_endOf 21 = .ok (.iload_n 2, 1) := by decide +kernel
theorem dX5_endOf_22 : decode cX5_endOf 22 = .ok (.aload_n 0, 1) := by decide +kernel
theorem dX5_endOf_23 : decode cX5_endOf 23 = .ok (.getfield 9, 3) := by decide +kernel
theorem dX5_endOf_26 : decode cX5_endOf 26 = .ok (.iload_n 3, 1) := by decide +kernel
theorem dX5_endOf_27 : decode cX5_endOf 27 = .ok (.iaload, 1) := by decide +kernel
theorem dX5_endOf_28 : decode cX5_endOf 28 = .ok (.aload_n 1, 1) := by decide +kernel
theorem dX5_endOf_29 : decode cX5_endOf 29 = .ok (.getfield 62, 3) := by decide +kernel
theorem dX5_endOf_32 : decode cX5_endOf 32 = .ok (.iload_n 3, 1) := by decide +kernel
theorem dX5_endOf_33 : decode cX5_endOf 33 = .ok (.iaload, 1) := by decide +kernel
theorem dX5_endOf_34 : decode cX5_endOf 34 = .ok (.iadd, 1) := by decide +kernel
theorem dX5_endOf_35 : decode cX5_endOf 35 = .ok (.iconst 1, 1) := by decide +kernel
theorem dX5_endOf_36 : decode cX5_endOf 36 = .ok (.isub, 1) := by decide +kernel
theorem dX5_endOf_37 : decode cX5_endOf 37 = .ok (.invokestatic 65, 3) := by decide +kernel
theorem dX5_endOf_40 : decode cX5_endOf 40 = .ok (.istore_n 2, 1) := by decide +kernel
theorem dX5_endOf_41 : decode cX5_endOf 41 = .ok (.iinc 3 1, 3) := by decide +kernel
theorem dX5_endOf_44 : decode cX5_endOf 44 = .ok (.goto (-40), 3) := by decide +kernel
theorem dX5_endOf_47 : decode cX5_endOf 47 = .ok (.iload_n 2, 1) := by decide +kernel
theorem dX5_endOf_48 : decode cX5_endOf 48 = .ok (.ireturn, 1) := by decide +kernel
set_option maxHeartbeats 4000000 in
set_option maxRecDepth 100000 in
theorem c_X5_start {l : Launch} (hfl : l.stackTraces = false) {sz : Nat} {sk : pb_Sk} {rf : pb_Rf} {sg : pb_Sg} {s c : Nat} {x : Int32} (hs : pb_sch sk rf s) (hc : pb_crews sk rf c) : pb_Met l mX5_start 2 0 0 [.ref s, .ref c, .int x] sz sk rf sg (pb_is none sz sk rf (pb_stC sg s c x 5)) := by
  refine pb_start hfl (by decide +kernel) rfl (pb_c1 rfl) (Nat.le_of_ble_eq_true rfl) (fun F hF h hQ => ?_)
  subst hF
  show pv F 0 0 sz sk rf sg 0 [some (.ref s), some (.ref c), some (.int x), none, none] []
  obtain ⟨hs0, hs1, hs2, hs3, hs4, hs5, hs6⟩ := id hs
  have hc0 := hc.1
  refine v_aload_n h (i := 0) dX5_start_0 (q := 1) rfl rfl rfl ?_
  refine v_iconst h (v := nI 0) dX5_start_1 (q := 2) rfl (by decide +kernel) ?_
  refine v_puti h fl_X5_20 (by assumption) rfl rfl dX5_start_2 (q := 5) rfl ?_
  refine v_aload_n h (i := 0) dX5_start_5 (q := 6) rfl rfl rfl ?_
  refine v_getr h fl_X5_9 (by assumption) rfl (by assumption) dX5_start_6 (q := 9) rfl ?_
  refine v_iconst h (v := (-1)) dX5_start_9 (q := 10) rfl (by decide +kernel) ?_
  refine v_callS0 h (c_J7_fill_53178 hfl hs3 (by omega)) kJ7_fill_53178 rfl tw625 rfl rfl (by simp [Value.category]) (by decide) (Nat.zero_le _) (Nat.zero_le _) rfl dX5_start_10 (q := 13) rfl ?_
  refine v_iconst h (v := nI 0) dX5_start_13 (q := 14) rfl (by decide +kernel) ?_
  refine v_istore_n h (i := 3) dX5_start_14 (q := 15) rfl rfl (Nat.le_of_ble_eq_true rfl) rfl ?_
  have lp : ∀ (j i : Nat), i + j = 5 → pv F 0 0 sz sk rf (pb_stC sg s c x i) 15 [some (.ref s), some (.ref c), some (.int x), some (.int (nI i)), none] [] := by
    intro j
    induction j with
    | zero =>
      intro i  hi
      obtain rfl : i = 5 := by omega
      refine v_iload_n h (i := 3) dX5_start_15 (q := 16) rfl rfl rfl ?_
      refine v_iconst h (v := nI 5) dX5_start_16 (q := 17) rfl (by decide +kernel) ?_
      refine v_icmp_ge h dX5_start_17 (q := 20) rfl (tgt := 69) (by decide) (fun c1 => ?_) (fun c1 => pb_kle (Nat.le_refl _) (by decide) c1)
      refine v_vret h hQ rfl dX5_start_69 (Nat.zero_le _) (Nat.zero_le _) ⟨rfl, rfl, rfl, rfl, rfl⟩
    | succ j ih =>
      intro i  hi
      have hi2 : i < 5 := by omega
      refine v_iload_n h (i := 3) dX5_start_15 (q := 16) rfl rfl rfl ?_
      refine v_iconst h (v := nI 5) dX5_start_16 (q := 17) rfl (by decide +kernel) ?_
      refine v_icmp_ge h dX5_start_17 (q := 20) rfl (tgt := 69) (by decide) (fun c2 => pb_kge hi2 (by decide) c2) (fun c2 => ?_)
      refine v_iconst h (v := nI 0) dX5_start_20 (q := 21) rfl (by decide +kernel) ?_
      refine v_istore h dX5_start_21 (q := 23) rfl (Nat.le_of_ble_eq_true rfl) rfl ?_
      have lpb : ∀ (jb ib : Nat), ib + jb = 400 → pv F 0 0 sz sk rf (pb_stD (pb_stC sg s c x i) s c x i ib) 23 [some (.ref s), some (.ref c), some (.int x), some (.int (nI i)), some (.int (nI ib))] [] := by
        intro jb
        induction jb with
        | zero =>
          intro ib  hib
          obtain rfl : ib = 400 := by omega
          refine v_iload h dX5_start_23 (q := 25) rfl rfl ?_
          refine v_sipush h (v := nI 400) dX5_start_25 (q := 28) rfl (by decide +kernel) ?_
          refine v_icmp_ge h dX5_start_28 (q := 31) rfl (tgt := 63) (by decide) (fun c3 => ?_) (fun c3 => pb_kle (Nat.le_refl _) (by decide) c3)
          refine v_iinc h dX5_start_63 (q := 66) rfl rfl pb_inc rfl ?_
          refine v_goto h dX5_start_66 (tgt := 15) (by decide) ?_
          refine v_wk (by simp [pb_wk]) (ih (i + 1) (by omega))
        | succ jb ihb =>
          intro ib  hib
          have hi2b : ib < 400 := by omega
          have hr := hs6 i hi2
          refine v_iload h dX5_start_23 (q := 25) rfl rfl ?_
          refine v_sipush h (v := nI 400) dX5_start_25 (q := 28) rfl (by decide +kernel) ?_
          refine v_icmp_ge h dX5_start_28 (q := 31) rfl (tgt := 63) (by decide) (fun c4 => pb_kge hi2b (by decide) c4) (fun c4 => ?_)
          refine v_aload_n h (i := 0) dX5_start_31 (q := 32) rfl rfl rfl ?_
          refine v_getr h fl_X5_17 (by assumption) rfl (by assumption) dX5_start_32 (q := 35) rfl ?_
          refine v_iload_n h (i := 3) dX5_start_35 (q := 36) rfl rfl rfl ?_
          refine v_aald5 h (by assumption) rfl (by first | assumption | omega) (by decide) (show va_rf (rf (s + 2) i) = Value.ref (s + 3 + i) from by rw [hs5 i hi2]; rfl) dX5_start_36 (q := 37) rfl ?_
          refine v_iload h dX5_start_37 (q := 39) rfl rfl ?_
          refine v_aload_n h (i := 1) dX5_start_39 (q := 40) rfl rfl rfl ?_
          refine v_iload_n h (i := 3) dX5_start_40 (q := 41) rfl rfl rfl ?_
          refine v_iload h dX5_start_41 (q := 43) rfl rfl ?_
          refine v_callV1 h (c_X1_heldBy hfl hc hi2 hi2b) kX1_heldBy tw628 tw630 (by assumption) (by decide) rfl rfl rfl (by simp [Value.category]) (by decide) (Nat.zero_le _) (Nat.zero_le _) rfl dX5_start_43 (q := 46) rfl ?_
          refine v_iload_n h (i := 2) dX5_start_46 (q := 47) rfl rfl rfl ?_
          refine v_icmp_ne h dX5_start_47 (q := 50) rfl (tgt := 54) (by decide) (fun c5 => ?_) (fun c5 => ?_)
          · skip
            have e7 : (if pb_held (pb_stD (pb_stC sg s c x i) s c x i ib) c i ib = x then (-1 : Int32) else -2) = -2 := if_neg c5
            refine v_bipush h (v := (-2)) dX5_start_54 (q := 56) rfl (by decide +kernel) ?_
            refine v_eq (st' := [.int (if pb_held (pb_stD (pb_stC sg s c x i) s c x i ib) c i ib = x then -1 else -2), .int (nI ib), .ref (s + 3 + i)]) (by rw [e7]) ?_
            refine v_iast h (by assumption) rfl (by first | assumption | omega) (by decide) dX5_start_56 (q := 57) rfl ?_
            refine v_iinc h dX5_start_57 (q := 60) rfl rfl pb_inc rfl ?_
            refine v_goto h dX5_start_60 (tgt := 23) (by decide) ?_
            exact ihb (ib + 1) (by omega)
          · skip
            have e7 : (if pb_held (pb_stD (pb_stC sg s c x i) s c x i ib) c i ib = x then (-1 : Int32) else -2) = -1 := if_pos c5
            refine v_iconst h (v := (-1)) dX5_start_50 (q := 51) rfl (by decide +kernel) ?_
            refine v_goto h dX5_start_51 (tgt := 56) (by decide) ?_
            refine v_eq (st' := [.int (if pb_held (pb_stD (pb_stC sg s c x i) s c x i ib) c i ib = x then -1 else -2), .int (nI ib), .ref (s + 3 + i)]) (by rw [e7]) ?_
            refine v_iast h (by assumption) rfl (by first | assumption | omega) (by decide) dX5_start_56 (q := 57) rfl ?_
            refine v_iinc h dX5_start_57 (q := 60) rfl rfl pb_inc rfl ?_
            refine v_goto h dX5_start_60 (tgt := 23) (by decide) ?_
            exact ihb (ib + 1) (by omega)
      exact lpb 400 0 (by omega)
  exact lp 5 0 (by omega)
set_option maxHeartbeats 4000000 in
set_option maxRecDepth 100000 in
theorem c_X5_ready {l : Launch} (hfl : l.stackTraces = false) {sz : Nat} {sk : pb_Sk} {rf : pb_Rf} {sg : pb_Sg} {s p t : Nat} {U : Int32} (hs : pb_sch sk rf s) (hp : pb_plan sk rf p) (ht : t < 16) : pb_Met l mX5_ready 2 0 0 [.ref s, .ref p, .int U, .int (nI t)] sz sk rf sg (pb_is (some (.int (pb_b (pb_rdy sg s p U t)))) sz sk rf sg) := by
  refine pb_start hfl (by decide +kernel) rfl (pb_c1 rfl) (Nat.le_of_ble_eq_true rfl) (fun F hF h hQ => ?_)
  subst hF
  show pv F 0 0 sz sk rf sg 0 [some (.ref s), some (.ref p), some (.int U), some (.int (nI t))] []
  obtain ⟨hp0, hp1, hp2, hp3, hp4, hp5, hp6, hp7, hp8⟩ := id hp
  obtain ⟨hs0, hs1, hs2, hs3, hs4, hs5, hs6⟩ := id hs
  refine v_iload_n h (i := 2) dX5_ready_0 (q := 1) rfl rfl rfl ?_
  refine v_iload_n h (i := 3) dX5_ready_1 (q := 2) rfl rfl rfl ?_
  refine v_callSN1 h (c_X7_contains hfl (show t < 32 by omega)) kX7_contains rfl tw645 rfl rfl (by simp [Value.category]) (by decide) (Nat.zero_le _) (Nat.zero_le _) rfl dX5_ready_2 (q := 5) rfl ?_
  refine v_if_eq h dX5_ready_5 (q := 8) rfl (tgt := 28) (by decide) (fun c1 => ?_) (fun c1 => ?_)
  · skip
    have e1 := pb_b_0.mp c1
    have e9 : pb_b (pb_rdy sg s p U t) = nI 0 := by unfold pb_rdy; rw [e1]; rfl
    refine v_iconst h (v := nI 0) dX5_ready_28 (q := 29) rfl (by decide +kernel) ?_
    refine v_iret h hQ rfl (by first | exact rfl | exact pb_b_nar _) dX5_ready_29 (Nat.zero_le _) (Nat.zero_le _) ⟨by rw [e9], rfl, rfl, rfl, rfl⟩
  · skip
    have e1 := pb_ne_f (fun q => c1 (pb_b_0.mpr q))
    refine v_aload_n h (i := 1) dX5_ready_8 (q := 9) rfl rfl rfl ?_
    refine v_getr h fl_X5_77 (by assumption) rfl (by assumption) dX5_ready_9 (q := 12) rfl ?_
    refine v_iload_n h (i := 3) dX5_ready_12 (q := 13) rfl rfl rfl ?_
    refine v_iald h (by assumption) rfl (by first | assumption | omega) (by decide) dX5_ready_13 (q := 14) rfl ?_
    refine v_aload_n h (i := 0) dX5_ready_14 (q := 15) rfl rfl rfl ?_
    refine v_geti h fl_X5_20 (by assumption) rfl dX5_ready_15 (q := 18) rfl ?_
    refine v_iconst h (v := (-1)) dX5_ready_18 (q := 19) rfl (by decide +kernel) ?_
    refine v_ixor h dX5_ready_19 (q := 20) rfl ?_
    refine v_iand h dX5_ready_20 (q := 21) rfl ?_
    refine v_if_ne h dX5_ready_21 (q := 24) rfl (tgt := 28) (by decide) (fun c2 => ?_) (fun c2 => ?_)
    · skip
      have e9 : pb_b (pb_rdy sg s p U t) = nI 0 := by unfold pb_rdy; rw [e1, decide_eq_false c2]; rfl
      refine v_iconst h (v := nI 0) dX5_ready_28 (q := 29) rfl (by decide +kernel) ?_
      refine v_iret h hQ rfl (by first | exact rfl | exact pb_b_nar _) dX5_ready_29 (Nat.zero_le _) (Nat.zero_le _) ⟨by rw [e9], rfl, rfl, rfl, rfl⟩
    · skip
      have e9 : pb_b (pb_rdy sg s p U t) = nI 1 := by unfold pb_rdy; rw [e1, decide_eq_true c2]; rfl
      refine v_iconst h (v := nI 1) dX5_ready_24 (q := 25) rfl (by decide +kernel) ?_
      refine v_goto h dX5_ready_25 (tgt := 29) (by decide) ?_
      refine v_iret h hQ rfl (by first | exact rfl | exact pb_b_nar _) dX5_ready_29 (Nat.zero_le _) (Nat.zero_le _) ⟨by rw [e9], rfl, rfl, rfl, rfl⟩
set_option maxHeartbeats 4000000 in
set_option maxRecDepth 100000 in
theorem c_X5_dayBehindNeeds {l : Launch} (hfl : l.stackTraces = false) {sz : Nat} {sk : pb_Sk} {rf : pb_Rf} {sg : pb_Sg} {s p t : Nat} (hs : pb_sch sk rf s) (hp : pb_plan sk rf p) (ht : t < 16) (hi : pb_si sg s p) : pb_Met l mX5_dayBehindNeeds 2 0 0 [.ref s, .ref p, .int (nI t)] sz sk rf sg (pb_is (some (.int (nI (pb_dn sg s p t 16)))) sz sk rf sg) := by
  refine pb_start hfl (by decide +kernel) rfl (pb_c1 rfl) (Nat.le_of_ble_eq_true rfl) (fun F hF h hQ => ?_)
  subst hF
  show pv F 0 0 sz sk rf sg 0 [some (.ref s), some (.ref p), some (.int (nI t)), none, none] []
  obtain ⟨hp0, hp1, hp2, hp3, hp4, hp5, hp6, hp7, hp8⟩ := id hp
  obtain ⟨hs0, hs1, hs2, hs3, hs4, hs5, hs6⟩ := id hs
  refine v_iconst h (v := nI 0) dX5_dayBehindNeeds_0 (q := 1) rfl (by decide +kernel) ?_
  refine v_istore_n h (i := 3) dX5_dayBehindNeeds_1 (q := 2) rfl rfl (Nat.le_of_ble_eq_true rfl) rfl ?_
  refine v_iconst h (v := nI 0) dX5_dayBehindNeeds_2 (q := 3) rfl (by decide +kernel) ?_
  refine v_istore h dX5_dayBehindNeeds_3 (q := 5) rfl (Nat.le_of_ble_eq_true rfl) rfl ?_
  have lpb : ∀ (jb ib : Nat), ib + jb = 16 → pv F 0 0 sz sk rf sg 5 [some (.ref s), some (.ref p), some (.int (nI t)), some (.int (nI (pb_dn sg s p t ib))), some (.int (nI ib))] [] := by
    intro jb
    induction jb with
    | zero =>
      intro ib  hib
      obtain rfl : ib = 16 := by omega
      refine v_iload h dX5_dayBehindNeeds_5 (q := 7) rfl rfl ?_
      refine v_bipush h (v := nI 16) dX5_dayBehindNeeds_7 (q := 9) rfl (by decide +kernel) ?_
      refine v_icmp_ge h dX5_dayBehindNeeds_9 (q := 12) rfl (tgt := 52) (by decide) (fun c1 => ?_) (fun c1 => pb_kle (Nat.le_refl _) (by decide) c1)
      refine v_iload_n h (i := 3) dX5_dayBehindNeeds_52 (q := 53) rfl rfl rfl ?_
      refine v_iret h hQ rfl rfl dX5_dayBehindNeeds_53 (Nat.zero_le _) (Nat.zero_le _) ⟨rfl, rfl, rfl, rfl, rfl⟩
    | succ jb ihb =>
      intro ib  hib
      have hi2b : ib < 16 := by omega
      refine v_iload h dX5_dayBehindNeeds_5 (q := 7) rfl rfl ?_
      refine v_bipush h (v := nI 16) dX5_dayBehindNeeds_7 (q := 9) rfl (by decide +kernel) ?_
      refine v_icmp_ge h dX5_dayBehindNeeds_9 (q := 12) rfl (tgt := 52) (by decide) (fun c2 => pb_kge hi2b (by decide) c2) (fun c2 => ?_)
      refine v_aload_n h (i := 1) dX5_dayBehindNeeds_12 (q := 13) rfl rfl rfl ?_
      refine v_getr h fl_X5_77 (by assumption) rfl (by assumption) dX5_dayBehindNeeds_13 (q := 16) rfl ?_
      refine v_iload_n h (i := 2) dX5_dayBehindNeeds_16 (q := 17) rfl rfl rfl ?_
      refine v_iald h (by assumption) rfl (by first | assumption | omega) (by decide) dX5_dayBehindNeeds_17 (q := 18) rfl ?_
      refine v_iload h dX5_dayBehindNeeds_18 (q := 20) rfl rfl ?_
      refine v_callSN1 h (c_X7_contains hfl (show ib < 32 by omega)) kX7_contains rfl tw645 rfl rfl (by simp [Value.category]) (by decide) (Nat.zero_le _) (Nat.zero_le _) rfl dX5_dayBehindNeeds_20 (q := 23) rfl ?_
      refine v_if_eq h dX5_dayBehindNeeds_23 (q := 26) rfl (tgt := 46) (by decide) (fun c3 => ?_) (fun c3 => ?_)
      · skip
        have e8 := pb_b_0.mp c3
        have e9 : pb_dn sg s p t (ib + 1) = pb_dn sg s p t ib := if_neg (by rw [e8]; decide)
        refine v_iinc h dX5_dayBehindNeeds_46 (q := 49) rfl rfl pb_inc rfl ?_
        refine v_goto h dX5_dayBehindNeeds_49 (tgt := 5) (by decide) ?_
        have h9 := ihb (ib + 1) (by omega)
        first | exact h9 | (rw [e9] at h9; exact h9)
      · skip
        have e8 := pb_ne_f (fun q => c3 (pb_b_0.mpr q))
        have e9 : pb_dn sg s p t (ib + 1) = max (pb_dn sg s p t ib) (pb_nat (sg (s + 1) ib + sg (p + 1) ib)) := if_pos e8
        have hle := pb_dn_le (t := t) hi ib (by omega)
        have e7 : pb_mx (nI (pb_dn sg s p t ib)) (sg (s + 1) ib + sg (p + 1) ib) = nI (pb_dn sg s p t (ib + 1)) := by
            rw [e9]
            refine pb_mx_nat (by omega) ?_
            rcases pb_fdl hi hi2b with q | ⟨m, hm, q⟩
            · exact Or.inl q
            · exact Or.inr ⟨m, by omega, q⟩
        refine v_iload_n h (i := 3) dX5_dayBehindNeeds_26 (q := 27) rfl rfl rfl ?_
        refine v_aload_n h (i := 0) dX5_dayBehindNeeds_27 (q := 28) rfl rfl rfl ?_
        refine v_getr h fl_X5_9 (by assumption) rfl (by assumption) dX5_dayBehindNeeds_28 (q := 31) rfl ?_
        refine v_iload h dX5_dayBehindNeeds_31 (q := 33) rfl rfl ?_
        refine v_iald h (by assumption) rfl (by first | assumption | omega) (by decide) dX5_dayBehindNeeds_33 (q := 34) rfl ?_
        refine v_aload_n h (i := 1) dX5_dayBehindNeeds_34 (q := 35) rfl rfl rfl ?_
        refine v_getr h fl_X5_62 (by assumption) rfl (by assumption) dX5_dayBehindNeeds_35 (q := 38) rfl ?_
        refine v_iload h dX5_dayBehindNeeds_38 (q := 40) rfl rfl ?_
        refine v_iald h (by assumption) rfl (by first | assumption | omega) (by decide) dX5_dayBehindNeeds_40 (q := 41) rfl ?_
        refine v_iadd h dX5_dayBehindNeeds_41 (q := 42) rfl ?_
        refine v_max h tw654 tw619 tw62 tw620 (by decide) (by simp [Value.category]) (Nat.zero_le _) (Nat.zero_le _) rfl dX5_dayBehindNeeds_42 (q := 45) rfl ?_
        refine v_eq (st' := [.int (nI (pb_dn sg s p t (ib + 1)))]) (by rw [← e7]; rfl) ?_
        refine v_istore_n h (i := 3) dX5_dayBehindNeeds_45 (q := 46) rfl rfl (Nat.le_of_ble_eq_true rfl) rfl ?_
        refine v_iinc h dX5_dayBehindNeeds_46 (q := 49) rfl rfl pb_inc rfl ?_
        refine v_goto h dX5_dayBehindNeeds_49 (tgt := 5) (by decide) ?_
        have h9 := ihb (ib + 1) (by omega)
        first | exact h9 | (rw [e9] at h9; exact h9)
  exact lpb 16 0 (by omega)
set_option maxHeartbeats 4000000 in
set_option maxRecDepth 100000 in
theorem c_X5_markWork {l : Launch} (hfl : l.stackTraces = false) {sz : Nat} {sk : pb_Sk} {rf : pb_Rf} {sg : pb_Sg} {s p t d : Nat} {m : Int32} (hs : pb_sch sk rf s) (hp : pb_plan sk rf p) (ht : t < 16) (hw : pb_wf sg p) (hd : d + pb_nat (sg (p + 1) t) ≤ 400) : pb_Met l mX5_markWork 1 0 0 [.ref s, .ref p, .int (nI t), .int (nI d), .int m] sz sk rf sg (pb_is none sz sk rf (pb_mark sg s p t d m)) := by
  refine pb_start hfl (by decide +kernel) rfl (pb_c1 rfl) (Nat.le_of_ble_eq_true rfl) (fun F hF h hQ => ?_)
  subst hF
  show pv F 0 0 sz sk rf sg 0 [some (.ref s), some (.ref p), some (.int (nI t)), some (.int (nI d)), some (.int m), none, none, none] []
  obtain ⟨hp0, hp1, hp2, hp3, hp4, hp5, hp6, hp7, hp8⟩ := id hp
  obtain ⟨hs0, hs1, hs2, hs3, hs4, hs5, hs6⟩ := id hs
  obtain ⟨⟨l, hl, el⟩, hcr⟩ := hw t ht
  rw [el, pb_nat_nI (by omega)] at hd
  refine v_aload_n h (i := 1) dX5_markWork_0 (q := 1) rfl rfl rfl ?_
  refine v_getr h fl_X5_80 (by assumption) rfl (by assumption) dX5_markWork_1 (q := 4) rfl ?_
  refine v_iload_n h (i := 2) dX5_markWork_4 (q := 5) rfl rfl rfl ?_
  refine v_iald h (by assumption) rfl (by first | assumption | omega) (by decide) dX5_markWork_5 (q := 6) rfl ?_
  refine v_istore h dX5_markWork_6 (q := 8) rfl (Nat.le_of_ble_eq_true rfl) rfl ?_
  refine v_iload_n h (i := 3) dX5_markWork_8 (q := 9) rfl rfl rfl ?_
  refine v_if_lt h dX5_markWork_9 (q := 12) rfl (tgt := 23) (by decide) (fun c1 => absurd c1 (nI_pos (by omega))) (fun c1 => ?_)
  refine v_iload h dX5_markWork_12 (q := 14) rfl rfl ?_
  refine v_if_lt h dX5_markWork_14 (q := 17) rfl (tgt := 23) (by decide) (fun c2 => ?_) (fun c2 => ?_)
  · skip
    have e9 : pb_mark sg s p t d m = sg := by
          refine if_pos ?_
          rcases hcr with q | ⟨c, hc, q⟩
          · exact q
          · rw [q] at c2; exact absurd c2 (nI_pos (by omega))
    refine v_vret h hQ rfl dX5_markWork_23 (Nat.zero_le _) (Nat.zero_le _) ⟨rfl, rfl, rfl, rfl, e9.symm⟩
  · skip
    obtain ⟨c, hc, ec⟩ : ∃ c, c < 5 ∧ sg (p + 2) t = nI c := by
          rcases hcr with q | q
          · rw [q] at c2; exact absurd (by decide) c2
          · exact q
    have hr := hs6 c hc
    have e9 : pb_mark sg s p t d m = pb_fillN sg (s + 3 + c) d m l := by
          unfold pb_mark
          rw [if_neg (by rw [ec]; exact pb_m1_ne (by omega)), ec, el, pb_nat_nI (by omega), pb_nat_nI (by omega)]
    refine v_iload h dX5_markWork_17 (q := 19) rfl rfl ?_
    refine v_iconst h (v := nI 5) dX5_markWork_19 (q := 20) rfl (by decide +kernel) ?_
    refine v_icmp_lt h dX5_markWork_20 (q := 23) rfl (tgt := 24) (by decide) (fun c3 => ?_) (fun c3 => absurd (by rw [ec]; exact nI_lt hc (by omega)) c3)
    refine v_iload_n h (i := 3) dX5_markWork_24 (q := 25) rfl rfl rfl ?_
    refine v_aload_n h (i := 1) dX5_markWork_25 (q := 26) rfl rfl rfl ?_
    refine v_getr h fl_X5_62 (by assumption) rfl (by assumption) dX5_markWork_26 (q := 29) rfl ?_
    refine v_iload_n h (i := 2) dX5_markWork_29 (q := 30) rfl rfl rfl ?_
    refine v_iald h (by assumption) rfl (by first | assumption | omega) (by decide) dX5_markWork_30 (q := 31) rfl ?_
    refine v_iadd h dX5_markWork_31 (q := 32) rfl ?_
    refine v_eq (st' := [.int (nI (d + l))]) (by rw [el, nI_add]) ?_
    refine v_istore h dX5_markWork_32 (q := 34) rfl (Nat.le_of_ble_eq_true rfl) rfl ?_
    refine v_iload_n h (i := 3) dX5_markWork_34 (q := 35) rfl rfl rfl ?_
    refine v_istore h dX5_markWork_35 (q := 37) rfl (Nat.le_of_ble_eq_true rfl) rfl ?_
    have lpb : ∀ (jb ib : Nat), ib + jb = l → pv F 0 0 sz sk rf (pb_fillN sg (s + 3 + c) d m ib) 37 [some (.ref s), some (.ref p), some (.int (nI t)), some (.int (nI d)), some (.int m), some (.int (sg (p + 2) t)), some (.int (nI (d + l))), some (.int (nI (d + ib)))] [] := by
      intro jb
      induction jb with
      | zero =>
        intro ib  hib
        obtain rfl : ib = l := by omega
        refine v_iload h dX5_markWork_37 (q := 39) rfl rfl ?_
        refine v_iload h dX5_markWork_39 (q := 41) rfl rfl ?_
        refine v_icmp_ge h dX5_markWork_41 (q := 44) rfl (tgt := 70) (by decide) (fun c4 => ?_) (fun c4 => pb_kle (Nat.le_refl _) (by omega) c4)
        refine v_vret h hQ rfl dX5_markWork_70 (Nat.zero_le _) (Nat.zero_le _) ⟨rfl, rfl, rfl, rfl, e9.symm⟩
      | succ jb ihb =>
        intro ib  hib
        have hi2b : ib < l := by omega
        refine v_iload h dX5_markWork_37 (q := 39) rfl rfl ?_
        refine v_iload h dX5_markWork_39 (q := 41) rfl rfl ?_
        refine v_icmp_ge h dX5_markWork_41 (q := 44) rfl (tgt := 70) (by decide) (fun c5 => pb_kge (by omega) (by omega) c5) (fun c5 => ?_)
        refine v_iload h dX5_markWork_44 (q := 46) rfl rfl ?_
        refine v_sipush h (v := nI 400) dX5_markWork_46 (q := 49) rfl (by decide +kernel) ?_
        refine v_icmp_ge h dX5_markWork_49 (q := 52) rfl (tgt := 70) (by decide) (fun c6 => pb_kge (by omega) (by decide) c6) (fun c6 => ?_)
        refine v_aload_n h (i := 0) dX5_markWork_52 (q := 53) rfl rfl rfl ?_
        refine v_getr h fl_X5_17 (by assumption) rfl (by assumption) dX5_markWork_53 (q := 56) rfl ?_
        refine v_iload h dX5_markWork_56 (q := 58) rfl rfl ?_
        refine v_aald5 h (by assumption) ec hc (by decide) (show va_rf (rf (s + 2) c) = Value.ref (s + 3 + c) from by rw [hs5 c hc]; rfl) dX5_markWork_58 (q := 59) rfl ?_
        refine v_iload h dX5_markWork_59 (q := 61) rfl rfl ?_
        refine v_iload h dX5_markWork_61 (q := 63) rfl rfl ?_
        refine v_iast h (by assumption) rfl (by first | assumption | omega) (by decide) dX5_markWork_63 (q := 64) rfl ?_
        refine v_iinc h dX5_markWork_64 (q := 67) rfl rfl pb_inc rfl ?_
        refine v_goto h dX5_markWork_67 (tgt := 37) (by decide) ?_
        exact ihb (ib + 1) (by omega)
    exact lpb l 0 (by omega)
set_option maxHeartbeats 4000000 in
set_option maxRecDepth 100000 in
theorem c_X5_place {l : Launch} (hfl : l.stackTraces = false) {sz : Nat} {sk : pb_Sk} {rf : pb_Rf} {sg : pb_Sg} {s p t d : Nat} (hs : pb_sch sk rf s) (hp : pb_plan sk rf p) (ht : t < 16) (ha : pb_ap s p) (hw : pb_wf sg p) (hd : d + pb_nat (sg (p + 1) t) ≤ 400) : pb_Met l mX5_place 2 0 0 [.ref s, .ref p, .int (nI t), .int (nI d)] sz sk rf sg (pb_is none sz sk rf (pb_place sg s p t d)) := by
  refine pb_start hfl (by decide +kernel) rfl (pb_c1 rfl) (Nat.le_of_ble_eq_true rfl) (fun F hF h hQ => ?_)
  subst hF
  show pv F 0 0 sz sk rf sg 0 [some (.ref s), some (.ref p), some (.int (nI t)), some (.int (nI d))] []
  obtain ⟨hp0, hp1, hp2, hp3, hp4, hp5, hp6, hp7, hp8⟩ := id hp
  obtain ⟨hs0, hs1, hs2, hs3, hs4, hs5, hs6⟩ := id hs
  refine v_aload_n h (i := 0) dX5_place_0 (q := 1) rfl rfl rfl ?_
  refine v_getr h fl_X5_9 (by assumption) rfl (by assumption) dX5_place_1 (q := 4) rfl ?_
  refine v_iload_n h (i := 2) dX5_place_4 (q := 5) rfl rfl rfl ?_
  refine v_iload_n h (i := 3) dX5_place_5 (q := 6) rfl rfl rfl ?_
  refine v_iast h (by assumption) rfl (by first | assumption | omega) (by decide) dX5_place_6 (q := 7) rfl ?_
  refine v_aload_n h (i := 0) dX5_place_7 (q := 8) rfl rfl rfl ?_
  refine v_dup h dX5_place_8 (q := 9) rfl rfl ?_
  refine v_geti h fl_X5_20 (by assumption) rfl dX5_place_9 (q := 12) rfl ?_
  refine v_iconst h (v := nI 1) dX5_place_12 (q := 13) rfl (by decide +kernel) ?_
  refine v_iload_n h (i := 2) dX5_place_13 (q := 14) rfl rfl rfl ?_
  refine v_ishl h dX5_place_14 (q := 15) rfl ?_
  refine v_ior h dX5_place_15 (q := 16) rfl ?_
  refine v_eq (st' := [.int (sg s 2 ||| (nI 1 <<< (nI t &&& 31))), .ref s]) (by rw [pb_up_ne2 (show s ≠ s + 1 by omega)]) ?_
  refine v_puti h fl_X5_20 (by assumption) rfl rfl dX5_place_16 (q := 19) rfl ?_
  refine v_sg (sg' := pb_plc sg s t (nI d) (sg s 2 ||| (nI 1 <<< (nI t &&& 31)))) rfl ?_
  refine v_aload_n h (i := 0) dX5_place_19 (q := 20) rfl rfl rfl ?_
  refine v_aload_n h (i := 1) dX5_place_20 (q := 21) rfl rfl rfl ?_
  refine v_iload_n h (i := 2) dX5_place_21 (q := 22) rfl rfl rfl ?_
  refine v_iload_n h (i := 3) dX5_place_22 (q := 23) rfl rfl rfl ?_
  refine v_iload_n h (i := 2) dX5_place_23 (q := 24) rfl rfl rfl ?_
  refine v_callV0 h (c_X5_markWork hfl hs hp ht (pb_wf_plc ha hw) (by rw [pb_plc_p ha (by omega)]; exact hd)) kX5_markWork tw659 tw11 (by assumption) (by decide) rfl rfl rfl (by simp [Value.category]) (by decide) (Nat.zero_le _) (Nat.zero_le _) rfl dX5_place_24 (q := 27) rfl ?_
  refine v_vret h hQ rfl dX5_place_27 (Nat.zero_le _) (Nat.zero_le _) ⟨rfl, rfl, rfl, rfl, rfl⟩
set_option maxHeartbeats 4000000 in
set_option maxRecDepth 100000 in
theorem c_X5_takeBack {l : Launch} (hfl : l.stackTraces = false) {sz : Nat} {sk : pb_Sk} {rf : pb_Rf} {sg : pb_Sg} {s p t d : Nat} (hs : pb_sch sk rf s) (hp : pb_plan sk rf p) (ht : t < 16) (ha : pb_ap s p) (hw : pb_wf sg p) (hd : d + pb_nat (sg (p + 1) t) ≤ 400) : pb_Met l mX5_takeBack 2 0 0 [.ref s, .ref p, .int (nI t), .int (nI d)] sz sk rf sg (pb_is none sz sk rf (pb_tback sg s p t d)) := by
  refine pb_start hfl (by decide +kernel) rfl (pb_c1 rfl) (Nat.le_of_ble_eq_true rfl) (fun F hF h hQ => ?_)
  subst hF
  show pv F 0 0 sz sk rf sg 0 [some (.ref s), some (.ref p), some (.int (nI t)), some (.int (nI d))] []
  obtain ⟨hp0, hp1, hp2, hp3, hp4, hp5, hp6, hp7, hp8⟩ := id hp
  obtain ⟨hs0, hs1, hs2, hs3, hs4, hs5, hs6⟩ := id hs
  refine v_aload_n h (i := 0) dX5_takeBack_0 (q := 1) rfl rfl rfl ?_
  refine v_getr h fl_X5_9 (by assumption) rfl (by assumption) dX5_takeBack_1 (q := 4) rfl ?_
  refine v_iload_n h (i := 2) dX5_takeBack_4 (q := 5) rfl rfl rfl ?_
  refine v_iconst h (v := (-1)) dX5_takeBack_5 (q := 6) rfl (by decide +kernel) ?_
  refine v_iast h (by assumption) rfl (by first | assumption | omega) (by decide) dX5_takeBack_6 (q := 7) rfl ?_
  refine v_aload_n h (i := 0) dX5_takeBack_7 (q := 8) rfl rfl rfl ?_
  refine v_dup h dX5_takeBack_8 (q := 9) rfl rfl ?_
  refine v_geti h fl_X5_20 (by assumption) rfl dX5_takeBack_9 (q := 12) rfl ?_
  refine v_iconst h (v := nI 1) dX5_takeBack_12 (q := 13) rfl (by decide +kernel) ?_
  refine v_iload_n h (i := 2) dX5_takeBack_13 (q := 14) rfl rfl rfl ?_
  refine v_ishl h dX5_takeBack_14 (q := 15) rfl ?_
  refine v_iconst h (v := (-1)) dX5_takeBack_15 (q := 16) rfl (by decide +kernel) ?_
  refine v_ixor h dX5_takeBack_16 (q := 17) rfl ?_
  refine v_iand h dX5_takeBack_17 (q := 18) rfl ?_
  refine v_eq (st' := [.int (sg s 2 &&& ((nI 1 <<< (nI t &&& 31)) ^^^ (-1))), .ref s]) (by rw [pb_up_ne2 (show s ≠ s + 1 by omega)]) ?_
  refine v_puti h fl_X5_20 (by assumption) rfl rfl dX5_takeBack_18 (q := 21) rfl ?_
  refine v_sg (sg' := pb_plc sg s t (-1) (sg s 2 &&& ((nI 1 <<< (nI t &&& 31)) ^^^ (-1)))) rfl ?_
  refine v_aload_n h (i := 0) dX5_takeBack_21 (q := 22) rfl rfl rfl ?_
  refine v_aload_n h (i := 1) dX5_takeBack_22 (q := 23) rfl rfl rfl ?_
  refine v_iload_n h (i := 2) dX5_takeBack_23 (q := 24) rfl rfl rfl ?_
  refine v_iload_n h (i := 3) dX5_takeBack_24 (q := 25) rfl rfl rfl ?_
  refine v_iconst h (v := (-1)) dX5_takeBack_25 (q := 26) rfl (by decide +kernel) ?_
  refine v_callV0 h (c_X5_markWork hfl hs hp ht (pb_wf_plc ha hw) (by rw [pb_plc_p ha (by omega)]; exact hd)) kX5_markWork tw659 tw11 (by assumption) (by decide) rfl rfl rfl (by simp [Value.category]) (by decide) (Nat.zero_le _) (Nat.zero_le _) rfl dX5_takeBack_26 (q := 29) rfl ?_
  refine v_vret h hQ rfl dX5_takeBack_29 (Nat.zero_le _) (Nat.zero_le _) ⟨rfl, rfl, rfl, rfl, rfl⟩
set_option maxHeartbeats 4000000 in
set_option maxRecDepth 100000 in
theorem c_X5_earliest {l : Launch} (hfl : l.stackTraces = false) {sz : Nat} {sk : pb_Sk} {rf : pb_Rf} {sg : pb_Sg} {s p t : Nat} (hs : pb_sch sk rf s) (hp : pb_plan sk rf p) (ht : t < 16) (hi : pb_si sg s p) : pb_Met l mX5_earliest 3 0 0 [.ref s, .ref p, .int (nI t)] sz sk rf sg (pb_is (some (.int (pb_oi (pb_ear sg s p t)))) sz sk rf sg) := by
  refine pb_start hfl (by decide +kernel) rfl (pb_c1 rfl) (Nat.le_of_ble_eq_true rfl) (fun F hF h hQ => ?_)
  subst hF
  show pv F 0 0 sz sk rf sg 0 [some (.ref s), some (.ref p), some (.int (nI t)), none, none, none, none, none] []
  obtain ⟨hp0, hp1, hp2, hp3, hp4, hp5, hp6, hp7, hp8⟩ := id hp
  obtain ⟨hs0, hs1, hs2, hs3, hs4, hs5, hs6⟩ := id hs
  obtain ⟨⟨l, hl, el⟩, hcr⟩ := hi.1 t ht
  have hf := pb_dn_le (t := t) hi 16 (by omega)
  obtain ⟨f, ef⟩ : ∃ f, f = pb_dn sg s p t 16 := ⟨_, rfl⟩
  rw [← ef] at hf
  refine v_aload_n h (i := 1) dX5_earliest_0 (q := 1) rfl rfl rfl ?_
  refine v_getr h fl_X5_62 (by assumption) rfl (by assumption) dX5_earliest_1 (q := 4) rfl ?_
  refine v_iload_n h (i := 2) dX5_earliest_4 (q := 5) rfl rfl rfl ?_
  refine v_iald h (by assumption) rfl (by first | assumption | omega) (by decide) dX5_earliest_5 (q := 6) rfl ?_
  refine v_eq (st' := [.int (nI l)]) (by rw [el]) ?_
  refine v_istore_n h (i := 3) dX5_earliest_6 (q := 7) rfl rfl (Nat.le_of_ble_eq_true rfl) rfl ?_
  refine v_aload_n h (i := 1) dX5_earliest_7 (q := 8) rfl rfl rfl ?_
  refine v_getr h fl_X5_80 (by assumption) rfl (by assumption) dX5_earliest_8 (q := 11) rfl ?_
  refine v_iload_n h (i := 2) dX5_earliest_11 (q := 12) rfl rfl rfl ?_
  refine v_iald h (by assumption) rfl (by first | assumption | omega) (by decide) dX5_earliest_12 (q := 13) rfl ?_
  refine v_istore h dX5_earliest_13 (q := 15) rfl (Nat.le_of_ble_eq_true rfl) rfl ?_
  refine v_aload_n h (i := 0) dX5_earliest_15 (q := 16) rfl rfl rfl ?_
  refine v_aload_n h (i := 1) dX5_earliest_16 (q := 17) rfl rfl rfl ?_
  refine v_iload_n h (i := 2) dX5_earliest_17 (q := 18) rfl rfl rfl ?_
  refine v_callV1 h (c_X5_dayBehindNeeds hfl hs hp ht hi) kX5_dayBehindNeeds tw650 tw9 (by assumption) (by decide) rfl rfl rfl (by simp [Value.category]) (by decide) (Nat.zero_le _) (Nat.zero_le _) rfl dX5_earliest_18 (q := 21) rfl ?_
  rw [← ef]
  refine v_istore h dX5_earliest_21 (q := 23) rfl (Nat.le_of_ble_eq_true rfl) rfl ?_
  refine v_iload h dX5_earliest_23 (q := 25) rfl rfl ?_
  refine v_if_lt h dX5_earliest_25 (q := 28) rfl (tgt := 34) (by decide) (fun c1 => ?_) (fun c1 => ?_)
  · skip
    have ec : sg (p + 2) t = -1 := by
          rcases hcr with q | ⟨c, hc, q⟩
          · exact q
          · rw [q] at c1; exact absurd c1 (nI_pos (by omega))
    refine v_iload h dX5_earliest_34 (q := 36) rfl rfl ?_
    refine v_iload_n h (i := 3) dX5_earliest_36 (q := 37) rfl rfl rfl ?_
    refine v_iadd h dX5_earliest_37 (q := 38) rfl ?_
    refine v_sipush h (v := nI 400) dX5_earliest_38 (q := 41) rfl (by decide +kernel) ?_
    rw [nI_add]
    refine v_icmp_gt h dX5_earliest_41 (q := 44) rfl (tgt := 49) (by decide) (fun c2 => ?_) (fun c2 => ?_)
    · skip
      have e9 : pb_ear sg s p t = none := by
            unfold pb_ear
            rw [if_pos ec, el, pb_nat_nI (by omega), ← ef, if_neg]
            intro q
            exact absurd c2 (nI_nlt q (by omega))
      refine v_iconst h (v := (-1)) dX5_earliest_49 (q := 50) rfl (by decide +kernel) ?_
      refine v_iret h hQ rfl rfl dX5_earliest_50 (Nat.zero_le _) (Nat.zero_le _) ⟨by rw [e9]; rfl, rfl, rfl, rfl, rfl⟩
    · skip
      have e9 : pb_ear sg s p t = some f := by
            unfold pb_ear
            rw [if_pos ec, el, pb_nat_nI (by omega), ← ef, if_pos]
            exact (nI_leI (by omega) (by omega)).mp (Int32.not_lt.mp c2)
      refine v_iload h dX5_earliest_44 (q := 46) rfl rfl ?_
      refine v_goto h dX5_earliest_46 (tgt := 50) (by decide) ?_
      refine v_iret h hQ rfl rfl dX5_earliest_50 (Nat.zero_le _) (Nat.zero_le _) ⟨by rw [e9]; rfl, rfl, rfl, rfl, rfl⟩
  · skip
    obtain ⟨c, hc, ec⟩ : ∃ c, c < 5 ∧ sg (p + 2) t = nI c := by
          rcases hcr with q | q
          · rw [q] at c1; exact absurd (by decide) c1
          · exact q
    have hr := hs6 c hc
    have e9 : pb_ear sg s p t = pb_scan (sg (s + 3 + c)) l (400 - f) f 0 := by
          unfold pb_ear
          rw [if_neg (by rw [ec]; exact pb_m1_ne (by omega)), ec, el, pb_nat_nI (by omega), pb_nat_nI (by omega), ← ef]
    refine v_iload h dX5_earliest_28 (q := 30) rfl rfl ?_
    refine v_iconst h (v := nI 5) dX5_earliest_30 (q := 31) rfl (by decide +kernel) ?_
    refine v_icmp_lt h dX5_earliest_31 (q := 34) rfl (tgt := 51) (by decide) (fun c3 => ?_) (fun c3 => absurd (by rw [ec]; exact nI_lt hc (by omega)) c3)
    refine v_iconst h (v := nI 0) dX5_earliest_51 (q := 52) rfl (by decide +kernel) ?_
    refine v_istore h dX5_earliest_52 (q := 54) rfl (Nat.le_of_ble_eq_true rfl) rfl ?_
    refine v_iload h dX5_earliest_54 (q := 56) rfl rfl ?_
    refine v_istore h dX5_earliest_56 (q := 58) rfl (Nat.le_of_ble_eq_true rfl) rfl ?_
    have lp : ∀ (j i : Nat) (r : Nat), i + j = 400 → r ≤ i → pb_scan (sg (s + 3 + c)) l j i r = pb_scan (sg (s + 3 + c)) l (400 - f) f 0 → pv F 0 0 sz sk rf sg 58 [some (.ref s), some (.ref p), some (.int (nI t)), some (.int (nI l)), some (.int (sg (p + 2) t)), some (.int (nI f)), some (.int (nI r)), some (.int (nI i))] [] := by
      intro j
      induction j with
      | zero =>
        intro i r hi hy0 hy1
        obtain rfl : i = 400 := by omega
        refine v_iload h dX5_earliest_58 (q := 60) rfl rfl ?_
        refine v_sipush h (v := nI 400) dX5_earliest_60 (q := 63) rfl (by decide +kernel) ?_
        refine v_icmp_ge h dX5_earliest_63 (q := 66) rfl (tgt := 109) (by decide) (fun c4 => ?_) (fun c4 => pb_kle (Nat.le_refl _) (by decide) c4)
        refine v_iconst h (v := (-1)) dX5_earliest_109 (q := 110) rfl (by decide +kernel) ?_
        refine v_iret h hQ rfl rfl dX5_earliest_110 (Nat.zero_le _) (Nat.zero_le _) ⟨by rw [e9, ← hy1]; rfl, rfl, rfl, rfl, rfl⟩
      | succ j ih =>
        intro i r hi hy0 hy1
        have hi2 : i < 400 := by omega
        refine v_iload h dX5_earliest_58 (q := 60) rfl rfl ?_
        refine v_sipush h (v := nI 400) dX5_earliest_60 (q := 63) rfl (by decide +kernel) ?_
        refine v_icmp_ge h dX5_earliest_63 (q := 66) rfl (tgt := 109) (by decide) (fun c5 => pb_kge hi2 (by decide) c5) (fun c5 => ?_)
        refine v_aload_n h (i := 0) dX5_earliest_66 (q := 67) rfl rfl rfl ?_
        refine v_getr h fl_X5_17 (by assumption) rfl (by assumption) dX5_earliest_67 (q := 70) rfl ?_
        refine v_iload h dX5_earliest_70 (q := 72) rfl rfl ?_
        refine v_aald5 h (by assumption) ec hc (by decide) (show va_rf (rf (s + 2) c) = Value.ref (s + 3 + c) from by rw [hs5 c hc]; rfl) dX5_earliest_72 (q := 73) rfl ?_
        refine v_iload h dX5_earliest_73 (q := 75) rfl rfl ?_
        refine v_iald h (by assumption) rfl (by first | assumption | omega) (by decide) dX5_earliest_75 (q := 76) rfl ?_
        refine v_iconst h (v := (-1)) dX5_earliest_76 (q := 77) rfl (by decide +kernel) ?_
        refine v_icmp_ne h dX5_earliest_77 (q := 80) rfl (tgt := 87) (by decide) (fun c6 => ?_) (fun c6 => ?_)
        · skip
          have e7 : (if (sg (s + 3 + c)) i = -1 then r + 1 else 0) = 0 := if_neg c6
          refine v_iconst h (v := nI 0) dX5_earliest_87 (q := 88) rfl (by decide +kernel) ?_
          refine v_eq (st' := [.int (nI (if (sg (s + 3 + c)) i = -1 then r + 1 else 0))]) (by first | (rw [e7]; done) | rw [e7, nI_add]) ?_
          refine v_istore h dX5_earliest_88 (q := 90) rfl (Nat.le_of_ble_eq_true rfl) rfl ?_
          refine v_iload h dX5_earliest_90 (q := 92) rfl rfl ?_
          refine v_iload_n h (i := 3) dX5_earliest_92 (q := 93) rfl rfl rfl ?_
          have hr2 : (if (sg (s + 3 + c)) i = -1 then r + 1 else 0) ≤ i + 1 := by split <;> omega
          refine v_icmp_ne h dX5_earliest_93 (q := 96) rfl (tgt := 103) (by decide) (fun c3 => ?_) (fun c3 => ?_)
          · skip
            have h8 : ¬ (if (sg (s + 3 + c)) i = -1 then r + 1 else 0) = l := fun q => c3 (by rw [q])
            refine v_iinc h dX5_earliest_103 (q := 106) rfl rfl pb_inc rfl ?_
            refine v_goto h dX5_earliest_106 (tgt := 58) (by decide) ?_
            refine ih (i + 1) _ (by omega) hr2 ?_
            rw [← hy1]
            symm
            show (if _ = l then _ else _) = _
            rw [if_neg h8]
          · skip
            have h8 : (if (sg (s + 3 + c)) i = -1 then r + 1 else 0) = l := (nI_eq (by omega) (by omega)).mp c3
            have e8 : pb_ear sg s p t = some (i + 1 - l) := by
                  rw [e9, ← hy1]
                  unfold pb_scan
                  rw [if_pos h8]
            refine v_iload h dX5_earliest_96 (q := 98) rfl rfl ?_
            refine v_iload_n h (i := 3) dX5_earliest_98 (q := 99) rfl rfl rfl ?_
            refine v_isub h dX5_earliest_99 (q := 100) rfl ?_
            refine v_iconst h (v := nI 1) dX5_earliest_100 (q := 101) rfl (by decide +kernel) ?_
            refine v_iadd h dX5_earliest_101 (q := 102) rfl ?_
            refine v_eq (st' := [.int (nI (i + 1 - l))]) (by rw [pb_day (by omega)]) ?_
            refine v_iret h hQ rfl rfl dX5_earliest_102 (Nat.zero_le _) (Nat.zero_le _) ⟨by rw [e8]; rfl, rfl, rfl, rfl, rfl⟩
        · skip
          have e7 : (if (sg (s + 3 + c)) i = -1 then r + 1 else 0) = r + 1 := if_pos c6
          refine v_iload h dX5_earliest_80 (q := 82) rfl rfl ?_
          refine v_iconst h (v := nI 1) dX5_earliest_82 (q := 83) rfl (by decide +kernel) ?_
          refine v_iadd h dX5_earliest_83 (q := 84) rfl ?_
          refine v_goto h dX5_earliest_84 (tgt := 88) (by decide) ?_
          refine v_eq (st' := [.int (nI (if (sg (s + 3 + c)) i = -1 then r + 1 else 0))]) (by first | (rw [e7]; done) | rw [e7, nI_add]) ?_
          refine v_istore h dX5_earliest_88 (q := 90) rfl (Nat.le_of_ble_eq_true rfl) rfl ?_
          refine v_iload h dX5_earliest_90 (q := 92) rfl rfl ?_
          refine v_iload_n h (i := 3) dX5_earliest_92 (q := 93) rfl rfl rfl ?_
          have hr2 : (if (sg (s + 3 + c)) i = -1 then r + 1 else 0) ≤ i + 1 := by split <;> omega
          refine v_icmp_ne h dX5_earliest_93 (q := 96) rfl (tgt := 103) (by decide) (fun c3 => ?_) (fun c3 => ?_)
          · skip
            have h8 : ¬ (if (sg (s + 3 + c)) i = -1 then r + 1 else 0) = l := fun q => c3 (by rw [q])
            refine v_iinc h dX5_earliest_103 (q := 106) rfl rfl pb_inc rfl ?_
            refine v_goto h dX5_earliest_106 (tgt := 58) (by decide) ?_
            refine ih (i + 1) _ (by omega) hr2 ?_
            rw [← hy1]
            symm
            show (if _ = l then _ else _) = _
            rw [if_neg h8]
          · skip
            have h8 : (if (sg (s + 3 + c)) i = -1 then r + 1 else 0) = l := (nI_eq (by omega) (by omega)).mp c3
            have e8 : pb_ear sg s p t = some (i + 1 - l) := by
                  rw [e9, ← hy1]
                  unfold pb_scan
                  rw [if_pos h8]
            refine v_iload h dX5_earliest_96 (q := 98) rfl rfl ?_
            refine v_iload_n h (i := 3) dX5_earliest_98 (q := 99) rfl rfl rfl ?_
            refine v_isub h dX5_earliest_99 (q := 100) rfl ?_
            refine v_iconst h (v := nI 1) dX5_earliest_100 (q := 101) rfl (by decide +kernel) ?_
            refine v_iadd h dX5_earliest_101 (q := 102) rfl ?_
            refine v_eq (st' := [.int (nI (i + 1 - l))]) (by rw [pb_day (by omega)]) ?_
            refine v_iret h hQ rfl rfl dX5_earliest_102 (Nat.zero_le _) (Nat.zero_le _) ⟨by rw [e8]; rfl, rfl, rfl, rfl, rfl⟩
    exact lp (400 - f) f 0 (by omega) (Nat.zero_le _) rfl
set_option maxHeartbeats 4000000 in
set_option maxRecDepth 100000 in
theorem c_X5_nextByTails {l : Launch} (hfl : l.stackTraces = false) {sz : Nat} {sk : pb_Sk} {rf : pb_Rf} {sg : pb_Sg} {s p a : Nat} {U : Int32} (hs : pb_sch sk rf s) (hp : pb_plan sk rf p) (ha : sk a = (1, 16)) : pb_Met l mX5_nextByTails 3 0 0 [.ref s, .ref p, .int U, .ref a] sz sk rf sg (pb_is (some (.int (pb_oi (pb_nbt sg s p U a 16).1))) sz sk rf sg) := by
  refine pb_start hfl (by decide +kernel) rfl (pb_c1 rfl) (Nat.le_of_ble_eq_true rfl) (fun F hF h hQ => ?_)
  subst hF
  show pv F 0 0 sz sk rf sg 0 [some (.ref s), some (.ref p), some (.int U), some (.ref a), none, none, none] []
  obtain ⟨hp0, hp1, hp2, hp3, hp4, hp5, hp6, hp7, hp8⟩ := id hp
  obtain ⟨hs0, hs1, hs2, hs3, hs4, hs5, hs6⟩ := id hs
  refine v_iconst h (v := (-1)) dX5_nextByTails_0 (q := 1) rfl (by decide +kernel) ?_
  refine v_istore h dX5_nextByTails_1 (q := 3) rfl (Nat.le_of_ble_eq_true rfl) rfl ?_
  refine v_iconst h (v := nI 0) dX5_nextByTails_3 (q := 4) rfl (by decide +kernel) ?_
  refine v_istore h dX5_nextByTails_4 (q := 6) rfl (Nat.le_of_ble_eq_true rfl) rfl ?_
  refine v_iconst h (v := nI 0) dX5_nextByTails_6 (q := 7) rfl (by decide +kernel) ?_
  refine v_istore h dX5_nextByTails_7 (q := 9) rfl (Nat.le_of_ble_eq_true rfl) rfl ?_
  have lp : ∀ (j i : Nat), i + j = 16 → pv F 0 0 sz sk rf sg 9 [some (.ref s), some (.ref p), some (.int U), some (.ref a), some (.int (pb_oi (pb_nbt sg s p U a i).1)), some (.int (pb_nbt sg s p U a i).2), some (.int (nI i))] [] := by
    intro j
    induction j with
    | zero =>
      intro i  hi
      obtain rfl : i = 16 := by omega
      refine v_iload h dX5_nextByTails_9 (q := 11) rfl rfl ?_
      refine v_bipush h (v := nI 16) dX5_nextByTails_11 (q := 13) rfl (by decide +kernel) ?_
      refine v_icmp_ge h dX5_nextByTails_13 (q := 16) rfl (tgt := 52) (by decide) (fun c1 => ?_) (fun c1 => pb_kle (Nat.le_refl _) (by decide) c1)
      refine v_iload h dX5_nextByTails_52 (q := 54) rfl rfl ?_
      refine v_iret h hQ rfl rfl dX5_nextByTails_54 (Nat.zero_le _) (Nat.zero_le _) ⟨rfl, rfl, rfl, rfl, rfl⟩
    | succ j ih =>
      intro i  hi
      have hi2 : i < 16 := by omega
      refine v_iload h dX5_nextByTails_9 (q := 11) rfl rfl ?_
      refine v_bipush h (v := nI 16) dX5_nextByTails_11 (q := 13) rfl (by decide +kernel) ?_
      refine v_icmp_ge h dX5_nextByTails_13 (q := 16) rfl (tgt := 52) (by decide) (fun c2 => pb_kge hi2 (by decide) c2) (fun c2 => ?_)
      refine v_aload_n h (i := 0) dX5_nextByTails_16 (q := 17) rfl rfl rfl ?_
      refine v_aload_n h (i := 1) dX5_nextByTails_17 (q := 18) rfl rfl rfl ?_
      refine v_iload_n h (i := 2) dX5_nextByTails_18 (q := 19) rfl rfl rfl ?_
      refine v_iload h dX5_nextByTails_19 (q := 21) rfl rfl ?_
      refine v_callV1 h (c_X5_ready hfl hs hp hi2) kX5_ready tw641 tw7 (by assumption) (by decide) rfl rfl rfl (by simp [Value.category]) (by decide) (Nat.zero_le _) (Nat.zero_le _) rfl dX5_nextByTails_21 (q := 24) rfl ?_
      refine v_if_eq h dX5_nextByTails_24 (q := 27) rfl (tgt := 46) (by decide) (fun c3 => ?_) (fun c3 => ?_)
      · skip
        have e8 := pb_b_0.mp c3
        have e9 : pb_nbt sg s p U a (i + 1) = pb_nbt sg s p U a i := if_neg (by rw [e8]; exact fun q => nomatch q.1)
        refine v_iinc h dX5_nextByTails_46 (q := 49) rfl rfl pb_inc rfl ?_
        refine v_goto h dX5_nextByTails_49 (tgt := 9) (by decide) ?_
        have h9 := ih (i + 1) (by omega)
        rw [e9] at h9
        exact h9
      · skip
        have e8 := pb_ne_f (fun q => c3 (pb_b_0.mpr q))
        refine v_aload_n h (i := 3) dX5_nextByTails_27 (q := 28) rfl rfl rfl ?_
        refine v_iload h dX5_nextByTails_28 (q := 30) rfl rfl ?_
        refine v_iald h (by assumption) rfl (by first | assumption | omega) (by decide) dX5_nextByTails_30 (q := 31) rfl ?_
        refine v_iload h dX5_nextByTails_31 (q := 33) rfl rfl ?_
        refine v_icmp_le h dX5_nextByTails_33 (q := 36) rfl (tgt := 46) (by decide) (fun c4 => ?_) (fun c4 => ?_)
        · skip
          have e9 : pb_nbt sg s p U a (i + 1) = pb_nbt sg s p U a i := if_neg (fun q => absurd q.2 (Int32.not_lt.mpr c4))
          refine v_iinc h dX5_nextByTails_46 (q := 49) rfl rfl pb_inc rfl ?_
          refine v_goto h dX5_nextByTails_49 (tgt := 9) (by decide) ?_
          have h9 := ih (i + 1) (by omega)
          rw [e9] at h9
          exact h9
        · skip
          have e9 : pb_nbt sg s p U a (i + 1) = (some i, sg a i) := if_pos ⟨e8, Int32.not_le.mp c4⟩
          refine v_iload h dX5_nextByTails_36 (q := 38) rfl rfl ?_
          refine v_istore h dX5_nextByTails_38 (q := 40) rfl (Nat.le_of_ble_eq_true rfl) rfl ?_
          refine v_aload_n h (i := 3) dX5_nextByTails_40 (q := 41) rfl rfl rfl ?_
          refine v_iload h dX5_nextByTails_41 (q := 43) rfl rfl ?_
          refine v_iald h (by assumption) rfl (by first | assumption | omega) (by decide) dX5_nextByTails_43 (q := 44) rfl ?_
          refine v_istore h dX5_nextByTails_44 (q := 46) rfl (Nat.le_of_ble_eq_true rfl) rfl ?_
          refine v_iinc h dX5_nextByTails_46 (q := 49) rfl rfl pb_inc rfl ?_
          refine v_goto h dX5_nextByTails_49 (tgt := 9) (by decide) ?_
          have h9 := ih (i + 1) (by omega)
          rw [e9] at h9
          exact h9
  exact lp 16 0 (by omega)
set_option maxHeartbeats 4000000 in
set_option maxRecDepth 100000 in
theorem c_X5_placeByTails {l : Launch} (hfl : l.stackTraces = false) {sz : Nat} {sk : pb_Sk} {rf : pb_Rf} {sg : pb_Sg} {s p a : Nat} (hs : pb_sch sk rf s) (hp : pb_plan sk rf p) (ha : sk a = (1, 16)) (hap : pb_ap s p) (hi : pb_si sg s p) : pb_Met l mX5_placeByTails 4 0 0 [.ref s, .ref p, .ref a] sz sk rf sg (pb_is none sz sk rf (pb_pbt s p a 16 sg (pb_pres (sg (p + 1))))) := by
  refine pb_start hfl (by decide +kernel) rfl (pb_c1 rfl) (Nat.le_of_ble_eq_true rfl) (fun F hF h hQ => ?_)
  subst hF
  show pv F 0 0 sz sk rf sg 0 [some (.ref s), some (.ref p), some (.ref a), none, none, none, none] []
  obtain ⟨hp0, hp1, hp2, hp3, hp4, hp5, hp6, hp7, hp8⟩ := id hp
  obtain ⟨hs0, hs1, hs2, hs3, hs4, hs5, hs6⟩ := id hs
  refine v_aload_n h (i := 1) dX5_placeByTails_0 (q := 1) rfl rfl rfl ?_
  refine v_callV1 h (c_X4_present hfl hp) kX4_present tw636 tw472 (by assumption) (by decide) rfl rfl rfl (by simp [Value.category]) (by decide) (Nat.zero_le _) (Nat.zero_le _) rfl dX5_placeByTails_1 (q := 4) rfl ?_
  refine v_istore_n h (i := 3) dX5_placeByTails_4 (q := 5) rfl rfl (Nat.le_of_ble_eq_true rfl) rfl ?_
  refine v_iconst h (v := nI 0) dX5_placeByTails_5 (q := 6) rfl (by decide +kernel) ?_
  refine v_istore h dX5_placeByTails_6 (q := 8) rfl (Nat.le_of_ble_eq_true rfl) rfl ?_
  have lp : ∀ (j i : Nat) (S : pb_Sg) (U : Int32), i + j = 16 → pb_pbt s p a j S U = pb_pbt s p a 16 sg (pb_pres (sg (p + 1))) → pb_si S s p → pv F 0 0 sz sk rf S 8 [some (.ref s), some (.ref p), some (.ref a), some (.int U), some (.int (nI i)), none, none] [] := by
    intro j
    induction j with
    | zero =>
      intro i S U hi hy0 hy1
      obtain rfl : i = 16 := by omega
      refine v_iload h dX5_placeByTails_8 (q := 10) rfl rfl ?_
      refine v_bipush h (v := nI 16) dX5_placeByTails_10 (q := 12) rfl (by decide +kernel) ?_
      refine v_icmp_ge h dX5_placeByTails_12 (q := 15) rfl (tgt := 70) (by decide) (fun c1 => ?_) (fun c1 => pb_kle (Nat.le_refl _) (by decide) c1)
      refine v_vret h hQ rfl dX5_placeByTails_70 (Nat.zero_le _) (Nat.zero_le _) ⟨rfl, rfl, rfl, rfl, hy0⟩
    | succ j ih =>
      intro i S U hi hy0 hy1
      have hi2 : i < 16 := by omega
      refine v_iload h dX5_placeByTails_8 (q := 10) rfl rfl ?_
      refine v_bipush h (v := nI 16) dX5_placeByTails_10 (q := 12) rfl (by decide +kernel) ?_
      refine v_icmp_ge h dX5_placeByTails_12 (q := 15) rfl (tgt := 70) (by decide) (fun c2 => pb_kge hi2 (by decide) c2) (fun c2 => ?_)
      refine v_aload_n h (i := 0) dX5_placeByTails_15 (q := 16) rfl rfl rfl ?_
      refine v_aload_n h (i := 1) dX5_placeByTails_16 (q := 17) rfl rfl rfl ?_
      refine v_iload_n h (i := 3) dX5_placeByTails_17 (q := 18) rfl rfl rfl ?_
      refine v_aload_n h (i := 2) dX5_placeByTails_18 (q := 19) rfl rfl rfl ?_
      refine v_callV1 h (c_X5_nextByTails hfl hs hp ha) kX5_nextByTails tw637 tw6 (by assumption) (by decide) rfl rfl rfl (by simp [Value.category]) (by decide) (Nat.zero_le _) (Nat.zero_le _) rfl dX5_placeByTails_19 (q := 22) rfl ?_
      obtain ⟨b, eb⟩ : ∃ b, b = (pb_nbt S s p U a 16).1 := ⟨_, rfl⟩
      rw [← eb]
      refine v_istore h dX5_placeByTails_22 (q := 24) rfl (Nat.le_of_ble_eq_true rfl) rfl ?_
      refine v_iload h dX5_placeByTails_24 (q := 26) rfl rfl ?_
      refine v_iconst h (v := (-1)) dX5_placeByTails_26 (q := 27) rfl (by decide +kernel) ?_
      refine v_icmp_ne h dX5_placeByTails_27 (q := 30) rfl (tgt := 31) (by decide) (fun c1 => ?_) (fun c1 => ?_)
      · skip
        obtain ⟨t, e5⟩ : ∃ t, b = some t := by
              cases b with
              | none => exact absurd rfl c1
              | some t => exact ⟨t, rfl⟩
        have ht : t < 16 := pb_nbt_lt (eb.symm.trans e5)
        subst e5
        refine v_iload_n h (i := 3) dX5_placeByTails_31 (q := 32) rfl rfl rfl ?_
        refine v_iconst h (v := nI 1) dX5_placeByTails_32 (q := 33) rfl (by decide +kernel) ?_
        refine v_iload h dX5_placeByTails_33 (q := 35) rfl rfl ?_
        refine v_ishl h dX5_placeByTails_35 (q := 36) rfl ?_
        refine v_iconst h (v := (-1)) dX5_placeByTails_36 (q := 37) rfl (by decide +kernel) ?_
        refine v_ixor h dX5_placeByTails_37 (q := 38) rfl ?_
        refine v_iand h dX5_placeByTails_38 (q := 39) rfl ?_
        refine v_istore_n h (i := 3) dX5_placeByTails_39 (q := 40) rfl rfl (Nat.le_of_ble_eq_true rfl) rfl ?_
        refine v_aload_n h (i := 0) dX5_placeByTails_40 (q := 41) rfl rfl rfl ?_
        refine v_aload_n h (i := 1) dX5_placeByTails_41 (q := 42) rfl rfl rfl ?_
        refine v_iload h dX5_placeByTails_42 (q := 44) rfl rfl ?_
        refine v_callV1 h (c_X5_earliest hfl hs hp ht hy1) kX5_earliest tw646 tw8 (by assumption) (by decide) rfl rfl rfl (by simp [Value.category]) (by decide) (Nat.zero_le _) (Nat.zero_le _) rfl dX5_placeByTails_44 (q := 47) rfl ?_
        obtain ⟨x, ex⟩ : ∃ x, x = pb_ear S s p t := ⟨_, rfl⟩
        rw [← ex]
        refine v_istore h dX5_placeByTails_47 (q := 49) rfl (Nat.le_of_ble_eq_true rfl) rfl ?_
        refine v_iload h dX5_placeByTails_49 (q := 51) rfl rfl ?_
        refine v_iconst h (v := (-1)) dX5_placeByTails_51 (q := 52) rfl (by decide +kernel) ?_
        refine v_icmp_eq h dX5_placeByTails_52 (q := 55) rfl (tgt := 64) (by decide) (fun c2 => ?_) (fun c2 => ?_)
        · skip
          have e6 : x = none := by
                cases x with
                | none => rfl
                | some d => exact absurd c2 (pb_m1_ne (by have := pb_ear_le hy1 ex.symm; omega))
          have hS : pb_si S s p := hy1
          have e9 : pb_pbt s p a j S (U &&& ((nI 1 <<< (nI t &&& 31)) ^^^ (-1))) = pb_pbt s p a 16 sg (pb_pres (sg (p + 1))) := by
                rw [← hy0]
                show _ = (match (pb_nbt S s p U a 16).1 with | none => _ | some t => _)
                rw [← eb]
                show _ = (match pb_ear S s p t with | none => _ | some d => _)
                rw [← ex, e6]
          refine v_iinc h dX5_placeByTails_64 (q := 67) rfl rfl pb_inc rfl ?_
          refine v_goto h dX5_placeByTails_67 (tgt := 8) (by decide) ?_
          refine v_wk (by simp [pb_wk, pb_oi]) (ih (i + 1) _ _ (by omega) e9 hS)
        · skip
          obtain ⟨d, e6⟩ : ∃ d, x = some d := by
                cases x with
                | none => exact absurd rfl c2
                | some t => exact ⟨t, rfl⟩
          subst e6
          have hd := pb_ear_le hy1 ex.symm
          have hS := pb_si_place hap hy1 ht hd
          have e9 : pb_pbt s p a j (pb_place S s p t d) (U &&& ((nI 1 <<< (nI t &&& 31)) ^^^ (-1))) = pb_pbt s p a 16 sg (pb_pres (sg (p + 1))) := by
                rw [← hy0]
                show _ = (match (pb_nbt S s p U a 16).1 with | none => _ | some t => _)
                rw [← eb]
                show _ = (match pb_ear S s p t with | none => _ | some d => _)
                rw [← ex]
          refine v_aload_n h (i := 0) dX5_placeByTails_55 (q := 56) rfl rfl rfl ?_
          refine v_aload_n h (i := 1) dX5_placeByTails_56 (q := 57) rfl rfl rfl ?_
          refine v_iload h dX5_placeByTails_57 (q := 59) rfl rfl ?_
          refine v_iload h dX5_placeByTails_59 (q := 61) rfl rfl ?_
          refine v_callV0 h (c_X5_place hfl hs hp ht hap hy1.1 hd) kX5_place tw655 tw10 (by assumption) (by decide) rfl rfl rfl (by simp [Value.category]) (by decide) (Nat.zero_le _) (Nat.zero_le _) rfl dX5_placeByTails_61 (q := 64) rfl ?_
          refine v_iinc h dX5_placeByTails_64 (q := 67) rfl rfl pb_inc rfl ?_
          refine v_goto h dX5_placeByTails_67 (tgt := 8) (by decide) ?_
          refine v_wk (by simp [pb_wk, pb_oi]) (ih (i + 1) _ _ (by omega) e9 hS)
      · skip
        have e5 : b = none := by
              cases b with
              | none => rfl
              | some t => exact absurd c1 (pb_m1_ne (by have := pb_nbt_lt eb.symm; omega))
        have e9 : pb_pbt s p a 16 sg (pb_pres (sg (p + 1))) = S := by
              rw [← hy0]
              show (match (pb_nbt S s p U a 16).1 with | none => _ | some t => _) = _
              rw [← eb, e5]
        refine v_vret h hQ rfl dX5_placeByTails_30 (Nat.zero_le _) (Nat.zero_le _) ⟨rfl, rfl, rfl, rfl, e9.symm⟩
  exact lp 16 0 sg _ (by omega) rfl hi
set_option maxHeartbeats 4000000 in
set_option maxRecDepth 100000 in
theorem c_X5_endOf {l : Launch} (hfl : l.stackTraces = false) {sz : Nat} {sk : pb_Sk} {rf : pb_Rf} {sg : pb_Sg} {s p : Nat} (hs : pb_sch sk rf s) (hp : pb_plan sk rf p) : pb_Met l mX5_endOf 2 0 0 [.ref s, .ref p] sz sk rf sg (pb_is (some (.int (pb_eo sg s p 16))) sz sk rf sg) := by
  refine pb_start hfl (by decide +kernel) rfl (pb_c1 rfl) (Nat.le_of_ble_eq_true rfl) (fun F hF h hQ => ?_)
  subst hF
  show pv F 0 0 sz sk rf sg 0 [some (.ref s), some (.ref p), none, none] []
  obtain ⟨hp0, hp1, hp2, hp3, hp4, hp5, hp6, hp7, hp8⟩ := id hp
  obtain ⟨hs0, hs1, hs2, hs3, hs4, hs5, hs6⟩ := id hs
  refine v_iconst h (v := (-1)) dX5_endOf_0 (q := 1) rfl (by decide +kernel) ?_
  refine v_istore_n h (i := 2) dX5_endOf_1 (q := 2) rfl rfl (Nat.le_of_ble_eq_true rfl) rfl ?_
  refine v_iconst h (v := nI 0) dX5_endOf_2 (q := 3) rfl (by decide +kernel) ?_
  refine v_istore_n h (i := 3) dX5_endOf_3 (q := 4) rfl rfl (Nat.le_of_ble_eq_true rfl) rfl ?_
  have lp : ∀ (j i : Nat), i + j = 16 → pv F 0 0 sz sk rf sg 4 [some (.ref s), some (.ref p), some (.int (pb_eo sg s p i)), some (.int (nI i))] [] := by
    intro j
    induction j with
    | zero =>
      intro i  hi
      obtain rfl : i = 16 := by omega
      refine v_iload_n h (i := 3) dX5_endOf_4 (q := 5) rfl rfl rfl ?_
      refine v_bipush h (v := nI 16) dX5_endOf_5 (q := 7) rfl (by decide +kernel) ?_
      refine v_icmp_ge h dX5_endOf_7 (q := 10) rfl (tgt := 47) (by decide) (fun c1 => ?_) (fun c1 => pb_kle (Nat.le_refl _) (by decide) c1)
      refine v_iload_n h (i := 2) dX5_endOf_47 (q := 48) rfl rfl rfl ?_
      refine v_iret h hQ rfl rfl dX5_endOf_48 (Nat.zero_le _) (Nat.zero_le _) ⟨rfl, rfl, rfl, rfl, rfl⟩
    | succ j ih =>
      intro i  hi
      have hi2 : i < 16 := by omega
      refine v_iload_n h (i := 3) dX5_endOf_4 (q := 5) rfl rfl rfl ?_
      refine v_bipush h (v := nI 16) dX5_endOf_5 (q := 7) rfl (by decide +kernel) ?_
      refine v_icmp_ge h dX5_endOf_7 (q := 10) rfl (tgt := 47) (by decide) (fun c2 => pb_kge hi2 (by decide) c2) (fun c2 => ?_)
      refine v_aload_n h (i := 0) dX5_endOf_10 (q := 11) rfl rfl rfl ?_
      refine v_geti h fl_X5_20 (by assumption) rfl dX5_endOf_11 (q := 14) rfl ?_
      refine v_iload_n h (i := 3) dX5_endOf_14 (q := 15) rfl rfl rfl ?_
      refine v_callSN1 h (c_X7_contains hfl (show i < 32 by omega)) kX7_contains rfl tw645 rfl rfl (by simp [Value.category]) (by decide) (Nat.zero_le _) (Nat.zero_le _) rfl dX5_endOf_15 (q := 18) rfl ?_
      refine v_if_eq h dX5_endOf_18 (q := 21) rfl (tgt := 41) (by decide) (fun c3 => ?_) (fun c3 => ?_)
      · skip
        have e8 := pb_b_0.mp c3
        have e9 : pb_eo sg s p (i + 1) = pb_eo sg s p i := if_neg (by rw [e8]; decide)
        refine v_iinc h dX5_endOf_41 (q := 44) rfl rfl pb_inc rfl ?_
        refine v_goto h dX5_endOf_44 (tgt := 4) (by decide) ?_
        have h9 := ih (i + 1) (by omega)
        rw [e9] at h9
        exact h9
      · skip
        have e8 := pb_ne_f (fun q => c3 (pb_b_0.mpr q))
        have e9 : pb_eo sg s p (i + 1) = pb_mx (pb_eo sg s p i) (sg (s + 1) i + sg (p + 1) i - nI 1) := if_pos e8
        refine v_iload_n h (i := 2) dX5_endOf_21 (q := 22) rfl rfl rfl ?_
        refine v_aload_n h (i := 0) dX5_endOf_22 (q := 23) rfl rfl rfl ?_
        refine v_getr h fl_X5_9 (by assumption) rfl (by assumption) dX5_endOf_23 (q := 26) rfl ?_
        refine v_iload_n h (i := 3) dX5_endOf_26 (q := 27) rfl rfl rfl ?_
        refine v_iald h (by assumption) rfl (by first | assumption | omega) (by decide) dX5_endOf_27 (q := 28) rfl ?_
        refine v_aload_n h (i := 1) dX5_endOf_28 (q := 29) rfl rfl rfl ?_
        refine v_getr h fl_X5_62 (by assumption) rfl (by assumption) dX5_endOf_29 (q := 32) rfl ?_
        refine v_iload_n h (i := 3) dX5_endOf_32 (q := 33) rfl rfl rfl ?_
        refine v_iald h (by assumption) rfl (by first | assumption | omega) (by decide) dX5_endOf_33 (q := 34) rfl ?_
        refine v_iadd h dX5_endOf_34 (q := 35) rfl ?_
        refine v_iconst h (v := nI 1) dX5_endOf_35 (q := 36) rfl (by decide +kernel) ?_
        refine v_isub h dX5_endOf_36 (q := 37) rfl ?_
        refine v_max h tw654 tw619 tw62 tw620 (by decide) (by simp [Value.category]) (Nat.zero_le _) (Nat.zero_le _) rfl dX5_endOf_37 (q := 40) rfl ?_
        refine v_istore_n h (i := 2) dX5_endOf_40 (q := 41) rfl rfl (Nat.le_of_ble_eq_true rfl) rfl ?_
        refine v_iinc h dX5_endOf_41 (q := 44) rfl rfl pb_inc rfl ?_
        refine v_goto h dX5_endOf_44 (tgt := 4) (by decide) ?_
        have h9 := ih (i + 1) (by omega)
        rw [e9] at h9
        exact h9
  exact lp 16 0 (by omega)
