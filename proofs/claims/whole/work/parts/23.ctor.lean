theorem dX0_init_0 : decode cX0_init 0 = .ok (.aload_n 0, 1) := by decide +kernel
theorem dX0_init_1 : decode cX0_init 1 = .ok (.invokespecial 3, 3) := by decide +kernel
theorem dX0_init_4 : decode cX0_init 4 = .ok (.aload_n 0, 1) := by decide +kernel
theorem dX0_init_5 : decode cX0_init 5 = .ok (.new 9, 3) := by decide +kernel
theorem dX0_init_8 : decode cX0_init 8 = .ok (.dup, 1) := by decide +kernel
theorem dX0_init_9 : decode cX0_init 9 = .ok (.invokespecial 11, 3) := by decide +kernel
theorem dX0_init_12 : decode cX0_init 12 = .ok (.putfield 12, 3) := by decide +kernel
theorem dX0_init_15 : decode cX0_init 15 = .ok (.aload_n 0, 1) := by decide +kernel
theorem dX0_init_16 : decode cX0_init 16 = .ok (.new 9, 3) := by decide +kernel
theorem dX0_init_19 : decode cX0_init 19 = .ok (.dup, 1) := by decide +kernel
theorem dX0_init_20 : decode cX0_init 20 = .ok (.invokespecial 11, 3) := by decide +kernel
theorem dX0_init_23 : decode cX0_init 23 = .ok (.putfield 18, 3) := by decide +kernel
theorem dX0_init_26 : decode cX0_init 26 = .ok (.aload_n 0, 1) := by decide +kernel
theorem dX0_init_27 : decode cX0_init 27 = .ok (.new 21, 3) := by decide +kernel
theorem dX0_init_30 : decode cX0_init 30 = .ok (.dup, 1) := by decide +kernel
theorem dX0_init_31 : decode cX0_init 31 = .ok (.invokespecial 23, 3) := by decide +kernel
theorem dX0_init_34 : decode cX0_init 34 = .ok (.putfield 24, 3) := by decide +kernel
theorem dX0_init_37 : decode cX0_init 37 = .ok (.aload_n 0, 1) := by decide +kernel
theorem dX0_init_38 : decode cX0_init 38 = .ok (.bipush 16, 2) := by decide +kernel
theorem dX0_init_40 : decode cX0_init 40 = .ok (.newarray .int, 2) := by decide +kernel
theorem dX0_init_42 : decode cX0_init 42 = .ok (.putfield 28, 3) := by decide +kernel
theorem dX0_init_45 : decode cX0_init 45 = .ok (.aload_n 0, 1) := by decide +kernel
theorem dX0_init_46 : decode cX0_init 46 = .ok (.ldc 32, 2) := by decide +kernel
theorem dX0_init_48 : decode cX0_init 48 = .ok (.putfield 33, 3) := by decide +kernel
theorem dX0_init_51 : decode cX0_init 51 = .ok (.aload_n 0, 1) := by decide +kernel
theorem dX0_init_52 : decode cX0_init 52 = .ok (.iload_n 1, 1) := by decide +kernel
theorem dX0_init_53 : decode cX0_init 53 = .ok (.putfield 37, 3) := by decide +kernel
theorem dX0_init_56 : decode cX0_init 56 = .ok (.aload_n 0, 1) := by decide +kernel
theorem dX0_init_57 : decode cX0_init 57 = .ok (.aload_n 2, 1) := by decide +kernel
theorem dX0_init_58 : decode cX0_init 58 = .ok (.putfield 40, 3) := by decide +kernel
theorem dX0_init_61 : decode cX0_init 61 = .ok (.iconst 0, 1) := by decide +kernel
theorem dX0_init_62 : decode cX0_init 62 = .ok (.istore_n 3, 1) := by decide +kernel
theorem dX0_init_63 : decode cX0_init 63 = .ok (.iload_n 3, 1) := by decide +kernel
theorem dX0_init_64 : decode cX0_init 64 = .ok (.bipush 16, 2) := by decide +kernel
theorem dX0_init_66 : decode cX0_init 66 = .ok (.if_icmp .ge 16, 3) := by decide +kernel
theorem dX0_init_69 : decode cX0_init 69 = .ok (.aload_n 0, 1) := by decide +kernel
theorem dX0_init_70 : decode cX0_init 70 = .ok (.getfield 28, 3) := by decide +kernel
theorem dX0_init_73 : decode cX0_init 73 = .ok (.iload_n 3, 1) := by decide +kernel
theorem dX0_init_74 : decode cX0_init 74 = .ok (.iconst (-1), 1) := by decide +kernel
theorem dX0_init_75 : decode cX0_init 75 = .ok (.iastore, 1) := by decide +kernel
theorem dX0_init_76 : decode cX0_init 76 = .ok (.iinc 3 1, 3) := by decide +kernel
theorem dX0_init_79 : decode cX0_init 79 = .ok (.goto (-16), 3) := by decide +kernel
theorem dX0_init_82 : decode cX0_init 82 = .ok (.return_, 1) := by decide +kernel
theorem dX1_init_0 : decode cX1_init 0 = .ok (.aload_n 0, 1) := by decide +kernel
theorem dX1_init_1 : decode cX1_init 1 = .ok (.invokespecial 3, 3) := by decide +kernel
theorem dX1_init_4 : decode cX1_init 4 = .ok (.aload_n 0, 1) := by decide +kernel
theorem dX1_init_5 : decode cX1_init 5 = .ok (.iconst 5, 1) := by decide +kernel
theorem dX1_init_6 : decode cX1_init 6 = .ok (.newarray .int, 2) := by decide +kernel
theorem dX1_init_8 : decode cX1_init 8 = .ok (.putfield 9, 3) := by decide +kernel
theorem dX1_init_11 : decode cX1_init 11 = .ok (.aload_n 0, 1) := by decide +kernel
theorem dX1_init_12 : decode cX1_init 12 = .ok (.iconst 5, 1) := by decide +kernel
theorem dX1_init_13 : decode cX1_init 13 = .ok (.sipush 400, 3) := by decide +kernel
theorem dX1_init_16 : decode cX1_init 16 = .ok (.multianewarray 15 2, 4) := by decide +kernel
theorem dX1_init_20 : decode cX1_init 20 = .ok (.putfield 17, 3) := by decide +kernel
theorem dX1_init_23 : decode cX1_init 23 = .ok (.iconst 0, 1) := by decide +kernel
theorem dX1_init_24 : decode cX1_init 24 = .ok (.istore_n 1, 1) := by decide +kernel
theorem dX1_init_25 : decode cX1_init 25 = .ok (.iload_n 1, 1) := by decide +kernel
theorem dX1_init_26 : decode cX1_init 26 = .ok (.iconst 5, 1) := by decide +kernel
theorem dX1_init_27 : decode cX1_init 27 = .ok (.if_icmp .ge 33, 3) := by decide +kernel
theorem dX1_init_30 : decode cX1_init 30 = .ok (.iconst 0, 1) := by decide +kernel
theorem dX1_init_31 : decode cX1_init 31 = .ok (.istore_n 2, 1) := by decide +kernel
theorem dX1_init_32 : decode cX1_init 32 = .ok (.iload_n 2, 1) := by decide +kernel
theorem dX1_init_33 : decode cX1_init 33 = .ok (.sipush 400, 3) := by decide +kernel
theorem dX1_init_36 : decode cX1_init 36 = .ok (.if_icmp .ge 18, 3) := by decide +kernel
theorem dX1_init_39 : decode cX1_init 39 = .ok (.aload_n 0, 1) := by decide +kernel
theorem dX1_init_40 : decode cX1_init 40 = .ok (.getfield 17, 3) := by decide +kernel
theorem dX1_init_43 : decode cX1_init 43 = .ok (.iload_n 1, 1) := by decide +kernel
theorem dX1_init_44 : decode cX1_init 44 = .ok (.aaload, 1) := by decide +kernel
theorem dX1_init_45 : decode cX1_init 45 = .ok (.iload_n 2, 1) := by decide +kernel
theorem dX1_init_46 : decode cX1_init 46 = .ok (.iconst (-1), 1) := by decide +kernel
theorem dX1_init_47 : decode cX1_init 47 = .ok (.iastore, 1) := by decide +kernel
theorem dX1_init_48 : decode cX1_init 48 = .ok (.iinc 2 1, 3) := by decide +kernel
theorem dX1_init_51 : decode cX1_init 51 = .ok (.goto (-19), 3) := by decide +kernel
theorem dX1_init_54 : decode cX1_init 54 = .ok (.iinc 1 1, 3) := by decide +kernel
theorem dX1_init_57 : decode cX1_init 57 = .ok (.goto (-32), 3) := by decide +kernel
theorem dX1_init_60 : decode cX1_init 60 = .ok (.return_, 1) := by decide +kernel
theorem dX2_init_0 : decode cX2_init 0 = .ok (.aload_n 0, 1) := by decide +kernel
theorem dX2_init_1 : decode cX2_init 1 = .ok (.invokespecial 3, 3) := by decide +kernel
theorem dX2_init_4 : decode cX2_init 4 = .ok (.aload_n 0, 1) := by decide +kernel
theorem dX2_init_5 : decode cX2_init 5 = .ok (.bipush 30, 2) := by decide +kernel
theorem dX2_init_7 : decode cX2_init 7 = .ok (.newarray .int, 2) := by decide +kernel
theorem dX2_init_9 : decode cX2_init 9 = .ok (.putfield 9, 3) := by decide +kernel
theorem dX2_init_12 : decode cX2_init 12 = .ok (.aload_n 0, 1) := by decide +kernel
theorem dX2_init_13 : decode cX2_init 13 = .ok (.bipush 30, 2) := by decide +kernel
theorem dX2_init_15 : decode cX2_init 15 = .ok (.newarray .int, 2) := by decide +kernel
theorem dX2_init_17 : decode cX2_init 17 = .ok (.putfield 15, 3) := by decide +kernel
theorem dX2_init_20 : decode cX2_init 20 = .ok (.aload_n 0, 1) := by decide +kernel
theorem dX2_init_21 : decode cX2_init 21 = .ok (.bipush 30, 2) := by decide +kernel
theorem dX2_init_23 : decode cX2_init 23 = .ok (.newarray .int, 2) := by decide +kernel
theorem dX2_init_25 : decode cX2_init 25 = .ok (.putfield 18, 3) := by decide +kernel
theorem dX2_init_28 : decode cX2_init 28 = .ok (.aload_n 0, 1) := by decide +kernel
theorem dX2_init_29 : decode cX2_init 29 = .ok (.bipush 30, 2) := by decide +kernel
theorem dX2_init_31 : decode cX2_init 31 = .ok (.newarray .int, 2) := by decide +kernel
theorem dX2_init_33 : decode cX2_init 33 = .ok (.putfield 21, 3) := by decide +kernel
theorem dX2_init_36 : decode cX2_init 36 = .ok (.aload_n 0, 1) := by decide +kernel
theorem dX2_init_37 : decode cX2_init 37 = .ok (.bipush 30, 2) := by decide +kernel
theorem dX2_init_39 : decode cX2_init 39 = .ok (.newarray .int, 2) := by decide +kernel
theorem dX2_init_41 : decode cX2_init 41 = .ok (.putfield 24, 3) := by decide +kernel
theorem dX2_init_44 : decode cX2_init 44 = .ok (.return_, 1) := by decide +kernel
theorem dX3_init_0 : decode cX3_init 0 = .ok (.aload_n 0, 1) := by decide +kernel
theorem dX3_init_1 : decode cX3_init 1 = .ok (.invokespecial 3, 3) := by decide +kernel
theorem dX3_init_4 : decode cX3_init 4 = .ok (.aload_n 0, 1) := by decide +kernel
theorem dX3_init_5 : decode cX3_init 5 = .ok (.new 9, 3) := by decide +kernel
theorem dX3_init_8 : decode cX3_init 8 = .ok (.dup, 1) := by decide +kernel
theorem dX3_init_9 : decode cX3_init 9 = .ok (.invokespecial 11, 3) := by decide +kernel
theorem dX3_init_12 : decode cX3_init 12 = .ok (.putfield 12, 3) := by decide +kernel
theorem dX3_init_15 : decode cX3_init 15 = .ok (.return_, 1) := by decide +kernel
theorem dX4_init_0 : decode cX4_init 0 = .ok (.aload_n 0, 1) := by decide +kernel
theorem dX4_init_1 : decode cX4_init 1 = .ok (.invokespecial 3, 3) := by decide +kernel
theorem dX4_init_4 : decode cX4_init 4 = .ok (.aload_n 0, 1) := by decide +kernel
theorem dX4_init_5 : decode cX4_init 5 = .ok (.bipush 16, 2) := by decide +kernel
theorem dX4_init_7 : decode cX4_init 7 = .ok (.newarray .int, 2) := by decide +kernel
theorem dX4_init_9 : decode cX4_init 9 = .ok (.putfield 9, 3) := by decide +kernel
theorem dX4_init_12 : decode cX4_init 12 = .ok (.aload_n 0, 1) := by decide +kernel
theorem dX4_init_13 : decode cX4_init 13 = .ok (.bipush 16, 2) := by decide +kernel
theorem dX4_init_15 : decode cX4_init 15 = .ok (.newarray .int, 2) := by decide +kernel
theorem dX4_init_17 : decode cX4_init 17 = .ok (.putfield 15, 3) := by decide +kernel
theorem dX4_init_20 : decode cX4_init 20 = .ok (.aload_n 0, 1) := by decide +kernel
theorem dX4_init_21 : decode cX4_init 21 = .ok (.bipush 16, 2) := by decide +kernel
theorem dX4_init_23 : decode cX4_init 23 = .ok (.newarray .int, 2) := by decide +kernel
theorem dX4_init_25 : decode cX4_init 25 = .ok (.putfield 18, 3) := by decide +kernel
theorem dX4_init_28 : decode cX4_init 28 = .ok (.aload_n 0, 1) := by decide +kernel
theorem dX4_init_29 : decode cX4_init 29 = .ok (.bipush 16, 2) := by decide +kernel
theorem dX4_init_31 : decode cX4_init 31 = .ok (.newarray .int, 2) := by decide +kernel
theorem dX4_init_33 : decode cX4_init 33 = .ok (.putfield 21, 3) := by decide +kernel
theorem dX4_init_36 : decode cX4_init 36 = .ok (.iconst 0, 1) := by decide +kernel
theorem dX4_init_37 : decode cX4_init 37 = .ok (.istore_n 1, 1) := by decide +kernel
theorem dX4_init_38 : decode cX4_init 38 = .ok (.iload_n 1, 1) := by decide +kernel
theorem dX4_init_39 : decode cX4_init 39 = .ok (.bipush 16, 2) := by decide +kernel
theorem dX4_init_41 : decode cX4_init 41 = .ok (.if_icmp .ge 16, 3) := by decide +kernel
theorem dX4_init_44 : decode cX4_init 44 = .ok (.aload_n 0, 1) := by decide +kernel
theorem dX4_init_45 : decode cX4_init 45 = .ok (.getfield 15, 3) := by decide +kernel
theorem dX4_init_48 : decode cX4_init 48 = .ok (.iload_n 1, 1) := by decide +kernel
theorem dX4_init_49 : decode cX4_init 49 = .ok (.iconst (-1), 1) := by decide +kernel
theorem dX4_init_50 : decode cX4_init 50 = .ok (.iastore, 1) := by decide +kernel
theorem dX4_init_51 : decode cX4_init 51 = .ok (.iinc 1 1, 3) := by decide +kernel
theorem dX4_init_54 : decode cX4_init 54 = .ok (.goto (-16), 3) := by decide +kernel
theorem dX4_init_57 : decode cX4_init 57 = .ok (.return_, 1) := by decide +kernel
theorem dX5_init_0 : decode cX5_init 0 = .ok (.aload_n 0, 1) := by decide +kernel
theorem dX5_init_1 : decode cX5_init 1 = .ok (.invokespecial 3, 3) := by decide +kernel
theorem dX5_init_4 : decode cX5_init 4 = .ok (.aload_n 0, 1) := by decide +kernel
theorem dX5_init_5 : decode cX5_init 5 = .ok (.bipush 16, 2) := by decide +kernel
theorem dX5_init_7 : decode cX5_init 7 = .ok (.newarray .int, 2) := by decide +kernel
theorem dX5_init_9 : decode cX5_init 9 = .ok (.putfield 9, 3) := by decide +kernel
theorem dX5_init_12 : decode cX5_init 12 = .ok (.aload_n 0, 1) := by decide +kernel
theorem dX5_init_13 : decode cX5_init 13 = .ok (.iconst 5, 1) := by decide +kernel
theorem dX5_init_14 : decode cX5_init 14 = .ok (.sipush 400, 3) := by decide +kernel
theorem dX5_init_17 : decode cX5_init 17 = .ok (.multianewarray 15 2, 4) := by decide +kernel
theorem dX5_init_21 : decode cX5_init 21 = .ok (.putfield 17, 3) := by decide +kernel
theorem dX5_init_24 : decode cX5_init 24 = .ok (.return_, 1) := by decide +kernel
theorem dX6_init_0 : decode cX6_init 0 = .ok (.aload_n 0, 1) := by decide +kernel
theorem dX6_init_1 : decode cX6_init 1 = .ok (.invokespecial 3, 3) := by decide +kernel
theorem dX6_init_4 : decode cX6_init 4 = .ok (.aload_n 0, 1) := by decide +kernel
theorem dX6_init_5 : decode cX6_init 5 = .ok (.bipush 16, 2) := by decide +kernel
theorem dX6_init_7 : decode cX6_init 7 = .ok (.newarray .int, 2) := by decide +kernel
theorem dX6_init_9 : decode cX6_init 9 = .ok (.putfield 9, 3) := by decide +kernel
theorem dX6_init_12 : decode cX6_init 12 = .ok (.aload_n 0, 1) := by decide +kernel
theorem dX6_init_13 : decode cX6_init 13 = .ok (.bipush 16, 2) := by decide +kernel
theorem dX6_init_15 : decode cX6_init 15 = .ok (.newarray .int, 2) := by decide +kernel
theorem dX6_init_17 : decode cX6_init 17 = .ok (.putfield 15, 3) := by decide +kernel
theorem dX6_init_20 : decode cX6_init 20 = .ok (.return_, 1) := by decide +kernel
theorem dX7_init_0 : decode cX7_init 0 = .ok (.aload_n 0, 1) := by decide +kernel
theorem dX7_init_1 : decode cX7_init 1 = .ok (.invokespecial 1, 3) := by decide +kernel
theorem dX7_init_4 : decode cX7_init 4 = .ok (.aload_n 0, 1) := by decide +kernel
theorem dX7_init_5 : decode cX7_init 5 = .ok (.bipush 8, 2) := by decide +kernel
theorem dX7_init_7 : decode cX7_init 7 = .ok (.anewarray 9, 3) := by decide +kernel
theorem dX7_init_10 : decode cX7_init 10 = .ok (.putfield 11, 3) := by decide +kernel
theorem dX7_init_13 : decode cX7_init 13 = .ok (.aload_n 0, 1) := by decide +kernel
theorem dX7_init_14 : decode cX7_init 14 = .ok (.getfield 11, 3) := by decide +kernel
theorem dX7_init_17 : decode cX7_init 17 = .ok (.iconst 0, 1) := by decide +kernel
theorem dX7_init_18 : decode cX7_init 18 = .ok (.new 9, 3) := by decide +kernel
theorem dX7_init_21 : decode cX7_init 21 = .ok (.dup, 1) := by decide +kernel
theorem dX7_init_22 : decode cX7_init 22 = .ok (.iconst 0, 1) := by decide +kernel
theorem dX7_init_23 : decode cX7_init 23 = .ok (.aconst_null, 1) := by decide +kernel
theorem dX7_init_24 : decode cX7_init 24 = .ok (.invokespecial 15, 3) := by decide +kernel
theorem dX7_init_27 : decode cX7_init 27 = .ok (.aastore, 1) := by decide +kernel
theorem dX7_init_28 : decode cX7_init 28 = .ok (.aload_n 0, 1) := by decide +kernel
theorem dX7_init_29 : decode cX7_init 29 = .ok (.iconst 1, 1) := by decide +kernel
theorem dX7_init_30 : decode cX7_init 30 = .ok (.putfield 18, 3) := by decide +kernel
theorem dX7_init_33 : decode cX7_init 33 = .ok (.aload_n 0, 1) := by decide +kernel
theorem dX7_init_34 : decode cX7_init 34 = .ok (.new 22, 3) := by decide +kernel
theorem dX7_init_37 : decode cX7_init 37 = .ok (.dup, 1) := by decide +kernel
theorem dX7_init_38 : decode cX7_init 38 = .ok (.invokespecial 24, 3) := by decide +kernel
theorem dX7_init_41 : decode cX7_init 41 = .ok (.putfield 25, 3) := by decide +kernel
theorem dX7_init_44 : decode cX7_init 44 = .ok (.aload_n 0, 1) := by decide +kernel
theorem dX7_init_45 : decode cX7_init 45 = .ok (.new 29, 3) := by decide +kernel
theorem dX7_init_48 : decode cX7_init 48 = .ok (.dup, 1) := by decide +kernel
theorem dX7_init_49 : decode cX7_init 49 = .ok (.invokespecial 31, 3) := by decide +kernel
theorem dX7_init_52 : decode cX7_init 52 = .ok (.putfield 32, 3) := by decide +kernel
theorem dX7_init_55 : decode cX7_init 55 = .ok (.aload_n 0, 1) := by decide +kernel
theorem dX7_init_56 : decode cX7_init 56 = .ok (.new 36, 3) := by decide +kernel
theorem dX7_init_59 : decode cX7_init 59 = .ok (.dup, 1) := by decide +kernel
theorem dX7_init_60 : decode cX7_init 60 = .ok (.invokespecial 38, 3) := by decide +kernel
theorem dX7_init_63 : decode cX7_init 63 = .ok (.putfield 39, 3) := by decide +kernel
theorem dX7_init_66 : decode cX7_init 66 = .ok (.aload_n 0, 1) := by decide +kernel
theorem dX7_init_67 : decode cX7_init 67 = .ok (.new 43, 3) := by decide +kernel
theorem dX7_init_70 : decode cX7_init 70 = .ok (.dup, 1) := by decide +kernel
theorem dX7_init_71 : decode cX7_init 71 = .ok (.invokespecial 45, 3) := by decide +kernel
theorem dX7_init_74 : decode cX7_init 74 = .ok (.putfield 46, 3) := by decide +kernel
theorem dX7_init_77 : decode cX7_init 77 = .ok (.aload_n 0, 1) := by decide +kernel
theorem dX7_init_78 : decode cX7_init 78 = .ok (.iconst 0, 1) := by decide +kernel
theorem dX7_init_79 : decode cX7_init 79 = .ok (.putfield 50, 3) := by decide +kernel
theorem dX7_init_82 : decode cX7_init 82 = .ok (.return_, 1) := by decide +kernel
theorem dX8_init_0 : decode cX8_init 0 = .ok (.aload_n 0, 1) := by decide +kernel
theorem dX8_init_1 : decode cX8_init 1 = .ok (.invokespecial 1, 3) := by decide +kernel
theorem dX8_init_4 : decode cX8_init 4 = .ok (.aload_n 0, 1) := by decide +kernel
theorem dX8_init_5 : decode cX8_init 5 = .ok (.sipush 272, 3) := by decide +kernel
theorem dX8_init_8 : decode cX8_init 8 = .ok (.newarray .int, 2) := by decide +kernel
theorem dX8_init_10 : decode cX8_init 10 = .ok (.putfield 7, 3) := by decide +kernel
theorem dX8_init_13 : decode cX8_init 13 = .ok (.aload_n 0, 1) := by decide +kernel
theorem dX8_init_14 : decode cX8_init 14 = .ok (.sipush 272, 3) := by decide +kernel
theorem dX8_init_17 : decode cX8_init 17 = .ok (.newarray .int, 2) := by decide +kernel
theorem dX8_init_19 : decode cX8_init 19 = .ok (.putfield 13, 3) := by decide +kernel
theorem dX8_init_22 : decode cX8_init 22 = .ok (.aload_n 0, 1) := by decide +kernel
theorem dX8_init_23 : decode cX8_init 23 = .ok (.sipush 272, 3) := by decide +kernel
theorem dX8_init_26 : decode cX8_init 26 = .ok (.newarray .int, 2) := by decide +kernel
theorem dX8_init_28 : decode cX8_init 28 = .ok (.putfield 16, 3) := by decide +kernel
theorem dX8_init_31 : decode cX8_init 31 = .ok (.aload_n 0, 1) := by decide +kernel
theorem dX8_init_32 : decode cX8_init 32 = .ok (.sipush 272, 3) := by decide +kernel
theorem dX8_init_35 : decode cX8_init 35 = .ok (.newarray .int, 2) := by decide +kernel
theorem dX8_init_37 : decode cX8_init 37 = .ok (.putfield 19, 3) := by decide +kernel
theorem dX8_init_40 : decode cX8_init 40 = .ok (.aload_n 0, 1) := by decide +kernel
theorem dX8_init_41 : decode cX8_init 41 = .ok (.bipush 8, 2) := by decide +kernel
theorem dX8_init_43 : decode cX8_init 43 = .ok (.newarray .int, 2) := by decide +kernel
theorem dX8_init_45 : decode cX8_init 45 = .ok (.putfield 22, 3) := by decide +kernel
theorem dX8_init_48 : decode cX8_init 48 = .ok (.aload_n 0, 1) := by decide +kernel
theorem dX8_init_49 : decode cX8_init 49 = .ok (.bipush 8, 2) := by decide +kernel
theorem dX8_init_51 : decode cX8_init 51 = .ok (.newarray .int, 2) := by decide +kernel
theorem dX8_init_53 : decode cX8_init 53 = .ok (.putfield 25, 3) := by decide +kernel
theorem dX8_init_56 : decode cX8_init 56 = .ok (.aload_n 0, 1) := by decide +kernel
theorem dX8_init_57 : decode cX8_init 57 = .ok (.sipush 128, 3) := by decide +kernel
theorem dX8_init_60 : decode cX8_init 60 = .ok (.newarray .int, 2) := by decide +kernel
theorem dX8_init_62 : decode cX8_init 62 = .ok (.putfield 28, 3) := by decide +kernel
theorem dX8_init_65 : decode cX8_init 65 = .ok (.aload_n 0, 1) := by decide +kernel
theorem dX8_init_66 : decode cX8_init 66 = .ok (.iconst 1, 1) := by decide +kernel
theorem dX8_init_67 : decode cX8_init 67 = .ok (.putfield 31, 3) := by decide +kernel
theorem dX8_init_70 : decode cX8_init 70 = .ok (.aload_n 0, 1) := by decide +kernel
theorem dX8_init_71 : decode cX8_init 71 = .ok (.sipush 240, 3) := by decide +kernel
theorem dX8_init_74 : decode cX8_init 74 = .ok (.newarray .int, 2) := by decide +kernel
theorem dX8_init_76 : decode cX8_init 76 = .ok (.putfield 35, 3) := by decide +kernel
theorem dX8_init_79 : decode cX8_init 79 = .ok (.aload_n 0, 1) := by decide +kernel
theorem dX8_init_80 : decode cX8_init 80 = .ok (.sipush 240, 3) := by decide +kernel
theorem dX8_init_83 : decode cX8_init 83 = .ok (.newarray .int, 2) := by decide +kernel
theorem dX8_init_85 : decode cX8_init 85 = .ok (.putfield 38, 3) := by decide +kernel
theorem dX8_init_88 : decode cX8_init 88 = .ok (.aload_n 0, 1) := by decide +kernel
theorem dX8_init_89 : decode cX8_init 89 = .ok (.sipush 240, 3) := by decide +kernel
theorem dX8_init_92 : decode cX8_init 92 = .ok (.newarray .int, 2) := by decide +kernel
theorem dX8_init_94 : decode cX8_init 94 = .ok (.putfield 41, 3) := by decide +kernel
theorem dX8_init_97 : decode cX8_init 97 = .ok (.aload_n 0, 1) := by decide +kernel
theorem dX8_init_98 : decode cX8_init 98 = .ok (.sipush 240, 3) := by decide +kernel
theorem dX8_init_101 : decode cX8_init 101 = .ok (.newarray .int, 2) := by decide +kernel
theorem dX8_init_103 : decode cX8_init 103 = .ok (.putfield 44, 3) := by decide +kernel
theorem dX8_init_106 : decode cX8_init 106 = .ok (.aload_n 0, 1) := by decide +kernel
theorem dX8_init_107 : decode cX8_init 107 = .ok (.sipush 240, 3) := by decide +kernel
theorem dX8_init_110 : decode cX8_init 110 = .ok (.newarray .int, 2) := by decide +kernel
theorem dX8_init_112 : decode cX8_init 112 = .ok (.putfield 47, 3) := by decide +kernel
theorem dX8_init_115 : decode cX8_init 115 = .ok (.aload_n 0, 1) := by decide +kernel
theorem dX8_init_116 : decode cX8_init 116 = .ok (.bipush 8, 2) := by decide +kernel
theorem dX8_init_118 : decode cX8_init 118 = .ok (.newarray .int, 2) := by decide +kernel
theorem dX8_init_120 : decode cX8_init 120 = .ok (.putfield 50, 3) := by decide +kernel
theorem dX8_init_123 : decode cX8_init 123 = .ok (.aload_n 0, 1) := by decide +kernel
theorem dX8_init_124 : decode cX8_init 124 = .ok (.iconst 5, 1) := by decide +kernel
theorem dX8_init_125 : decode cX8_init 125 = .ok (.newarray .int, 2) := by decide +kernel
theorem dX8_init_127 : decode cX8_init 127 = .ok (.putfield 53, 3) := by decide +kernel
theorem dX8_init_130 : decode cX8_init 130 = .ok (.aload_n 0, 1) := by decide +kernel
theorem dX8_init_131 : decode cX8_init 131 = .ok (.bipush 40, 2) := by decide +kernel
theorem dX8_init_133 : decode cX8_init 133 = .ok (.newarray .int, 2) := by decide +kernel
theorem dX8_init_135 : decode cX8_init 135 = .ok (.putfield 56, 3) := by decide +kernel
theorem dX8_init_138 : decode cX8_init 138 = .ok (.aload_n 0, 1) := by decide +kernel
theorem dX8_init_139 : decode cX8_init 139 = .ok (.bipush 40, 2) := by decide +kernel
theorem dX8_init_141 : decode cX8_init 141 = .ok (.newarray .int, 2) := by decide +kernel
theorem dX8_init_143 : decode cX8_init 143 = .ok (.putfield 59, 3) := by decide +kernel
theorem dX8_init_146 : decode cX8_init 146 = .ok (.aload_n 0, 1) := by decide +kernel
theorem dX8_init_147 : decode cX8_init 147 = .ok (.bipush 40, 2) := by decide +kernel
theorem dX8_init_149 : decode cX8_init 149 = .ok (.newarray .int, 2) := by decide +kernel
theorem dX8_init_151 : decode cX8_init 151 = .ok (.putfield 62, 3) := by decide +kernel
theorem dX8_init_154 : decode cX8_init 154 = .ok (.aload_n 0, 1) := by decide +kernel
theorem dX8_init_155 : decode cX8_init 155 = .ok (.bipush 40, 2) := by decide +kernel
theorem dX8_init_157 : decode cX8_init 157 = .ok (.newarray .int, 2) := by decide +kernel
theorem dX8_init_159 : decode cX8_init 159 = .ok (.putfield 65, 3) := by decide +kernel
theorem dX8_init_162 : decode cX8_init 162 = .ok (.aload_n 0, 1) := by decide +kernel
theorem dX8_init_163 : decode cX8_init 163 = .ok (.bipush 16, 2) := by decide +kernel
theorem dX8_init_165 : decode cX8_init 165 = .ok (.newarray .int, 2) := by decide +kernel
theorem dX8_init_167 : decode cX8_init 167 = .ok (.putfield 68, 3) := by decide +kernel
theorem dX8_init_170 : decode cX8_init 170 = .ok (.aload_n 0, 1) := by decide +kernel
theorem dX8_init_171 : decode cX8_init 171 = .ok (.bipush 16, 2) := by decide +kernel
theorem dX8_init_173 : decode cX8_init 173 = .ok (.newarray .int, 2) := by decide +kernel
theorem dX8_init_175 : decode cX8_init 175 = .ok (.putfield 71, 3) := by decide +kernel
theorem dX8_init_178 : decode cX8_init 178 = .ok (.aload_n 0, 1) := by decide +kernel
theorem dX8_init_179 : decode cX8_init 179 = .ok (.bipush 16, 2) := by decide +kernel
theorem dX8_init_181 : decode cX8_init 181 = .ok (.newarray .int, 2) := by decide +kernel
theorem dX8_init_183 : decode cX8_init 183 = .ok (.putfield 74, 3) := by decide +kernel
theorem dX8_init_186 : decode cX8_init 186 = .ok (.aload_n 0, 1) := by decide +kernel
theorem dX8_init_187 : decode cX8_init 187 = .ok (.sipush 2000, 3) := by decide +kernel
theorem dX8_init_190 : decode cX8_init 190 = .ok (.newarray .int, 2) := by decide +kernel
theorem dX8_init_192 : decode cX8_init 192 = .ok (.putfield 77, 3) := by decide +kernel
theorem dX8_init_195 : decode cX8_init 195 = .ok (.aload_n 0, 1) := by decide +kernel
theorem dX8_init_196 : decode cX8_init 196 = .ok (.sipush 2000, 3) := by decide +kernel
theorem dX8_init_199 : decode cX8_init 199 = .ok (.newarray .boolean, 2) := by decide +kernel
theorem dX8_init_201 : decode cX8_init 201 = .ok (.putfield 80, 3) := by decide +kernel
theorem dX8_init_204 : decode cX8_init 204 = .ok (.aload_n 0, 1) := by decide +kernel
theorem dX8_init_205 : decode cX8_init 205 = .ok (.bipush 6, 2) := by decide +kernel
theorem dX8_init_207 : decode cX8_init 207 = .ok (.newarray .int, 2) := by decide +kernel
theorem dX8_init_209 : decode cX8_init 209 = .ok (.putfield 84, 3) := by decide +kernel
theorem dX8_init_212 : decode cX8_init 212 = .ok (.aload_n 0, 1) := by decide +kernel
theorem dX8_init_213 : decode cX8_init 213 = .ok (.getfield 22, 3) := by decide +kernel
theorem dX8_init_216 : decode cX8_init 216 = .ok (.iconst 0, 1) := by decide +kernel
theorem dX8_init_217 : decode cX8_init 217 = .ok (.iconst (-1), 1) := by decide +kernel
theorem dX8_init_218 : decode cX8_init 218 = .ok (.iastore, 1) := by decide +kernel
theorem dX8_init_219 : decode cX8_init 219 = .ok (.aload_n 0, 1) := by decide +kernel
theorem dX8_init_220 : decode cX8_init 220 = .ok (.getfield 25, 3) := by decide +kernel
theorem dX8_init_223 : decode cX8_init 223 = .ok (.iconst 0, 1) := by decide +kernel
theorem dX8_init_224 : decode cX8_init 224 = .ok (.ldc 87, 2) := by decide +kernel
theorem dX8_init_226 : decode cX8_init 226 = .ok (.iastore, 1) := by decide +kernel
theorem dX8_init_227 : decode cX8_init 227 = .ok (.iconst 0, 1) := by decide +kernel
theorem dX8_init_228 : decode cX8_init 228 = .ok (.istore_n 1, 1) := by decide +kernel
theorem dX8_init_229 : decode cX8_init 229 = .ok (.iload_n 1, 1) := by decide +kernel
theorem dX8_init_230 : decode cX8_init 230 = .ok (.sipush 272, 3) := by decide +kernel
theorem dX8_init_233 : decode cX8_init 233 = .ok (.if_icmp .ge 16, 3) := by decide +kernel
theorem dX8_init_236 : decode cX8_init 236 = .ok (.aload_n 0, 1) := by decide +kernel
theorem dX8_init_237 : decode cX8_init 237 = .ok (.getfield 13, 3) := by decide +kernel
theorem dX8_init_240 : decode cX8_init 240 = .ok (.iload_n 1, 1) := by decide +kernel
theorem dX8_init_241 : decode cX8_init 241 = .ok (.iconst (-1), 1) := by decide +kernel
theorem dX8_init_242 : decode cX8_init 242 = .ok (.iastore, 1) := by decide +kernel
theorem dX8_init_243 : decode cX8_init 243 = .ok (.iinc 1 1, 3) := by decide +kernel
theorem dX8_init_246 : decode cX8_init 246 = .ok (.goto (-17), 3) := by decide +kernel
theorem dX8_init_249 : decode cX8_init 249 = .ok (.return_, 1) := by decide +kernel
theorem v_gen {F : pb_F} {cells slots sz : Nat} {sk : pb_Sk} {rf : pb_Rf} {sg : pb_Sg} {pc : Nat} {L : List (Option Value)} {st : List Value} (kk : ∀ sk' rf' sg', sk' = sk → rf' = rf → sg' = sg → pv F cells slots sz sk' rf' sg' pc L st) : pv F cells slots sz sk rf sg pc L st := kk _ _ _ rfl rfl rfl
/-- nothing but lo .. hi - 1 has changed -/
def pb_fr (lo hi : Nat) (sk : pb_Sk) (rf : pb_Rf) (sg : pb_Sg) (sk' : pb_Sk) (rf' : pb_Rf) (sg' : pb_Sg) : Prop := ∀ a, ¬ (lo ≤ a ∧ a < hi) → sk' a = sk a ∧ rf' a = rf a ∧ sg' a = sg a
def pb_nPlan (p : Nat) (sk : pb_Sk) (rf : pb_Rf) (sg : pb_Sg) (sk' : pb_Sk) (rf' : pb_Rf) (sg' : pb_Sg) : Prop := pb_plan sk' rf' p ∧ (∀ t, t < 16 → sg' (p + 1) t = 0 ∧ sg' (p + 2) t = -1 ∧ sg' (p + 3) t = 0 ∧ sg' (p + 4) t = 0) ∧ pb_fr p (p + 5) sk rf sg sk' rf' sg'
def pb_nHist (p : Nat) (sk : pb_Sk) (rf : pb_Rf) (sg : pb_Sg) (sk' : pb_Sk) (rf' : pb_Rf) (sg' : pb_Sg) : Prop := pb_hist sk' rf' p ∧ sg' p = sg p ∧ pb_fr p (p + 6) sk rf sg sk' rf' sg'
def pb_nWays (p : Nat) (sk : pb_Sk) (rf : pb_Rf) (sg : pb_Sg) (sk' : pb_Sk) (rf' : pb_Rf) (sg' : pb_Sg) : Prop := pb_ways sk' rf' p ∧ pb_fr p (p + 3) sk rf sg sk' rf' sg'
def pb_nSch (p : Nat) (sk : pb_Sk) (rf : pb_Rf) (sg : pb_Sg) (sk' : pb_Sk) (rf' : pb_Rf) (sg' : pb_Sg) : Prop := pb_sch sk' rf' p ∧ pb_fr p (p + 8) sk rf sg sk' rf' sg'
def pb_nCrews (p : Nat) (sk : pb_Sk) (rf : pb_Rf) (sg : pb_Sg) (sk' : pb_Sk) (rf' : pb_Rf) (sg' : pb_Sg) : Prop := pb_crews sk' rf' p ∧ sg' p = sg p ∧ (∀ i, i < 5 → sg' (p + 1) i = 0) ∧ (∀ i d, i < 5 → d < 400 → sg' (p + 3 + i) d = -1) ∧ pb_fr p (p + 8) sk rf sg sk' rf' sg'
def pb_nJoint (p : Nat) (sk : pb_Sk) (rf : pb_Rf) (sg : pb_Sg) (sk' : pb_Sk) (rf' : pb_Rf) (sg' : pb_Sg) : Prop := pb_joint sk' rf' p ∧ pb_fr p (p + 6) sk rf sg sk' rf' sg'
set_option maxHeartbeats 4000000 in
set_option maxRecDepth 100000 in
theorem c_X4_init {l : Launch} (hfl : l.stackTraces = false) {sz : Nat} {sk : pb_Sk} {rf : pb_Rf} {sg : pb_Sg} {p : Nat} (h0 : sk p = (10, 0)) (hz : sz = p + 1) : pb_Met l mX4_init 2 4 64 [.ref p] sz sk rf sg (fun r sz9 sk9 rf9 sg9 => r = .inl none ∧ sz9 = p + 5 ∧ pb_nPlan p sk rf sg sk9 rf9 sg9) := by
  refine pb_start hfl (by decide +kernel) rfl (pb_c1 rfl) (Nat.le_of_ble_eq_true rfl) (fun F hF h hQ => ?_)
  subst hF
  show pv F 0 0 sz sk rf sg 0 [some (.ref p), none] []
  subst hz
  refine v_aload_n h (i := 0) dX4_init_0 (q := 1) rfl rfl rfl ?_
  refine v_objInit h tw85 tw71 tw72 (by decide) (by simp [Value.category]) rfl dX4_init_1 (q := 4) rfl ?_
  refine v_aload_n h (i := 0) dX4_init_4 (q := 5) rfl rfl rfl ?_
  refine v_bipush h (v := nI 16) dX4_init_5 (q := 7) rfl (by decide +kernel) ?_
  refine v_newai h tw115 rfl (by decide) (by decide) (by decide) dX4_init_7 (q := 9) rfl ?_
  refine v_putFr h fl_X4_9 (by simp [pb_uk, h0, Nat.add_assoc]) rfl rfl rfl rfl dX4_init_9 (q := 12) rfl ?_
  refine v_aload_n h (i := 0) dX4_init_12 (q := 13) rfl rfl rfl ?_
  refine v_bipush h (v := nI 16) dX4_init_13 (q := 15) rfl (by decide +kernel) ?_
  refine v_newai h tw115 rfl (by decide) (by decide) (by decide) dX4_init_15 (q := 17) rfl ?_
  refine v_putFr h fl_X4_15 (by simp [pb_uk, h0, Nat.add_assoc]) rfl rfl rfl rfl dX4_init_17 (q := 20) rfl ?_
  refine v_aload_n h (i := 0) dX4_init_20 (q := 21) rfl rfl rfl ?_
  refine v_bipush h (v := nI 16) dX4_init_21 (q := 23) rfl (by decide +kernel) ?_
  refine v_newai h tw115 rfl (by decide) (by decide) (by decide) dX4_init_23 (q := 25) rfl ?_
  refine v_putFr h fl_X4_18 (by simp [pb_uk, h0, Nat.add_assoc]) rfl rfl rfl rfl dX4_init_25 (q := 28) rfl ?_
  refine v_aload_n h (i := 0) dX4_init_28 (q := 29) rfl rfl rfl ?_
  refine v_bipush h (v := nI 16) dX4_init_29 (q := 31) rfl (by decide +kernel) ?_
  refine v_newai h tw115 rfl (by decide) (by decide) (by decide) dX4_init_31 (q := 33) rfl ?_
  refine v_putFr h fl_X4_21 (by simp [pb_uk, h0, Nat.add_assoc]) rfl rfl rfl rfl dX4_init_33 (q := 36) rfl ?_
  refine v_iconst h (v := nI 0) dX4_init_36 (q := 37) rfl (by decide +kernel) ?_
  refine v_istore_n h (i := 1) dX4_init_37 (q := 38) rfl rfl (Nat.le_of_ble_eq_true rfl) rfl ?_
  refine v_gen (fun sk1 rf1 sg1 e1 e2 e3 => ?_)
  have k0 : sk1 p = (10, 0) := by rw [e1]; simp [pb_uk, h0, Nat.add_assoc]
  have k1 : rf1 p 1 = some (p + 2) := by rw [e2]; simp [pb_ur, pb_u0, va_up, Nat.add_assoc]
  have k2 : sk1 (p + 2) = (1, 16) := by rw [e1]; simp [pb_uk, Nat.add_assoc]
  have lp : ∀ (j i : Nat), i + j = 16 → pv F 4 64 (p + 1 + 1 + 1 + 1 + 1) sk1 rf1 (pb_fillN sg1 (p + 2) 0 (-1) i) 38 [some (.ref p), some (.int (nI i))] [] := by
    intro j
    induction j with
    | zero =>
      intro i  hi
      obtain rfl : i = 16 := by omega
      refine v_iload_n h (i := 1) dX4_init_38 (q := 39) rfl rfl rfl ?_
      refine v_bipush h (v := nI 16) dX4_init_39 (q := 41) rfl (by decide +kernel) ?_
      refine v_icmp_ge h dX4_init_41 (q := 44) rfl (tgt := 57) (by decide) (fun c1 => ?_) (fun c1 => pb_kle (Nat.le_refl _) (by decide) c1)
      refine v_vret h hQ rfl dX4_init_57 (by decide) (by decide) (by
        refine ⟨rfl, rfl, ?_, ?_, ?_⟩
        · subst e1; subst e2; simp [pb_plan, pb_uk, pb_ur, pb_u0, va_up, h0, Nat.add_assoc]
        · intro t ht
          rw [pb_fill_at, pb_fill_at, pb_fill_at, pb_fill_at, if_neg (by omega), if_pos (by omega), if_neg (by omega), if_neg (by omega), e3]
          simp [pb_u0, Nat.add_assoc]
        · intro a ha
          have g0 : ¬ a = p := fun q => ha ⟨by omega, by omega⟩
          have g1 : ¬ a = p + 1 := fun q => ha ⟨by omega, by omega⟩
          have g2 : ¬ a = p + 2 := fun q => ha ⟨by omega, by omega⟩
          have g3 : ¬ a = p + 3 := fun q => ha ⟨by omega, by omega⟩
          have g4 : ¬ a = p + 4 := fun q => ha ⟨by omega, by omega⟩
          refine ⟨by rw [e1]; simp [pb_uk, g0, g1, g2, g3, g4, Nat.add_assoc], by rw [e2]; simp [pb_ur, pb_u0, g0, g1, g2, g3, g4, Nat.add_assoc], ?_⟩
          funext j
          rw [pb_fill_at, if_neg (by omega), e3]
          simp [pb_u0, g0, g1, g2, g3, g4, Nat.add_assoc])
    | succ j ih =>
      intro i  hi
      have hi2 : i < 16 := by omega
      refine v_iload_n h (i := 1) dX4_init_38 (q := 39) rfl rfl rfl ?_
      refine v_bipush h (v := nI 16) dX4_init_39 (q := 41) rfl (by decide +kernel) ?_
      refine v_icmp_ge h dX4_init_41 (q := 44) rfl (tgt := 57) (by decide) (fun c2 => pb_kge hi2 (by decide) c2) (fun c2 => ?_)
      refine v_aload_n h (i := 0) dX4_init_44 (q := 45) rfl rfl rfl ?_
      refine v_getr h fl_X4_15 (by assumption) rfl (by assumption) dX4_init_45 (q := 48) rfl ?_
      refine v_iload_n h (i := 1) dX4_init_48 (q := 49) rfl rfl rfl ?_
      refine v_iconst h (v := (-1)) dX4_init_49 (q := 50) rfl (by decide +kernel) ?_
      refine v_iast h (by assumption) (show nI i = nI (0 + i) by rw [Nat.zero_add]) (by omega) (by decide) dX4_init_50 (q := 51) rfl ?_
      refine v_iinc h dX4_init_51 (q := 54) rfl rfl pb_inc rfl ?_
      refine v_goto h dX4_init_54 (tgt := 38) (by decide) ?_
      exact ih (i + 1) (by omega)
  exact lp 16 0 (by omega)
set_option maxHeartbeats 4000000 in
set_option maxRecDepth 100000 in
theorem c_X2_init {l : Launch} (hfl : l.stackTraces = false) {sz : Nat} {sk : pb_Sk} {rf : pb_Rf} {sg : pb_Sg} {p : Nat} (h0 : sk p = (8, 0)) (hz : sz = p + 1) : pb_Met l mX2_init 2 5 150 [.ref p] sz sk rf sg (fun r sz9 sk9 rf9 sg9 => r = .inl none ∧ sz9 = p + 6 ∧ pb_nHist p sk rf sg sk9 rf9 sg9) := by
  refine pb_start hfl (by decide +kernel) rfl (pb_c1 rfl) (Nat.le_of_ble_eq_true rfl) (fun F hF h hQ => ?_)
  subst hF
  show pv F 0 0 sz sk rf sg 0 [some (.ref p)] []
  subst hz
  refine v_aload_n h (i := 0) dX2_init_0 (q := 1) rfl rfl rfl ?_
  refine v_objInit h tw121 tw71 tw72 (by decide) (by simp [Value.category]) rfl dX2_init_1 (q := 4) rfl ?_
  refine v_aload_n h (i := 0) dX2_init_4 (q := 5) rfl rfl rfl ?_
  refine v_bipush h (v := nI 30) dX2_init_5 (q := 7) rfl (by decide +kernel) ?_
  refine v_newai h tw115 rfl (by decide) (by decide) (by decide) dX2_init_7 (q := 9) rfl ?_
  refine v_putFr h fl_X2_9 (by simp [pb_uk, h0, Nat.add_assoc]) rfl rfl rfl rfl dX2_init_9 (q := 12) rfl ?_
  refine v_aload_n h (i := 0) dX2_init_12 (q := 13) rfl rfl rfl ?_
  refine v_bipush h (v := nI 30) dX2_init_13 (q := 15) rfl (by decide +kernel) ?_
  refine v_newai h tw115 rfl (by decide) (by decide) (by decide) dX2_init_15 (q := 17) rfl ?_
  refine v_putFr h fl_X2_15 (by simp [pb_uk, h0, Nat.add_assoc]) rfl rfl rfl rfl dX2_init_17 (q := 20) rfl ?_
  refine v_aload_n h (i := 0) dX2_init_20 (q := 21) rfl rfl rfl ?_
  refine v_bipush h (v := nI 30) dX2_init_21 (q := 23) rfl (by decide +kernel) ?_
  refine v_newai h tw115 rfl (by decide) (by decide) (by decide) dX2_init_23 (q := 25) rfl ?_
  refine v_putFr h fl_X2_18 (by simp [pb_uk, h0, Nat.add_assoc]) rfl rfl rfl rfl dX2_init_25 (q := 28) rfl ?_
  refine v_aload_n h (i := 0) dX2_init_28 (q := 29) rfl rfl rfl ?_
  refine v_bipush h (v := nI 30) dX2_init_29 (q := 31) rfl (by decide +kernel) ?_
  refine v_newai h tw115 rfl (by decide) (by decide) (by decide) dX2_init_31 (q := 33) rfl ?_
  refine v_putFr h fl_X2_21 (by simp [pb_uk, h0, Nat.add_assoc]) rfl rfl rfl rfl dX2_init_33 (q := 36) rfl ?_
  refine v_aload_n h (i := 0) dX2_init_36 (q := 37) rfl rfl rfl ?_
  refine v_bipush h (v := nI 30) dX2_init_37 (q := 39) rfl (by decide +kernel) ?_
  refine v_newai h tw115 rfl (by decide) (by decide) (by decide) dX2_init_39 (q := 41) rfl ?_
  refine v_putFr h fl_X2_24 (by simp [pb_uk, h0, Nat.add_assoc]) rfl rfl rfl rfl dX2_init_41 (q := 44) rfl ?_
  refine v_vret h hQ rfl dX2_init_44 (by decide) (by decide) (by
      refine ⟨rfl, rfl, ?_, ?_, ?_⟩
      · simp [pb_hist, pb_uk, pb_ur, pb_u0, va_up, h0, Nat.add_assoc]
      · simp [pb_u0, Nat.add_assoc]
      · intro a ha
        have g0 : ¬ a = p := fun q => ha ⟨by omega, by omega⟩
        have g1 : ¬ a = p + 1 := fun q => ha ⟨by omega, by omega⟩
        have g2 : ¬ a = p + 2 := fun q => ha ⟨by omega, by omega⟩
        have g3 : ¬ a = p + 3 := fun q => ha ⟨by omega, by omega⟩
        have g4 : ¬ a = p + 4 := fun q => ha ⟨by omega, by omega⟩
        have g5 : ¬ a = p + 5 := fun q => ha ⟨by omega, by omega⟩
        simp [pb_uk, pb_ur, pb_u0, va_up, h0, Nat.add_assoc, g0, g1, g2, g3, g4, g5])
set_option maxHeartbeats 4000000 in
set_option maxRecDepth 100000 in
theorem c_X6_init {l : Launch} (hfl : l.stackTraces = false) {sz : Nat} {sk : pb_Sk} {rf : pb_Rf} {sg : pb_Sg} {p : Nat} (h0 : sk p = (12, 0)) (hz : sz = p + 1) : pb_Met l mX6_init 2 2 32 [.ref p] sz sk rf sg (fun r sz9 sk9 rf9 sg9 => r = .inl none ∧ sz9 = p + 3 ∧ pb_nWays p sk rf sg sk9 rf9 sg9) := by
  refine pb_start hfl (by decide +kernel) rfl (pb_c1 rfl) (Nat.le_of_ble_eq_true rfl) (fun F hF h hQ => ?_)
  subst hF
  show pv F 0 0 sz sk rf sg 0 [some (.ref p)] []
  subst hz
  refine v_aload_n h (i := 0) dX6_init_0 (q := 1) rfl rfl rfl ?_
  refine v_objInit h tw224 tw71 tw72 (by decide) (by simp [Value.category]) rfl dX6_init_1 (q := 4) rfl ?_
  refine v_aload_n h (i := 0) dX6_init_4 (q := 5) rfl rfl rfl ?_
  refine v_bipush h (v := nI 16) dX6_init_5 (q := 7) rfl (by decide +kernel) ?_
  refine v_newai h tw115 rfl (by decide) (by decide) (by decide) dX6_init_7 (q := 9) rfl ?_
  refine v_putFr h fl_X6_9 (by simp [pb_uk, h0, Nat.add_assoc]) rfl rfl rfl rfl dX6_init_9 (q := 12) rfl ?_
  refine v_aload_n h (i := 0) dX6_init_12 (q := 13) rfl rfl rfl ?_
  refine v_bipush h (v := nI 16) dX6_init_13 (q := 15) rfl (by decide +kernel) ?_
  refine v_newai h tw115 rfl (by decide) (by decide) (by decide) dX6_init_15 (q := 17) rfl ?_
  refine v_putFr h fl_X6_15 (by simp [pb_uk, h0, Nat.add_assoc]) rfl rfl rfl rfl dX6_init_17 (q := 20) rfl ?_
  refine v_vret h hQ rfl dX6_init_20 (by decide) (by decide) (by
      refine ⟨rfl, rfl, ?_, ?_⟩
      · simp [pb_ways, pb_uk, pb_ur, pb_u0, va_up, h0, Nat.add_assoc]
      · intro a ha
        have g0 : ¬ a = p := fun q => ha ⟨by omega, by omega⟩
        have g1 : ¬ a = p + 1 := fun q => ha ⟨by omega, by omega⟩
        have g2 : ¬ a = p + 2 := fun q => ha ⟨by omega, by omega⟩
        simp [pb_uk, pb_ur, pb_u0, va_up, h0, Nat.add_assoc, g0, g1, g2])
theorem pb_mk_ne {sk : pb_Sk} {rf : pb_Rf} {sg : pb_Sg} {sz N M a : Nat} (h : ¬ (sz ≤ a ∧ a < sz + 1 + N)) : pb_mk sk sz N M a = sk a ∧ pb_mr rf sz N a = rf a ∧ pb_ms sg sz N a = sg a := by
  refine ⟨?_, ?_, if_neg h⟩
  · unfold pb_mk
    rw [if_neg (by omega), if_neg (by omega)]
  · unfold pb_mr
    rw [if_neg (by omega), if_neg (by omega)]
theorem pb_mk_0 {sk : pb_Sk} {rf : pb_Rf} {sz N M i : Nat} (h : i < N) : pb_mk sk sz N M sz = (5, N) ∧ pb_mr rf sz N sz i = some (sz + 1 + i) := by
  refine ⟨if_pos rfl, ?_⟩
  unfold pb_mr
  rw [if_pos rfl, if_pos h]
theorem pb_mk_r {sk : pb_Sk} {sg : pb_Sg} {sz N M i : Nat} (h : i < N) : pb_mk sk sz N M (sz + 1 + i) = (1, M) ∧ pb_ms sg sz N (sz + 1 + i) = fun _ => 0 := by
  refine ⟨?_, if_pos (by omega)⟩
  unfold pb_mk
  rw [if_neg (by omega), if_pos (by omega)]
def pb_cfN (sg : pb_Sg) (p : Nat) : Nat → pb_Sg
  | 0 => sg
  | n + 1 => pb_fillN (pb_cfN sg p n) (p + 3 + n) 0 (-1) 400
theorem pb_cfN_ne {sg : pb_Sg} {p a : Nat} (n : Nat) (h : ¬ (p + 3 ≤ a ∧ a < p + 3 + n)) (j : Nat) : pb_cfN sg p n a j = sg a j := by
  induction n with
  | zero => rfl
  | succ n ih =>
    show pb_fillN _ _ _ _ _ a j = _
    rw [pb_fill_at, if_neg (by omega), ih (by omega)]
theorem pb_cfN_at {sg : pb_Sg} {p i d : Nat} (n : Nat) (hi : i < n) (hd : d < 400) : pb_cfN sg p n (p + 3 + i) d = -1 := by
  induction n with
  | zero => omega
  | succ n ih =>
    show pb_fillN _ _ _ _ _ (p + 3 + i) d = _
    rw [pb_fill_at]
    by_cases e : i = n
    · subst e
      rw [if_pos (by omega)]
    · rw [if_neg (by omega), ih (by omega)]
set_option maxHeartbeats 4000000 in
set_option maxRecDepth 100000 in
theorem c_X5_init {l : Launch} (hfl : l.stackTraces = false) {sz : Nat} {sk : pb_Sk} {rf : pb_Rf} {sg : pb_Sg} {p : Nat} (h0 : sk p = (11, 0)) (hz : sz = p + 1) : pb_Met l mX5_init 2 7 2021 [.ref p] sz sk rf sg (fun r sz9 sk9 rf9 sg9 => r = .inl none ∧ sz9 = p + 8 ∧ pb_nSch p sk rf sg sk9 rf9 sg9) := by
  refine pb_start hfl (by decide +kernel) rfl (pb_c1 rfl) (Nat.le_of_ble_eq_true rfl) (fun F hF h hQ => ?_)
  subst hF
  show pv F 0 0 sz sk rf sg 0 [some (.ref p)] []
  subst hz
  refine v_aload_n h (i := 0) dX5_init_0 (q := 1) rfl rfl rfl ?_
  refine v_objInit h tw242 tw71 tw72 (by decide) (by simp [Value.category]) rfl dX5_init_1 (q := 4) rfl ?_
  refine v_aload_n h (i := 0) dX5_init_4 (q := 5) rfl rfl rfl ?_
  refine v_bipush h (v := nI 16) dX5_init_5 (q := 7) rfl (by decide +kernel) ?_
  refine v_newai h tw115 rfl (by decide) (by decide) (by decide) dX5_init_7 (q := 9) rfl ?_
  refine v_putFr h fl_X5_9 (by simp [pb_uk, h0, Nat.add_assoc]) rfl rfl rfl rfl dX5_init_9 (q := 12) rfl ?_
  refine v_aload_n h (i := 0) dX5_init_12 (q := 13) rfl rfl rfl ?_
  refine v_iconst h (v := nI 5) dX5_init_13 (q := 14) rfl (by decide +kernel) ?_
  refine v_sipush h (v := nI 400) dX5_init_14 (q := 17) rfl (by decide +kernel) ?_
  refine v_multi h tw243 tw115 rfl rfl (by decide) (by decide) (by decide) (by decide) dX5_init_17 (q := 21) rfl ?_
  refine v_putFr h fl_X5_17 (by show pb_mk _ (p + 1 + 1) 5 400 p = _; rw [(pb_mk_ne (rf := rf) (sg := sg) (by omega)).1]; simp [pb_uk, h0]) rfl rfl rfl rfl dX5_init_21 (q := 24) rfl ?_
  refine v_vret h hQ rfl dX5_init_24 (by decide) (by decide) (by
      refine ⟨rfl, rfl, ⟨?_, ?_, ?_, ?_, ?_, ?_, ?_⟩, ?_⟩
      · show pb_mk _ (p + 1 + 1) 5 400 p = _
        rw [(pb_mk_ne (rf := rf) (sg := sg) (by omega)).1]
        simp [pb_uk, h0]
      · rw [pb_ur_eq]
        show va_up (pb_mr _ (p + 1 + 1) 5 p) 1 _ 0 = _
        rw [(pb_mk_ne (sk := sk) (sg := sg) (M := 400) (by omega)).2.1]
        simp [va_up, pb_ur, pb_u0]
      · rw [pb_ur_eq]
        exact if_pos rfl
      · show pb_mk _ (p + 1 + 1) 5 400 (p + 1) = _
        rw [(pb_mk_ne (rf := rf) (sg := sg) (by omega)).1]
        simp [pb_uk]
      · exact (pb_mk_0 (rf := rf) (i := 0) (by omega)).1
      · intro i hi
        rw [pb_ur_ne (by omega)]
        exact (pb_mk_0 (sk := sk) (M := 400) hi).2
      · intro i hi
        exact (pb_mk_r (sg := sg) hi).1
      · intro a ha
        have q1 := @pb_mk_ne (pb_uk sk (p + 1) (1, 16)) (pb_ur (pb_u0 rf (p + 1) none) p 0 (some (p + 1))) (pb_u0 sg (p + 1) 0) (p + 1 + 1) 5 400 a (by omega)
        refine ⟨q1.1.trans (pb_uk_ne (by omega)), ?_, q1.2.2.trans (pb_u0_ne (by omega))⟩
        rw [pb_ur_ne (by omega)]
        exact q1.2.1.trans ((pb_ur_ne (by omega)).trans (pb_u0_ne (by omega))))
set_option maxHeartbeats 4000000 in
set_option maxRecDepth 100000 in
theorem c_X1_init {l : Launch} (hfl : l.stackTraces = false) {sz : Nat} {sk : pb_Sk} {rf : pb_Rf} {sg : pb_Sg} {p : Nat} (h0 : sk p = (7, 0)) (hz : sz = p + 1) : pb_Met l mX1_init 2 7 2010 [.ref p] sz sk rf sg (fun r sz9 sk9 rf9 sg9 => r = .inl none ∧ sz9 = p + 8 ∧ pb_nCrews p sk rf sg sk9 rf9 sg9) := by
  refine pb_start hfl (by decide +kernel) rfl (pb_c1 rfl) (Nat.le_of_ble_eq_true rfl) (fun F hF h hQ => ?_)
  subst hF
  show pv F 0 0 sz sk rf sg 0 [some (.ref p), none, none] []
  subst hz
  refine v_aload_n h (i := 0) dX1_init_0 (q := 1) rfl rfl rfl ?_
  refine v_objInit h tw183 tw71 tw72 (by decide) (by simp [Value.category]) rfl dX1_init_1 (q := 4) rfl ?_
  refine v_aload_n h (i := 0) dX1_init_4 (q := 5) rfl rfl rfl ?_
  refine v_iconst h (v := nI 5) dX1_init_5 (q := 6) rfl (by decide +kernel) ?_
  refine v_newai h tw115 rfl (by decide) (by decide) (by decide) dX1_init_6 (q := 8) rfl ?_
  refine v_putFr h fl_X1_9 (by simp [pb_uk, h0, Nat.add_assoc]) rfl rfl rfl rfl dX1_init_8 (q := 11) rfl ?_
  refine v_aload_n h (i := 0) dX1_init_11 (q := 12) rfl rfl rfl ?_
  refine v_iconst h (v := nI 5) dX1_init_12 (q := 13) rfl (by decide +kernel) ?_
  refine v_sipush h (v := nI 400) dX1_init_13 (q := 16) rfl (by decide +kernel) ?_
  refine v_multi h tw184 tw115 rfl rfl (by decide) (by decide) (by decide) (by decide) dX1_init_16 (q := 20) rfl ?_
  refine v_putFr h fl_X1_17 (by show pb_mk _ (p + 1 + 1) 5 400 p = _; rw [(pb_mk_ne (rf := rf) (sg := sg) (by omega)).1]; simp [pb_uk, h0]) rfl rfl rfl rfl dX1_init_20 (q := 23) rfl ?_
  refine v_iconst h (v := nI 0) dX1_init_23 (q := 24) rfl (by decide +kernel) ?_
  refine v_istore_n h (i := 1) dX1_init_24 (q := 25) rfl rfl (Nat.le_of_ble_eq_true rfl) rfl ?_
  refine v_gen (fun sk1 rf1 sg1 e1 e2 e3 => ?_)
  have k0 : sk1 p = (7, 0) := by rw [e1]; show pb_mk _ (p + 1 + 1) 5 400 p = _; rw [(pb_mk_ne (rf := rf) (sg := sg) (by omega)).1]; simp [pb_uk, h0]
  have k1 : rf1 p 1 = some (p + 2) := by rw [e2, pb_ur_eq]; exact if_pos rfl
  have k2 : sk1 (p + 2) = (5, 5) := by rw [e1]; exact (pb_mk_0 (rf := rf) (i := 0) (by omega)).1
  have k3 : ∀ i, i < 5 → rf1 (p + 2) i = some (p + 3 + i) := fun i hi => by rw [e2, pb_ur_ne (by omega)]; exact (pb_mk_0 (sk := sk) (M := 400) hi).2
  have k4 : ∀ i, i < 5 → sk1 (p + 3 + i) = (1, 400) := fun i hi => by rw [e1]; exact (pb_mk_r (sg := sg) hi).1
  have lp : ∀ (j i : Nat), i + j = 5 → pv F 7 2010 (p + 1 + 1 + 1 + 5) sk1 rf1 (pb_cfN sg1 p i) 25 [some (.ref p), some (.int (nI i)), none] [] := by
    intro j
    induction j with
    | zero =>
      intro i  hi
      obtain rfl : i = 5 := by omega
      refine v_iload_n h (i := 1) dX1_init_25 (q := 26) rfl rfl rfl ?_
      refine v_iconst h (v := nI 5) dX1_init_26 (q := 27) rfl (by decide +kernel) ?_
      refine v_icmp_ge h dX1_init_27 (q := 30) rfl (tgt := 60) (by decide) (fun c1 => ?_) (fun c1 => pb_kle (Nat.le_refl _) (by decide) c1)
      refine v_vret h hQ rfl dX1_init_60 (by decide) (by decide) (by
          refine ⟨rfl, rfl, ⟨?_, ?_, ?_, ?_, ?_, ?_, ?_⟩, ?_, ?_, ?_, ?_⟩
          · exact k0
          · rw [e2, pb_ur_eq]
            show va_up (pb_mr _ (p + 1 + 1) 5 p) 1 _ 0 = _
            rw [(pb_mk_ne (sk := sk) (sg := sg) (M := 400) (by omega)).2.1]
            simp [va_up, pb_ur, pb_u0]
          · exact k1
          · rw [e1]
            show pb_mk _ (p + 1 + 1) 5 400 (p + 1) = _
            rw [(pb_mk_ne (rf := rf) (sg := sg) (by omega)).1]
            simp [pb_uk]
          · exact k2
          · exact k3
          · exact k4
          · funext j
            rw [pb_cfN_ne 5 (by omega), e3]
            show pb_ms _ (p + 1 + 1) 5 p j = _
            rw [(pb_mk_ne (sk := sk) (rf := rf) (M := 400) (by omega)).2.2]
            simp [pb_u0]
          · intro i hi
            rw [pb_cfN_ne 5 (by omega), e3]
            show pb_ms _ (p + 1 + 1) 5 (p + 1) i = _
            rw [(pb_mk_ne (sk := sk) (rf := rf) (M := 400) (by omega)).2.2]
            simp [pb_u0]
          · intro i d hi hd
            exact pb_cfN_at 5 hi hd
          · intro a ha
            have q1 := @pb_mk_ne (pb_uk sk (p + 1) (1, 5)) (pb_ur (pb_u0 rf (p + 1) none) p 0 (some (p + 1))) (pb_u0 sg (p + 1) 0) (p + 1 + 1) 5 400 a (by omega)
            refine ⟨?_, ?_, ?_⟩
            · rw [e1]
              exact q1.1.trans (pb_uk_ne (by omega))
            · rw [e2, pb_ur_ne (by omega)]
              exact q1.2.1.trans ((pb_ur_ne (by omega)).trans (pb_u0_ne (by omega)))
            · funext j
              rw [pb_cfN_ne 5 (by omega), e3]
              exact congrFun (q1.2.2.trans (pb_u0_ne (by omega))) j)
    | succ j ih =>
      intro i  hi
      have hi2 : i < 5 := by omega
      refine v_iload_n h (i := 1) dX1_init_25 (q := 26) rfl rfl rfl ?_
      refine v_iconst h (v := nI 5) dX1_init_26 (q := 27) rfl (by decide +kernel) ?_
      refine v_icmp_ge h dX1_init_27 (q := 30) rfl (tgt := 60) (by decide) (fun c2 => pb_kge hi2 (by decide) c2) (fun c2 => ?_)
      refine v_iconst h (v := nI 0) dX1_init_30 (q := 31) rfl (by decide +kernel) ?_
      refine v_istore_n h (i := 2) dX1_init_31 (q := 32) rfl rfl (Nat.le_of_ble_eq_true rfl) rfl ?_
      have lpb : ∀ (jb ib : Nat), ib + jb = 400 → pv F 7 2010 (p + 1 + 1 + 1 + 5) sk1 rf1 (pb_fillN (pb_cfN sg1 p i) (p + 3 + i) 0 (-1) ib) 32 [some (.ref p), some (.int (nI i)), some (.int (nI ib))] [] := by
        intro jb
        induction jb with
        | zero =>
          intro ib  hib
          obtain rfl : ib = 400 := by omega
          refine v_iload_n h (i := 2) dX1_init_32 (q := 33) rfl rfl rfl ?_
          refine v_sipush h (v := nI 400) dX1_init_33 (q := 36) rfl (by decide +kernel) ?_
          refine v_icmp_ge h dX1_init_36 (q := 39) rfl (tgt := 54) (by decide) (fun c3 => ?_) (fun c3 => pb_kle (Nat.le_refl _) (by decide) c3)
          refine v_iinc h dX1_init_54 (q := 57) rfl rfl pb_inc rfl ?_
          refine v_goto h dX1_init_57 (tgt := 25) (by decide) ?_
          refine v_wk (by simp [pb_wk]) (ih (i + 1) (by omega))
        | succ jb ihb =>
          intro ib  hib
          have hi2b : ib < 400 := by omega
          refine v_iload_n h (i := 2) dX1_init_32 (q := 33) rfl rfl rfl ?_
          refine v_sipush h (v := nI 400) dX1_init_33 (q := 36) rfl (by decide +kernel) ?_
          refine v_icmp_ge h dX1_init_36 (q := 39) rfl (tgt := 54) (by decide) (fun c4 => pb_kge hi2b (by decide) c4) (fun c4 => ?_)
          refine v_aload_n h (i := 0) dX1_init_39 (q := 40) rfl rfl rfl ?_
          refine v_getr h fl_X1_17 (by assumption) rfl (by assumption) dX1_init_40 (q := 43) rfl ?_
          refine v_iload_n h (i := 1) dX1_init_43 (q := 44) rfl rfl rfl ?_
          refine v_aald5 h k2 rfl hi2 (by decide) (show va_rf (rf1 (p + 2) i) = Value.ref (p + 3 + i) from by rw [k3 i hi2]; rfl) dX1_init_44 (q := 45) rfl ?_
          refine v_iload_n h (i := 2) dX1_init_45 (q := 46) rfl rfl rfl ?_
          refine v_iconst h (v := (-1)) dX1_init_46 (q := 47) rfl (by decide +kernel) ?_
          refine v_iast h (k4 i hi2) (show nI ib = nI (0 + ib) by rw [Nat.zero_add]) (by omega) (by decide) dX1_init_47 (q := 48) rfl ?_
          refine v_iinc h dX1_init_48 (q := 51) rfl rfl pb_inc rfl ?_
          refine v_goto h dX1_init_51 (tgt := 32) (by decide) ?_
          exact ihb (ib + 1) (by omega)
      exact lpb 400 0 (by omega)
  exact lp 5 0 (by omega)
