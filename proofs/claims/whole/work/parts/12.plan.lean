theorem pb_ne_f {b : Bool} (h : ¬ b = false) : b = true := by
  cases b
  · exact absurd rfl h
  · rfl
theorem dX4_has_0 : decode cX4_has 0 = .ok (.aload_n 0, 1) := by decide +kernel
theorem dX4_has_1 : decode cX4_has 1 = .ok (.getfield 9, 3) := by decide +kernel
theorem dX4_has_4 : decode cX4_has 4 = .ok (.iload_n 1, 1) := by decide +kernel
theorem dX4_has_5 : decode cX4_has 5 = .ok (.iaload, 1) := by decide +kernel
theorem dX4_has_6 : decode cX4_has 6 = .ok (.ifCond .le 7, 3) := by decide +kernel
theorem dX4_has_9 : decode cX4_has 9 = .ok (.iconst 1, 1) := by decide +kernel
theorem dX4_has_10 : decode cX4_has 10 = .ok (.goto 4, 3) := by decide +kernel
theorem dX4_has_13 : decode cX4_has 13 = .ok (.iconst 0, 1) := by decide +kernel
theorem dX4_has_14 : decode cX4_has 14 = .ok (.ireturn, 1) := by decide +kernel
theorem dX4_put_0 : decode cX4_put 0 = .ok (.aload_n 0, 1) := by decide +kernel
theorem dX4_put_1 : decode cX4_put 1 = .ok (.getfield 9, 3) := by decide +kernel
theorem dX4_put_4 : decode cX4_put 4 = .ok (.iload_n 1, 1) := by decide +kernel
theorem dX4_put_5 : decode cX4_put 5 = .ok (.iload_n 2, 1) := by decide +kernel
theorem dX4_put_6 : decode cX4_put 6 = .ok (.iastore, 1) := by decide +kernel
theorem dX4_put_7 : decode cX4_put 7 = .ok (.aload_n 0, 1) := by decide +kernel
theorem dX4_put_8 : decode cX4_put 8 = .ok (.getfield 15, 3) := by decide +kernel
theorem dX4_put_11 : decode cX4_put 11 = .ok (.iload_n 1, 1) := by decide +kernel
theorem dX4_put_12 : decode cX4_put 12 = .ok (.iload_n 3, 1) := by decide +kernel
theorem dX4_put_13 : decode cX4_put 13 = .ok (.iastore, 1) := by decide +kernel
theorem dX4_put_14 : decode cX4_put 14 = .ok (.aload_n 0, 1) := by decide +kernel
theorem dX4_put_15 : decode cX4_put 15 = .ok (.getfield 18, 3) := by decide +kernel
theorem dX4_put_18 : decode cX4_put 18 = .ok (.iload_n 1, 1) := by decide +kernel
theorem dX4_put_19 : decode cX4_put 19 = .ok (.iload 4, 2) := by decide +kernel
theorem dX4_put_21 : decode cX4_put 21 = .ok (.iastore, 1) := by decide +kernel
theorem dX4_put_22 : decode cX4_put 22 = .ok (.aload_n 0, 1) := by decide +kernel
theorem dX4_put_23 : decode cX4_put 23 = .ok (.getfield 21, 3) := by decide +kernel
theorem dX4_put_26 : decode cX4_put 26 = .ok (.iload_n 1, 1) := by decide +kernel
theorem dX4_put_27 : decode cX4_put 27 = .ok (.iload 5, 2) := by decide +kernel
theorem dX4_put_29 : decode cX4_put 29 = .ok (.iastore, 1) := by decide +kernel
theorem dX4_put_30 : decode cX4_put 30 = .ok (.return_, 1) := by decide +kernel
theorem dX4_clear_0 : decode cX4_clear 0 = .ok (.aload_n 0, 1) := by decide +kernel
theorem dX4_clear_1 : decode cX4_clear 1 = .ok (.iload_n 1, 1) := by decide +kernel
theorem dX4_clear_2 : decode cX4_clear 2 = .ok (.iconst 0, 1) := by decide +kernel
theorem dX4_clear_3 : decode cX4_clear 3 = .ok (.iconst (-1), 1) := by decide +kernel
theorem dX4_clear_4 : decode cX4_clear 4 = .ok (.iconst 0, 1) := by decide +kernel
theorem dX4_clear_5 : decode cX4_clear 5 = .ok (.iconst 0, 1) := by decide +kernel
theorem dX4_clear_6 : decode cX4_clear 6 = .ok (.invokevirtual 24, 3) := by decide +kernel
theorem dX4_clear_9 : decode cX4_clear 9 = .ok (.return_, 1) := by decide +kernel
theorem dX4_take_0 : decode cX4_take 0 = .ok (.aload_n 0, 1) := by decide +kernel
theorem dX4_take_1 : decode cX4_take 1 = .ok (.iload_n 2, 1) := by decide +kernel
theorem dX4_take_2 : decode cX4_take 2 = .ok (.aload_n 1, 1) := by decide +kernel
theorem dX4_take_3 : decode cX4_take 3 = .ok (.getfield 9, 3) := by decide +kernel
theorem dX4_take_6 : decode cX4_take 6 = .ok (.iload_n 2, 1) := by decide +kernel
theorem dX4_take_7 : decode cX4_take 7 = .ok (.iaload, 1) := by decide +kernel
theorem dX4_take_8 : decode cX4_take 8 = .ok (.aload_n 1, 1) := by decide +kernel
theorem dX4_take_9 : decode cX4_take 9 = .ok (.getfield 15, 3) := by decide +kernel
theorem dX4_take_12 : decode cX4_take 12 = .ok (.iload_n 2, 1) := by decide +kernel
theorem dX4_take_13 : decode cX4_take 13 = .ok (.iaload, 1) := by decide +kernel
theorem dX4_take_14 : decode cX4_take 14 = .ok (.aload_n 1, 1) := by decide +kernel
theorem dX4_take_15 : decode cX4_take 15 = .ok (.getfield 18, 3) := by decide +kernel
theorem dX4_take_18 : decode cX4_take 18 = .ok (.iload_n 2, 1) := by decide +kernel
theorem dX4_take_19 : decode cX4_take 19 = .ok (.iaload, 1) := by decide +kernel
theorem dX4_take_20 : decode cX4_take 20 = .ok (.aload_n 1, 1) := by decide +kernel
theorem dX4_take_21 : decode cX4_take 21 = .ok (.getfield 21, 3) := by decide +kernel
theorem dX4_take_24 : decode cX4_take 24 = .ok (.iload_n 2, 1) := by decide +kernel
theorem dX4_take_25 : decode cX4_take 25 = .ok (.iaload, 1) := by decide +kernel
theorem dX4_take_26 : decode cX4_take 26 = .ok (.invokevirtual 24, 3) := by decide +kernel
theorem dX4_take_29 : decode cX4_take 29 = .ok (.return_, 1) := by decide +kernel
theorem dX4_copyFrom_0 : decode cX4_copyFrom 0 = .ok (.iconst 0, 1) := by decide +kernel
theorem dX4_copyFrom_1 : decode cX4_copyFrom 1 = .ok (.istore_n 2, 1) := by decide +kernel
theorem dX4_copyFrom_2 : decode cX4_copyFrom 2 = .ok (.iload_n 2, 1) := by decide +kernel
theorem dX4_copyFrom_3 : decode cX4_copyFrom 3 = .ok (.bipush 16, 2) := by decide +kernel
theorem dX4_copyFrom_5 : decode cX4_copyFrom 5 = .ok (.if_icmp .ge 15, 3) := by decide +kernel
theorem dX4_copyFrom_8 : decode cX4_copyFrom 8 = .ok (.aload_n 0, 1) := by decide +kernel
theorem dX4_copyFrom_9 : decode cX4_copyFrom 9 = .ok (.aload_n 1, 1) := by decide +kernel
theorem dX4_copyFrom_10 : decode cX4_copyFrom 10 = .ok (.iload_n 2, 1) := by decide +kernel
theorem dX4_copyFrom_11 : decode cX4_copyFrom 11 = .ok (.invokevirtual 28, 3) := by decide +kernel
theorem dX4_copyFrom_14 : decode cX4_copyFrom 14 = .ok (.iinc 2 1, 3) := by decide +kernel
theorem dX4_copyFrom_17 : decode cX4_copyFrom 17 = .ok (.goto (-15), 3) := by decide +kernel
theorem dX4_copyFrom_20 : decode cX4_copyFrom 20 = .ok (.return_, 1) := by decide +kernel
theorem dX4_same_0 : decode cX4_same 0 = .ok (.aload_n 0, 1) := by decide +kernel
theorem dX4_same_1 : decode cX4_same 1 = .ok (.getfield 9, 3) := by decide +kernel
theorem dX4_same_4 : decode cX4_same 4 = .ok (.iload_n 2, 1) := by decide +kernel
theorem dX4_same_5 : decode cX4_same 5 = .ok (.iaload, 1) := by decide +kernel
theorem dX4_same_6 : decode cX4_same 6 = .ok (.aload_n 1, 1) := by decide +kernel
theorem dX4_same_7 : decode cX4_same 7 = .ok (.getfield 9, 3) := by decide +kernel
theorem dX4_same_10 : decode cX4_same 10 = .ok (.iload_n 2, 1) := by decide +kernel
theorem dX4_same_11 : decode cX4_same 11 = .ok (.iaload, 1) := by decide +kernel
theorem dX4_same_12 : decode cX4_same 12 = .ok (.if_icmp .ne 52, 3) := by decide +kernel
theorem dX4_same_15 : decode cX4_same 15 = .ok (.aload_n 0, 1) := by decide +kernel
theorem dX4_same_16 : decode cX4_same 16 = .ok (.getfield 15, 3) := by decide +kernel
theorem dX4_same_19 : decode cX4_same 19 = .ok (.iload_n 2, 1) := by decide +kernel
theorem dX4_same_20 : decode cX4_same 20 = .ok (.iaload, 1) := by decide +kernel
theorem dX4_same_21 : decode cX4_same 21 = .ok (.aload_n 1, 1) := by decide +kernel
theorem dX4_same_22 : decode cX4_same 22 = .ok (.getfield 15, 3) := by decide +kernel
theorem dX4_same_25 : decode cX4_same 25 = .ok (.iload_n 2, 1) := by decide +kernel
theorem dX4_same_26 : decode cX4_same 26 = .ok (.iaload, 1) := by decide +kernel
theorem dX4_same_27 : decode cX4_same 27 = .ok (.if_icmp .ne 37, 3) := by decide +kernel
theorem dX4_same_30 : decode cX4_same 30 = .ok (.aload_n 0, 1) := by decide +kernel
theorem dX4_same_31 : decode cX4_same 31 = .ok (.getfield 18, 3) := by decide +kernel
theorem dX4_same_34 : decode cX4_same 34 = .ok (.iload_n 2, 1) := by decide +kernel
theorem dX4_same_35 : decode cX4_same 35 = .ok (.iaload, 1) := by decide +kernel
theorem dX4_same_36 : decode cX4_same 36 = .ok (.aload_n 1, 1) := by decide +kernel
theorem dX4_same_37 : decode cX4_same 37 = .ok (.getfield 18, 3) := by decide +kernel
theorem dX4_same_40 : decode cX4_same 40 = .ok (.iload_n 2, 1) := by decide +kernel
theorem dX4_same_41 : decode cX4_same 41 = .ok (.iaload, 1) := by decide +kernel
theorem dX4_same_42 : decode cX4_same 42 = .ok (.if_icmp .ne 22, 3) := by decide +kernel
theorem dX4_same_45 : decode cX4_same 45 = .ok (.aload_n 0, 1) := by decide +kernel
theorem dX4_same_46 : decode cX4_same 46 = .ok (.getfield 21, 3) := by decide +kernel
theorem dX4_same_49 : decode cX4_same 49 = .ok (.iload_n 2, 1) := by decide +kernel
theorem dX4_same_50 : decode cX4_same 50 = .ok (.iaload, 1) := by decide +kernel
theorem dX4_same_51 : decode cX4_same 51 = .ok (.aload_n 1, 1) := by decide +kernel
theorem dX4_same_52 : decode cX4_same 52 = .ok (.getfield 21, 3) := by decide +kernel
theorem dX4_same_55 : decode cX4_same 55 = .ok (.iload_n 2, 1) := by decide +kernel
theorem dX4_same_56 : decode cX4_same 56 = .ok (.iaload, 1) := by decide +kernel
theorem dX4_same_57 : decode cX4_same 57 = .ok (.if_icmp .ne 7, 3) := by decide +kernel
theorem dX4_same_60 : decode cX4_same 60 = .ok (.iconst 1, 1) := by decide +kernel
theorem dX4_same_61 : decode cX4_same 61 = .ok (.goto 4, 3) := by decide +kernel
theorem dX4_same_64 : decode cX4_same 64 = .ok (.iconst 0, 1) := by decide +kernel
theorem dX4_same_65 : decode cX4_same 65 = .ok (.ireturn, 1) := by decide +kernel
theorem dX4_countOthers_0 : decode cX4_countOthers 0 = .ok (.iconst 0, 1) := by decide +kernel
theorem dX4_countOthers_1 : decode cX4_countOthers 1 = .ok (.istore_n 2, 1) := by decide +kernel
theorem dX4_countOthers_2 : decode cX4_countOthers 2 = .ok (.iconst 0, 1) := by decide +kernel
theorem dX4_countOthers_3 : decode cX4_countOthers 3 = .ok (.istore_n 3, 1) := by decide +kernel
theorem dX4_countOthers_4 : decode cX4_countOthers 4 = .ok (.iload_n 3, 1) := by decide +kernel
theorem dX4_countOthers_5 : decode cX4_countOthers 5 = .ok (.bipush 16, 2) := by decide +kernel
theorem dX4_countOthers_7 : decode cX4_countOthers 7 = .ok (.if_icmp .ge 21, 3) := by decide +kernel
theorem dX4_countOthers_10 : decode cX4_countOthers 10 = .ok (.aload_n 0, 1) := by decide +kernel
theorem dX4_countOthers_11 : decode cX4_countOthers 11 = .ok (.aload_n 1, 1) := by decide +kernel
theorem dX4_countOthers_12 : decode cX4_countOthers 12 = .ok (.iload_n 3, 1) := by decide +kernel
theorem dX4_countOthers_13 : decode cX4_countOthers 13 = .ok (.invokevirtual 32, 3) := by decide +kernel
theorem dX4_countOthers_16 : decode cX4_countOthers 16 = .ok (.ifCond .ne 6, 3) := by decide +kernel
theorem dX4_countOthers_19 : decode cX4_countOthers 19 = .ok (.iinc 2 1, 3) := by decide +kernel
theorem dX4_countOthers_22 : decode cX4_countOthers 22 = .ok (.iinc 3 1, 3) := by decide +kernel
theorem dX4_countOthers_25 : decode cX4_countOthers 25 = .ok (.goto (-21), 3) := by decide +kernel
theorem dX4_countOthers_28 : decode cX4_countOthers 28 = .ok (.iload_n 2, 1) := by decide +kernel
theorem dX4_countOthers_29 : decode cX4_countOthers 29 = .ok (.ireturn, 1) := by decide +kernel
theorem dX4_present_0 : decode cX4_present 0 = .ok (.iconst 0, 1) := by decide +kernel
theorem dX4_present_1 : decode cX4_present 1 = .ok (.istore_n 1, 1) := by decide +kernel
theorem dX4_present_2 : decode cX4_present 2 = .ok (.iconst 0, 1) := by decide +kernel
theorem dX4_present_3 : decode cX4_present 3 = .ok (.istore_n 2, 1) := by decide +kernel
theorem dX4_present_4 : decode cX4_present 4 = .ok (.iload_n 2, 1) := by decide +kernel
theorem dX4_present_5 : decode cX4_present 5 = .ok (.bipush 16, 2) := by decide +kernel
theorem dX4_present_7 : decode cX4_present 7 = .ok (.if_icmp .ge 23, 3) := by decide +kernel
theorem dX4_present_10 : decode cX4_present 10 = .ok (.aload_n 0, 1) := by decide +kernel
theorem dX4_present_11 : decode cX4_present 11 = .ok (.iload_n 2, 1) := by decide +kernel
theorem dX4_present_12 : decode cX4_present 12 = .ok (.invokevirtual 36, 3) := by decide +kernel
theorem dX4_present_15 : decode cX4_present 15 = .ok (.ifCond .eq 9, 3) := by decide +kernel
theorem dX4_present_18 : decode cX4_present 18 = .ok (.iload_n 1, 1) := by decide +kernel
theorem dX4_present_19 : decode cX4_present 19 = .ok (.iconst 1, 1) := by decide +kernel
theorem dX4_present_20 : decode cX4_present 20 = .ok (.iload_n 2, 1) := by decide +kernel
theorem dX4_present_21 : decode cX4_present 21 = .ok (.ishl, 1) := by decide +kernel
theorem dX4_present_22 : decode cX4_present 22 = .ok (.ior, 1) := by decide +kernel
theorem dX4_present_23 : decode cX4_present 23 = .ok (.istore_n 1, 1) := by decide +kernel
theorem dX4_present_24 : decode cX4_present 24 = .ok (.iinc 2 1, 3) := by decide +kernel
theorem dX4_present_27 : decode cX4_present 27 = .ok (.goto (-23), 3) := by decide +kernel
theorem dX4_present_30 : decode cX4_present 30 = .ok (.iload_n 1, 1) := by decide +kernel
theorem dX4_present_31 : decode cX4_present 31 = .ok (.ireturn, 1) := by decide +kernel
theorem dX4_totalCost_0 : decode cX4_totalCost 0 = .ok (.iconst 0, 1) := by decide +kernel
theorem dX4_totalCost_1 : decode cX4_totalCost 1 = .ok (.istore_n 1, 1) := by decide +kernel
theorem dX4_totalCost_2 : decode cX4_totalCost 2 = .ok (.iconst 0, 1) := by decide +kernel
theorem dX4_totalCost_3 : decode cX4_totalCost 3 = .ok (.istore_n 2, 1) := by decide +kernel
theorem dX4_totalCost_4 : decode cX4_totalCost 4 = .ok (.iload_n 2, 1) := by decide +kernel
theorem dX4_totalCost_5 : decode cX4_totalCost 5 = .ok (.bipush 16, 2) := by decide +kernel
theorem dX4_totalCost_7 : decode cX4_totalCost 7 = .ok (.if_icmp .ge 25, 3) := by decide +kernel
theorem dX4_totalCost_10 : decode cX4_totalCost 10 = .ok (.iload_n 1, 1) := by decide +kernel
theorem dX4_totalCost_11 : decode cX4_totalCost 11 = .ok (.aload_n 0, 1) := by decide +kernel
theorem dX4_totalCost_12 : decode cX4_totalCost 12 = .ok (.getfield 9, 3) := by decide +kernel
theorem dX4_totalCost_15 : decode cX4_totalCost 15 = .ok (.iload_n 2, 1) := by decide +kernel
theorem dX4_totalCost_16 : decode cX4_totalCost 16 = .ok (.iaload, 1) := by decide +kernel
theorem dX4_totalCost_17 : decode cX4_totalCost 17 = .ok (.aload_n 0, 1) := by decide +kernel
theorem dX4_totalCost_18 : decode cX4_totalCost 18 = .ok (.getfield 18, 3) := by decide +kernel
theorem dX4_totalCost_21 : decode cX4_totalCost 21 = .ok (.iload_n 2, 1) := by decide +kernel
theorem dX4_totalCost_22 : decode cX4_totalCost 22 = .ok (.iaload, 1) := by decide +kernel
theorem dX4_totalCost_23 : decode cX4_totalCost 23 = .ok (.imul, 1) := by decide +kernel
theorem dX4_totalCost_24 : decode cX4_totalCost 24 = .ok (.iadd, 1) := by decide +kernel
theorem dX4_totalCost_25 : decode cX4_totalCost 25 = .ok (.istore_n 1, 1) := by decide +kernel
theorem dX4_totalCost_26 : decode cX4_totalCost 26 = .ok (.iinc 2 1, 3) := by decide +kernel
theorem dX4_totalCost_29 : decode cX4_totalCost 29 = .ok (.goto (-25), 3) := by decide +kernel
theorem dX4_totalCost_32 : decode cX4_totalCost 32 = .ok (.iload_n 1, 1) := by decide +kernel
theorem dX4_totalCost_33 : decode cX4_totalCost 33 = .ok (.ireturn, 1) := by decide +kernel
theorem dX4_isNeeded_0 : decode cX4_isNeeded 0 = .ok (.iconst 0, 1) := by decide +kernel
theorem dX4_isNeeded_1 : decode cX4_isNeeded 1 = .ok (.istore_n 2, 1) := by decide +kernel
theorem dX4_isNeeded_2 : decode cX4_isNeeded 2 = .ok (.iload_n 2, 1) := by decide +kernel
theorem dX4_isNeeded_3 : decode cX4_isNeeded 3 = .ok (.bipush 16, 2) := by decide +kernel
theorem dX4_isNeeded_5 : decode cX4_isNeeded 5 = .ok (.if_icmp .ge 24, 3) := by decide +kernel
theorem dX4_isNeeded_8 : decode cX4_isNeeded 8 = .ok (.aload_n 0, 1) := by decide +kernel
theorem dX4_isNeeded_9 : decode cX4_isNeeded 9 = .ok (.getfield 21, 3) := by decide +kernel
theorem dX4_isNeeded_12 : decode cX4_isNeeded 12 = .ok (.iload_n 2, 1) := by decide +kernel
theorem dX4_isNeeded_13 : decode cX4_isNeeded 13 = .ok (.iaload, 1) := by decide +kernel
theorem dX4_isNeeded_14 : decode cX4_isNeeded 14 = .ok (.iload_n 1, 1) := by decide +kernel
theorem dX4_isNeeded_15 : decode cX4_isNeeded 15 = .ok (.invokestatic 40, 3) := by decide +kernel
theorem dX4_isNeeded_18 : decode cX4_isNeeded 18 = .ok (.ifCond .eq 5, 3) := by decide +kernel
theorem dX4_isNeeded_21 : decode cX4_isNeeded 21 = .ok (.iconst 1, 1) := by decide +kernel
theorem dX4_isNeeded_22 : decode cX4_isNeeded 22 = .ok (.ireturn, 1) := by decide +kernel
theorem dX4_isNeeded_23 : decode cX4_isNeeded 23 = .ok (.iinc 2 1, 3) := by decide +kernel
theorem dX4_isNeeded_26 : decode cX4_isNeeded 26 = .ok (.goto (-24), 3) := by decide +kernel
theorem dX4_isNeeded_29 : decode cX4_isNeeded 29 = .ok (.iconst 0, 1) := by decide +kernel
theorem dX4_isNeeded_30 : decode cX4_isNeeded 30 = .ok (.ireturn, 1) := by decide +kernel
theorem dX4_allNeeds_0 : decode cX4_allNeeds 0 = .ok (.aload_n 0, 1) := by decide +kernel
theorem dX4_allNeeds_1 : decode cX4_allNeeds 1 = .ok (.getfield 21, 3) := by decide +kernel
theorem dX4_allNeeds_4 : decode cX4_allNeeds 4 = .ok (.iload_n 1, 1) := by decide +kernel
theorem dX4_allNeeds_5 : decode cX4_allNeeds 5 = .ok (.iaload, 1) := by decide +kernel
theorem dX4_allNeeds_6 : decode cX4_allNeeds 6 = .ok (.istore_n 2, 1) := by decide +kernel
theorem dX4_allNeeds_7 : decode cX4_allNeeds 7 = .ok (.iconst 0, 1) := by decide +kernel
theorem dX4_allNeeds_8 : decode cX4_allNeeds 8 = .ok (.istore_n 3, 1) := by decide +kernel
theorem dX4_allNeeds_9 : decode cX4_allNeeds 9 = .ok (.iload_n 3, 1) := by decide +kernel
theorem dX4_allNeeds_10 : decode cX4_allNeeds 10 = .ok (.bipush 16, 2) := by decide +kernel
theorem dX4_allNeeds_12 : decode cX4_allNeeds 12 = .ok (.if_icmp .ge 60, 3) := by decide +kernel
theorem dX4_allNeeds_15 : decode cX4_allNeeds 15 = .ok (.iload_n 2, 1) := by decide +kernel
theorem dX4_allNeeds_16 : decode cX4_allNeeds 16 = .ok (.istore 4, 2) := by decide +kernel
theorem dX4_allNeeds_18 : decode cX4_allNeeds 18 = .ok (.iconst 0, 1) := by decide +kernel
theorem dX4_allNeeds_19 : decode cX4_allNeeds 19 = .ok (.istore 5, 2) := by decide +kernel
theorem dX4_allNeeds_21 : decode cX4_allNeeds 21 = .ok (.iload 5, 2) := by decide +kernel
theorem dX4_allNeeds_23 : decode cX4_allNeeds 23 = .ok (.bipush 16, 2) := by decide +kernel
theorem dX4_allNeeds_25 : decode cX4_allNeeds 25 = .ok (.if_icmp .ge 30, 3) := by decide +kernel
theorem dX4_allNeeds_28 : decode cX4_allNeeds 28 = .ok (.iload_n 2, 1) := by decide +kernel
theorem dX4_allNeeds_29 : decode cX4_allNeeds 29 = .ok (.iload 5, 2) := by decide +kernel
theorem dX4_allNeeds_31 : decode cX4_allNeeds 31 = .ok (.invokestatic 40, 3) := by decide +kernel
theorem dX4_allNeeds_34 : decode cX4_allNeeds 34 = .ok (.ifCond .eq 15, 3) := by decide +kernel
theorem dX4_allNeeds_37 : decode cX4_allNeeds 37 = .ok (.iload 4, 2) := by decide +kernel
theorem dX4_allNeeds_39 : decode cX4_allNeeds 39 = .ok (.aload_n 0, 1) := by decide +kernel
theorem dX4_allNeeds_40 : decode cX4_allNeeds 40 = .ok (.getfield 21, 3) := by decide +kernel
theorem dX4_allNeeds_43 : decode cX4_allNeeds 43 = .ok (.iload 5, 2) := by decide +kernel
theorem dX4_allNeeds_45 : decode cX4_allNeeds 45 = .ok (.iaload, 1) := by decide +kernel
theorem dX4_allNeeds_46 : decode cX4_allNeeds 46 = .ok (.ior, 1) := by decide +kernel
theorem dX4_allNeeds_47 : decode cX4_allNeeds 47 = .ok (.istore 4, 2) := by decide +kernel
theorem dX4_allNeeds_49 : decode cX4_allNeeds 49 = .ok (.iinc 5 1, 3) := by decide +kernel
theorem dX4_allNeeds_52 : decode cX4_allNeeds 52 = .ok (.goto (-31), 3) := by decide +kernel
theorem dX4_allNeeds_55 : decode cX4_allNeeds 55 = .ok (.iload 4, 2) := by decide +kernel
theorem dX4_allNeeds_57 : decode cX4_allNeeds 57 = .ok (.iload_n 2, 1) := by decide +kernel
theorem dX4_allNeeds_58 : decode cX4_allNeeds 58 = .ok (.if_icmp .ne 5, 3) := by decide +kernel
theorem dX4_allNeeds_61 : decode cX4_allNeeds 61 = .ok (.iload_n 2, 1) := by decide +kernel
theorem dX4_allNeeds_62 : decode cX4_allNeeds 62 = .ok (.ireturn, 1) := by decide +kernel
theorem dX4_allNeeds_63 : decode cX4_allNeeds 63 = .ok (.iload 4, 2) := by decide +kernel
theorem dX4_allNeeds_65 : decode cX4_allNeeds 65 = .ok (.istore_n 2, 1) := by decide +kernel
theorem dX4_allNeeds_66 : decode cX4_allNeeds 66 = .ok (.iinc 3 1, 3) := by decide +kernel
theorem dX4_allNeeds_69 : decode cX4_allNeeds 69 = .ok (.goto (-60), 3) := by decide +kernel
theorem dX4_allNeeds_72 : decode cX4_allNeeds 72 = .ok (.iload_n 2, 1) := by decide +kernel
theorem dX4_allNeeds_73 : decode cX4_allNeeds 73 = .ok (.ireturn, 1) := by decide +kernel
theorem dX4_lacking_0 : decode cX4_lacking 0 = .ok (.aload_n 0, 1) := by decide +kernel
theorem dX4_lacking_1 : decode cX4_lacking 1 = .ok (.invokevirtual 44, 3) := by decide +kernel
theorem dX4_lacking_4 : decode cX4_lacking 4 = .ok (.istore_n 1, 1) := by decide +kernel
theorem dX4_lacking_5 : decode cX4_lacking 5 = .ok (.iconst 0, 1) := by decide +kernel
theorem dX4_lacking_6 : decode cX4_lacking 6 = .ok (.istore_n 2, 1) := by decide +kernel
theorem dX4_lacking_7 : decode cX4_lacking 7 = .ok (.iconst 0, 1) := by decide +kernel
theorem dX4_lacking_8 : decode cX4_lacking 8 = .ok (.istore_n 3, 1) := by decide +kernel
theorem dX4_lacking_9 : decode cX4_lacking 9 = .ok (.iload_n 3, 1) := by decide +kernel
theorem dX4_lacking_10 : decode cX4_lacking 10 = .ok (.bipush 16, 2) := by decide +kernel
theorem dX4_lacking_12 : decode cX4_lacking 12 = .ok (.if_icmp .ge 28, 3) := by decide +kernel
theorem dX4_lacking_15 : decode cX4_lacking 15 = .ok (.aload_n 0, 1) := by decide +kernel
theorem dX4_lacking_16 : decode cX4_lacking 16 = .ok (.getfield 21, 3) := by decide +kernel
theorem dX4_lacking_19 : decode cX4_lacking 19 = .ok (.iload_n 3, 1) := by decide +kernel
theorem dX4_lacking_20 : decode cX4_lacking 20 = .ok (.iaload, 1) := by decide +kernel
theorem dX4_lacking_21 : decode cX4_lacking 21 = .ok (.iload_n 1, 1) := by decide +kernel
theorem dX4_lacking_22 : decode cX4_lacking 22 = .ok (.iconst (-1), 1) := by decide +kernel
theorem dX4_lacking_23 : decode cX4_lacking 23 = .ok (.ixor, 1) := by decide +kernel
theorem dX4_lacking_24 : decode cX4_lacking 24 = .ok (.iand, 1) := by decide +kernel
theorem dX4_lacking_25 : decode cX4_lacking 25 = .ok (.ifCond .eq 9, 3) := by decide +kernel
theorem dX4_lacking_28 : decode cX4_lacking 28 = .ok (.iload_n 2, 1) := by decide +kernel
theorem dX4_lacking_29 : decode cX4_lacking 29 = .ok (.iconst 1, 1) := by decide +kernel
theorem dX4_lacking_30 : decode cX4_lacking 30 = .ok (.iload_n 3, 1) := by decide +kernel
theorem dX4_lacking_31 : decode cX4_lacking 31 = .ok (.ishl, 1) := by decide +kernel
theorem dX4_lacking_32 : decode cX4_lacking 32 = .ok (.ior, 1) := by decide +kernel
theorem dX4_lacking_33 : decode cX4_lacking 33 = .ok (.istore_n 2, 1) := by decide +kernel
theorem dX4_lacking_34 : decode cX4_lacking 34 = .ok (.iinc 3 1, 3) := by decide +kernel
theorem dX4_lacking_37 : decode cX4_lacking 37 = .ok (.goto (-28), 3) := by decide +kernel
theorem dX4_lacking_40 : decode cX4_lacking 40 = .ok (.iload_n 2, 1) := by decide +kernel
theorem dX4_lacking_41 : decode cX4_lacking 41 = .ok (.ireturn, 1) := by decide +kernel
theorem dX4_ringed_0 : decode cX4_ringed 0 = .ok (.iconst 0, 1) := by decide +kernel
theorem dX4_ringed_1 : decode cX4_ringed 1 = .ok (.istore_n 1, 1) := by decide +kernel
theorem dX4_ringed_2 : decode cX4_ringed 2 = .ok (.iconst 0, 1) := by decide +kernel
theorem dX4_ringed_3 : decode cX4_ringed 3 = .ok (.istore_n 2, 1) := by decide +kernel
theorem dX4_ringed_4 : decode cX4_ringed 4 = .ok (.iload_n 2, 1) := by decide +kernel
theorem dX4_ringed_5 : decode cX4_ringed 5 = .ok (.bipush 16, 2) := by decide +kernel
theorem dX4_ringed_7 : decode cX4_ringed 7 = .ok (.if_icmp .ge 27, 3) := by decide +kernel
theorem dX4_ringed_10 : decode cX4_ringed 10 = .ok (.aload_n 0, 1) := by decide +kernel
theorem dX4_ringed_11 : decode cX4_ringed 11 = .ok (.iload_n 2, 1) := by decide +kernel
theorem dX4_ringed_12 : decode cX4_ringed 12 = .ok (.invokevirtual 48, 3) := by decide +kernel
theorem dX4_ringed_15 : decode cX4_ringed 15 = .ok (.iload_n 2, 1) := by decide +kernel
theorem dX4_ringed_16 : decode cX4_ringed 16 = .ok (.invokestatic 40, 3) := by decide +kernel
theorem dX4_ringed_19 : decode cX4_ringed 19 = .ok (.ifCond .eq 9, 3) := by decide +kernel
theorem dX4_ringed_22 : decode cX4_ringed 22 = .ok (.iload_n 1, 1) := by decide +kernel
theorem dX4_ringed_23 : decode cX4_ringed 23 = .ok (.iconst 1, 1) := by decide +kernel
theorem dX4_ringed_24 : decode cX4_ringed 24 = .ok (.iload_n 2, 1) := by decide +kernel
theorem dX4_ringed_25 : decode cX4_ringed 25 = .ok (.ishl, 1) := by decide +kernel
theorem dX4_ringed_26 : decode cX4_ringed 26 = .ok (.ior, 1) := by decide +kernel
theorem dX4_ringed_27 : decode cX4_ringed 27 = .ok (.istore_n 1, 1) := by decide +kernel
theorem dX4_ringed_28 : decode cX4_ringed 28 = .ok (.iinc 2 1, 3) := by decide +kernel
theorem dX4_ringed_31 : decode cX4_ringed 31 = .ok (.goto (-27), 3) := by decide +kernel
theorem dX4_ringed_34 : decode cX4_ringed 34 = .ok (.iload_n 1, 1) := by decide +kernel
theorem dX4_ringed_35 : decode cX4_ringed 35 = .ok (.ireturn, 1) := by decide +kernel
theorem dX7_contains_0 : decode cX7_contains 0 = .ok (.iload_n 0, 1) := by decide +kernel
theorem dX7_contains_1 : decode cX7_contains 1 = .ok (.iload_n 1, 1) := by decide +kernel
theorem dX7_contains_2 : decode cX7_contains 2 = .ok (.ishr, 1) := by decide +kernel
theorem dX7_contains_3 : decode cX7_contains 3 = .ok (.iconst 1, 1) := by decide +kernel
theorem dX7_contains_4 : decode cX7_contains 4 = .ok (.iand, 1) := by decide +kernel
theorem dX7_contains_5 : decode cX7_contains 5 = .ok (.ifCond .eq 7, 3) := by decide +kernel
theorem dX7_contains_8 : decode cX7_contains 8 = .ok (.iconst 1, 1) := by decide +kernel
theorem dX7_contains_9 : decode cX7_contains 9 = .ok (.goto 4, 3) := by decide +kernel
theorem dX7_contains_12 : decode cX7_contains 12 = .ok (.iconst 0, 1) := by decide +kernel
theorem dX7_contains_13 : decode cX7_contains 13 = .ok (.ireturn, 1) := by decide +kernel
theorem dX7_lowest_0 : decode cX7_lowest 0 = .ok (.iconst 0, 1) := by decide +kernel
theorem dX7_lowest_1 : decode cX7_lowest 1 = .ok (.istore_n 1, 1) := by decide +kernel
theorem dX7_lowest_2 : decode cX7_lowest 2 = .ok (.iload_n 1, 1) := by decide +kernel
theorem dX7_lowest_3 : decode cX7_lowest 3 = .ok (.bipush 16, 2) := by decide +kernel
theorem dX7_lowest_5 : decode cX7_lowest 5 = .ok (.if_icmp .ge 19, 3) := by decide +kernel
theorem dX7_lowest_8 : decode cX7_lowest 8 = .ok (.iload_n 0, 1) := by decide +kernel
theorem dX7_lowest_9 : decode cX7_lowest 9 = .ok (.iload_n 1, 1) := by decide +kernel
theorem dX7_lowest_10 : decode cX7_lowest 10 = .ok (.invokestatic 122, 3) := by decide +kernel
theorem dX7_lowest_13 : decode cX7_lowest 13 = .ok (.ifCond .eq 5, 3) := by decide +kernel
theorem dX7_lowest_16 : decode cX7_lowest 16 = .ok (.iload_n 1, 1) := by decide +kernel
theorem dX7_lowest_17 : decode cX7_lowest 17 = .ok (.ireturn, 1) := by decide +kernel
theorem dX7_lowest_18 : decode cX7_lowest 18 = .ok (.iinc 1 1, 3) := by decide +kernel
theorem dX7_lowest_21 : decode cX7_lowest 21 = .ok (.goto (-19), 3) := by decide +kernel
theorem dX7_lowest_24 : decode cX7_lowest 24 = .ok (.iconst (-1), 1) := by decide +kernel
theorem dX7_lowest_25 : decode cX7_lowest 25 = .ok (.ireturn, 1) := by decide +kernel
theorem dX7_checkTask_0 : decode cX7_checkTask 0 = .ok (.iload_n 0, 1) := by decide +kernel
theorem dX7_checkTask_1 : decode cX7_checkTask 1 = .ok (.iconst 0, 1) := by decide +kernel
theorem dX7_checkTask_2 : decode cX7_checkTask 2 = .ok (.bipush 15, 2) := by decide +kernel
theorem dX7_checkTask_4 : decode cX7_checkTask 4 = .ok (.invokestatic 61, 3) := by decide +kernel
theorem dX7_checkTask_7 : decode cX7_checkTask 7 = .ok (.return_, 1) := by decide +kernel
theorem dX7_checkRange_0 : decode cX7_checkRange 0 = .ok (.iload_n 0, 1) := by decide +kernel
theorem dX7_checkRange_1 : decode cX7_checkRange 1 = .ok (.iload_n 1, 1) := by decide +kernel
theorem dX7_checkRange_2 : decode cX7_checkRange 2 = .ok (.if_icmp .lt 8, 3) := by decide +kernel
theorem dX7_checkRange_5 : decode cX7_checkRange 5 = .ok (.iload_n 0, 1) := by decide +kernel
theorem dX7_checkRange_6 : decode cX7_checkRange 6 = .ok (.iload_n 2, 1) := by decide +kernel
theorem dX7_checkRange_7 : decode cX7_checkRange 7 = .ok (.if_icmp .le 14, 3) := by decide +kernel
theorem dX7_checkRange_10 : decode cX7_checkRange 10 = .ok (.new 111, 3) := by decide +kernel
theorem dX7_checkRange_13 : decode cX7_checkRange 13 = .ok (.dup, 1) := by decide +kernel
theorem dX7_checkRange_14 : decode cX7_checkRange 14 = .ok (.ldc_w 272, 3) := by decide +kernel
theorem dX7_checkRange_17 : decode cX7_checkRange 17 = .ok (.invokespecial 115, 3) := by decide +kernel
theorem dX7_checkRange_20 : decode cX7_checkRange 20 = .ok (.athrow, 1) := by decide +kernel
theorem dX7_checkRange_21 : decode cX7_checkRange 21 = .ok (.return_, 1) := by decide +kernel
set_option maxHeartbeats 4000000 in
set_option maxRecDepth 100000 in
theorem c_X7_contains {l : Launch} (hfl : l.stackTraces = false) {sz : Nat} {sk : pb_Sk} {rf : pb_Rf} {sg : pb_Sg} {x : Int32} {t : Nat} (ht : t < 32) : pb_Met l mX7_contains 1 0 0 [.int x, .int (nI t)] sz sk rf sg (pb_is (some (.int (pb_b (pb_in x t)))) sz sk rf sg) := by
  refine pb_start hfl (by decide +kernel) rfl (pb_c1 rfl) (Nat.le_of_ble_eq_true rfl) (fun F hF h hQ => ?_)
  subst hF
  show pv F 0 0 sz sk rf sg 0 [some (.int x), some (.int (nI t))] []
  refine v_iload_n h (i := 0) dX7_contains_0 (q := 1) rfl rfl rfl ?_
  refine v_iload_n h (i := 1) dX7_contains_1 (q := 2) rfl rfl rfl ?_
  refine v_ishr h dX7_contains_2 (q := 3) rfl ?_
  refine v_iconst h (v := nI 1) dX7_contains_3 (q := 4) rfl (by decide +kernel) ?_
  refine v_iand h dX7_contains_4 (q := 5) rfl ?_
  refine v_if_eq h dX7_contains_5 (q := 8) rfl (tgt := 12) (by decide) (fun c1 => ?_) (fun c1 => ?_)
  · skip
    have e13 : pb_b (pb_in x t) = nI 0 := by rw [(pb_in_sh ht).mp c1]; rfl
    refine v_iconst h (v := nI 0) dX7_contains_12 (q := 13) rfl (by decide +kernel) ?_
    refine v_iret h hQ rfl (by first | exact rfl | exact pb_b_nar _) dX7_contains_13 (Nat.zero_le _) (Nat.zero_le _) ⟨by rw [e13], rfl, rfl, rfl, rfl⟩
  · skip
    have e13 : pb_b (pb_in x t) = nI 1 := by rw [pb_ne_f (fun q => c1 ((pb_in_sh ht).mpr q))]; rfl
    refine v_iconst h (v := nI 1) dX7_contains_8 (q := 9) rfl (by decide +kernel) ?_
    refine v_goto h dX7_contains_9 (tgt := 13) (by decide) ?_
    refine v_iret h hQ rfl (by first | exact rfl | exact pb_b_nar _) dX7_contains_13 (Nat.zero_le _) (Nat.zero_le _) ⟨by rw [e13], rfl, rfl, rfl, rfl⟩
set_option maxHeartbeats 4000000 in
set_option maxRecDepth 100000 in
theorem c_X7_checkRange {l : Launch} (hfl : l.stackTraces = false) {sz : Nat} {sk : pb_Sk} {rf : pb_Rf} {sg : pb_Sg} {x lo hi : Int32} (h1 : lo ≤ x) (h2 : x ≤ hi) : pb_Met l mX7_checkRange 1 0 0 [.int x, .int lo, .int hi] sz sk rf sg (pb_is none sz sk rf sg) := by
  refine pb_start hfl (by decide +kernel) rfl (pb_c1 rfl) (Nat.le_of_ble_eq_true rfl) (fun F hF h hQ => ?_)
  subst hF
  show pv F 0 0 sz sk rf sg 0 [some (.int x), some (.int lo), some (.int hi)] []
  refine v_iload_n h (i := 0) dX7_checkRange_0 (q := 1) rfl rfl rfl ?_
  refine v_iload_n h (i := 1) dX7_checkRange_1 (q := 2) rfl rfl rfl ?_
  refine v_icmp_lt h dX7_checkRange_2 (q := 5) rfl (tgt := 10) (by decide) (fun c1 => absurd c1 (Int32.not_lt.mpr h1)) (fun c1 => ?_)
  refine v_iload_n h (i := 0) dX7_checkRange_5 (q := 6) rfl rfl rfl ?_
  refine v_iload_n h (i := 2) dX7_checkRange_6 (q := 7) rfl rfl rfl ?_
  refine v_icmp_le h dX7_checkRange_7 (q := 10) rfl (tgt := 21) (by decide) (fun c2 => ?_) (fun c2 => absurd h2 c2)
  refine v_vret h hQ rfl dX7_checkRange_21 (Nat.zero_le _) (Nat.zero_le _) ⟨rfl, rfl, rfl, rfl, rfl⟩
set_option maxHeartbeats 4000000 in
set_option maxRecDepth 100000 in
theorem x_X7_checkRange {l : Launch} (hfl : l.stackTraces = false) {sz : Nat} {sk : pb_Sk} {rf : pb_Rf} {sg : pb_Sg} {x lo hi : Int32} (h1 : x < lo ∨ hi < x) : pb_Met l mX7_checkRange 6 1 6 [.int x, .int lo, .int hi] sz sk rf sg (pb_thr "java/lang/IllegalArgumentException" sz sk rf sg) := by
  refine pb_start hfl (by decide +kernel) rfl (pb_c1 rfl) (Nat.le_of_ble_eq_true rfl) (fun F hF h hQ => ?_)
  subst hF
  show pv F 0 0 sz sk rf sg 0 [some (.int x), some (.int lo), some (.int hi)] []
  refine v_iload_n h (i := 0) dX7_checkRange_0 (q := 1) rfl rfl rfl ?_
  refine v_iload_n h (i := 1) dX7_checkRange_1 (q := 2) rfl rfl rfl ?_
  refine v_icmp_lt h dX7_checkRange_2 (q := 5) rfl (tgt := 10) (by decide) (fun c1 => ?_) (fun c1 => ?_)
  · skip
    refine v_throwW h hQ rfl (th_X7_111) (is := 272) (text := "an argument is out of range") (by decide +kernel) rfl dX7_checkRange_10 dX7_checkRange_13 dX7_checkRange_14 dX7_checkRange_17 dX7_checkRange_20 (by decide) (by decide) (by decide) (by decide) (fun sz9 hsz9 => ⟨rfl, hsz9, rfl, rfl, rfl⟩)
  · skip
    refine v_iload_n h (i := 0) dX7_checkRange_5 (q := 6) rfl rfl rfl ?_
    refine v_iload_n h (i := 2) dX7_checkRange_6 (q := 7) rfl rfl rfl ?_
    refine v_icmp_le h dX7_checkRange_7 (q := 10) rfl (tgt := 21) (by decide) (fun c2 => absurd (Int32.le_trans c2 (Int32.le_refl _)) (Int32.not_le.mpr (h1.resolve_left c1))) (fun c2 => ?_)
    refine v_throwW h hQ rfl (th_X7_111) (is := 272) (text := "an argument is out of range") (by decide +kernel) rfl dX7_checkRange_10 dX7_checkRange_13 dX7_checkRange_14 dX7_checkRange_17 dX7_checkRange_20 (by decide) (by decide) (by decide) (by decide) (fun sz9 hsz9 => ⟨rfl, hsz9, rfl, rfl, rfl⟩)
set_option maxHeartbeats 4000000 in
set_option maxRecDepth 100000 in
theorem c_X7_checkTask {l : Launch} (hfl : l.stackTraces = false) {sz : Nat} {sk : pb_Sk} {rf : pb_Rf} {sg : pb_Sg} {t : Nat} (ht : t < 16) : pb_Met l mX7_checkTask 2 0 0 [.int (nI t)] sz sk rf sg (pb_is none sz sk rf sg) := by
  refine pb_start hfl (by decide +kernel) rfl (pb_c1 rfl) (Nat.le_of_ble_eq_true rfl) (fun F hF h hQ => ?_)
  subst hF
  show pv F 0 0 sz sk rf sg 0 [some (.int (nI t))] []
  refine v_iload_n h (i := 0) dX7_checkTask_0 (q := 1) rfl rfl rfl ?_
  refine v_iconst h (v := nI 0) dX7_checkTask_1 (q := 2) rfl (by decide +kernel) ?_
  refine v_bipush h (v := nI 15) dX7_checkTask_2 (q := 4) rfl (by decide +kernel) ?_
  refine v_callS0 h (c_X7_checkRange hfl (nI_le (Nat.zero_le t) (by omega)) (nI_le (show t ≤ 15 by omega) (by decide))) kX7_checkRange rfl tw367 rfl rfl (by simp [Value.category]) (by decide) (Nat.zero_le _) (Nat.zero_le _) rfl dX7_checkTask_4 (q := 7) rfl ?_
  refine v_vret h hQ rfl dX7_checkTask_7 (Nat.zero_le _) (Nat.zero_le _) ⟨rfl, rfl, rfl, rfl, rfl⟩
set_option maxHeartbeats 4000000 in
set_option maxRecDepth 100000 in
theorem x_X7_checkTask {l : Launch} (hfl : l.stackTraces = false) {sz : Nat} {sk : pb_Sk} {rf : pb_Rf} {sg : pb_Sg} {x : Int32} (hx : x < nI 0 ∨ nI 15 < x) : pb_Met l mX7_checkTask 7 1 6 [.int x] sz sk rf sg (pb_thr "java/lang/IllegalArgumentException" sz sk rf sg) := by
  refine pb_start hfl (by decide +kernel) rfl (pb_c1 rfl) (Nat.le_of_ble_eq_true rfl) (fun F hF h hQ => ?_)
  subst hF
  show pv F 0 0 sz sk rf sg 0 [some (.int x)] []
  refine v_iload_n h (i := 0) dX7_checkTask_0 (q := 1) rfl rfl rfl ?_
  refine v_iconst h (v := nI 0) dX7_checkTask_1 (q := 2) rfl (by decide +kernel) ?_
  refine v_bipush h (v := nI 15) dX7_checkTask_2 (q := 4) rfl (by decide +kernel) ?_
  refine v_callSx h (x_X7_checkRange hfl hx) kX7_checkRange rfl tw367 rfl rfl (by simp [Value.category]) (by decide) (by decide) (by decide) rfl dX7_checkTask_4 (q := 7) rfl ?_
  intro sz9 hsz9
  exact v_out h hQ rfl (by decide) (by decide) ⟨rfl, hsz9, rfl, rfl, rfl⟩
set_option maxHeartbeats 4000000 in
set_option maxRecDepth 100000 in
theorem c_X4_has {l : Launch} (hfl : l.stackTraces = false) {sz : Nat} {sk : pb_Sk} {rf : pb_Rf} {sg : pb_Sg} {p t : Nat} (hp : pb_plan sk rf p) (ht : t < 16) : pb_Met l mX4_has 1 0 0 [.ref p, .int (nI t)] sz sk rf sg (pb_is (some (.int (pb_b (pb_has (sg (p + 1)) t)))) sz sk rf sg) := by
  refine pb_start hfl (by decide +kernel) rfl (pb_c1 rfl) (Nat.le_of_ble_eq_true rfl) (fun F hF h hQ => ?_)
  subst hF
  show pv F 0 0 sz sk rf sg 0 [some (.ref p), some (.int (nI t))] []
  obtain ⟨hp0, hp1, hp2, hp3, hp4, hp5, hp6, hp7, hp8⟩ := id hp
  refine v_aload_n h (i := 0) dX4_has_0 (q := 1) rfl rfl rfl ?_
  refine v_getr h fl_X4_9 (by assumption) rfl (by assumption) dX4_has_1 (q := 4) rfl ?_
  refine v_iload_n h (i := 1) dX4_has_4 (q := 5) rfl rfl rfl ?_
  refine v_iald h (by assumption) rfl (by first | assumption | omega) (by decide) dX4_has_5 (q := 6) rfl ?_
  refine v_if_le h dX4_has_6 (q := 9) rfl (tgt := 13) (by decide) (fun c1 => ?_) (fun c1 => ?_)
  · skip
    have e14 : pb_b (pb_has (sg (p + 1)) t) = nI 0 := by unfold pb_has; rw [decide_eq_false (Int32.not_lt.mpr c1)]; rfl
    refine v_iconst h (v := nI 0) dX4_has_13 (q := 14) rfl (by decide +kernel) ?_
    refine v_iret h hQ rfl (by first | exact rfl | exact pb_b_nar _) dX4_has_14 (Nat.zero_le _) (Nat.zero_le _) ⟨by rw [e14], rfl, rfl, rfl, rfl⟩
  · skip
    have e14 : pb_b (pb_has (sg (p + 1)) t) = nI 1 := by unfold pb_has; rw [decide_eq_true (Int32.not_le.mp c1)]; rfl
    refine v_iconst h (v := nI 1) dX4_has_9 (q := 10) rfl (by decide +kernel) ?_
    refine v_goto h dX4_has_10 (tgt := 14) (by decide) ?_
    refine v_iret h hQ rfl (by first | exact rfl | exact pb_b_nar _) dX4_has_14 (Nat.zero_le _) (Nat.zero_le _) ⟨by rw [e14], rfl, rfl, rfl, rfl⟩
def pb_put (sg : pb_Sg) (p t : Nat) (a b c e : Int32) : pb_Sg := pb_up (pb_up (pb_up (pb_up sg (p + 1) t a) (p + 2) t b) (p + 3) t c) (p + 4) t e
set_option maxHeartbeats 4000000 in
set_option maxRecDepth 100000 in
theorem c_X4_put {l : Launch} (hfl : l.stackTraces = false) {sz : Nat} {sk : pb_Sk} {rf : pb_Rf} {sg : pb_Sg} {p t : Nat} {a b c e : Int32} (hp : pb_plan sk rf p) (ht : t < 16) : pb_Met l mX4_put 1 0 0 [.ref p, .int (nI t), .int a, .int b, .int c, .int e] sz sk rf sg (pb_is none sz sk rf (pb_put sg p t a b c e)) := by
  refine pb_start hfl (by decide +kernel) rfl (pb_c1 rfl) (Nat.le_of_ble_eq_true rfl) (fun F hF h hQ => ?_)
  subst hF
  show pv F 0 0 sz sk rf sg 0 [some (.ref p), some (.int (nI t)), some (.int a), some (.int b), some (.int c), some (.int e)] []
  obtain ⟨hp0, hp1, hp2, hp3, hp4, hp5, hp6, hp7, hp8⟩ := id hp
  refine v_aload_n h (i := 0) dX4_put_0 (q := 1) rfl rfl rfl ?_
  refine v_getr h fl_X4_9 (by assumption) rfl (by assumption) dX4_put_1 (q := 4) rfl ?_
  refine v_iload_n h (i := 1) dX4_put_4 (q := 5) rfl rfl rfl ?_
  refine v_iload_n h (i := 2) dX4_put_5 (q := 6) rfl rfl rfl ?_
  refine v_iast h (by assumption) rfl (by first | assumption | omega) (by decide) dX4_put_6 (q := 7) rfl ?_
  refine v_aload_n h (i := 0) dX4_put_7 (q := 8) rfl rfl rfl ?_
  refine v_getr h fl_X4_15 (by assumption) rfl (by assumption) dX4_put_8 (q := 11) rfl ?_
  refine v_iload_n h (i := 1) dX4_put_11 (q := 12) rfl rfl rfl ?_
  refine v_iload_n h (i := 3) dX4_put_12 (q := 13) rfl rfl rfl ?_
  refine v_iast h (by assumption) rfl (by first | assumption | omega) (by decide) dX4_put_13 (q := 14) rfl ?_
  refine v_aload_n h (i := 0) dX4_put_14 (q := 15) rfl rfl rfl ?_
  refine v_getr h fl_X4_18 (by assumption) rfl (by assumption) dX4_put_15 (q := 18) rfl ?_
  refine v_iload_n h (i := 1) dX4_put_18 (q := 19) rfl rfl rfl ?_
  refine v_iload h dX4_put_19 (q := 21) rfl rfl ?_
  refine v_iast h (by assumption) rfl (by first | assumption | omega) (by decide) dX4_put_21 (q := 22) rfl ?_
  refine v_aload_n h (i := 0) dX4_put_22 (q := 23) rfl rfl rfl ?_
  refine v_getr h fl_X4_21 (by assumption) rfl (by assumption) dX4_put_23 (q := 26) rfl ?_
  refine v_iload_n h (i := 1) dX4_put_26 (q := 27) rfl rfl rfl ?_
  refine v_iload h dX4_put_27 (q := 29) rfl rfl ?_
  refine v_iast h (by assumption) rfl (by first | assumption | omega) (by decide) dX4_put_29 (q := 30) rfl ?_
  refine v_vret h hQ rfl dX4_put_30 (Nat.zero_le _) (Nat.zero_le _) ⟨rfl, rfl, rfl, rfl, rfl⟩
set_option maxHeartbeats 4000000 in
set_option maxRecDepth 100000 in
theorem c_X4_clear {l : Launch} (hfl : l.stackTraces = false) {sz : Nat} {sk : pb_Sk} {rf : pb_Rf} {sg : pb_Sg} {p t : Nat} (hp : pb_plan sk rf p) (ht : t < 16) : pb_Met l mX4_clear 2 0 0 [.ref p, .int (nI t)] sz sk rf sg (pb_is none sz sk rf (pb_put sg p t (nI 0) (-1) (nI 0) (nI 0))) := by
  refine pb_start hfl (by decide +kernel) rfl (pb_c1 rfl) (Nat.le_of_ble_eq_true rfl) (fun F hF h hQ => ?_)
  subst hF
  show pv F 0 0 sz sk rf sg 0 [some (.ref p), some (.int (nI t))] []
  obtain ⟨hp0, hp1, hp2, hp3, hp4, hp5, hp6, hp7, hp8⟩ := id hp
  refine v_aload_n h (i := 0) dX4_clear_0 (q := 1) rfl rfl rfl ?_
  refine v_iload_n h (i := 1) dX4_clear_1 (q := 2) rfl rfl rfl ?_
  refine v_iconst h (v := nI 0) dX4_clear_2 (q := 3) rfl (by decide +kernel) ?_
  refine v_iconst h (v := (-1)) dX4_clear_3 (q := 4) rfl (by decide +kernel) ?_
  refine v_iconst h (v := nI 0) dX4_clear_4 (q := 5) rfl (by decide +kernel) ?_
  refine v_iconst h (v := nI 0) dX4_clear_5 (q := 6) rfl (by decide +kernel) ?_
  refine v_callV0 h (c_X4_put hfl hp ht) kX4_put tw434 tw396 (by assumption) (by decide) rfl rfl rfl (by simp [Value.category]) (by decide) (Nat.zero_le _) (Nat.zero_le _) rfl dX4_clear_6 (q := 9) rfl ?_
  refine v_vret h hQ rfl dX4_clear_9 (Nat.zero_le _) (Nat.zero_le _) ⟨rfl, rfl, rfl, rfl, rfl⟩
def pb_take (sg : pb_Sg) (p r t : Nat) : pb_Sg := pb_put sg p t (sg (r + 1) t) (sg (r + 2) t) (sg (r + 3) t) (sg (r + 4) t)
set_option maxHeartbeats 4000000 in
set_option maxRecDepth 100000 in
theorem c_X4_take {l : Launch} (hfl : l.stackTraces = false) {sz : Nat} {sk : pb_Sk} {rf : pb_Rf} {sg : pb_Sg} {p r t : Nat} (hp : pb_plan sk rf p) (hr : pb_plan sk rf r) (ht : t < 16) : pb_Met l mX4_take 2 0 0 [.ref p, .ref r, .int (nI t)] sz sk rf sg (pb_is none sz sk rf (pb_take sg p r t)) := by
  refine pb_start hfl (by decide +kernel) rfl (pb_c1 rfl) (Nat.le_of_ble_eq_true rfl) (fun F hF h hQ => ?_)
  subst hF
  show pv F 0 0 sz sk rf sg 0 [some (.ref p), some (.ref r), some (.int (nI t))] []
  obtain ⟨hp0, hp1, hp2, hp3, hp4, hp5, hp6, hp7, hp8⟩ := id hp
  obtain ⟨hr0, hr1, hr2, hr3, hr4, hr5, hr6, hr7, hr8⟩ := id hr
  refine v_aload_n h (i := 0) dX4_take_0 (q := 1) rfl rfl rfl ?_
  refine v_iload_n h (i := 2) dX4_take_1 (q := 2) rfl rfl rfl ?_
  refine v_aload_n h (i := 1) dX4_take_2 (q := 3) rfl rfl rfl ?_
  refine v_getr h fl_X4_9 (by assumption) rfl (by assumption) dX4_take_3 (q := 6) rfl ?_
  refine v_iload_n h (i := 2) dX4_take_6 (q := 7) rfl rfl rfl ?_
  refine v_iald h (by assumption) rfl (by first | assumption | omega) (by decide) dX4_take_7 (q := 8) rfl ?_
  refine v_aload_n h (i := 1) dX4_take_8 (q := 9) rfl rfl rfl ?_
  refine v_getr h fl_X4_15 (by assumption) rfl (by assumption) dX4_take_9 (q := 12) rfl ?_
  refine v_iload_n h (i := 2) dX4_take_12 (q := 13) rfl rfl rfl ?_
  refine v_iald h (by assumption) rfl (by first | assumption | omega) (by decide) dX4_take_13 (q := 14) rfl ?_
  refine v_aload_n h (i := 1) dX4_take_14 (q := 15) rfl rfl rfl ?_
  refine v_getr h fl_X4_18 (by assumption) rfl (by assumption) dX4_take_15 (q := 18) rfl ?_
  refine v_iload_n h (i := 2) dX4_take_18 (q := 19) rfl rfl rfl ?_
  refine v_iald h (by assumption) rfl (by first | assumption | omega) (by decide) dX4_take_19 (q := 20) rfl ?_
  refine v_aload_n h (i := 1) dX4_take_20 (q := 21) rfl rfl rfl ?_
  refine v_getr h fl_X4_21 (by assumption) rfl (by assumption) dX4_take_21 (q := 24) rfl ?_
  refine v_iload_n h (i := 2) dX4_take_24 (q := 25) rfl rfl rfl ?_
  refine v_iald h (by assumption) rfl (by first | assumption | omega) (by decide) dX4_take_25 (q := 26) rfl ?_
  refine v_callV0 h (c_X4_put hfl hp ht) kX4_put tw434 tw396 (by assumption) (by decide) rfl rfl rfl (by simp [Value.category]) (by decide) (Nat.zero_le _) (Nat.zero_le _) rfl dX4_take_26 (q := 29) rfl ?_
  refine v_vret h hQ rfl dX4_take_29 (Nat.zero_le _) (Nat.zero_le _) ⟨rfl, rfl, rfl, rfl, rfl⟩
def pb_wk : List (Option Value) → List (Option Value) → Prop
  | [], [] => True
  | none :: a, _ :: b => pb_wk a b
  | some v :: a, w :: b => w = some v ∧ pb_wk a b
  | _, _ => False
theorem pb_wk_ok : ∀ (L' L : List (Option Value)), pb_wk L' L → L'.length = L.length ∧ ∀ (i : Nat) (v : Value), L'[i]? = some (some v) → L[i]? = some (some v)
  | [], [], _ => ⟨rfl, fun i v h => h⟩
  | [], _ :: _, h => False.elim h
  | _ :: _, [], h => by
    rename_i x y
    cases x <;> exact False.elim h
  | none :: a, w :: b, h => by
    obtain ⟨h1, h2⟩ := pb_wk_ok a b h
    refine ⟨by simp [h1], fun i v hi => ?_⟩
    cases i with
    | zero => simp at hi
    | succ i => simpa using h2 i v (by simpa using hi)
  | some u :: a, w :: b, h => by
    obtain ⟨h0, h⟩ := h
    obtain ⟨h1, h2⟩ := pb_wk_ok a b h
    refine ⟨by simp [h1], fun i v hi => ?_⟩
    cases i with
    | zero => subst h0; simpa using hi
    | succ i => simpa using h2 i v (by simpa using hi)
theorem v_wk {F : pb_F} {cells slots sz : Nat} {sk : pb_Sk} {rf : pb_Rf} {sg : pb_Sg} {pc : Nat} {L : List (Option Value)} {st : List Value} {L' : List (Option Value)} (hw : pb_wk L' L) (kk : pv F cells slots sz sk rf sg pc L' st) : pv F cells slots sz sk rf sg pc L st := v_weak (pb_wk_ok L' L hw).1 (pb_wk_ok L' L hw).2 kk
set_option maxHeartbeats 4000000 in
set_option maxRecDepth 100000 in
theorem c_X4_same {l : Launch} (hfl : l.stackTraces = false) {sz : Nat} {sk : pb_Sk} {rf : pb_Rf} {sg : pb_Sg} {p r t : Nat} (hp : pb_plan sk rf p) (hr : pb_plan sk rf r) (ht : t < 16) : pb_Met l mX4_same 1 0 0 [.ref p, .ref r, .int (nI t)] sz sk rf sg (pb_is (some (.int (pb_b (pb_same sg p r t)))) sz sk rf sg) := by
  refine pb_start hfl (by decide +kernel) rfl (pb_c1 rfl) (Nat.le_of_ble_eq_true rfl) (fun F hF h hQ => ?_)
  subst hF
  show pv F 0 0 sz sk rf sg 0 [some (.ref p), some (.ref r), some (.int (nI t))] []
  obtain ⟨hp0, hp1, hp2, hp3, hp4, hp5, hp6, hp7, hp8⟩ := id hp
  obtain ⟨hr0, hr1, hr2, hr3, hr4, hr5, hr6, hr7, hr8⟩ := id hr
  refine v_aload_n h (i := 0) dX4_same_0 (q := 1) rfl rfl rfl ?_
  refine v_getr h fl_X4_9 (by assumption) rfl (by assumption) dX4_same_1 (q := 4) rfl ?_
  refine v_iload_n h (i := 2) dX4_same_4 (q := 5) rfl rfl rfl ?_
  refine v_iald h (by assumption) rfl (by first | assumption | omega) (by decide) dX4_same_5 (q := 6) rfl ?_
  refine v_aload_n h (i := 1) dX4_same_6 (q := 7) rfl rfl rfl ?_
  refine v_getr h fl_X4_9 (by assumption) rfl (by assumption) dX4_same_7 (q := 10) rfl ?_
  refine v_iload_n h (i := 2) dX4_same_10 (q := 11) rfl rfl rfl ?_
  refine v_iald h (by assumption) rfl (by first | assumption | omega) (by decide) dX4_same_11 (q := 12) rfl ?_
  refine v_icmp_ne h dX4_same_12 (q := 15) rfl (tgt := 64) (by decide) (fun c1 => ?_) (fun c1 => ?_)
  · skip
    have e65 : pb_b (pb_same sg p r t) = nI 0 := by unfold pb_same; rw [decide_eq_false (fun q => c1 q.1)]; rfl
    refine v_iconst h (v := nI 0) dX4_same_64 (q := 65) rfl (by decide +kernel) ?_
    refine v_iret h hQ rfl (by first | exact rfl | exact pb_b_nar _) dX4_same_65 (Nat.zero_le _) (Nat.zero_le _) ⟨by rw [e65], rfl, rfl, rfl, rfl⟩
  · skip
    refine v_aload_n h (i := 0) dX4_same_15 (q := 16) rfl rfl rfl ?_
    refine v_getr h fl_X4_15 (by assumption) rfl (by assumption) dX4_same_16 (q := 19) rfl ?_
    refine v_iload_n h (i := 2) dX4_same_19 (q := 20) rfl rfl rfl ?_
    refine v_iald h (by assumption) rfl (by first | assumption | omega) (by decide) dX4_same_20 (q := 21) rfl ?_
    refine v_aload_n h (i := 1) dX4_same_21 (q := 22) rfl rfl rfl ?_
    refine v_getr h fl_X4_15 (by assumption) rfl (by assumption) dX4_same_22 (q := 25) rfl ?_
    refine v_iload_n h (i := 2) dX4_same_25 (q := 26) rfl rfl rfl ?_
    refine v_iald h (by assumption) rfl (by first | assumption | omega) (by decide) dX4_same_26 (q := 27) rfl ?_
    refine v_icmp_ne h dX4_same_27 (q := 30) rfl (tgt := 64) (by decide) (fun c2 => ?_) (fun c2 => ?_)
    · skip
      have e65 : pb_b (pb_same sg p r t) = nI 0 := by unfold pb_same; rw [decide_eq_false (fun q => c2 q.2.1)]; rfl
      refine v_iconst h (v := nI 0) dX4_same_64 (q := 65) rfl (by decide +kernel) ?_
      refine v_iret h hQ rfl (by first | exact rfl | exact pb_b_nar _) dX4_same_65 (Nat.zero_le _) (Nat.zero_le _) ⟨by rw [e65], rfl, rfl, rfl, rfl⟩
    · skip
      refine v_aload_n h (i := 0) dX4_same_30 (q := 31) rfl rfl rfl ?_
      refine v_getr h fl_X4_18 (by assumption) rfl (by assumption) dX4_same_31 (q := 34) rfl ?_
      refine v_iload_n h (i := 2) dX4_same_34 (q := 35) rfl rfl rfl ?_
      refine v_iald h (by assumption) rfl (by first | assumption | omega) (by decide) dX4_same_35 (q := 36) rfl ?_
      refine v_aload_n h (i := 1) dX4_same_36 (q := 37) rfl rfl rfl ?_
      refine v_getr h fl_X4_18 (by assumption) rfl (by assumption) dX4_same_37 (q := 40) rfl ?_
      refine v_iload_n h (i := 2) dX4_same_40 (q := 41) rfl rfl rfl ?_
      refine v_iald h (by assumption) rfl (by first | assumption | omega) (by decide) dX4_same_41 (q := 42) rfl ?_
      refine v_icmp_ne h dX4_same_42 (q := 45) rfl (tgt := 64) (by decide) (fun c3 => ?_) (fun c3 => ?_)
      · skip
        have e65 : pb_b (pb_same sg p r t) = nI 0 := by unfold pb_same; rw [decide_eq_false (fun q => c3 q.2.2.1)]; rfl
        refine v_iconst h (v := nI 0) dX4_same_64 (q := 65) rfl (by decide +kernel) ?_
        refine v_iret h hQ rfl (by first | exact rfl | exact pb_b_nar _) dX4_same_65 (Nat.zero_le _) (Nat.zero_le _) ⟨by rw [e65], rfl, rfl, rfl, rfl⟩
      · skip
        refine v_aload_n h (i := 0) dX4_same_45 (q := 46) rfl rfl rfl ?_
        refine v_getr h fl_X4_21 (by assumption) rfl (by assumption) dX4_same_46 (q := 49) rfl ?_
        refine v_iload_n h (i := 2) dX4_same_49 (q := 50) rfl rfl rfl ?_
        refine v_iald h (by assumption) rfl (by first | assumption | omega) (by decide) dX4_same_50 (q := 51) rfl ?_
        refine v_aload_n h (i := 1) dX4_same_51 (q := 52) rfl rfl rfl ?_
        refine v_getr h fl_X4_21 (by assumption) rfl (by assumption) dX4_same_52 (q := 55) rfl ?_
        refine v_iload_n h (i := 2) dX4_same_55 (q := 56) rfl rfl rfl ?_
        refine v_iald h (by assumption) rfl (by first | assumption | omega) (by decide) dX4_same_56 (q := 57) rfl ?_
        refine v_icmp_ne h dX4_same_57 (q := 60) rfl (tgt := 64) (by decide) (fun c4 => ?_) (fun c4 => ?_)
        · skip
          have e65 : pb_b (pb_same sg p r t) = nI 0 := by unfold pb_same; rw [decide_eq_false (fun q => c4 q.2.2.2)]; rfl
          refine v_iconst h (v := nI 0) dX4_same_64 (q := 65) rfl (by decide +kernel) ?_
          refine v_iret h hQ rfl (by first | exact rfl | exact pb_b_nar _) dX4_same_65 (Nat.zero_le _) (Nat.zero_le _) ⟨by rw [e65], rfl, rfl, rfl, rfl⟩
        · skip
          have e65 : pb_b (pb_same sg p r t) = nI 1 := by unfold pb_same; rw [decide_eq_true ⟨c1, c2, c3, c4⟩]; rfl
          refine v_iconst h (v := nI 1) dX4_same_60 (q := 61) rfl (by decide +kernel) ?_
          refine v_goto h dX4_same_61 (tgt := 65) (by decide) ?_
          refine v_iret h hQ rfl (by first | exact rfl | exact pb_b_nar _) dX4_same_65 (Nat.zero_le _) (Nat.zero_le _) ⟨by rw [e65], rfl, rfl, rfl, rfl⟩
def pb_copyN (sg : pb_Sg) (p r : Nat) : Nat → pb_Sg
  | 0 => sg
  | n + 1 => pb_take (pb_copyN sg p r n) p r n
set_option maxHeartbeats 4000000 in
set_option maxRecDepth 100000 in
theorem c_X4_copyFrom {l : Launch} (hfl : l.stackTraces = false) {sz : Nat} {sk : pb_Sk} {rf : pb_Rf} {sg : pb_Sg} {p r : Nat} (hp : pb_plan sk rf p) (hr : pb_plan sk rf r) : pb_Met l mX4_copyFrom 3 0 0 [.ref p, .ref r] sz sk rf sg (pb_is none sz sk rf (pb_copyN sg p r 16)) := by
  refine pb_start hfl (by decide +kernel) rfl (pb_c1 rfl) (Nat.le_of_ble_eq_true rfl) (fun F hF h hQ => ?_)
  subst hF
  show pv F 0 0 sz sk rf sg 0 [some (.ref p), some (.ref r), none] []
  obtain ⟨hp0, hp1, hp2, hp3, hp4, hp5, hp6, hp7, hp8⟩ := id hp
  refine v_iconst h (v := nI 0) dX4_copyFrom_0 (q := 1) rfl (by decide +kernel) ?_
  refine v_istore_n h (i := 2) dX4_copyFrom_1 (q := 2) rfl rfl (Nat.le_of_ble_eq_true rfl) rfl ?_
  have lp : ∀ (j i : Nat), i + j = 16 → pv F 0 0 sz sk rf (pb_copyN sg p r i) 2 [some (.ref p), some (.ref r), some (.int (nI i))] [] := by
    intro j
    induction j with
    | zero =>
      intro i  hi
      obtain rfl : i = 16 := by omega
      refine v_iload_n h (i := 2) dX4_copyFrom_2 (q := 3) rfl rfl rfl ?_
      refine v_bipush h (v := nI 16) dX4_copyFrom_3 (q := 5) rfl (by decide +kernel) ?_
      refine v_icmp_ge h dX4_copyFrom_5 (q := 8) rfl (tgt := 20) (by decide) (fun c1 => ?_) (fun c1 => pb_kle (Nat.le_refl _) (by decide) c1)
      refine v_vret h hQ rfl dX4_copyFrom_20 (Nat.zero_le _) (Nat.zero_le _) ⟨rfl, rfl, rfl, rfl, rfl⟩
    | succ j ih =>
      intro i  hi
      have hi2 : i < 16 := by omega
      refine v_iload_n h (i := 2) dX4_copyFrom_2 (q := 3) rfl rfl rfl ?_
      refine v_bipush h (v := nI 16) dX4_copyFrom_3 (q := 5) rfl (by decide +kernel) ?_
      refine v_icmp_ge h dX4_copyFrom_5 (q := 8) rfl (tgt := 20) (by decide) (fun c2 => pb_kge hi2 (by decide) c2) (fun c2 => ?_)
      refine v_aload_n h (i := 0) dX4_copyFrom_8 (q := 9) rfl rfl rfl ?_
      refine v_aload_n h (i := 1) dX4_copyFrom_9 (q := 10) rfl rfl rfl ?_
      refine v_iload_n h (i := 2) dX4_copyFrom_10 (q := 11) rfl rfl rfl ?_
      refine v_callV0 h (c_X4_take hfl hp hr hi2) kX4_take tw519 tw521 (by assumption) (by decide) rfl rfl rfl (by simp [Value.category]) (by decide) (Nat.zero_le _) (Nat.zero_le _) rfl dX4_copyFrom_11 (q := 14) rfl ?_
      refine v_iinc h dX4_copyFrom_14 (q := 17) rfl rfl pb_inc rfl ?_
      refine v_goto h dX4_copyFrom_17 (tgt := 2) (by decide) ?_
      exact ih (i + 1) (by omega)
  exact lp 16 0 (by omega)
set_option maxHeartbeats 4000000 in
set_option maxRecDepth 100000 in
theorem c_X4_present {l : Launch} (hfl : l.stackTraces = false) {sz : Nat} {sk : pb_Sk} {rf : pb_Rf} {sg : pb_Sg} {p : Nat} (hp : pb_plan sk rf p) : pb_Met l mX4_present 2 0 0 [.ref p] sz sk rf sg (pb_is (some (.int (pb_pres (sg (p + 1))))) sz sk rf sg) := by
  refine pb_start hfl (by decide +kernel) rfl (pb_c1 rfl) (Nat.le_of_ble_eq_true rfl) (fun F hF h hQ => ?_)
  subst hF
  show pv F 0 0 sz sk rf sg 0 [some (.ref p), none, none] []
  obtain ⟨hp0, hp1, hp2, hp3, hp4, hp5, hp6, hp7, hp8⟩ := id hp
  refine v_iconst h (v := nI 0) dX4_present_0 (q := 1) rfl (by decide +kernel) ?_
  refine v_istore_n h (i := 1) dX4_present_1 (q := 2) rfl rfl (Nat.le_of_ble_eq_true rfl) rfl ?_
  refine v_iconst h (v := nI 0) dX4_present_2 (q := 3) rfl (by decide +kernel) ?_
  refine v_istore_n h (i := 2) dX4_present_3 (q := 4) rfl rfl (Nat.le_of_ble_eq_true rfl) rfl ?_
  have lp : ∀ (j i : Nat), i + j = 16 → pv F 0 0 sz sk rf sg 4 [some (.ref p), some (.int (pb_set (pb_has (sg (p + 1))) i)), some (.int (nI i))] [] := by
    intro j
    induction j with
    | zero =>
      intro i  hi
      obtain rfl : i = 16 := by omega
      refine v_iload_n h (i := 2) dX4_present_4 (q := 5) rfl rfl rfl ?_
      refine v_bipush h (v := nI 16) dX4_present_5 (q := 7) rfl (by decide +kernel) ?_
      refine v_icmp_ge h dX4_present_7 (q := 10) rfl (tgt := 30) (by decide) (fun c1 => ?_) (fun c1 => pb_kle (Nat.le_refl _) (by decide) c1)
      refine v_iload_n h (i := 1) dX4_present_30 (q := 31) rfl rfl rfl ?_
      refine v_iret h hQ rfl rfl dX4_present_31 (Nat.zero_le _) (Nat.zero_le _) ⟨rfl, rfl, rfl, rfl, rfl⟩
    | succ j ih =>
      intro i  hi
      have hi2 : i < 16 := by omega
      refine v_iload_n h (i := 2) dX4_present_4 (q := 5) rfl rfl rfl ?_
      refine v_bipush h (v := nI 16) dX4_present_5 (q := 7) rfl (by decide +kernel) ?_
      refine v_icmp_ge h dX4_present_7 (q := 10) rfl (tgt := 30) (by decide) (fun c2 => pb_kge hi2 (by decide) c2) (fun c2 => ?_)
      refine v_aload_n h (i := 0) dX4_present_10 (q := 11) rfl rfl rfl ?_
      refine v_iload_n h (i := 2) dX4_present_11 (q := 12) rfl rfl rfl ?_
      refine v_callV1 h (c_X4_has hfl hp hi2) kX4_has tw474 tw388 (by assumption) (by decide) rfl rfl rfl (by simp [Value.category]) (by decide) (Nat.zero_le _) (Nat.zero_le _) rfl dX4_present_12 (q := 15) rfl ?_
      refine v_if_eq h dX4_present_15 (q := 18) rfl (tgt := 24) (by decide) (fun c3 => ?_) (fun c3 => ?_)
      · skip
        have e8 := pb_b_0.mp c3
        have e9 := pb_set_f (c := (pb_has (sg (p + 1)))) e8
        refine v_iinc h dX4_present_24 (q := 27) rfl rfl pb_inc rfl ?_
        refine v_goto h dX4_present_27 (tgt := 4) (by decide) ?_
        have h9 := ih (i + 1) (by omega)
        rw [e9] at h9
        exact h9
      · skip
        have e8 := pb_ne_f (fun q => c3 (pb_b_0.mpr q))
        have e9 := pb_set_t (c := (pb_has (sg (p + 1)))) e8
        refine v_iload_n h (i := 1) dX4_present_18 (q := 19) rfl rfl rfl ?_
        refine v_iconst h (v := nI 1) dX4_present_19 (q := 20) rfl (by decide +kernel) ?_
        refine v_iload_n h (i := 2) dX4_present_20 (q := 21) rfl rfl rfl ?_
        refine v_ishl h dX4_present_21 (q := 22) rfl ?_
        refine v_ior h dX4_present_22 (q := 23) rfl ?_
        refine v_istore_n h (i := 1) dX4_present_23 (q := 24) rfl rfl (Nat.le_of_ble_eq_true rfl) rfl ?_
        refine v_iinc h dX4_present_24 (q := 27) rfl rfl pb_inc rfl ?_
        refine v_goto h dX4_present_27 (tgt := 4) (by decide) ?_
        have h9 := ih (i + 1) (by omega)
        rw [e9] at h9
        exact h9
  exact lp 16 0 (by omega)
def pb_cost (sg : pb_Sg) (p : Nat) : Int32 := pb_sum (fun t => sg (p + 1) t * sg (p + 3) t) 16
set_option maxHeartbeats 4000000 in
set_option maxRecDepth 100000 in
theorem c_X4_totalCost {l : Launch} (hfl : l.stackTraces = false) {sz : Nat} {sk : pb_Sk} {rf : pb_Rf} {sg : pb_Sg} {p : Nat} (hp : pb_plan sk rf p) : pb_Met l mX4_totalCost 1 0 0 [.ref p] sz sk rf sg (pb_is (some (.int (pb_cost sg p))) sz sk rf sg) := by
  refine pb_start hfl (by decide +kernel) rfl (pb_c1 rfl) (Nat.le_of_ble_eq_true rfl) (fun F hF h hQ => ?_)
  subst hF
  show pv F 0 0 sz sk rf sg 0 [some (.ref p), none, none] []
  obtain ⟨hp0, hp1, hp2, hp3, hp4, hp5, hp6, hp7, hp8⟩ := id hp
  refine v_iconst h (v := nI 0) dX4_totalCost_0 (q := 1) rfl (by decide +kernel) ?_
  refine v_istore_n h (i := 1) dX4_totalCost_1 (q := 2) rfl rfl (Nat.le_of_ble_eq_true rfl) rfl ?_
  refine v_iconst h (v := nI 0) dX4_totalCost_2 (q := 3) rfl (by decide +kernel) ?_
  refine v_istore_n h (i := 2) dX4_totalCost_3 (q := 4) rfl rfl (Nat.le_of_ble_eq_true rfl) rfl ?_
  have lp : ∀ (j i : Nat), i + j = 16 → pv F 0 0 sz sk rf sg 4 [some (.ref p), some (.int (pb_sum (fun t => sg (p + 1) t * sg (p + 3) t) i)), some (.int (nI i))] [] := by
    intro j
    induction j with
    | zero =>
      intro i  hi
      obtain rfl : i = 16 := by omega
      refine v_iload_n h (i := 2) dX4_totalCost_4 (q := 5) rfl rfl rfl ?_
      refine v_bipush h (v := nI 16) dX4_totalCost_5 (q := 7) rfl (by decide +kernel) ?_
      refine v_icmp_ge h dX4_totalCost_7 (q := 10) rfl (tgt := 32) (by decide) (fun c1 => ?_) (fun c1 => pb_kle (Nat.le_refl _) (by decide) c1)
      refine v_iload_n h (i := 1) dX4_totalCost_32 (q := 33) rfl rfl rfl ?_
      refine v_iret h hQ rfl rfl dX4_totalCost_33 (Nat.zero_le _) (Nat.zero_le _) ⟨rfl, rfl, rfl, rfl, rfl⟩
    | succ j ih =>
      intro i  hi
      have hi2 : i < 16 := by omega
      refine v_iload_n h (i := 2) dX4_totalCost_4 (q := 5) rfl rfl rfl ?_
      refine v_bipush h (v := nI 16) dX4_totalCost_5 (q := 7) rfl (by decide +kernel) ?_
      refine v_icmp_ge h dX4_totalCost_7 (q := 10) rfl (tgt := 32) (by decide) (fun c2 => pb_kge hi2 (by decide) c2) (fun c2 => ?_)
      refine v_iload_n h (i := 1) dX4_totalCost_10 (q := 11) rfl rfl rfl ?_
      refine v_aload_n h (i := 0) dX4_totalCost_11 (q := 12) rfl rfl rfl ?_
      refine v_getr h fl_X4_9 (by assumption) rfl (by assumption) dX4_totalCost_12 (q := 15) rfl ?_
      refine v_iload_n h (i := 2) dX4_totalCost_15 (q := 16) rfl rfl rfl ?_
      refine v_iald h (by assumption) rfl (by first | assumption | omega) (by decide) dX4_totalCost_16 (q := 17) rfl ?_
      refine v_aload_n h (i := 0) dX4_totalCost_17 (q := 18) rfl rfl rfl ?_
      refine v_getr h fl_X4_18 (by assumption) rfl (by assumption) dX4_totalCost_18 (q := 21) rfl ?_
      refine v_iload_n h (i := 2) dX4_totalCost_21 (q := 22) rfl rfl rfl ?_
      refine v_iald h (by assumption) rfl (by first | assumption | omega) (by decide) dX4_totalCost_22 (q := 23) rfl ?_
      refine v_imul h dX4_totalCost_23 (q := 24) rfl ?_
      refine v_iadd h dX4_totalCost_24 (q := 25) rfl ?_
      refine v_istore_n h (i := 1) dX4_totalCost_25 (q := 26) rfl rfl (Nat.le_of_ble_eq_true rfl) rfl ?_
      refine v_iinc h dX4_totalCost_26 (q := 29) rfl rfl pb_inc rfl ?_
      refine v_goto h dX4_totalCost_29 (tgt := 4) (by decide) ?_
      exact ih (i + 1) (by omega)
  exact lp 16 0 (by omega)
set_option maxHeartbeats 4000000 in
set_option maxRecDepth 100000 in
theorem c_X4_countOthers {l : Launch} (hfl : l.stackTraces = false) {sz : Nat} {sk : pb_Sk} {rf : pb_Rf} {sg : pb_Sg} {p r : Nat} (hp : pb_plan sk rf p) (hr : pb_plan sk rf r) : pb_Met l mX4_countOthers 2 0 0 [.ref p, .ref r] sz sk rf sg (pb_is (some (.int (nI (pb_cnt (fun t => !pb_same sg p r t) 16)))) sz sk rf sg) := by
  refine pb_start hfl (by decide +kernel) rfl (pb_c1 rfl) (Nat.le_of_ble_eq_true rfl) (fun F hF h hQ => ?_)
  subst hF
  show pv F 0 0 sz sk rf sg 0 [some (.ref p), some (.ref r), none, none] []
  obtain ⟨hp0, hp1, hp2, hp3, hp4, hp5, hp6, hp7, hp8⟩ := id hp
  refine v_iconst h (v := nI 0) dX4_countOthers_0 (q := 1) rfl (by decide +kernel) ?_
  refine v_istore_n h (i := 2) dX4_countOthers_1 (q := 2) rfl rfl (Nat.le_of_ble_eq_true rfl) rfl ?_
  refine v_iconst h (v := nI 0) dX4_countOthers_2 (q := 3) rfl (by decide +kernel) ?_
  refine v_istore_n h (i := 3) dX4_countOthers_3 (q := 4) rfl rfl (Nat.le_of_ble_eq_true rfl) rfl ?_
  have lp : ∀ (j i : Nat), i + j = 16 → pv F 0 0 sz sk rf sg 4 [some (.ref p), some (.ref r), some (.int (nI (pb_cnt (fun t => !pb_same sg p r t) i))), some (.int (nI i))] [] := by
    intro j
    induction j with
    | zero =>
      intro i  hi
      obtain rfl : i = 16 := by omega
      refine v_iload_n h (i := 3) dX4_countOthers_4 (q := 5) rfl rfl rfl ?_
      refine v_bipush h (v := nI 16) dX4_countOthers_5 (q := 7) rfl (by decide +kernel) ?_
      refine v_icmp_ge h dX4_countOthers_7 (q := 10) rfl (tgt := 28) (by decide) (fun c1 => ?_) (fun c1 => pb_kle (Nat.le_refl _) (by decide) c1)
      refine v_iload_n h (i := 2) dX4_countOthers_28 (q := 29) rfl rfl rfl ?_
      refine v_iret h hQ rfl rfl dX4_countOthers_29 (Nat.zero_le _) (Nat.zero_le _) ⟨rfl, rfl, rfl, rfl, rfl⟩
    | succ j ih =>
      intro i  hi
      have hi2 : i < 16 := by omega
      refine v_iload_n h (i := 3) dX4_countOthers_4 (q := 5) rfl rfl rfl ?_
      refine v_bipush h (v := nI 16) dX4_countOthers_5 (q := 7) rfl (by decide +kernel) ?_
      refine v_icmp_ge h dX4_countOthers_7 (q := 10) rfl (tgt := 28) (by decide) (fun c2 => pb_kge hi2 (by decide) c2) (fun c2 => ?_)
      refine v_aload_n h (i := 0) dX4_countOthers_10 (q := 11) rfl rfl rfl ?_
      refine v_aload_n h (i := 1) dX4_countOthers_11 (q := 12) rfl rfl rfl ?_
      refine v_iload_n h (i := 3) dX4_countOthers_12 (q := 13) rfl rfl rfl ?_
      refine v_callV1 h (c_X4_same hfl hp hr hi2) kX4_same tw685 tw566 (by assumption) (by decide) rfl rfl rfl (by simp [Value.category]) (by decide) (Nat.zero_le _) (Nat.zero_le _) rfl dX4_countOthers_13 (q := 16) rfl ?_
      refine v_if_ne h dX4_countOthers_16 (q := 19) rfl (tgt := 22) (by decide) (fun c3 => ?_) (fun c3 => ?_)
      · skip
        have e8 := pb_ne_f (fun q => c3 (pb_b_0.mpr q))
        have e9 : pb_cnt (fun t => !pb_same sg p r t) (i + 1) = pb_cnt (fun t => !pb_same sg p r t) i := if_neg (by simp [e8])
        refine v_iinc h dX4_countOthers_22 (q := 25) rfl rfl pb_inc rfl ?_
        refine v_goto h dX4_countOthers_25 (tgt := 4) (by decide) ?_
        have h9 := ih (i + 1) (by omega)
        rw [e9] at h9
        exact h9
      · skip
        have e8 := pb_b_0.mp c3
        have e9 : pb_cnt (fun t => !pb_same sg p r t) (i + 1) = pb_cnt (fun t => !pb_same sg p r t) i + 1 := if_pos (by simp [e8])
        refine v_iinc h dX4_countOthers_19 (q := 22) rfl rfl pb_inc rfl ?_
        refine v_iinc h dX4_countOthers_22 (q := 25) rfl rfl pb_inc rfl ?_
        refine v_goto h dX4_countOthers_25 (tgt := 4) (by decide) ?_
        have h9 := ih (i + 1) (by omega)
        rw [e9] at h9
        exact h9
  exact lp 16 0 (by omega)
def pb_nd (sg : pb_Sg) (p t : Nat) : Bool := !decide (pb_set (fun o => pb_in (sg (p + 4) o) t) 16 = 0)
theorem pb_nd_f {sg : pb_Sg} {p t : Nat} : pb_nd sg p t = false ↔ pb_set (fun o => pb_in (sg (p + 4) o) t) 16 = 0 := by
  unfold pb_nd
  cases e : decide (pb_set (fun o => pb_in (sg (p + 4) o) t) 16 = 0)
  · exact ⟨fun q => absurd q (by decide), fun q => absurd q (of_decide_eq_false e)⟩
  · exact ⟨fun _ => of_decide_eq_true e, fun _ => rfl⟩
theorem pb_nd_t {sg : pb_Sg} {p t i : Nat} (hi : i < 16) (h : pb_in (sg (p + 4) i) t = true) : pb_nd sg p t = true := by
  cases e : pb_nd sg p t
  · have e1 := pb_set_in (fun o => pb_in (sg (p + 4) o) t) 16 (by decide) i (by omega)
    rw [pb_nd_f.mp e, decide_eq_true hi] at e1
    have e2 := pb_in_0 i
    rw [show (nI 0 : Int32) = 0 from rfl, e1] at e2
    exact absurd (h.symm.trans e2) (by decide)
  · rfl
set_option maxHeartbeats 4000000 in
set_option maxRecDepth 100000 in
theorem c_X4_isNeeded {l : Launch} (hfl : l.stackTraces = false) {sz : Nat} {sk : pb_Sk} {rf : pb_Rf} {sg : pb_Sg} {p t : Nat} (hp : pb_plan sk rf p) (ht : t < 16) : pb_Met l mX4_isNeeded 2 0 0 [.ref p, .int (nI t)] sz sk rf sg (pb_is (some (.int (pb_b (pb_nd sg p t)))) sz sk rf sg) := by
  refine pb_start hfl (by decide +kernel) rfl (pb_c1 rfl) (Nat.le_of_ble_eq_true rfl) (fun F hF h hQ => ?_)
  subst hF
  show pv F 0 0 sz sk rf sg 0 [some (.ref p), some (.int (nI t)), none] []
  obtain ⟨hp0, hp1, hp2, hp3, hp4, hp5, hp6, hp7, hp8⟩ := id hp
  refine v_iconst h (v := nI 0) dX4_isNeeded_0 (q := 1) rfl (by decide +kernel) ?_
  refine v_istore_n h (i := 2) dX4_isNeeded_1 (q := 2) rfl rfl (Nat.le_of_ble_eq_true rfl) rfl ?_
  have lp : ∀ (j i : Nat), i + j = 16 → pb_set (fun o => pb_in (sg (p + 4) o) t) i = 0 → pv F 0 0 sz sk rf sg 2 [some (.ref p), some (.int (nI t)), some (.int (nI i))] [] := by
    intro j
    induction j with
    | zero =>
      intro i  hi hy0
      obtain rfl : i = 16 := by omega
      have e9 : pb_b (pb_nd sg p t) = nI 0 := by rw [pb_nd_f.mpr hy0]; rfl
      refine v_iload_n h (i := 2) dX4_isNeeded_2 (q := 3) rfl rfl rfl ?_
      refine v_bipush h (v := nI 16) dX4_isNeeded_3 (q := 5) rfl (by decide +kernel) ?_
      refine v_icmp_ge h dX4_isNeeded_5 (q := 8) rfl (tgt := 29) (by decide) (fun c1 => ?_) (fun c1 => pb_kle (Nat.le_refl _) (by decide) c1)
      refine v_iconst h (v := nI 0) dX4_isNeeded_29 (q := 30) rfl (by decide +kernel) ?_
      refine v_iret h hQ rfl (by first | exact rfl | exact pb_b_nar _) dX4_isNeeded_30 (Nat.zero_le _) (Nat.zero_le _) ⟨by rw [e9], rfl, rfl, rfl, rfl⟩
    | succ j ih =>
      intro i  hi hy0
      have hi2 : i < 16 := by omega
      refine v_iload_n h (i := 2) dX4_isNeeded_2 (q := 3) rfl rfl rfl ?_
      refine v_bipush h (v := nI 16) dX4_isNeeded_3 (q := 5) rfl (by decide +kernel) ?_
      refine v_icmp_ge h dX4_isNeeded_5 (q := 8) rfl (tgt := 29) (by decide) (fun c2 => pb_kge hi2 (by decide) c2) (fun c2 => ?_)
      refine v_aload_n h (i := 0) dX4_isNeeded_8 (q := 9) rfl rfl rfl ?_
      refine v_getr h fl_X4_21 (by assumption) rfl (by assumption) dX4_isNeeded_9 (q := 12) rfl ?_
      refine v_iload_n h (i := 2) dX4_isNeeded_12 (q := 13) rfl rfl rfl ?_
      refine v_iald h (by assumption) rfl (by first | assumption | omega) (by decide) dX4_isNeeded_13 (q := 14) rfl ?_
      refine v_iload_n h (i := 1) dX4_isNeeded_14 (q := 15) rfl rfl rfl ?_
      refine v_callSN1 h (c_X7_contains hfl (show t < 32 by omega)) kX7_contains rfl tw426 rfl rfl (by simp [Value.category]) (by decide) (Nat.zero_le _) (Nat.zero_le _) rfl dX4_isNeeded_15 (q := 18) rfl ?_
      refine v_if_eq h dX4_isNeeded_18 (q := 21) rfl (tgt := 23) (by decide) (fun c3 => ?_) (fun c3 => ?_)
      · skip
        have e8 := pb_b_0.mp c3
        have e9 := pb_set_f (c := (fun o => pb_in (sg (p + 4) o) t)) e8
        refine v_iinc h dX4_isNeeded_23 (q := 26) rfl rfl pb_inc rfl ?_
        refine v_goto h dX4_isNeeded_26 (tgt := 2) (by decide) ?_
        exact ih (i + 1) (by omega) (e9.trans hy0)
      · skip
        have e8 := pb_ne_f (fun q => c3 (pb_b_0.mpr q))
        have e9 : pb_b (pb_nd sg p t) = nI 1 := by rw [pb_nd_t hi2 e8]; rfl
        refine v_iconst h (v := nI 1) dX4_isNeeded_21 (q := 22) rfl (by decide +kernel) ?_
        refine v_iret h hQ rfl (by first | exact rfl | exact pb_b_nar _) dX4_isNeeded_22 (Nat.zero_le _) (Nat.zero_le _) ⟨by rw [e9], rfl, rfl, rfl, rfl⟩
  exact lp 16 0 (by omega) rfl
def pb_all (f : Nat → Int32) (t : Nat) : Int32 := pb_it f 16 (f t)
set_option maxHeartbeats 4000000 in
set_option maxRecDepth 100000 in
theorem c_X4_allNeeds {l : Launch} (hfl : l.stackTraces = false) {sz : Nat} {sk : pb_Sk} {rf : pb_Rf} {sg : pb_Sg} {p t : Nat} (hp : pb_plan sk rf p) (ht : t < 16) : pb_Met l mX4_allNeeds 2 0 0 [.ref p, .int (nI t)] sz sk rf sg (pb_is (some (.int (pb_all (sg (p + 4)) t))) sz sk rf sg) := by
  refine pb_start hfl (by decide +kernel) rfl (pb_c1 rfl) (Nat.le_of_ble_eq_true rfl) (fun F hF h hQ => ?_)
  subst hF
  show pv F 0 0 sz sk rf sg 0 [some (.ref p), some (.int (nI t)), none, none, none, none] []
  obtain ⟨hp0, hp1, hp2, hp3, hp4, hp5, hp6, hp7, hp8⟩ := id hp
  refine v_aload_n h (i := 0) dX4_allNeeds_0 (q := 1) rfl rfl rfl ?_
  refine v_getr h fl_X4_21 (by assumption) rfl (by assumption) dX4_allNeeds_1 (q := 4) rfl ?_
  refine v_iload_n h (i := 1) dX4_allNeeds_4 (q := 5) rfl rfl rfl ?_
  refine v_iald h (by assumption) rfl (by first | assumption | omega) (by decide) dX4_allNeeds_5 (q := 6) rfl ?_
  refine v_istore_n h (i := 2) dX4_allNeeds_6 (q := 7) rfl rfl (Nat.le_of_ble_eq_true rfl) rfl ?_
  refine v_iconst h (v := nI 0) dX4_allNeeds_7 (q := 8) rfl (by decide +kernel) ?_
  refine v_istore_n h (i := 3) dX4_allNeeds_8 (q := 9) rfl rfl (Nat.le_of_ble_eq_true rfl) rfl ?_
  have lp : ∀ (j i : Nat) (S : Int32), i + j = 16 → pb_it (sg (p + 4)) j S = pb_all (sg (p + 4)) t → pv F 0 0 sz sk rf sg 9 [some (.ref p), some (.int (nI t)), some (.int S), some (.int (nI i)), none, none] [] := by
    intro j
    induction j with
    | zero =>
      intro i S hi hy0
      obtain rfl : i = 16 := by omega
      refine v_iload_n h (i := 3) dX4_allNeeds_9 (q := 10) rfl rfl rfl ?_
      refine v_bipush h (v := nI 16) dX4_allNeeds_10 (q := 12) rfl (by decide +kernel) ?_
      refine v_icmp_ge h dX4_allNeeds_12 (q := 15) rfl (tgt := 72) (by decide) (fun c1 => ?_) (fun c1 => pb_kle (Nat.le_refl _) (by decide) c1)
      refine v_iload_n h (i := 2) dX4_allNeeds_72 (q := 73) rfl rfl rfl ?_
      refine v_iret h hQ rfl rfl dX4_allNeeds_73 (Nat.zero_le _) (Nat.zero_le _) ⟨by rw [← hy0]; rfl, rfl, rfl, rfl, rfl⟩
    | succ j ih =>
      intro i S hi hy0
      have hi2 : i < 16 := by omega
      refine v_iload_n h (i := 3) dX4_allNeeds_9 (q := 10) rfl rfl rfl ?_
      refine v_bipush h (v := nI 16) dX4_allNeeds_10 (q := 12) rfl (by decide +kernel) ?_
      refine v_icmp_ge h dX4_allNeeds_12 (q := 15) rfl (tgt := 72) (by decide) (fun c2 => pb_kge hi2 (by decide) c2) (fun c2 => ?_)
      refine v_iload_n h (i := 2) dX4_allNeeds_15 (q := 16) rfl rfl rfl ?_
      refine v_istore h dX4_allNeeds_16 (q := 18) rfl (Nat.le_of_ble_eq_true rfl) rfl ?_
      refine v_iconst h (v := nI 0) dX4_allNeeds_18 (q := 19) rfl (by decide +kernel) ?_
      refine v_istore h dX4_allNeeds_19 (q := 21) rfl (Nat.le_of_ble_eq_true rfl) rfl ?_
      have lpb : ∀ (jb ib : Nat), ib + jb = 16 → pv F 0 0 sz sk rf sg 21 [some (.ref p), some (.int (nI t)), some (.int S), some (.int (nI i)), some (.int (pb_orN (sg (p + 4)) S S ib)), some (.int (nI ib))] [] := by
        intro jb
        induction jb with
        | zero =>
          intro ib  hib
          obtain rfl : ib = 16 := by omega
          refine v_iload h dX4_allNeeds_21 (q := 23) rfl rfl ?_
          refine v_bipush h (v := nI 16) dX4_allNeeds_23 (q := 25) rfl (by decide +kernel) ?_
          refine v_icmp_ge h dX4_allNeeds_25 (q := 28) rfl (tgt := 55) (by decide) (fun c3 => ?_) (fun c3 => pb_kle (Nat.le_refl _) (by decide) c3)
          refine v_iload h dX4_allNeeds_55 (q := 57) rfl rfl ?_
          refine v_iload_n h (i := 2) dX4_allNeeds_57 (q := 58) rfl rfl rfl ?_
          refine v_icmp_ne h dX4_allNeeds_58 (q := 61) rfl (tgt := 63) (by decide) (fun c4 => ?_) (fun c4 => ?_)
          · skip
            have h9 := ih (i + 1) (pb_orN (sg (p + 4)) S S 16) (by omega) hy0
            refine v_iload h dX4_allNeeds_63 (q := 65) rfl rfl ?_
            refine v_istore_n h (i := 2) dX4_allNeeds_65 (q := 66) rfl rfl (Nat.le_of_ble_eq_true rfl) rfl ?_
            refine v_iinc h dX4_allNeeds_66 (q := 69) rfl rfl pb_inc rfl ?_
            refine v_goto h dX4_allNeeds_69 (tgt := 9) (by decide) ?_
            refine v_wk (by simp [pb_wk]) h9
          · skip
            have e9 : pb_all (sg (p + 4)) t = S := by rw [← hy0]; show pb_it _ j (pb_orN _ S S 16) = S; rw [c4]; exact pb_it_fix c4 j
            refine v_iload_n h (i := 2) dX4_allNeeds_61 (q := 62) rfl rfl rfl ?_
            refine v_iret h hQ rfl rfl dX4_allNeeds_62 (Nat.zero_le _) (Nat.zero_le _) ⟨by rw [e9], rfl, rfl, rfl, rfl⟩
        | succ jb ihb =>
          intro ib  hib
          have hi2b : ib < 16 := by omega
          refine v_iload h dX4_allNeeds_21 (q := 23) rfl rfl ?_
          refine v_bipush h (v := nI 16) dX4_allNeeds_23 (q := 25) rfl (by decide +kernel) ?_
          refine v_icmp_ge h dX4_allNeeds_25 (q := 28) rfl (tgt := 55) (by decide) (fun c5 => pb_kge hi2b (by decide) c5) (fun c5 => ?_)
          refine v_iload_n h (i := 2) dX4_allNeeds_28 (q := 29) rfl rfl rfl ?_
          refine v_iload h dX4_allNeeds_29 (q := 31) rfl rfl ?_
          refine v_callSN1 h (c_X7_contains hfl (show ib < 32 by omega)) kX7_contains rfl tw426 rfl rfl (by simp [Value.category]) (by decide) (Nat.zero_le _) (Nat.zero_le _) rfl dX4_allNeeds_31 (q := 34) rfl ?_
          refine v_if_eq h dX4_allNeeds_34 (q := 37) rfl (tgt := 49) (by decide) (fun c6 => ?_) (fun c6 => ?_)
          · skip
            have e8 := pb_b_0.mp c6
            have e9 := pb_orN_f (f := sg (p + 4)) (s := S) e8
            refine v_iinc h dX4_allNeeds_49 (q := 52) rfl rfl pb_inc rfl ?_
            refine v_goto h dX4_allNeeds_52 (tgt := 21) (by decide) ?_
            have h9 := ihb (ib + 1) (by omega)
            rw [e9] at h9
            exact h9
          · skip
            have e8 := pb_ne_f (fun q => c6 (pb_b_0.mpr q))
            have e9 := pb_orN_t (f := sg (p + 4)) (s := S) e8
            refine v_iload h dX4_allNeeds_37 (q := 39) rfl rfl ?_
            refine v_aload_n h (i := 0) dX4_allNeeds_39 (q := 40) rfl rfl rfl ?_
            refine v_getr h fl_X4_21 (by assumption) rfl (by assumption) dX4_allNeeds_40 (q := 43) rfl ?_
            refine v_iload h dX4_allNeeds_43 (q := 45) rfl rfl ?_
            refine v_iald h (by assumption) rfl (by first | assumption | omega) (by decide) dX4_allNeeds_45 (q := 46) rfl ?_
            refine v_ior h dX4_allNeeds_46 (q := 47) rfl ?_
            refine v_istore h dX4_allNeeds_47 (q := 49) rfl (Nat.le_of_ble_eq_true rfl) rfl ?_
            refine v_iinc h dX4_allNeeds_49 (q := 52) rfl rfl pb_inc rfl ?_
            refine v_goto h dX4_allNeeds_52 (tgt := 21) (by decide) ?_
            have h9 := ihb (ib + 1) (by omega)
            rw [e9] at h9
            exact h9
      exact lpb 16 0 (by omega)
  exact lp 16 0 _ (by omega) rfl
def pb_lackc (sg : pb_Sg) (p t : Nat) : Bool := !decide ((sg (p + 4) t &&& (pb_pres (sg (p + 1)) ^^^ (-1))) = 0)
set_option maxHeartbeats 4000000 in
set_option maxRecDepth 100000 in
theorem c_X4_lacking {l : Launch} (hfl : l.stackTraces = false) {sz : Nat} {sk : pb_Sk} {rf : pb_Rf} {sg : pb_Sg} {p : Nat} (hp : pb_plan sk rf p) : pb_Met l mX4_lacking 3 0 0 [.ref p] sz sk rf sg (pb_is (some (.int (pb_set (pb_lackc sg p) 16))) sz sk rf sg) := by
  refine pb_start hfl (by decide +kernel) rfl (pb_c1 rfl) (Nat.le_of_ble_eq_true rfl) (fun F hF h hQ => ?_)
  subst hF
  show pv F 0 0 sz sk rf sg 0 [some (.ref p), none, none, none] []
  obtain ⟨hp0, hp1, hp2, hp3, hp4, hp5, hp6, hp7, hp8⟩ := id hp
  refine v_aload_n h (i := 0) dX4_lacking_0 (q := 1) rfl rfl rfl ?_
  refine v_callV1 h (c_X4_present hfl hp) kX4_present tw599 tw472 (by assumption) (by decide) rfl rfl rfl (by simp [Value.category]) (by decide) (Nat.zero_le _) (Nat.zero_le _) rfl dX4_lacking_1 (q := 4) rfl ?_
  refine v_istore_n h (i := 1) dX4_lacking_4 (q := 5) rfl rfl (Nat.le_of_ble_eq_true rfl) rfl ?_
  refine v_iconst h (v := nI 0) dX4_lacking_5 (q := 6) rfl (by decide +kernel) ?_
  refine v_istore_n h (i := 2) dX4_lacking_6 (q := 7) rfl rfl (Nat.le_of_ble_eq_true rfl) rfl ?_
  refine v_iconst h (v := nI 0) dX4_lacking_7 (q := 8) rfl (by decide +kernel) ?_
  refine v_istore_n h (i := 3) dX4_lacking_8 (q := 9) rfl rfl (Nat.le_of_ble_eq_true rfl) rfl ?_
  have lp : ∀ (j i : Nat), i + j = 16 → pv F 0 0 sz sk rf sg 9 [some (.ref p), some (.int (pb_pres (sg (p + 1)))), some (.int (pb_set (pb_lackc sg p) i)), some (.int (nI i))] [] := by
    intro j
    induction j with
    | zero =>
      intro i  hi
      obtain rfl : i = 16 := by omega
      refine v_iload_n h (i := 3) dX4_lacking_9 (q := 10) rfl rfl rfl ?_
      refine v_bipush h (v := nI 16) dX4_lacking_10 (q := 12) rfl (by decide +kernel) ?_
      refine v_icmp_ge h dX4_lacking_12 (q := 15) rfl (tgt := 40) (by decide) (fun c1 => ?_) (fun c1 => pb_kle (Nat.le_refl _) (by decide) c1)
      refine v_iload_n h (i := 2) dX4_lacking_40 (q := 41) rfl rfl rfl ?_
      refine v_iret h hQ rfl rfl dX4_lacking_41 (Nat.zero_le _) (Nat.zero_le _) ⟨rfl, rfl, rfl, rfl, rfl⟩
    | succ j ih =>
      intro i  hi
      have hi2 : i < 16 := by omega
      refine v_iload_n h (i := 3) dX4_lacking_9 (q := 10) rfl rfl rfl ?_
      refine v_bipush h (v := nI 16) dX4_lacking_10 (q := 12) rfl (by decide +kernel) ?_
      refine v_icmp_ge h dX4_lacking_12 (q := 15) rfl (tgt := 40) (by decide) (fun c2 => pb_kge hi2 (by decide) c2) (fun c2 => ?_)
      refine v_aload_n h (i := 0) dX4_lacking_15 (q := 16) rfl rfl rfl ?_
      refine v_getr h fl_X4_21 (by assumption) rfl (by assumption) dX4_lacking_16 (q := 19) rfl ?_
      refine v_iload_n h (i := 3) dX4_lacking_19 (q := 20) rfl rfl rfl ?_
      refine v_iald h (by assumption) rfl (by first | assumption | omega) (by decide) dX4_lacking_20 (q := 21) rfl ?_
      refine v_iload_n h (i := 1) dX4_lacking_21 (q := 22) rfl rfl rfl ?_
      refine v_iconst h (v := (-1)) dX4_lacking_22 (q := 23) rfl (by decide +kernel) ?_
      refine v_ixor h dX4_lacking_23 (q := 24) rfl ?_
      refine v_iand h dX4_lacking_24 (q := 25) rfl ?_
      refine v_if_eq h dX4_lacking_25 (q := 28) rfl (tgt := 34) (by decide) (fun c3 => ?_) (fun c3 => ?_)
      · skip
        have e9 := pb_set_f (c := (pb_lackc sg p)) (n := i) (by unfold pb_lackc; rw [decide_eq_true c3]; rfl)
        refine v_iinc h dX4_lacking_34 (q := 37) rfl rfl pb_inc rfl ?_
        refine v_goto h dX4_lacking_37 (tgt := 9) (by decide) ?_
        have h9 := ih (i + 1) (by omega)
        rw [e9] at h9
        exact h9
      · skip
        have e9 := pb_set_t (c := (pb_lackc sg p)) (n := i) (by unfold pb_lackc; rw [decide_eq_false c3]; rfl)
        refine v_iload_n h (i := 2) dX4_lacking_28 (q := 29) rfl rfl rfl ?_
        refine v_iconst h (v := nI 1) dX4_lacking_29 (q := 30) rfl (by decide +kernel) ?_
        refine v_iload_n h (i := 3) dX4_lacking_30 (q := 31) rfl rfl rfl ?_
        refine v_ishl h dX4_lacking_31 (q := 32) rfl ?_
        refine v_ior h dX4_lacking_32 (q := 33) rfl ?_
        refine v_istore_n h (i := 2) dX4_lacking_33 (q := 34) rfl rfl (Nat.le_of_ble_eq_true rfl) rfl ?_
        refine v_iinc h dX4_lacking_34 (q := 37) rfl rfl pb_inc rfl ?_
        refine v_goto h dX4_lacking_37 (tgt := 9) (by decide) ?_
        have h9 := ih (i + 1) (by omega)
        rw [e9] at h9
        exact h9
  exact lp 16 0 (by omega)
set_option maxHeartbeats 4000000 in
set_option maxRecDepth 100000 in
theorem c_X4_ringed {l : Launch} (hfl : l.stackTraces = false) {sz : Nat} {sk : pb_Sk} {rf : pb_Rf} {sg : pb_Sg} {p : Nat} (hp : pb_plan sk rf p) : pb_Met l mX4_ringed 3 0 0 [.ref p] sz sk rf sg (pb_is (some (.int (pb_set (fun t => pb_in (pb_all (sg (p + 4)) t) t) 16))) sz sk rf sg) := by
  refine pb_start hfl (by decide +kernel) rfl (pb_c1 rfl) (Nat.le_of_ble_eq_true rfl) (fun F hF h hQ => ?_)
  subst hF
  show pv F 0 0 sz sk rf sg 0 [some (.ref p), none, none] []
  obtain ⟨hp0, hp1, hp2, hp3, hp4, hp5, hp6, hp7, hp8⟩ := id hp
  refine v_iconst h (v := nI 0) dX4_ringed_0 (q := 1) rfl (by decide +kernel) ?_
  refine v_istore_n h (i := 1) dX4_ringed_1 (q := 2) rfl rfl (Nat.le_of_ble_eq_true rfl) rfl ?_
  refine v_iconst h (v := nI 0) dX4_ringed_2 (q := 3) rfl (by decide +kernel) ?_
  refine v_istore_n h (i := 2) dX4_ringed_3 (q := 4) rfl rfl (Nat.le_of_ble_eq_true rfl) rfl ?_
  have lp : ∀ (j i : Nat), i + j = 16 → pv F 0 0 sz sk rf sg 4 [some (.ref p), some (.int (pb_set (fun t => pb_in (pb_all (sg (p + 4)) t) t) i)), some (.int (nI i))] [] := by
    intro j
    induction j with
    | zero =>
      intro i  hi
      obtain rfl : i = 16 := by omega
      refine v_iload_n h (i := 2) dX4_ringed_4 (q := 5) rfl rfl rfl ?_
      refine v_bipush h (v := nI 16) dX4_ringed_5 (q := 7) rfl (by decide +kernel) ?_
      refine v_icmp_ge h dX4_ringed_7 (q := 10) rfl (tgt := 34) (by decide) (fun c1 => ?_) (fun c1 => pb_kle (Nat.le_refl _) (by decide) c1)
      refine v_iload_n h (i := 1) dX4_ringed_34 (q := 35) rfl rfl rfl ?_
      refine v_iret h hQ rfl rfl dX4_ringed_35 (Nat.zero_le _) (Nat.zero_le _) ⟨rfl, rfl, rfl, rfl, rfl⟩
    | succ j ih =>
      intro i  hi
      have hi2 : i < 16 := by omega
      refine v_iload_n h (i := 2) dX4_ringed_4 (q := 5) rfl rfl rfl ?_
      refine v_bipush h (v := nI 16) dX4_ringed_5 (q := 7) rfl (by decide +kernel) ?_
      refine v_icmp_ge h dX4_ringed_7 (q := 10) rfl (tgt := 34) (by decide) (fun c2 => pb_kge hi2 (by decide) c2) (fun c2 => ?_)
      refine v_aload_n h (i := 0) dX4_ringed_10 (q := 11) rfl rfl rfl ?_
      refine v_iload_n h (i := 2) dX4_ringed_11 (q := 12) rfl rfl rfl ?_
      refine v_callV1 h (c_X4_allNeeds hfl hp hi2) kX4_allNeeds tw604 tw446 (by assumption) (by decide) rfl rfl rfl (by simp [Value.category]) (by decide) (Nat.zero_le _) (Nat.zero_le _) rfl dX4_ringed_12 (q := 15) rfl ?_
      refine v_iload_n h (i := 2) dX4_ringed_15 (q := 16) rfl rfl rfl ?_
      refine v_callSN1 h (c_X7_contains hfl (show i < 32 by omega)) kX7_contains rfl tw426 rfl rfl (by simp [Value.category]) (by decide) (Nat.zero_le _) (Nat.zero_le _) rfl dX4_ringed_16 (q := 19) rfl ?_
      refine v_if_eq h dX4_ringed_19 (q := 22) rfl (tgt := 28) (by decide) (fun c3 => ?_) (fun c3 => ?_)
      · skip
        have e8 := pb_b_0.mp c3
        have e9 := pb_set_f (c := (fun t => pb_in (pb_all (sg (p + 4)) t) t)) e8
        refine v_iinc h dX4_ringed_28 (q := 31) rfl rfl pb_inc rfl ?_
        refine v_goto h dX4_ringed_31 (tgt := 4) (by decide) ?_
        have h9 := ih (i + 1) (by omega)
        rw [e9] at h9
        exact h9
      · skip
        have e8 := pb_ne_f (fun q => c3 (pb_b_0.mpr q))
        have e9 := pb_set_t (c := (fun t => pb_in (pb_all (sg (p + 4)) t) t)) e8
        refine v_iload_n h (i := 1) dX4_ringed_22 (q := 23) rfl rfl rfl ?_
        refine v_iconst h (v := nI 1) dX4_ringed_23 (q := 24) rfl (by decide +kernel) ?_
        refine v_iload_n h (i := 2) dX4_ringed_24 (q := 25) rfl rfl rfl ?_
        refine v_ishl h dX4_ringed_25 (q := 26) rfl ?_
        refine v_ior h dX4_ringed_26 (q := 27) rfl ?_
        refine v_istore_n h (i := 1) dX4_ringed_27 (q := 28) rfl rfl (Nat.le_of_ble_eq_true rfl) rfl ?_
        refine v_iinc h dX4_ringed_28 (q := 31) rfl rfl pb_inc rfl ?_
        refine v_goto h dX4_ringed_31 (tgt := 4) (by decide) ?_
        have h9 := ih (i + 1) (by omega)
        rw [e9] at h9
        exact h9
  exact lp 16 0 (by omega)
set_option maxHeartbeats 4000000 in
set_option maxRecDepth 100000 in
theorem c_X7_lowest {l : Launch} (hfl : l.stackTraces = false) {sz : Nat} {sk : pb_Sk} {rf : pb_Rf} {sg : pb_Sg} {x : Int32} : pb_Met l mX7_lowest 2 0 0 [.int x] sz sk rf sg (pb_is (some (.int (pb_low x 16))) sz sk rf sg) := by
  refine pb_start hfl (by decide +kernel) rfl (pb_c1 rfl) (Nat.le_of_ble_eq_true rfl) (fun F hF h hQ => ?_)
  subst hF
  show pv F 0 0 sz sk rf sg 0 [some (.int x), none] []
  refine v_iconst h (v := nI 0) dX7_lowest_0 (q := 1) rfl (by decide +kernel) ?_
  refine v_istore_n h (i := 1) dX7_lowest_1 (q := 2) rfl rfl (Nat.le_of_ble_eq_true rfl) rfl ?_
  have lp : ∀ (j i : Nat), i + j = 16 → pb_low x j = pb_low x 16 → pv F 0 0 sz sk rf sg 2 [some (.int x), some (.int (nI i))] [] := by
    intro j
    induction j with
    | zero =>
      intro i  hi hy0
      obtain rfl : i = 16 := by omega
      refine v_iload_n h (i := 1) dX7_lowest_2 (q := 3) rfl rfl rfl ?_
      refine v_bipush h (v := nI 16) dX7_lowest_3 (q := 5) rfl (by decide +kernel) ?_
      refine v_icmp_ge h dX7_lowest_5 (q := 8) rfl (tgt := 24) (by decide) (fun c1 => ?_) (fun c1 => pb_kle (Nat.le_refl _) (by decide) c1)
      refine v_iconst h (v := (-1)) dX7_lowest_24 (q := 25) rfl (by decide +kernel) ?_
      refine v_iret h hQ rfl rfl dX7_lowest_25 (Nat.zero_le _) (Nat.zero_le _) ⟨by rw [← hy0]; rfl, rfl, rfl, rfl, rfl⟩
    | succ j ih =>
      intro i  hi hy0
      have hi2 : i < 16 := by omega
      refine v_iload_n h (i := 1) dX7_lowest_2 (q := 3) rfl rfl rfl ?_
      refine v_bipush h (v := nI 16) dX7_lowest_3 (q := 5) rfl (by decide +kernel) ?_
      refine v_icmp_ge h dX7_lowest_5 (q := 8) rfl (tgt := 24) (by decide) (fun c2 => pb_kge hi2 (by decide) c2) (fun c2 => ?_)
      refine v_iload_n h (i := 0) dX7_lowest_8 (q := 9) rfl rfl rfl ?_
      refine v_iload_n h (i := 1) dX7_lowest_9 (q := 10) rfl rfl rfl ?_
      refine v_callS1 h (c_X7_contains hfl (show i < 32 by omega)) kX7_contains rfl tw448 rfl rfl (by simp [Value.category]) (by decide) (Nat.zero_le _) (Nat.zero_le _) rfl dX7_lowest_10 (q := 13) rfl ?_
      refine v_if_eq h dX7_lowest_13 (q := 16) rfl (tgt := 18) (by decide) (fun c3 => ?_) (fun c3 => ?_)
      · skip
        have e8 := pb_b_0.mp c3
        refine v_iinc h dX7_lowest_18 (q := 21) rfl rfl pb_inc rfl ?_
        refine v_goto h dX7_lowest_21 (tgt := 2) (by decide) ?_
        refine ih (i + 1) (by omega) ?_
        rw [← hy0]
        symm
        show (if pb_in x (15 - j) = true then _ else _) = _
        rw [show 15 - j = i by omega, if_neg (by rw [e8]; decide)]
      · skip
        have e8 := pb_ne_f (fun q => c3 (pb_b_0.mpr q))
        have e9 : pb_low x 16 = nI i := by rw [← hy0]; show (if pb_in x (15 - j) = true then _ else _) = _; rw [show 15 - j = i by omega, if_pos e8]
        refine v_iload_n h (i := 1) dX7_lowest_16 (q := 17) rfl rfl rfl ?_
        refine v_iret h hQ rfl rfl dX7_lowest_17 (Nat.zero_le _) (Nat.zero_le _) ⟨by rw [e9], rfl, rfl, rfl, rfl⟩
  exact lp 16 0 (by omega) rfl
