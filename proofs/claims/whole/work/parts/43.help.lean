theorem dL_setTask_0 : decode cL_setTask 0 = .ok (.aload 6, 2) := by decide +kernel
theorem dL_setTask_2 : decode cL_setTask 2 = .ok (.iconst 0, 1) := by decide +kernel
theorem dL_setTask_3 : decode cL_setTask 3 = .ok (.aload_n 0, 1) := by decide +kernel
theorem dL_setTask_4 : decode cL_setTask 4 = .ok (.iload_n 1, 1) := by decide +kernel
theorem dL_setTask_5 : decode cL_setTask 5 = .ok (.iload_n 2, 1) := by decide +kernel
theorem dL_setTask_6 : decode cL_setTask 6 = .ok (.iload_n 3, 1) := by decide +kernel
theorem dL_setTask_7 : decode cL_setTask 7 = .ok (.iload 4, 2) := by decide +kernel
theorem dL_setTask_9 : decode cL_setTask 9 = .ok (.iload 5, 2) := by decide +kernel
theorem dL_setTask_11 : decode cL_setTask 11 = .ok (.invokevirtual 7, 3) := by decide +kernel
theorem dL_setTask_14 : decode cL_setTask 14 = .ok (.ifCond .eq 7, 3) := by decide +kernel
theorem dL_setTask_17 : decode cL_setTask 17 = .ok (.lconst 1, 1) := by decide +kernel
theorem dL_setTask_18 : decode cL_setTask 18 = .ok (.goto 4, 3) := by decide +kernel
theorem dL_setTask_21 : decode cL_setTask 21 = .ok (.lconst 0, 1) := by decide +kernel
theorem dL_setTask_22 : decode cL_setTask 22 = .ok (.lastore, 1) := by decide +kernel
theorem dL_setTask_23 : decode cL_setTask 23 = .ok (.goto 11, 3) := by decide +kernel
theorem dL_setTask_26 : decode cL_setTask 26 = .ok (.astore 7, 2) := by decide +kernel
theorem dL_setTask_28 : decode cL_setTask 28 = .ok (.iconst 1, 1) := by decide +kernel
theorem dL_setTask_29 : decode cL_setTask 29 = .ok (.ireturn, 1) := by decide +kernel
theorem dL_setTask_30 : decode cL_setTask 30 = .ok (.astore 7, 2) := by decide +kernel
theorem dL_setTask_32 : decode cL_setTask 32 = .ok (.iconst 2, 1) := by decide +kernel
theorem dL_setTask_33 : decode cL_setTask 33 = .ok (.ireturn, 1) := by decide +kernel
theorem dL_setTask_34 : decode cL_setTask 34 = .ok (.iconst 0, 1) := by decide +kernel
theorem dL_setTask_35 : decode cL_setTask 35 = .ok (.ireturn, 1) := by decide +kernel
theorem dL_removeTask_0 : decode cL_removeTask 0 = .ok (.aload_n 3, 1) := by decide +kernel
theorem dL_removeTask_1 : decode cL_removeTask 1 = .ok (.iconst 0, 1) := by decide +kernel
theorem dL_removeTask_2 : decode cL_removeTask 2 = .ok (.aload_n 0, 1) := by decide +kernel
theorem dL_removeTask_3 : decode cL_removeTask 3 = .ok (.iload_n 1, 1) := by decide +kernel
theorem dL_removeTask_4 : decode cL_removeTask 4 = .ok (.iload_n 2, 1) := by decide +kernel
theorem dL_removeTask_5 : decode cL_removeTask 5 = .ok (.invokevirtual 17, 3) := by decide +kernel
theorem dL_removeTask_8 : decode cL_removeTask 8 = .ok (.i2l, 1) := by decide +kernel
theorem dL_removeTask_9 : decode cL_removeTask 9 = .ok (.lastore, 1) := by decide +kernel
theorem dL_removeTask_10 : decode cL_removeTask 10 = .ok (.goto 15, 3) := by decide +kernel
theorem dL_removeTask_13 : decode cL_removeTask 13 = .ok (.astore 4, 2) := by decide +kernel
theorem dL_removeTask_15 : decode cL_removeTask 15 = .ok (.iconst 1, 1) := by decide +kernel
theorem dL_removeTask_16 : decode cL_removeTask 16 = .ok (.ireturn, 1) := by decide +kernel
theorem dL_removeTask_17 : decode cL_removeTask 17 = .ok (.astore 4, 2) := by decide +kernel
theorem dL_removeTask_19 : decode cL_removeTask 19 = .ok (.iconst 2, 1) := by decide +kernel
theorem dL_removeTask_20 : decode cL_removeTask 20 = .ok (.ireturn, 1) := by decide +kernel
theorem dL_removeTask_21 : decode cL_removeTask 21 = .ok (.astore 4, 2) := by decide +kernel
theorem dL_removeTask_23 : decode cL_removeTask 23 = .ok (.iconst 3, 1) := by decide +kernel
theorem dL_removeTask_24 : decode cL_removeTask 24 = .ok (.ireturn, 1) := by decide +kernel
theorem dL_removeTask_25 : decode cL_removeTask 25 = .ok (.iconst 0, 1) := by decide +kernel
theorem dL_removeTask_26 : decode cL_removeTask 26 = .ok (.ireturn, 1) := by decide +kernel
theorem dL_setNeed_0 : decode cL_setNeed 0 = .ok (.aload 5, 2) := by decide +kernel
theorem dL_setNeed_2 : decode cL_setNeed 2 = .ok (.iconst 0, 1) := by decide +kernel
theorem dL_setNeed_3 : decode cL_setNeed 3 = .ok (.aload_n 0, 1) := by decide +kernel
theorem dL_setNeed_4 : decode cL_setNeed 4 = .ok (.iload_n 1, 1) := by decide +kernel
theorem dL_setNeed_5 : decode cL_setNeed 5 = .ok (.iload_n 2, 1) := by decide +kernel
theorem dL_setNeed_6 : decode cL_setNeed 6 = .ok (.iload_n 3, 1) := by decide +kernel
theorem dL_setNeed_7 : decode cL_setNeed 7 = .ok (.iload 4, 2) := by decide +kernel
theorem dL_setNeed_9 : decode cL_setNeed 9 = .ok (.invokevirtual 23, 3) := by decide +kernel
theorem dL_setNeed_12 : decode cL_setNeed 12 = .ok (.ifCond .eq 7, 3) := by decide +kernel
theorem dL_setNeed_15 : decode cL_setNeed 15 = .ok (.lconst 1, 1) := by decide +kernel
theorem dL_setNeed_16 : decode cL_setNeed 16 = .ok (.goto 4, 3) := by decide +kernel
theorem dL_setNeed_19 : decode cL_setNeed 19 = .ok (.lconst 0, 1) := by decide +kernel
theorem dL_setNeed_20 : decode cL_setNeed 20 = .ok (.lastore, 1) := by decide +kernel
theorem dL_setNeed_21 : decode cL_setNeed 21 = .ok (.goto 15, 3) := by decide +kernel
theorem dL_setNeed_24 : decode cL_setNeed 24 = .ok (.astore 6, 2) := by decide +kernel
theorem dL_setNeed_26 : decode cL_setNeed 26 = .ok (.iconst 1, 1) := by decide +kernel
theorem dL_setNeed_27 : decode cL_setNeed 27 = .ok (.ireturn, 1) := by decide +kernel
theorem dL_setNeed_28 : decode cL_setNeed 28 = .ok (.astore 6, 2) := by decide +kernel
theorem dL_setNeed_30 : decode cL_setNeed 30 = .ok (.iconst 2, 1) := by decide +kernel
theorem dL_setNeed_31 : decode cL_setNeed 31 = .ok (.ireturn, 1) := by decide +kernel
theorem dL_setNeed_32 : decode cL_setNeed 32 = .ok (.astore 6, 2) := by decide +kernel
theorem dL_setNeed_34 : decode cL_setNeed 34 = .ok (.iconst 3, 1) := by decide +kernel
theorem dL_setNeed_35 : decode cL_setNeed 35 = .ok (.ireturn, 1) := by decide +kernel
theorem dL_setNeed_36 : decode cL_setNeed 36 = .ok (.iconst 0, 1) := by decide +kernel
theorem dL_setNeed_37 : decode cL_setNeed 37 = .ok (.ireturn, 1) := by decide +kernel
theorem dL_undo_0 : decode cL_undo 0 = .ok (.aload_n 2, 1) := by decide +kernel
theorem dL_undo_1 : decode cL_undo 1 = .ok (.iconst 0, 1) := by decide +kernel
theorem dL_undo_2 : decode cL_undo 2 = .ok (.aload_n 0, 1) := by decide +kernel
theorem dL_undo_3 : decode cL_undo 3 = .ok (.iload_n 1, 1) := by decide +kernel
theorem dL_undo_4 : decode cL_undo 4 = .ok (.invokevirtual 27, 3) := by decide +kernel
theorem dL_undo_7 : decode cL_undo 7 = .ok (.i2l, 1) := by decide +kernel
theorem dL_undo_8 : decode cL_undo 8 = .ok (.lastore, 1) := by decide +kernel
theorem dL_undo_9 : decode cL_undo 9 = .ok (.goto 9, 3) := by decide +kernel
theorem dL_undo_12 : decode cL_undo 12 = .ok (.astore_n 3, 1) := by decide +kernel
theorem dL_undo_13 : decode cL_undo 13 = .ok (.iconst 1, 1) := by decide +kernel
theorem dL_undo_14 : decode cL_undo 14 = .ok (.ireturn, 1) := by decide +kernel
theorem dL_undo_15 : decode cL_undo 15 = .ok (.astore_n 3, 1) := by decide +kernel
theorem dL_undo_16 : decode cL_undo 16 = .ok (.iconst 2, 1) := by decide +kernel
theorem dL_undo_17 : decode cL_undo 17 = .ok (.ireturn, 1) := by decide +kernel
theorem dL_undo_18 : decode cL_undo 18 = .ok (.iconst 0, 1) := by decide +kernel
theorem dL_undo_19 : decode cL_undo 19 = .ok (.ireturn, 1) := by decide +kernel
theorem dL_tasks_0 : decode cL_tasks 0 = .ok (.aload_n 2, 1) := by decide +kernel
theorem dL_tasks_1 : decode cL_tasks 1 = .ok (.iconst 0, 1) := by decide +kernel
theorem dL_tasks_2 : decode cL_tasks 2 = .ok (.aload_n 0, 1) := by decide +kernel
theorem dL_tasks_3 : decode cL_tasks 3 = .ok (.iload_n 1, 1) := by decide +kernel
theorem dL_tasks_4 : decode cL_tasks 4 = .ok (.invokevirtual 31, 3) := by decide +kernel
theorem dL_tasks_7 : decode cL_tasks 7 = .ok (.i2l, 1) := by decide +kernel
theorem dL_tasks_8 : decode cL_tasks 8 = .ok (.lastore, 1) := by decide +kernel
theorem dL_tasks_9 : decode cL_tasks 9 = .ok (.goto 6, 3) := by decide +kernel
theorem dL_tasks_12 : decode cL_tasks 12 = .ok (.astore_n 3, 1) := by decide +kernel
theorem dL_tasks_13 : decode cL_tasks 13 = .ok (.iconst 1, 1) := by decide +kernel
theorem dL_tasks_14 : decode cL_tasks 14 = .ok (.ireturn, 1) := by decide +kernel
theorem dL_tasks_15 : decode cL_tasks 15 = .ok (.iconst 0, 1) := by decide +kernel
theorem dL_tasks_16 : decode cL_tasks 16 = .ok (.ireturn, 1) := by decide +kernel
theorem dL_length_0 : decode cL_length 0 = .ok (.aload_n 3, 1) := by decide +kernel
theorem dL_length_1 : decode cL_length 1 = .ok (.iconst 0, 1) := by decide +kernel
theorem dL_length_2 : decode cL_length 2 = .ok (.aload_n 0, 1) := by decide +kernel
theorem dL_length_3 : decode cL_length 3 = .ok (.iload_n 1, 1) := by decide +kernel
theorem dL_length_4 : decode cL_length 4 = .ok (.iload_n 2, 1) := by decide +kernel
theorem dL_length_5 : decode cL_length 5 = .ok (.invokevirtual 34, 3) := by decide +kernel
theorem dL_length_8 : decode cL_length 8 = .ok (.i2l, 1) := by decide +kernel
theorem dL_length_9 : decode cL_length 9 = .ok (.lastore, 1) := by decide +kernel
theorem dL_length_10 : decode cL_length 10 = .ok (.goto 11, 3) := by decide +kernel
theorem dL_length_13 : decode cL_length 13 = .ok (.astore 4, 2) := by decide +kernel
theorem dL_length_15 : decode cL_length 15 = .ok (.iconst 1, 1) := by decide +kernel
theorem dL_length_16 : decode cL_length 16 = .ok (.ireturn, 1) := by decide +kernel
theorem dL_length_17 : decode cL_length 17 = .ok (.astore 4, 2) := by decide +kernel
theorem dL_length_19 : decode cL_length 19 = .ok (.iconst 2, 1) := by decide +kernel
theorem dL_length_20 : decode cL_length 20 = .ok (.ireturn, 1) := by decide +kernel
theorem dL_length_21 : decode cL_length 21 = .ok (.iconst 0, 1) := by decide +kernel
theorem dL_length_22 : decode cL_length 22 = .ok (.ireturn, 1) := by decide +kernel
theorem dL_crew_0 : decode cL_crew 0 = .ok (.aload_n 3, 1) := by decide +kernel
theorem dL_crew_1 : decode cL_crew 1 = .ok (.iconst 0, 1) := by decide +kernel
theorem dL_crew_2 : decode cL_crew 2 = .ok (.aload_n 0, 1) := by decide +kernel
theorem dL_crew_3 : decode cL_crew 3 = .ok (.iload_n 1, 1) := by decide +kernel
theorem dL_crew_4 : decode cL_crew 4 = .ok (.iload_n 2, 1) := by decide +kernel
theorem dL_crew_5 : decode cL_crew 5 = .ok (.invokevirtual 37, 3) := by decide +kernel
theorem dL_crew_8 : decode cL_crew 8 = .ok (.i2l, 1) := by decide +kernel
theorem dL_crew_9 : decode cL_crew 9 = .ok (.lastore, 1) := by decide +kernel
theorem dL_crew_10 : decode cL_crew 10 = .ok (.goto 11, 3) := by decide +kernel
theorem dL_crew_13 : decode cL_crew 13 = .ok (.astore 4, 2) := by decide +kernel
theorem dL_crew_15 : decode cL_crew 15 = .ok (.iconst 1, 1) := by decide +kernel
theorem dL_crew_16 : decode cL_crew 16 = .ok (.ireturn, 1) := by decide +kernel
theorem dL_crew_17 : decode cL_crew 17 = .ok (.astore 4, 2) := by decide +kernel
theorem dL_crew_19 : decode cL_crew 19 = .ok (.iconst 2, 1) := by decide +kernel
theorem dL_crew_20 : decode cL_crew 20 = .ok (.ireturn, 1) := by decide +kernel
theorem dL_crew_21 : decode cL_crew 21 = .ok (.iconst 0, 1) := by decide +kernel
theorem dL_crew_22 : decode cL_crew 22 = .ok (.ireturn, 1) := by decide +kernel
theorem dL_needs_0 : decode cL_needs 0 = .ok (.aload_n 3, 1) := by decide +kernel
theorem dL_needs_1 : decode cL_needs 1 = .ok (.iconst 0, 1) := by decide +kernel
theorem dL_needs_2 : decode cL_needs 2 = .ok (.aload_n 0, 1) := by decide +kernel
theorem dL_needs_3 : decode cL_needs 3 = .ok (.iload_n 1, 1) := by decide +kernel
theorem dL_needs_4 : decode cL_needs 4 = .ok (.iload_n 2, 1) := by decide +kernel
theorem dL_needs_5 : decode cL_needs 5 = .ok (.invokevirtual 40, 3) := by decide +kernel
theorem dL_needs_8 : decode cL_needs 8 = .ok (.i2l, 1) := by decide +kernel
theorem dL_needs_9 : decode cL_needs 9 = .ok (.lastore, 1) := by decide +kernel
theorem dL_needs_10 : decode cL_needs 10 = .ok (.goto 11, 3) := by decide +kernel
theorem dL_needs_13 : decode cL_needs 13 = .ok (.astore 4, 2) := by decide +kernel
theorem dL_needs_15 : decode cL_needs 15 = .ok (.iconst 1, 1) := by decide +kernel
theorem dL_needs_16 : decode cL_needs 16 = .ok (.ireturn, 1) := by decide +kernel
theorem dL_needs_17 : decode cL_needs 17 = .ok (.astore 4, 2) := by decide +kernel
theorem dL_needs_19 : decode cL_needs 19 = .ok (.iconst 2, 1) := by decide +kernel
theorem dL_needs_20 : decode cL_needs 20 = .ok (.ireturn, 1) := by decide +kernel
theorem dL_needs_21 : decode cL_needs 21 = .ok (.iconst 0, 1) := by decide +kernel
theorem dL_needs_22 : decode cL_needs 22 = .ok (.ireturn, 1) := by decide +kernel
theorem dL_cost_0 : decode cL_cost 0 = .ok (.aload_n 2, 1) := by decide +kernel
theorem dL_cost_1 : decode cL_cost 1 = .ok (.iconst 0, 1) := by decide +kernel
theorem dL_cost_2 : decode cL_cost 2 = .ok (.aload_n 0, 1) := by decide +kernel
theorem dL_cost_3 : decode cL_cost 3 = .ok (.iload_n 1, 1) := by decide +kernel
theorem dL_cost_4 : decode cL_cost 4 = .ok (.invokevirtual 43, 3) := by decide +kernel
theorem dL_cost_7 : decode cL_cost 7 = .ok (.i2l, 1) := by decide +kernel
theorem dL_cost_8 : decode cL_cost 8 = .ok (.lastore, 1) := by decide +kernel
theorem dL_cost_9 : decode cL_cost 9 = .ok (.goto 6, 3) := by decide +kernel
theorem dL_cost_12 : decode cL_cost 12 = .ok (.astore_n 3, 1) := by decide +kernel
theorem dL_cost_13 : decode cL_cost 13 = .ok (.iconst 1, 1) := by decide +kernel
theorem dL_cost_14 : decode cL_cost 14 = .ok (.ireturn, 1) := by decide +kernel
theorem dL_cost_15 : decode cL_cost 15 = .ok (.iconst 0, 1) := by decide +kernel
theorem dL_cost_16 : decode cL_cost 16 = .ok (.ireturn, 1) := by decide +kernel
theorem dL_begin_0 : decode cL_begin 0 = .ok (.aload_n 2, 1) := by decide +kernel
theorem dL_begin_1 : decode cL_begin 1 = .ok (.iconst 0, 1) := by decide +kernel
theorem dL_begin_2 : decode cL_begin 2 = .ok (.aload_n 0, 1) := by decide +kernel
theorem dL_begin_3 : decode cL_begin 3 = .ok (.iload_n 1, 1) := by decide +kernel
theorem dL_begin_4 : decode cL_begin 4 = .ok (.invokevirtual 46, 3) := by decide +kernel
theorem dL_begin_7 : decode cL_begin 7 = .ok (.i2l, 1) := by decide +kernel
theorem dL_begin_8 : decode cL_begin 8 = .ok (.lastore, 1) := by decide +kernel
theorem dL_begin_9 : decode cL_begin 9 = .ok (.goto 9, 3) := by decide +kernel
theorem dL_begin_12 : decode cL_begin 12 = .ok (.astore_n 3, 1) := by decide +kernel
theorem dL_begin_13 : decode cL_begin 13 = .ok (.iconst 1, 1) := by decide +kernel
theorem dL_begin_14 : decode cL_begin 14 = .ok (.ireturn, 1) := by decide +kernel
theorem dL_begin_15 : decode cL_begin 15 = .ok (.astore_n 3, 1) := by decide +kernel
theorem dL_begin_16 : decode cL_begin 16 = .ok (.iconst 2, 1) := by decide +kernel
theorem dL_begin_17 : decode cL_begin 17 = .ok (.ireturn, 1) := by decide +kernel
theorem dL_begin_18 : decode cL_begin 18 = .ok (.iconst 0, 1) := by decide +kernel
theorem dL_begin_19 : decode cL_begin 19 = .ok (.ireturn, 1) := by decide +kernel
theorem dL_parent_0 : decode cL_parent 0 = .ok (.aload_n 2, 1) := by decide +kernel
theorem dL_parent_1 : decode cL_parent 1 = .ok (.iconst 0, 1) := by decide +kernel
theorem dL_parent_2 : decode cL_parent 2 = .ok (.aload_n 0, 1) := by decide +kernel
theorem dL_parent_3 : decode cL_parent 3 = .ok (.iload_n 1, 1) := by decide +kernel
theorem dL_parent_4 : decode cL_parent 4 = .ok (.invokevirtual 49, 3) := by decide +kernel
theorem dL_parent_7 : decode cL_parent 7 = .ok (.i2l, 1) := by decide +kernel
theorem dL_parent_8 : decode cL_parent 8 = .ok (.lastore, 1) := by decide +kernel
theorem dL_parent_9 : decode cL_parent 9 = .ok (.goto 6, 3) := by decide +kernel
theorem dL_parent_12 : decode cL_parent 12 = .ok (.astore_n 3, 1) := by decide +kernel
theorem dL_parent_13 : decode cL_parent 13 = .ok (.iconst 1, 1) := by decide +kernel
theorem dL_parent_14 : decode cL_parent 14 = .ok (.ireturn, 1) := by decide +kernel
theorem dL_parent_15 : decode cL_parent 15 = .ok (.iconst 0, 1) := by decide +kernel
theorem dL_parent_16 : decode cL_parent 16 = .ok (.ireturn, 1) := by decide +kernel
theorem dL_setBudget_0 : decode cL_setBudget 0 = .ok (.aload_n 3, 1) := by decide +kernel
theorem dL_setBudget_1 : decode cL_setBudget 1 = .ok (.iconst 0, 1) := by decide +kernel
theorem dL_setBudget_2 : decode cL_setBudget 2 = .ok (.aload_n 0, 1) := by decide +kernel
theorem dL_setBudget_3 : decode cL_setBudget 3 = .ok (.iload_n 1, 1) := by decide +kernel
theorem dL_setBudget_4 : decode cL_setBudget 4 = .ok (.iload_n 2, 1) := by decide +kernel
theorem dL_setBudget_5 : decode cL_setBudget 5 = .ok (.invokevirtual 52, 3) := by decide +kernel
theorem dL_setBudget_8 : decode cL_setBudget 8 = .ok (.i2l, 1) := by decide +kernel
theorem dL_setBudget_9 : decode cL_setBudget 9 = .ok (.lastore, 1) := by decide +kernel
theorem dL_setBudget_10 : decode cL_setBudget 10 = .ok (.goto 11, 3) := by decide +kernel
theorem dL_setBudget_13 : decode cL_setBudget 13 = .ok (.astore 4, 2) := by decide +kernel
theorem dL_setBudget_15 : decode cL_setBudget 15 = .ok (.iconst 1, 1) := by decide +kernel
theorem dL_setBudget_16 : decode cL_setBudget 16 = .ok (.ireturn, 1) := by decide +kernel
theorem dL_setBudget_17 : decode cL_setBudget 17 = .ok (.astore 4, 2) := by decide +kernel
theorem dL_setBudget_19 : decode cL_setBudget 19 = .ok (.iconst 2, 1) := by decide +kernel
theorem dL_setBudget_20 : decode cL_setBudget 20 = .ok (.ireturn, 1) := by decide +kernel
theorem dL_setBudget_21 : decode cL_setBudget 21 = .ok (.iconst 0, 1) := by decide +kernel
theorem dL_setBudget_22 : decode cL_setBudget 22 = .ok (.ireturn, 1) := by decide +kernel
theorem dL_resolve_0 : decode cL_resolve 0 = .ok (.aload 4, 2) := by decide +kernel
theorem dL_resolve_2 : decode cL_resolve 2 = .ok (.iconst 0, 1) := by decide +kernel
theorem dL_resolve_3 : decode cL_resolve 3 = .ok (.aload_n 0, 1) := by decide +kernel
theorem dL_resolve_4 : decode cL_resolve 4 = .ok (.iload_n 1, 1) := by decide +kernel
theorem dL_resolve_5 : decode cL_resolve 5 = .ok (.iload_n 2, 1) := by decide +kernel
theorem dL_resolve_6 : decode cL_resolve 6 = .ok (.iload_n 3, 1) := by decide +kernel
theorem dL_resolve_7 : decode cL_resolve 7 = .ok (.invokevirtual 55, 3) := by decide +kernel
theorem dL_resolve_10 : decode cL_resolve 10 = .ok (.i2l, 1) := by decide +kernel
theorem dL_resolve_11 : decode cL_resolve 11 = .ok (.lastore, 1) := by decide +kernel
theorem dL_resolve_12 : decode cL_resolve 12 = .ok (.goto 15, 3) := by decide +kernel
theorem dL_resolve_15 : decode cL_resolve 15 = .ok (.astore 5, 2) := by decide +kernel
theorem dL_resolve_17 : decode cL_resolve 17 = .ok (.iconst 1, 1) := by decide +kernel
theorem dL_resolve_18 : decode cL_resolve 18 = .ok (.ireturn, 1) := by decide +kernel
theorem dL_resolve_19 : decode cL_resolve 19 = .ok (.astore 5, 2) := by decide +kernel
theorem dL_resolve_21 : decode cL_resolve 21 = .ok (.iconst 2, 1) := by decide +kernel
theorem dL_resolve_22 : decode cL_resolve 22 = .ok (.ireturn, 1) := by decide +kernel
theorem dL_resolve_23 : decode cL_resolve 23 = .ok (.astore 5, 2) := by decide +kernel
theorem dL_resolve_25 : decode cL_resolve 25 = .ok (.iconst 3, 1) := by decide +kernel
theorem dL_resolve_26 : decode cL_resolve 26 = .ok (.ireturn, 1) := by decide +kernel
theorem dL_resolve_27 : decode cL_resolve 27 = .ok (.iconst 0, 1) := by decide +kernel
theorem dL_resolve_28 : decode cL_resolve 28 = .ok (.ireturn, 1) := by decide +kernel
theorem dL_clashes_0 : decode cL_clashes 0 = .ok (.aload_n 2, 1) := by decide +kernel
theorem dL_clashes_1 : decode cL_clashes 1 = .ok (.iconst 0, 1) := by decide +kernel
theorem dL_clashes_2 : decode cL_clashes 2 = .ok (.aload_n 0, 1) := by decide +kernel
theorem dL_clashes_3 : decode cL_clashes 3 = .ok (.iload_n 1, 1) := by decide +kernel
theorem dL_clashes_4 : decode cL_clashes 4 = .ok (.invokevirtual 59, 3) := by decide +kernel
theorem dL_clashes_7 : decode cL_clashes 7 = .ok (.i2l, 1) := by decide +kernel
theorem dL_clashes_8 : decode cL_clashes 8 = .ok (.lastore, 1) := by decide +kernel
theorem dL_clashes_9 : decode cL_clashes 9 = .ok (.goto 6, 3) := by decide +kernel
theorem dL_clashes_12 : decode cL_clashes 12 = .ok (.astore_n 3, 1) := by decide +kernel
theorem dL_clashes_13 : decode cL_clashes 13 = .ok (.iconst 1, 1) := by decide +kernel
theorem dL_clashes_14 : decode cL_clashes 14 = .ok (.ireturn, 1) := by decide +kernel
theorem dL_clashes_15 : decode cL_clashes 15 = .ok (.iconst 0, 1) := by decide +kernel
theorem dL_clashes_16 : decode cL_clashes 16 = .ok (.ireturn, 1) := by decide +kernel
theorem dL_reason_0 : decode cL_reason 0 = .ok (.aload_n 3, 1) := by decide +kernel
theorem dL_reason_1 : decode cL_reason 1 = .ok (.iconst 0, 1) := by decide +kernel
theorem dL_reason_2 : decode cL_reason 2 = .ok (.aload_n 0, 1) := by decide +kernel
theorem dL_reason_3 : decode cL_reason 3 = .ok (.iload_n 1, 1) := by decide +kernel
theorem dL_reason_4 : decode cL_reason 4 = .ok (.iload_n 2, 1) := by decide +kernel
theorem dL_reason_5 : decode cL_reason 5 = .ok (.invokevirtual 62, 3) := by decide +kernel
theorem dL_reason_8 : decode cL_reason 8 = .ok (.i2l, 1) := by decide +kernel
theorem dL_reason_9 : decode cL_reason 9 = .ok (.lastore, 1) := by decide +kernel
theorem dL_reason_10 : decode cL_reason 10 = .ok (.goto 11, 3) := by decide +kernel
theorem dL_reason_13 : decode cL_reason 13 = .ok (.astore 4, 2) := by decide +kernel
theorem dL_reason_15 : decode cL_reason 15 = .ok (.iconst 1, 1) := by decide +kernel
theorem dL_reason_16 : decode cL_reason 16 = .ok (.ireturn, 1) := by decide +kernel
theorem dL_reason_17 : decode cL_reason 17 = .ok (.astore 4, 2) := by decide +kernel
theorem dL_reason_19 : decode cL_reason 19 = .ok (.iconst 2, 1) := by decide +kernel
theorem dL_reason_20 : decode cL_reason 20 = .ok (.ireturn, 1) := by decide +kernel
theorem dL_reason_21 : decode cL_reason 21 = .ok (.iconst 0, 1) := by decide +kernel
theorem dL_reason_22 : decode cL_reason 22 = .ok (.ireturn, 1) := by decide +kernel
theorem dL_reasonTask_0 : decode cL_reasonTask 0 = .ok (.aload_n 3, 1) := by decide +kernel
theorem dL_reasonTask_1 : decode cL_reasonTask 1 = .ok (.iconst 0, 1) := by decide +kernel
theorem dL_reasonTask_2 : decode cL_reasonTask 2 = .ok (.aload_n 0, 1) := by decide +kernel
theorem dL_reasonTask_3 : decode cL_reasonTask 3 = .ok (.iload_n 1, 1) := by decide +kernel
theorem dL_reasonTask_4 : decode cL_reasonTask 4 = .ok (.iload_n 2, 1) := by decide +kernel
theorem dL_reasonTask_5 : decode cL_reasonTask 5 = .ok (.invokevirtual 66, 3) := by decide +kernel
theorem dL_reasonTask_8 : decode cL_reasonTask 8 = .ok (.i2l, 1) := by decide +kernel
theorem dL_reasonTask_9 : decode cL_reasonTask 9 = .ok (.lastore, 1) := by decide +kernel
theorem dL_reasonTask_10 : decode cL_reasonTask 10 = .ok (.goto 11, 3) := by decide +kernel
theorem dL_reasonTask_13 : decode cL_reasonTask 13 = .ok (.astore 4, 2) := by decide +kernel
theorem dL_reasonTask_15 : decode cL_reasonTask 15 = .ok (.iconst 1, 1) := by decide +kernel
theorem dL_reasonTask_16 : decode cL_reasonTask 16 = .ok (.ireturn, 1) := by decide +kernel
theorem dL_reasonTask_17 : decode cL_reasonTask 17 = .ok (.astore 4, 2) := by decide +kernel
theorem dL_reasonTask_19 : decode cL_reasonTask 19 = .ok (.iconst 2, 1) := by decide +kernel
theorem dL_reasonTask_20 : decode cL_reasonTask 20 = .ok (.ireturn, 1) := by decide +kernel
theorem dL_reasonTask_21 : decode cL_reasonTask 21 = .ok (.iconst 0, 1) := by decide +kernel
theorem dL_reasonTask_22 : decode cL_reasonTask 22 = .ok (.ireturn, 1) := by decide +kernel
theorem dL_merge_0 : decode cL_merge 0 = .ok (.aload_n 2, 1) := by decide +kernel
theorem dL_merge_1 : decode cL_merge 1 = .ok (.iconst 0, 1) := by decide +kernel
theorem dL_merge_2 : decode cL_merge 2 = .ok (.aload_n 0, 1) := by decide +kernel
theorem dL_merge_3 : decode cL_merge 3 = .ok (.iload_n 1, 1) := by decide +kernel
theorem dL_merge_4 : decode cL_merge 4 = .ok (.invokevirtual 69, 3) := by decide +kernel
theorem dL_merge_7 : decode cL_merge 7 = .ok (.i2l, 1) := by decide +kernel
theorem dL_merge_8 : decode cL_merge 8 = .ok (.lastore, 1) := by decide +kernel
theorem dL_merge_9 : decode cL_merge 9 = .ok (.goto 9, 3) := by decide +kernel
theorem dL_merge_12 : decode cL_merge 12 = .ok (.astore_n 3, 1) := by decide +kernel
theorem dL_merge_13 : decode cL_merge 13 = .ok (.iconst 1, 1) := by decide +kernel
theorem dL_merge_14 : decode cL_merge 14 = .ok (.ireturn, 1) := by decide +kernel
theorem dL_merge_15 : decode cL_merge 15 = .ok (.astore_n 3, 1) := by decide +kernel
theorem dL_merge_16 : decode cL_merge 16 = .ok (.iconst 2, 1) := by decide +kernel
theorem dL_merge_17 : decode cL_merge 17 = .ok (.ireturn, 1) := by decide +kernel
theorem dL_merge_18 : decode cL_merge 18 = .ok (.iconst 0, 1) := by decide +kernel
theorem dL_merge_19 : decode cL_merge 19 = .ok (.ireturn, 1) := by decide +kernel
theorem dL_update_0 : decode cL_update 0 = .ok (.aload_n 2, 1) := by decide +kernel
theorem dL_update_1 : decode cL_update 1 = .ok (.iconst 0, 1) := by decide +kernel
theorem dL_update_2 : decode cL_update 2 = .ok (.aload_n 0, 1) := by decide +kernel
theorem dL_update_3 : decode cL_update 3 = .ok (.iload_n 1, 1) := by decide +kernel
theorem dL_update_4 : decode cL_update 4 = .ok (.invokevirtual 72, 3) := by decide +kernel
theorem dL_update_7 : decode cL_update 7 = .ok (.i2l, 1) := by decide +kernel
theorem dL_update_8 : decode cL_update 8 = .ok (.lastore, 1) := by decide +kernel
theorem dL_update_9 : decode cL_update 9 = .ok (.goto 9, 3) := by decide +kernel
theorem dL_update_12 : decode cL_update 12 = .ok (.astore_n 3, 1) := by decide +kernel
theorem dL_update_13 : decode cL_update 13 = .ok (.iconst 1, 1) := by decide +kernel
theorem dL_update_14 : decode cL_update 14 = .ok (.ireturn, 1) := by decide +kernel
theorem dL_update_15 : decode cL_update 15 = .ok (.astore_n 3, 1) := by decide +kernel
theorem dL_update_16 : decode cL_update 16 = .ok (.iconst 2, 1) := by decide +kernel
theorem dL_update_17 : decode cL_update 17 = .ok (.ireturn, 1) := by decide +kernel
theorem dL_update_18 : decode cL_update 18 = .ok (.iconst 0, 1) := by decide +kernel
theorem dL_update_19 : decode cL_update 19 = .ok (.ireturn, 1) := by decide +kernel
theorem dL_give_0 : decode cL_give 0 = .ok (.aload_n 3, 1) := by decide +kernel
theorem dL_give_1 : decode cL_give 1 = .ok (.iconst 0, 1) := by decide +kernel
theorem dL_give_2 : decode cL_give 2 = .ok (.aload_n 0, 1) := by decide +kernel
theorem dL_give_3 : decode cL_give 3 = .ok (.iload_n 1, 1) := by decide +kernel
theorem dL_give_4 : decode cL_give 4 = .ok (.iload_n 2, 1) := by decide +kernel
theorem dL_give_5 : decode cL_give 5 = .ok (.invokevirtual 75, 3) := by decide +kernel
theorem dL_give_8 : decode cL_give 8 = .ok (.i2l, 1) := by decide +kernel
theorem dL_give_9 : decode cL_give 9 = .ok (.lastore, 1) := by decide +kernel
theorem dL_give_10 : decode cL_give 10 = .ok (.goto 11, 3) := by decide +kernel
theorem dL_give_13 : decode cL_give 13 = .ok (.astore 4, 2) := by decide +kernel
theorem dL_give_15 : decode cL_give 15 = .ok (.iconst 1, 1) := by decide +kernel
theorem dL_give_16 : decode cL_give 16 = .ok (.ireturn, 1) := by decide +kernel
theorem dL_give_17 : decode cL_give 17 = .ok (.astore 4, 2) := by decide +kernel
theorem dL_give_19 : decode cL_give 19 = .ok (.iconst 2, 1) := by decide +kernel
theorem dL_give_20 : decode cL_give 20 = .ok (.ireturn, 1) := by decide +kernel
theorem dL_give_21 : decode cL_give 21 = .ok (.iconst 0, 1) := by decide +kernel
theorem dL_give_22 : decode cL_give 22 = .ok (.ireturn, 1) := by decide +kernel
theorem dL_lend_0 : decode cL_lend 0 = .ok (.aload 5, 2) := by decide +kernel
theorem dL_lend_2 : decode cL_lend 2 = .ok (.iconst 0, 1) := by decide +kernel
theorem dL_lend_3 : decode cL_lend 3 = .ok (.aload_n 0, 1) := by decide +kernel
theorem dL_lend_4 : decode cL_lend 4 = .ok (.iload_n 1, 1) := by decide +kernel
theorem dL_lend_5 : decode cL_lend 5 = .ok (.iload_n 2, 1) := by decide +kernel
theorem dL_lend_6 : decode cL_lend 6 = .ok (.iload_n 3, 1) := by decide +kernel
theorem dL_lend_7 : decode cL_lend 7 = .ok (.iload 4, 2) := by decide +kernel
theorem dL_lend_9 : decode cL_lend 9 = .ok (.invokevirtual 78, 3) := by decide +kernel
theorem dL_lend_12 : decode cL_lend 12 = .ok (.i2l, 1) := by decide +kernel
theorem dL_lend_13 : decode cL_lend 13 = .ok (.lastore, 1) := by decide +kernel
theorem dL_lend_14 : decode cL_lend 14 = .ok (.goto 15, 3) := by decide +kernel
theorem dL_lend_17 : decode cL_lend 17 = .ok (.astore 6, 2) := by decide +kernel
theorem dL_lend_19 : decode cL_lend 19 = .ok (.iconst 1, 1) := by decide +kernel
theorem dL_lend_20 : decode cL_lend 20 = .ok (.ireturn, 1) := by decide +kernel
theorem dL_lend_21 : decode cL_lend 21 = .ok (.astore 6, 2) := by decide +kernel
theorem dL_lend_23 : decode cL_lend 23 = .ok (.iconst 2, 1) := by decide +kernel
theorem dL_lend_24 : decode cL_lend 24 = .ok (.ireturn, 1) := by decide +kernel
theorem dL_lend_25 : decode cL_lend 25 = .ok (.astore 6, 2) := by decide +kernel
theorem dL_lend_27 : decode cL_lend 27 = .ok (.iconst 3, 1) := by decide +kernel
theorem dL_lend_28 : decode cL_lend 28 = .ok (.ireturn, 1) := by decide +kernel
theorem dL_lend_29 : decode cL_lend 29 = .ok (.iconst 0, 1) := by decide +kernel
theorem dL_lend_30 : decode cL_lend 30 = .ok (.ireturn, 1) := by decide +kernel
theorem dL_holder_0 : decode cL_holder 0 = .ok (.aload_n 3, 1) := by decide +kernel
theorem dL_holder_1 : decode cL_holder 1 = .ok (.iconst 0, 1) := by decide +kernel
theorem dL_holder_2 : decode cL_holder 2 = .ok (.aload_n 0, 1) := by decide +kernel
theorem dL_holder_3 : decode cL_holder 3 = .ok (.iload_n 1, 1) := by decide +kernel
theorem dL_holder_4 : decode cL_holder 4 = .ok (.iload_n 2, 1) := by decide +kernel
theorem dL_holder_5 : decode cL_holder 5 = .ok (.invokevirtual 82, 3) := by decide +kernel
theorem dL_holder_8 : decode cL_holder 8 = .ok (.i2l, 1) := by decide +kernel
theorem dL_holder_9 : decode cL_holder 9 = .ok (.lastore, 1) := by decide +kernel
theorem dL_holder_10 : decode cL_holder 10 = .ok (.goto 7, 3) := by decide +kernel
theorem dL_holder_13 : decode cL_holder 13 = .ok (.astore 4, 2) := by decide +kernel
theorem dL_holder_15 : decode cL_holder 15 = .ok (.iconst 1, 1) := by decide +kernel
theorem dL_holder_16 : decode cL_holder 16 = .ok (.ireturn, 1) := by decide +kernel
theorem dL_holder_17 : decode cL_holder 17 = .ok (.iconst 0, 1) := by decide +kernel
theorem dL_holder_18 : decode cL_holder 18 = .ok (.ireturn, 1) := by decide +kernel
theorem dL_tail_0 : decode cL_tail 0 = .ok (.aload_n 3, 1) := by decide +kernel
theorem dL_tail_1 : decode cL_tail 1 = .ok (.iconst 0, 1) := by decide +kernel
theorem dL_tail_2 : decode cL_tail 2 = .ok (.aload_n 0, 1) := by decide +kernel
theorem dL_tail_3 : decode cL_tail 3 = .ok (.iload_n 1, 1) := by decide +kernel
theorem dL_tail_4 : decode cL_tail 4 = .ok (.iload_n 2, 1) := by decide +kernel
theorem dL_tail_5 : decode cL_tail 5 = .ok (.invokevirtual 85, 3) := by decide +kernel
theorem dL_tail_8 : decode cL_tail 8 = .ok (.i2l, 1) := by decide +kernel
theorem dL_tail_9 : decode cL_tail 9 = .ok (.lastore, 1) := by decide +kernel
theorem dL_tail_10 : decode cL_tail 10 = .ok (.goto 11, 3) := by decide +kernel
theorem dL_tail_13 : decode cL_tail 13 = .ok (.astore 4, 2) := by decide +kernel
theorem dL_tail_15 : decode cL_tail 15 = .ok (.iconst 1, 1) := by decide +kernel
theorem dL_tail_16 : decode cL_tail 16 = .ok (.ireturn, 1) := by decide +kernel
theorem dL_tail_17 : decode cL_tail 17 = .ok (.astore 4, 2) := by decide +kernel
theorem dL_tail_19 : decode cL_tail 19 = .ok (.iconst 2, 1) := by decide +kernel
theorem dL_tail_20 : decode cL_tail 20 = .ok (.ireturn, 1) := by decide +kernel
theorem dL_tail_21 : decode cL_tail 21 = .ok (.iconst 0, 1) := by decide +kernel
theorem dL_tail_22 : decode cL_tail 22 = .ok (.ireturn, 1) := by decide +kernel
theorem dL_slack_0 : decode cL_slack 0 = .ok (.aload_n 3, 1) := by decide +kernel
theorem dL_slack_1 : decode cL_slack 1 = .ok (.iconst 0, 1) := by decide +kernel
theorem dL_slack_2 : decode cL_slack 2 = .ok (.aload_n 0, 1) := by decide +kernel
theorem dL_slack_3 : decode cL_slack 3 = .ok (.iload_n 1, 1) := by decide +kernel
theorem dL_slack_4 : decode cL_slack 4 = .ok (.iload_n 2, 1) := by decide +kernel
theorem dL_slack_5 : decode cL_slack 5 = .ok (.invokevirtual 88, 3) := by decide +kernel
theorem dL_slack_8 : decode cL_slack 8 = .ok (.i2l, 1) := by decide +kernel
theorem dL_slack_9 : decode cL_slack 9 = .ok (.lastore, 1) := by decide +kernel
theorem dL_slack_10 : decode cL_slack 10 = .ok (.goto 11, 3) := by decide +kernel
theorem dL_slack_13 : decode cL_slack 13 = .ok (.astore 4, 2) := by decide +kernel
theorem dL_slack_15 : decode cL_slack 15 = .ok (.iconst 1, 1) := by decide +kernel
theorem dL_slack_16 : decode cL_slack 16 = .ok (.ireturn, 1) := by decide +kernel
theorem dL_slack_17 : decode cL_slack 17 = .ok (.astore 4, 2) := by decide +kernel
theorem dL_slack_19 : decode cL_slack 19 = .ok (.iconst 2, 1) := by decide +kernel
theorem dL_slack_20 : decode cL_slack 20 = .ok (.ireturn, 1) := by decide +kernel
theorem dL_slack_21 : decode cL_slack 21 = .ok (.iconst 0, 1) := by decide +kernel
theorem dL_slack_22 : decode cL_slack 22 = .ok (.ireturn, 1) := by decide +kernel
theorem dL_critical_0 : decode cL_critical 0 = .ok (.aload_n 2, 1) := by decide +kernel
theorem dL_critical_1 : decode cL_critical 1 = .ok (.iconst 0, 1) := by decide +kernel
theorem dL_critical_2 : decode cL_critical 2 = .ok (.aload_n 0, 1) := by decide +kernel
theorem dL_critical_3 : decode cL_critical 3 = .ok (.iload_n 1, 1) := by decide +kernel
theorem dL_critical_4 : decode cL_critical 4 = .ok (.invokevirtual 91, 3) := by decide +kernel
theorem dL_critical_7 : decode cL_critical 7 = .ok (.i2l, 1) := by decide +kernel
theorem dL_critical_8 : decode cL_critical 8 = .ok (.lastore, 1) := by decide +kernel
theorem dL_critical_9 : decode cL_critical 9 = .ok (.goto 6, 3) := by decide +kernel
theorem dL_critical_12 : decode cL_critical 12 = .ok (.astore_n 3, 1) := by decide +kernel
theorem dL_critical_13 : decode cL_critical 13 = .ok (.iconst 1, 1) := by decide +kernel
theorem dL_critical_14 : decode cL_critical 14 = .ok (.ireturn, 1) := by decide +kernel
theorem dL_critical_15 : decode cL_critical 15 = .ok (.iconst 0, 1) := by decide +kernel
theorem dL_critical_16 : decode cL_critical 16 = .ok (.ireturn, 1) := by decide +kernel
theorem dL_way_0 : decode cL_way 0 = .ok (.aload_n 2, 1) := by decide +kernel
theorem dL_way_1 : decode cL_way 1 = .ok (.iconst 0, 1) := by decide +kernel
theorem dL_way_2 : decode cL_way 2 = .ok (.aload_n 0, 1) := by decide +kernel
theorem dL_way_3 : decode cL_way 3 = .ok (.iload_n 1, 1) := by decide +kernel
theorem dL_way_4 : decode cL_way 4 = .ok (.invokevirtual 94, 3) := by decide +kernel
theorem dL_way_7 : decode cL_way 7 = .ok (.i2l, 1) := by decide +kernel
theorem dL_way_8 : decode cL_way 8 = .ok (.lastore, 1) := by decide +kernel
theorem dL_way_9 : decode cL_way 9 = .ok (.goto 6, 3) := by decide +kernel
theorem dL_way_12 : decode cL_way 12 = .ok (.astore_n 3, 1) := by decide +kernel
theorem dL_way_13 : decode cL_way 13 = .ok (.iconst 1, 1) := by decide +kernel
theorem dL_way_14 : decode cL_way 14 = .ok (.ireturn, 1) := by decide +kernel
theorem dL_way_15 : decode cL_way 15 = .ok (.iconst 0, 1) := by decide +kernel
theorem dL_way_16 : decode cL_way 16 = .ok (.ireturn, 1) := by decide +kernel
theorem dL_firstDay_0 : decode cL_firstDay 0 = .ok (.aload_n 3, 1) := by decide +kernel
theorem dL_firstDay_1 : decode cL_firstDay 1 = .ok (.iconst 0, 1) := by decide +kernel
theorem dL_firstDay_2 : decode cL_firstDay 2 = .ok (.aload_n 0, 1) := by decide +kernel
theorem dL_firstDay_3 : decode cL_firstDay 3 = .ok (.iload_n 1, 1) := by decide +kernel
theorem dL_firstDay_4 : decode cL_firstDay 4 = .ok (.iload_n 2, 1) := by decide +kernel
theorem dL_firstDay_5 : decode cL_firstDay 5 = .ok (.invokevirtual 97, 3) := by decide +kernel
theorem dL_firstDay_8 : decode cL_firstDay 8 = .ok (.i2l, 1) := by decide +kernel
theorem dL_firstDay_9 : decode cL_firstDay 9 = .ok (.lastore, 1) := by decide +kernel
theorem dL_firstDay_10 : decode cL_firstDay 10 = .ok (.goto 11, 3) := by decide +kernel
theorem dL_firstDay_13 : decode cL_firstDay 13 = .ok (.astore 4, 2) := by decide +kernel
theorem dL_firstDay_15 : decode cL_firstDay 15 = .ok (.iconst 1, 1) := by decide +kernel
theorem dL_firstDay_16 : decode cL_firstDay 16 = .ok (.ireturn, 1) := by decide +kernel
theorem dL_firstDay_17 : decode cL_firstDay 17 = .ok (.astore 4, 2) := by decide +kernel
theorem dL_firstDay_19 : decode cL_firstDay 19 = .ok (.iconst 2, 1) := by decide +kernel
theorem dL_firstDay_20 : decode cL_firstDay 20 = .ok (.ireturn, 1) := by decide +kernel
theorem dL_firstDay_21 : decode cL_firstDay 21 = .ok (.iconst 0, 1) := by decide +kernel
theorem dL_firstDay_22 : decode cL_firstDay 22 = .ok (.ireturn, 1) := by decide +kernel
theorem dL_leftOut_0 : decode cL_leftOut 0 = .ok (.aload_n 2, 1) := by decide +kernel
theorem dL_leftOut_1 : decode cL_leftOut 1 = .ok (.iconst 0, 1) := by decide +kernel
theorem dL_leftOut_2 : decode cL_leftOut 2 = .ok (.aload_n 0, 1) := by decide +kernel
theorem dL_leftOut_3 : decode cL_leftOut 3 = .ok (.iload_n 1, 1) := by decide +kernel
theorem dL_leftOut_4 : decode cL_leftOut 4 = .ok (.invokevirtual 100, 3) := by decide +kernel
theorem dL_leftOut_7 : decode cL_leftOut 7 = .ok (.i2l, 1) := by decide +kernel
theorem dL_leftOut_8 : decode cL_leftOut 8 = .ok (.lastore, 1) := by decide +kernel
theorem dL_leftOut_9 : decode cL_leftOut 9 = .ok (.goto 6, 3) := by decide +kernel
theorem dL_leftOut_12 : decode cL_leftOut 12 = .ok (.astore_n 3, 1) := by decide +kernel
theorem dL_leftOut_13 : decode cL_leftOut 13 = .ok (.iconst 1, 1) := by decide +kernel
theorem dL_leftOut_14 : decode cL_leftOut 14 = .ok (.ireturn, 1) := by decide +kernel
theorem dL_leftOut_15 : decode cL_leftOut 15 = .ok (.iconst 0, 1) := by decide +kernel
theorem dL_leftOut_16 : decode cL_leftOut 16 = .ok (.ireturn, 1) := by decide +kernel
theorem dL_lastDay_0 : decode cL_lastDay 0 = .ok (.aload_n 2, 1) := by decide +kernel
theorem dL_lastDay_1 : decode cL_lastDay 1 = .ok (.iconst 0, 1) := by decide +kernel
theorem dL_lastDay_2 : decode cL_lastDay 2 = .ok (.aload_n 0, 1) := by decide +kernel
theorem dL_lastDay_3 : decode cL_lastDay 3 = .ok (.iload_n 1, 1) := by decide +kernel
theorem dL_lastDay_4 : decode cL_lastDay 4 = .ok (.invokevirtual 103, 3) := by decide +kernel
theorem dL_lastDay_7 : decode cL_lastDay 7 = .ok (.i2l, 1) := by decide +kernel
theorem dL_lastDay_8 : decode cL_lastDay 8 = .ok (.lastore, 1) := by decide +kernel
theorem dL_lastDay_9 : decode cL_lastDay 9 = .ok (.goto 6, 3) := by decide +kernel
theorem dL_lastDay_12 : decode cL_lastDay 12 = .ok (.astore_n 3, 1) := by decide +kernel
theorem dL_lastDay_13 : decode cL_lastDay 13 = .ok (.iconst 1, 1) := by decide +kernel
theorem dL_lastDay_14 : decode cL_lastDay 14 = .ok (.ireturn, 1) := by decide +kernel
theorem dL_lastDay_15 : decode cL_lastDay 15 = .ok (.iconst 0, 1) := by decide +kernel
theorem dL_lastDay_16 : decode cL_lastDay 16 = .ok (.ireturn, 1) := by decide +kernel
theorem dL_lastDayByAll_0 : decode cL_lastDayByAll 0 = .ok (.aload_n 2, 1) := by decide +kernel
theorem dL_lastDayByAll_1 : decode cL_lastDayByAll 1 = .ok (.iconst 0, 1) := by decide +kernel
theorem dL_lastDayByAll_2 : decode cL_lastDayByAll 2 = .ok (.aload_n 0, 1) := by decide +kernel
theorem dL_lastDayByAll_3 : decode cL_lastDayByAll 3 = .ok (.iload_n 1, 1) := by decide +kernel
theorem dL_lastDayByAll_4 : decode cL_lastDayByAll 4 = .ok (.invokevirtual 106, 3) := by decide +kernel
theorem dL_lastDayByAll_7 : decode cL_lastDayByAll 7 = .ok (.i2l, 1) := by decide +kernel
theorem dL_lastDayByAll_8 : decode cL_lastDayByAll 8 = .ok (.lastore, 1) := by decide +kernel
theorem dL_lastDayByAll_9 : decode cL_lastDayByAll 9 = .ok (.goto 9, 3) := by decide +kernel
theorem dL_lastDayByAll_12 : decode cL_lastDayByAll 12 = .ok (.astore_n 3, 1) := by decide +kernel
theorem dL_lastDayByAll_13 : decode cL_lastDayByAll 13 = .ok (.iconst 1, 1) := by decide +kernel
theorem dL_lastDayByAll_14 : decode cL_lastDayByAll 14 = .ok (.ireturn, 1) := by decide +kernel
theorem dL_lastDayByAll_15 : decode cL_lastDayByAll 15 = .ok (.astore_n 3, 1) := by decide +kernel
theorem dL_lastDayByAll_16 : decode cL_lastDayByAll 16 = .ok (.iconst 2, 1) := by decide +kernel
theorem dL_lastDayByAll_17 : decode cL_lastDayByAll 17 = .ok (.ireturn, 1) := by decide +kernel
theorem dL_lastDayByAll_18 : decode cL_lastDayByAll 18 = .ok (.iconst 0, 1) := by decide +kernel
theorem dL_lastDayByAll_19 : decode cL_lastDayByAll 19 = .ok (.ireturn, 1) := by decide +kernel
theorem dL_taskOn_0 : decode cL_taskOn 0 = .ok (.aload 4, 2) := by decide +kernel
theorem dL_taskOn_2 : decode cL_taskOn 2 = .ok (.iconst 0, 1) := by decide +kernel
theorem dL_taskOn_3 : decode cL_taskOn 3 = .ok (.aload_n 0, 1) := by decide +kernel
theorem dL_taskOn_4 : decode cL_taskOn 4 = .ok (.iload_n 1, 1) := by decide +kernel
theorem dL_taskOn_5 : decode cL_taskOn 5 = .ok (.iload_n 2, 1) := by decide +kernel
theorem dL_taskOn_6 : decode cL_taskOn 6 = .ok (.iload_n 3, 1) := by decide +kernel
theorem dL_taskOn_7 : decode cL_taskOn 7 = .ok (.invokevirtual 109, 3) := by decide +kernel
theorem dL_taskOn_10 : decode cL_taskOn 10 = .ok (.i2l, 1) := by decide +kernel
theorem dL_taskOn_11 : decode cL_taskOn 11 = .ok (.lastore, 1) := by decide +kernel
theorem dL_taskOn_12 : decode cL_taskOn 12 = .ok (.goto 11, 3) := by decide +kernel
theorem dL_taskOn_15 : decode cL_taskOn 15 = .ok (.astore 5, 2) := by decide +kernel
theorem dL_taskOn_17 : decode cL_taskOn 17 = .ok (.iconst 1, 1) := by decide +kernel
theorem dL_taskOn_18 : decode cL_taskOn 18 = .ok (.ireturn, 1) := by decide +kernel
theorem dL_taskOn_19 : decode cL_taskOn 19 = .ok (.astore 5, 2) := by decide +kernel
theorem dL_taskOn_21 : decode cL_taskOn 21 = .ok (.iconst 2, 1) := by decide +kernel
theorem dL_taskOn_22 : decode cL_taskOn 22 = .ok (.ireturn, 1) := by decide +kernel
theorem dL_taskOn_23 : decode cL_taskOn 23 = .ok (.iconst 0, 1) := by decide +kernel
theorem dL_taskOn_24 : decode cL_taskOn 24 = .ok (.ireturn, 1) := by decide +kernel
set_option maxHeartbeats 4000000 in
set_option maxRecDepth 100000 in
theorem ok_L_setTask {l : Launch} (hfl : l.stackTraces = false) {sz : Nat} {sk : pb_Sk} {rf : pb_Rf} {sg : pb_Sg} {X O d9 : Nat} (hX : sk X = (13, 0)) (hO : sk O = (3, 1)) {p0 p1 p2 p3 p4 : Int32} {sg9 : pb_Sg} (hd9 : d9 ≤ 18) {bv : Bool} (hM : pb_Met l mX7_setTask d9 0 0 [.ref X, .int p0, .int p1, .int p2, .int p3, .int p4] sz sk rf sg (pb_is (some (.int (pb_b bv))) sz sk rf sg9)) : pb_Met l mL_setTask 20 0 0 [.ref X, .int p0, .int p1, .int p2, .int p3, .int p4, .ref O] sz sk rf sg (pb_is (some (.int (nI 0))) sz sk rf (pb_up sg9 O 0 (pb_b bv))) := by
  refine pb_startH hfl (by decide +kernel) (fun h9 => nomatch h9) (pb_c1 rfl) (Nat.le_of_ble_eq_true rfl) (fun F hF h hQ => ?_)
  subst hF
  show pv F 0 0 sz sk rf sg 0 [some (.ref X), some (.int p0), some (.int p1), some (.int p2), some (.int p3), some (.int p4), some (.ref O), none] []
  refine v_aload h dL_setTask_0 (q := 2) rfl rfl ?_
  refine v_iconst h (v := nI 0) dL_setTask_2 (q := 3) rfl (by decide +kernel) ?_
  refine v_aload_n h (i := 0) dL_setTask_3 (q := 4) rfl rfl rfl ?_
  refine v_iload_n h (i := 1) dL_setTask_4 (q := 5) rfl rfl rfl ?_
  refine v_iload_n h (i := 2) dL_setTask_5 (q := 6) rfl rfl rfl ?_
  refine v_iload_n h (i := 3) dL_setTask_6 (q := 7) rfl rfl rfl ?_
  refine v_iload h dL_setTask_7 (q := 9) rfl rfl ?_
  refine v_iload h dL_setTask_9 (q := 11) rfl rfl ?_
  refine v_callV1 h hM kX7_setTask tw288 tw290 (by assumption) (by decide) rfl rfl rfl (by simp [Value.category]) (by omega) (Nat.zero_le _) (Nat.zero_le _) rfl dL_setTask_11 (q := 14) rfl ?_
  refine v_if_eq h dL_setTask_14 (q := 17) rfl (tgt := 21) (by decide) (fun c1 => ?_) (fun c1 => ?_)
  · skip
    have e1 := pb_b_0.mp c1
    subst e1
    refine v_lconst h (v := (nI 0).toInt64) dL_setTask_21 (q := 22) rfl (by decide) ?_
    refine v_last h (by assumption) rfl (by first | assumption | omega) (by decide) dL_setTask_22 (q := 23) rfl ?_
    refine v_goto h dL_setTask_23 (tgt := 34) (by decide) ?_
    refine v_iconst h (v := nI 0) dL_setTask_34 (q := 35) rfl (by decide +kernel) ?_
    refine v_iret h hQ rfl rfl dL_setTask_35 (Nat.zero_le _) (Nat.zero_le _) ⟨rfl, rfl, rfl, rfl, rfl⟩
  · skip
    have e1 := pb_ne_f (fun q => c1 (pb_b_0.mpr q))
    subst e1
    refine v_lconst h (v := (nI 1).toInt64) dL_setTask_17 (q := 18) rfl (by decide) ?_
    refine v_goto h dL_setTask_18 (tgt := 22) (by decide) ?_
    refine v_last h (by assumption) rfl (by first | assumption | omega) (by decide) dL_setTask_22 (q := 23) rfl ?_
    refine v_goto h dL_setTask_23 (tgt := 34) (by decide) ?_
    refine v_iconst h (v := nI 0) dL_setTask_34 (q := 35) rfl (by decide +kernel) ?_
    refine v_iret h hQ rfl rfl dL_setTask_35 (Nat.zero_le _) (Nat.zero_le _) ⟨rfl, rfl, rfl, rfl, rfl⟩
set_option maxHeartbeats 4000000 in
set_option maxRecDepth 100000 in
theorem x1_L_setTask {l : Launch} (hfl : l.stackTraces = false) {sz : Nat} {sk : pb_Sk} {rf : pb_Rf} {sg : pb_Sg} {X O d9 : Nat} (hX : sk X = (13, 0)) (hO : sk O = (3, 1)) {p0 p1 p2 p3 p4 : Int32} {sg9 : pb_Sg} (hd9 : d9 ≤ 18) (hM : pb_Met l mX7_setTask d9 1 6 [.ref X, .int p0, .int p1, .int p2, .int p3, .int p4] sz sk rf sg (pb_thr "java/lang/IndexOutOfBoundsException" sz sk rf sg9)) : pb_Met l mL_setTask 20 1 6 [.ref X, .int p0, .int p1, .int p2, .int p3, .int p4, .ref O] sz sk rf sg (pb_cau (nI 1) sz sk rf sg9) := by
  refine pb_startH hfl (by decide +kernel) (fun h9 => nomatch h9) (pb_c1 rfl) (Nat.le_of_ble_eq_true rfl) (fun F hF h hQ => ?_)
  subst hF
  show pv F 0 0 sz sk rf sg 0 [some (.ref X), some (.int p0), some (.int p1), some (.int p2), some (.int p3), some (.int p4), some (.ref O), none] []
  refine v_aload h dL_setTask_0 (q := 2) rfl rfl ?_
  refine v_iconst h (v := nI 0) dL_setTask_2 (q := 3) rfl (by decide +kernel) ?_
  refine v_aload_n h (i := 0) dL_setTask_3 (q := 4) rfl rfl rfl ?_
  refine v_iload_n h (i := 1) dL_setTask_4 (q := 5) rfl rfl rfl ?_
  refine v_iload_n h (i := 2) dL_setTask_5 (q := 6) rfl rfl rfl ?_
  refine v_iload_n h (i := 3) dL_setTask_6 (q := 7) rfl rfl rfl ?_
  refine v_iload h dL_setTask_7 (q := 9) rfl rfl ?_
  refine v_iload h dL_setTask_9 (q := 11) rfl rfl ?_
  refine v_callVy h hM kX7_setTask tw288 tw290 (by assumption) (by decide) rfl rfl rfl (by simp [Value.category]) (by omega) (by decide) (by decide) rfl dL_setTask_11 (q := 14) rfl (fun sz9 hsz9 => ?_)
  refine v_catch h [] [(0, 23, 30, 15)] rfl (fun z hz => nomatch hz) (by decide) tw286 tw298 rfl (fun qq => ?_)
  refine v_astore h dL_setTask_26 (q := 28) rfl (Nat.le_of_ble_eq_true rfl) rfl ?_
  refine v_iconst h (v := nI 1) dL_setTask_28 (q := 29) rfl (by decide +kernel) ?_
  refine v_iret h hQ rfl rfl dL_setTask_29 (by decide) (by decide) ⟨rfl, hsz9, rfl, rfl, rfl⟩
set_option maxHeartbeats 4000000 in
set_option maxRecDepth 100000 in
theorem x2_L_setTask {l : Launch} (hfl : l.stackTraces = false) {sz : Nat} {sk : pb_Sk} {rf : pb_Rf} {sg : pb_Sg} {X O d9 : Nat} (hX : sk X = (13, 0)) (hO : sk O = (3, 1)) {p0 p1 p2 p3 p4 : Int32} {sg9 : pb_Sg} (hd9 : d9 ≤ 18) (hM : pb_Met l mX7_setTask d9 1 6 [.ref X, .int p0, .int p1, .int p2, .int p3, .int p4] sz sk rf sg (pb_thr "java/lang/IllegalArgumentException" sz sk rf sg9)) : pb_Met l mL_setTask 20 1 6 [.ref X, .int p0, .int p1, .int p2, .int p3, .int p4, .ref O] sz sk rf sg (pb_cau (nI 2) sz sk rf sg9) := by
  refine pb_startH hfl (by decide +kernel) (fun h9 => nomatch h9) (pb_c1 rfl) (Nat.le_of_ble_eq_true rfl) (fun F hF h hQ => ?_)
  subst hF
  show pv F 0 0 sz sk rf sg 0 [some (.ref X), some (.int p0), some (.int p1), some (.int p2), some (.int p3), some (.int p4), some (.ref O), none] []
  refine v_aload h dL_setTask_0 (q := 2) rfl rfl ?_
  refine v_iconst h (v := nI 0) dL_setTask_2 (q := 3) rfl (by decide +kernel) ?_
  refine v_aload_n h (i := 0) dL_setTask_3 (q := 4) rfl rfl rfl ?_
  refine v_iload_n h (i := 1) dL_setTask_4 (q := 5) rfl rfl rfl ?_
  refine v_iload_n h (i := 2) dL_setTask_5 (q := 6) rfl rfl rfl ?_
  refine v_iload_n h (i := 3) dL_setTask_6 (q := 7) rfl rfl rfl ?_
  refine v_iload h dL_setTask_7 (q := 9) rfl rfl ?_
  refine v_iload h dL_setTask_9 (q := 11) rfl rfl ?_
  refine v_callVy h hM kX7_setTask tw288 tw290 (by assumption) (by decide) rfl rfl rfl (by simp [Value.category]) (by omega) (by decide) (by decide) rfl dL_setTask_11 (q := 14) rfl (fun sz9 hsz9 => ?_)
  refine v_catch h [(0, 23, 26, 13)] [] rfl (fun z hz => by obtain rfl := List.mem_singleton.mp hz; exact ⟨by decide, "java/lang/IndexOutOfBoundsException", tw286, by simp [pb_ncs]⟩) (by decide) tw287 tw372 rfl (fun qq => ?_)
  refine v_astore h dL_setTask_30 (q := 32) rfl (Nat.le_of_ble_eq_true rfl) rfl ?_
  refine v_iconst h (v := nI 2) dL_setTask_32 (q := 33) rfl (by decide +kernel) ?_
  refine v_iret h hQ rfl rfl dL_setTask_33 (by decide) (by decide) ⟨rfl, hsz9, rfl, rfl, rfl⟩
set_option maxHeartbeats 4000000 in
set_option maxRecDepth 100000 in
theorem ok_L_removeTask {l : Launch} (hfl : l.stackTraces = false) {sz : Nat} {sk : pb_Sk} {rf : pb_Rf} {sg : pb_Sg} {X O d9 : Nat} (hX : sk X = (13, 0)) (hO : sk O = (3, 1)) {p0 p1 : Int32} {sg9 : pb_Sg} (hd9 : d9 ≤ 18) {v : Int32} (hM : pb_Met l mX7_removeTask d9 0 0 [.ref X, .int p0, .int p1] sz sk rf sg (pb_is (some (.int v)) sz sk rf sg9)) : pb_Met l mL_removeTask 20 0 0 [.ref X, .int p0, .int p1, .ref O] sz sk rf sg (pb_is (some (.int (nI 0))) sz sk rf (pb_up sg9 O 0 v)) := by
  refine pb_startH hfl (by decide +kernel) (fun h9 => nomatch h9) (pb_c1 rfl) (Nat.le_of_ble_eq_true rfl) (fun F hF h hQ => ?_)
  subst hF
  show pv F 0 0 sz sk rf sg 0 [some (.ref X), some (.int p0), some (.int p1), some (.ref O), none] []
  refine v_aload_n h (i := 3) dL_removeTask_0 (q := 1) rfl rfl rfl ?_
  refine v_iconst h (v := nI 0) dL_removeTask_1 (q := 2) rfl (by decide +kernel) ?_
  refine v_aload_n h (i := 0) dL_removeTask_2 (q := 3) rfl rfl rfl ?_
  refine v_iload_n h (i := 1) dL_removeTask_3 (q := 4) rfl rfl rfl ?_
  refine v_iload_n h (i := 2) dL_removeTask_4 (q := 5) rfl rfl rfl ?_
  refine v_callV1 h hM kX7_removeTask tw402 tw404 (by assumption) (by decide) rfl rfl rfl (by simp [Value.category]) (by omega) (Nat.zero_le _) (Nat.zero_le _) rfl dL_removeTask_5 (q := 8) rfl ?_
  refine v_i2l h dL_removeTask_8 (q := 9) rfl ?_
  refine v_last h (by assumption) rfl (by first | assumption | omega) (by decide) dL_removeTask_9 (q := 10) rfl ?_
  refine v_goto h dL_removeTask_10 (tgt := 25) (by decide) ?_
  refine v_iconst h (v := nI 0) dL_removeTask_25 (q := 26) rfl (by decide +kernel) ?_
  refine v_iret h hQ rfl rfl dL_removeTask_26 (Nat.zero_le _) (Nat.zero_le _) ⟨rfl, rfl, rfl, rfl, rfl⟩
set_option maxHeartbeats 4000000 in
set_option maxRecDepth 100000 in
theorem x1_L_removeTask {l : Launch} (hfl : l.stackTraces = false) {sz : Nat} {sk : pb_Sk} {rf : pb_Rf} {sg : pb_Sg} {X O d9 : Nat} (hX : sk X = (13, 0)) (hO : sk O = (3, 1)) {p0 p1 : Int32} {sg9 : pb_Sg} (hd9 : d9 ≤ 18) (hM : pb_Met l mX7_removeTask d9 1 6 [.ref X, .int p0, .int p1] sz sk rf sg (pb_thr "java/lang/IndexOutOfBoundsException" sz sk rf sg9)) : pb_Met l mL_removeTask 20 1 6 [.ref X, .int p0, .int p1, .ref O] sz sk rf sg (pb_cau (nI 1) sz sk rf sg9) := by
  refine pb_startH hfl (by decide +kernel) (fun h9 => nomatch h9) (pb_c1 rfl) (Nat.le_of_ble_eq_true rfl) (fun F hF h hQ => ?_)
  subst hF
  show pv F 0 0 sz sk rf sg 0 [some (.ref X), some (.int p0), some (.int p1), some (.ref O), none] []
  refine v_aload_n h (i := 3) dL_removeTask_0 (q := 1) rfl rfl rfl ?_
  refine v_iconst h (v := nI 0) dL_removeTask_1 (q := 2) rfl (by decide +kernel) ?_
  refine v_aload_n h (i := 0) dL_removeTask_2 (q := 3) rfl rfl rfl ?_
  refine v_iload_n h (i := 1) dL_removeTask_3 (q := 4) rfl rfl rfl ?_
  refine v_iload_n h (i := 2) dL_removeTask_4 (q := 5) rfl rfl rfl ?_
  refine v_callVy h hM kX7_removeTask tw402 tw404 (by assumption) (by decide) rfl rfl rfl (by simp [Value.category]) (by omega) (by decide) (by decide) rfl dL_removeTask_5 (q := 8) rfl (fun sz9 hsz9 => ?_)
  refine v_catch h [] [(0, 10, 17, 15), (0, 10, 21, 21)] rfl (fun z hz => nomatch hz) (by decide) tw286 tw298 rfl (fun qq => ?_)
  refine v_astore h dL_removeTask_13 (q := 15) rfl (Nat.le_of_ble_eq_true rfl) rfl ?_
  refine v_iconst h (v := nI 1) dL_removeTask_15 (q := 16) rfl (by decide +kernel) ?_
  refine v_iret h hQ rfl rfl dL_removeTask_16 (by decide) (by decide) ⟨rfl, hsz9, rfl, rfl, rfl⟩
set_option maxHeartbeats 4000000 in
set_option maxRecDepth 100000 in
theorem x2_L_removeTask {l : Launch} (hfl : l.stackTraces = false) {sz : Nat} {sk : pb_Sk} {rf : pb_Rf} {sg : pb_Sg} {X O d9 : Nat} (hX : sk X = (13, 0)) (hO : sk O = (3, 1)) {p0 p1 : Int32} {sg9 : pb_Sg} (hd9 : d9 ≤ 18) (hM : pb_Met l mX7_removeTask d9 1 6 [.ref X, .int p0, .int p1] sz sk rf sg (pb_thr "java/lang/IllegalArgumentException" sz sk rf sg9)) : pb_Met l mL_removeTask 20 1 6 [.ref X, .int p0, .int p1, .ref O] sz sk rf sg (pb_cau (nI 2) sz sk rf sg9) := by
  refine pb_startH hfl (by decide +kernel) (fun h9 => nomatch h9) (pb_c1 rfl) (Nat.le_of_ble_eq_true rfl) (fun F hF h hQ => ?_)
  subst hF
  show pv F 0 0 sz sk rf sg 0 [some (.ref X), some (.int p0), some (.int p1), some (.ref O), none] []
  refine v_aload_n h (i := 3) dL_removeTask_0 (q := 1) rfl rfl rfl ?_
  refine v_iconst h (v := nI 0) dL_removeTask_1 (q := 2) rfl (by decide +kernel) ?_
  refine v_aload_n h (i := 0) dL_removeTask_2 (q := 3) rfl rfl rfl ?_
  refine v_iload_n h (i := 1) dL_removeTask_3 (q := 4) rfl rfl rfl ?_
  refine v_iload_n h (i := 2) dL_removeTask_4 (q := 5) rfl rfl rfl ?_
  refine v_callVy h hM kX7_removeTask tw402 tw404 (by assumption) (by decide) rfl rfl rfl (by simp [Value.category]) (by omega) (by decide) (by decide) rfl dL_removeTask_5 (q := 8) rfl (fun sz9 hsz9 => ?_)
  refine v_catch h [(0, 10, 13, 13)] [(0, 10, 21, 21)] rfl (fun z hz => by obtain rfl := List.mem_singleton.mp hz; exact ⟨by decide, "java/lang/IndexOutOfBoundsException", tw286, by simp [pb_ncs]⟩) (by decide) tw287 tw372 rfl (fun qq => ?_)
  refine v_astore h dL_removeTask_17 (q := 19) rfl (Nat.le_of_ble_eq_true rfl) rfl ?_
  refine v_iconst h (v := nI 2) dL_removeTask_19 (q := 20) rfl (by decide +kernel) ?_
  refine v_iret h hQ rfl rfl dL_removeTask_20 (by decide) (by decide) ⟨rfl, hsz9, rfl, rfl, rfl⟩
set_option maxHeartbeats 4000000 in
set_option maxRecDepth 100000 in
theorem x3_L_removeTask {l : Launch} (hfl : l.stackTraces = false) {sz : Nat} {sk : pb_Sk} {rf : pb_Rf} {sg : pb_Sg} {X O d9 : Nat} (hX : sk X = (13, 0)) (hO : sk O = (3, 1)) {p0 p1 : Int32} {sg9 : pb_Sg} (hd9 : d9 ≤ 18) (hM : pb_Met l mX7_removeTask d9 1 6 [.ref X, .int p0, .int p1] sz sk rf sg (pb_thr "java/lang/IllegalStateException" sz sk rf sg9)) : pb_Met l mL_removeTask 20 1 6 [.ref X, .int p0, .int p1, .ref O] sz sk rf sg (pb_cau (nI 3) sz sk rf sg9) := by
  refine pb_startH hfl (by decide +kernel) (fun h9 => nomatch h9) (pb_c1 rfl) (Nat.le_of_ble_eq_true rfl) (fun F hF h hQ => ?_)
  subst hF
  show pv F 0 0 sz sk rf sg 0 [some (.ref X), some (.int p0), some (.int p1), some (.ref O), none] []
  refine v_aload_n h (i := 3) dL_removeTask_0 (q := 1) rfl rfl rfl ?_
  refine v_iconst h (v := nI 0) dL_removeTask_1 (q := 2) rfl (by decide +kernel) ?_
  refine v_aload_n h (i := 0) dL_removeTask_2 (q := 3) rfl rfl rfl ?_
  refine v_iload_n h (i := 1) dL_removeTask_3 (q := 4) rfl rfl rfl ?_
  refine v_iload_n h (i := 2) dL_removeTask_4 (q := 5) rfl rfl rfl ?_
  refine v_callVy h hM kX7_removeTask tw402 tw404 (by assumption) (by decide) rfl rfl rfl (by simp [Value.category]) (by omega) (by decide) (by decide) rfl dL_removeTask_5 (q := 8) rfl (fun sz9 hsz9 => ?_)
  refine v_catch h [(0, 10, 13, 13), (0, 10, 17, 15)] [] rfl (fun z hz => by rcases List.mem_cons.mp hz with rfl | hz; exact ⟨by decide, "java/lang/IndexOutOfBoundsException", tw286, by simp [pb_ncs]⟩; obtain rfl := List.mem_singleton.mp hz; exact ⟨by decide, "java/lang/IllegalArgumentException", tw287, by simp [pb_ncs]⟩) (by decide) tw401 tw408 rfl (fun qq => ?_)
  refine v_astore h dL_removeTask_21 (q := 23) rfl (Nat.le_of_ble_eq_true rfl) rfl ?_
  refine v_iconst h (v := nI 3) dL_removeTask_23 (q := 24) rfl (by decide +kernel) ?_
  refine v_iret h hQ rfl rfl dL_removeTask_24 (by decide) (by decide) ⟨rfl, hsz9, rfl, rfl, rfl⟩
set_option maxHeartbeats 4000000 in
set_option maxRecDepth 100000 in
theorem ok_L_setNeed {l : Launch} (hfl : l.stackTraces = false) {sz : Nat} {sk : pb_Sk} {rf : pb_Rf} {sg : pb_Sg} {X O d9 : Nat} (hX : sk X = (13, 0)) (hO : sk O = (3, 1)) {p0 p1 p2 p3 : Int32} {sg9 : pb_Sg} (hd9 : d9 ≤ 18) {bv : Bool} (hM : pb_Met l mX7_setNeed d9 0 0 [.ref X, .int p0, .int p1, .int p2, .int p3] sz sk rf sg (pb_is (some (.int (pb_b bv))) sz sk rf sg9)) : pb_Met l mL_setNeed 20 0 0 [.ref X, .int p0, .int p1, .int p2, .int p3, .ref O] sz sk rf sg (pb_is (some (.int (nI 0))) sz sk rf (pb_up sg9 O 0 (pb_b bv))) := by
  refine pb_startH hfl (by decide +kernel) (fun h9 => nomatch h9) (pb_c1 rfl) (Nat.le_of_ble_eq_true rfl) (fun F hF h hQ => ?_)
  subst hF
  show pv F 0 0 sz sk rf sg 0 [some (.ref X), some (.int p0), some (.int p1), some (.int p2), some (.int p3), some (.ref O), none] []
  refine v_aload h dL_setNeed_0 (q := 2) rfl rfl ?_
  refine v_iconst h (v := nI 0) dL_setNeed_2 (q := 3) rfl (by decide +kernel) ?_
  refine v_aload_n h (i := 0) dL_setNeed_3 (q := 4) rfl rfl rfl ?_
  refine v_iload_n h (i := 1) dL_setNeed_4 (q := 5) rfl rfl rfl ?_
  refine v_iload_n h (i := 2) dL_setNeed_5 (q := 6) rfl rfl rfl ?_
  refine v_iload_n h (i := 3) dL_setNeed_6 (q := 7) rfl rfl rfl ?_
  refine v_iload h dL_setNeed_7 (q := 9) rfl rfl ?_
  refine v_callV1 h hM kX7_setNeed tw438 tw440 (by assumption) (by decide) rfl rfl rfl (by simp [Value.category]) (by omega) (Nat.zero_le _) (Nat.zero_le _) rfl dL_setNeed_9 (q := 12) rfl ?_
  refine v_if_eq h dL_setNeed_12 (q := 15) rfl (tgt := 19) (by decide) (fun c1 => ?_) (fun c1 => ?_)
  · skip
    have e1 := pb_b_0.mp c1
    subst e1
    refine v_lconst h (v := (nI 0).toInt64) dL_setNeed_19 (q := 20) rfl (by decide) ?_
    refine v_last h (by assumption) rfl (by first | assumption | omega) (by decide) dL_setNeed_20 (q := 21) rfl ?_
    refine v_goto h dL_setNeed_21 (tgt := 36) (by decide) ?_
    refine v_iconst h (v := nI 0) dL_setNeed_36 (q := 37) rfl (by decide +kernel) ?_
    refine v_iret h hQ rfl rfl dL_setNeed_37 (Nat.zero_le _) (Nat.zero_le _) ⟨rfl, rfl, rfl, rfl, rfl⟩
  · skip
    have e1 := pb_ne_f (fun q => c1 (pb_b_0.mpr q))
    subst e1
    refine v_lconst h (v := (nI 1).toInt64) dL_setNeed_15 (q := 16) rfl (by decide) ?_
    refine v_goto h dL_setNeed_16 (tgt := 20) (by decide) ?_
    refine v_last h (by assumption) rfl (by first | assumption | omega) (by decide) dL_setNeed_20 (q := 21) rfl ?_
    refine v_goto h dL_setNeed_21 (tgt := 36) (by decide) ?_
    refine v_iconst h (v := nI 0) dL_setNeed_36 (q := 37) rfl (by decide +kernel) ?_
    refine v_iret h hQ rfl rfl dL_setNeed_37 (Nat.zero_le _) (Nat.zero_le _) ⟨rfl, rfl, rfl, rfl, rfl⟩
set_option maxHeartbeats 4000000 in
set_option maxRecDepth 100000 in
theorem x1_L_setNeed {l : Launch} (hfl : l.stackTraces = false) {sz : Nat} {sk : pb_Sk} {rf : pb_Rf} {sg : pb_Sg} {X O d9 : Nat} (hX : sk X = (13, 0)) (hO : sk O = (3, 1)) {p0 p1 p2 p3 : Int32} {sg9 : pb_Sg} (hd9 : d9 ≤ 18) (hM : pb_Met l mX7_setNeed d9 1 6 [.ref X, .int p0, .int p1, .int p2, .int p3] sz sk rf sg (pb_thr "java/lang/IndexOutOfBoundsException" sz sk rf sg9)) : pb_Met l mL_setNeed 20 1 6 [.ref X, .int p0, .int p1, .int p2, .int p3, .ref O] sz sk rf sg (pb_cau (nI 1) sz sk rf sg9) := by
  refine pb_startH hfl (by decide +kernel) (fun h9 => nomatch h9) (pb_c1 rfl) (Nat.le_of_ble_eq_true rfl) (fun F hF h hQ => ?_)
  subst hF
  show pv F 0 0 sz sk rf sg 0 [some (.ref X), some (.int p0), some (.int p1), some (.int p2), some (.int p3), some (.ref O), none] []
  refine v_aload h dL_setNeed_0 (q := 2) rfl rfl ?_
  refine v_iconst h (v := nI 0) dL_setNeed_2 (q := 3) rfl (by decide +kernel) ?_
  refine v_aload_n h (i := 0) dL_setNeed_3 (q := 4) rfl rfl rfl ?_
  refine v_iload_n h (i := 1) dL_setNeed_4 (q := 5) rfl rfl rfl ?_
  refine v_iload_n h (i := 2) dL_setNeed_5 (q := 6) rfl rfl rfl ?_
  refine v_iload_n h (i := 3) dL_setNeed_6 (q := 7) rfl rfl rfl ?_
  refine v_iload h dL_setNeed_7 (q := 9) rfl rfl ?_
  refine v_callVy h hM kX7_setNeed tw438 tw440 (by assumption) (by decide) rfl rfl rfl (by simp [Value.category]) (by omega) (by decide) (by decide) rfl dL_setNeed_9 (q := 12) rfl (fun sz9 hsz9 => ?_)
  refine v_catch h [] [(0, 21, 28, 15), (0, 21, 32, 21)] rfl (fun z hz => nomatch hz) (by decide) tw286 tw298 rfl (fun qq => ?_)
  refine v_astore h dL_setNeed_24 (q := 26) rfl (Nat.le_of_ble_eq_true rfl) rfl ?_
  refine v_iconst h (v := nI 1) dL_setNeed_26 (q := 27) rfl (by decide +kernel) ?_
  refine v_iret h hQ rfl rfl dL_setNeed_27 (by decide) (by decide) ⟨rfl, hsz9, rfl, rfl, rfl⟩
set_option maxHeartbeats 4000000 in
set_option maxRecDepth 100000 in
theorem x2_L_setNeed {l : Launch} (hfl : l.stackTraces = false) {sz : Nat} {sk : pb_Sk} {rf : pb_Rf} {sg : pb_Sg} {X O d9 : Nat} (hX : sk X = (13, 0)) (hO : sk O = (3, 1)) {p0 p1 p2 p3 : Int32} {sg9 : pb_Sg} (hd9 : d9 ≤ 18) (hM : pb_Met l mX7_setNeed d9 1 6 [.ref X, .int p0, .int p1, .int p2, .int p3] sz sk rf sg (pb_thr "java/lang/IllegalArgumentException" sz sk rf sg9)) : pb_Met l mL_setNeed 20 1 6 [.ref X, .int p0, .int p1, .int p2, .int p3, .ref O] sz sk rf sg (pb_cau (nI 2) sz sk rf sg9) := by
  refine pb_startH hfl (by decide +kernel) (fun h9 => nomatch h9) (pb_c1 rfl) (Nat.le_of_ble_eq_true rfl) (fun F hF h hQ => ?_)
  subst hF
  show pv F 0 0 sz sk rf sg 0 [some (.ref X), some (.int p0), some (.int p1), some (.int p2), some (.int p3), some (.ref O), none] []
  refine v_aload h dL_setNeed_0 (q := 2) rfl rfl ?_
  refine v_iconst h (v := nI 0) dL_setNeed_2 (q := 3) rfl (by decide +kernel) ?_
  refine v_aload_n h (i := 0) dL_setNeed_3 (q := 4) rfl rfl rfl ?_
  refine v_iload_n h (i := 1) dL_setNeed_4 (q := 5) rfl rfl rfl ?_
  refine v_iload_n h (i := 2) dL_setNeed_5 (q := 6) rfl rfl rfl ?_
  refine v_iload_n h (i := 3) dL_setNeed_6 (q := 7) rfl rfl rfl ?_
  refine v_iload h dL_setNeed_7 (q := 9) rfl rfl ?_
  refine v_callVy h hM kX7_setNeed tw438 tw440 (by assumption) (by decide) rfl rfl rfl (by simp [Value.category]) (by omega) (by decide) (by decide) rfl dL_setNeed_9 (q := 12) rfl (fun sz9 hsz9 => ?_)
  refine v_catch h [(0, 21, 24, 13)] [(0, 21, 32, 21)] rfl (fun z hz => by obtain rfl := List.mem_singleton.mp hz; exact ⟨by decide, "java/lang/IndexOutOfBoundsException", tw286, by simp [pb_ncs]⟩) (by decide) tw287 tw372 rfl (fun qq => ?_)
  refine v_astore h dL_setNeed_28 (q := 30) rfl (Nat.le_of_ble_eq_true rfl) rfl ?_
  refine v_iconst h (v := nI 2) dL_setNeed_30 (q := 31) rfl (by decide +kernel) ?_
  refine v_iret h hQ rfl rfl dL_setNeed_31 (by decide) (by decide) ⟨rfl, hsz9, rfl, rfl, rfl⟩
set_option maxHeartbeats 4000000 in
set_option maxRecDepth 100000 in
theorem x3_L_setNeed {l : Launch} (hfl : l.stackTraces = false) {sz : Nat} {sk : pb_Sk} {rf : pb_Rf} {sg : pb_Sg} {X O d9 : Nat} (hX : sk X = (13, 0)) (hO : sk O = (3, 1)) {p0 p1 p2 p3 : Int32} {sg9 : pb_Sg} (hd9 : d9 ≤ 18) (hM : pb_Met l mX7_setNeed d9 1 6 [.ref X, .int p0, .int p1, .int p2, .int p3] sz sk rf sg (pb_thr "java/lang/IllegalStateException" sz sk rf sg9)) : pb_Met l mL_setNeed 20 1 6 [.ref X, .int p0, .int p1, .int p2, .int p3, .ref O] sz sk rf sg (pb_cau (nI 3) sz sk rf sg9) := by
  refine pb_startH hfl (by decide +kernel) (fun h9 => nomatch h9) (pb_c1 rfl) (Nat.le_of_ble_eq_true rfl) (fun F hF h hQ => ?_)
  subst hF
  show pv F 0 0 sz sk rf sg 0 [some (.ref X), some (.int p0), some (.int p1), some (.int p2), some (.int p3), some (.ref O), none] []
  refine v_aload h dL_setNeed_0 (q := 2) rfl rfl ?_
  refine v_iconst h (v := nI 0) dL_setNeed_2 (q := 3) rfl (by decide +kernel) ?_
  refine v_aload_n h (i := 0) dL_setNeed_3 (q := 4) rfl rfl rfl ?_
  refine v_iload_n h (i := 1) dL_setNeed_4 (q := 5) rfl rfl rfl ?_
  refine v_iload_n h (i := 2) dL_setNeed_5 (q := 6) rfl rfl rfl ?_
  refine v_iload_n h (i := 3) dL_setNeed_6 (q := 7) rfl rfl rfl ?_
  refine v_iload h dL_setNeed_7 (q := 9) rfl rfl ?_
  refine v_callVy h hM kX7_setNeed tw438 tw440 (by assumption) (by decide) rfl rfl rfl (by simp [Value.category]) (by omega) (by decide) (by decide) rfl dL_setNeed_9 (q := 12) rfl (fun sz9 hsz9 => ?_)
  refine v_catch h [(0, 21, 24, 13), (0, 21, 28, 15)] [] rfl (fun z hz => by rcases List.mem_cons.mp hz with rfl | hz; exact ⟨by decide, "java/lang/IndexOutOfBoundsException", tw286, by simp [pb_ncs]⟩; obtain rfl := List.mem_singleton.mp hz; exact ⟨by decide, "java/lang/IllegalArgumentException", tw287, by simp [pb_ncs]⟩) (by decide) tw401 tw408 rfl (fun qq => ?_)
  refine v_astore h dL_setNeed_32 (q := 34) rfl (Nat.le_of_ble_eq_true rfl) rfl ?_
  refine v_iconst h (v := nI 3) dL_setNeed_34 (q := 35) rfl (by decide +kernel) ?_
  refine v_iret h hQ rfl rfl dL_setNeed_35 (by decide) (by decide) ⟨rfl, hsz9, rfl, rfl, rfl⟩
set_option maxHeartbeats 4000000 in
set_option maxRecDepth 100000 in
theorem ok_L_undo {l : Launch} (hfl : l.stackTraces = false) {sz : Nat} {sk : pb_Sk} {rf : pb_Rf} {sg : pb_Sg} {X O d9 : Nat} (hX : sk X = (13, 0)) (hO : sk O = (3, 1)) {p0 : Int32} {sg9 : pb_Sg} (hd9 : d9 ≤ 18) {v : Int32} (hM : pb_Met l mX7_undo d9 0 0 [.ref X, .int p0] sz sk rf sg (pb_is (some (.int v)) sz sk rf sg9)) : pb_Met l mL_undo 20 0 0 [.ref X, .int p0, .ref O] sz sk rf sg (pb_is (some (.int (nI 0))) sz sk rf (pb_up sg9 O 0 v)) := by
  refine pb_startH hfl (by decide +kernel) (fun h9 => nomatch h9) (pb_c1 rfl) (Nat.le_of_ble_eq_true rfl) (fun F hF h hQ => ?_)
  subst hF
  show pv F 0 0 sz sk rf sg 0 [some (.ref X), some (.int p0), some (.ref O), none] []
  refine v_aload_n h (i := 2) dL_undo_0 (q := 1) rfl rfl rfl ?_
  refine v_iconst h (v := nI 0) dL_undo_1 (q := 2) rfl (by decide +kernel) ?_
  refine v_aload_n h (i := 0) dL_undo_2 (q := 3) rfl rfl rfl ?_
  refine v_iload_n h (i := 1) dL_undo_3 (q := 4) rfl rfl rfl ?_
  refine v_callV1 h hM kX7_undo tw453 tw455 (by assumption) (by decide) rfl rfl rfl (by simp [Value.category]) (by omega) (Nat.zero_le _) (Nat.zero_le _) rfl dL_undo_4 (q := 7) rfl ?_
  refine v_i2l h dL_undo_7 (q := 8) rfl ?_
  refine v_last h (by assumption) rfl (by first | assumption | omega) (by decide) dL_undo_8 (q := 9) rfl ?_
  refine v_goto h dL_undo_9 (tgt := 18) (by decide) ?_
  refine v_iconst h (v := nI 0) dL_undo_18 (q := 19) rfl (by decide +kernel) ?_
  refine v_iret h hQ rfl rfl dL_undo_19 (Nat.zero_le _) (Nat.zero_le _) ⟨rfl, rfl, rfl, rfl, rfl⟩
set_option maxHeartbeats 4000000 in
set_option maxRecDepth 100000 in
theorem x1_L_undo {l : Launch} (hfl : l.stackTraces = false) {sz : Nat} {sk : pb_Sk} {rf : pb_Rf} {sg : pb_Sg} {X O d9 : Nat} (hX : sk X = (13, 0)) (hO : sk O = (3, 1)) {p0 : Int32} {sg9 : pb_Sg} (hd9 : d9 ≤ 18) (hM : pb_Met l mX7_undo d9 1 6 [.ref X, .int p0] sz sk rf sg (pb_thr "java/lang/IndexOutOfBoundsException" sz sk rf sg9)) : pb_Met l mL_undo 20 1 6 [.ref X, .int p0, .ref O] sz sk rf sg (pb_cau (nI 1) sz sk rf sg9) := by
  refine pb_startH hfl (by decide +kernel) (fun h9 => nomatch h9) (pb_c1 rfl) (Nat.le_of_ble_eq_true rfl) (fun F hF h hQ => ?_)
  subst hF
  show pv F 0 0 sz sk rf sg 0 [some (.ref X), some (.int p0), some (.ref O), none] []
  refine v_aload_n h (i := 2) dL_undo_0 (q := 1) rfl rfl rfl ?_
  refine v_iconst h (v := nI 0) dL_undo_1 (q := 2) rfl (by decide +kernel) ?_
  refine v_aload_n h (i := 0) dL_undo_2 (q := 3) rfl rfl rfl ?_
  refine v_iload_n h (i := 1) dL_undo_3 (q := 4) rfl rfl rfl ?_
  refine v_callVy h hM kX7_undo tw453 tw455 (by assumption) (by decide) rfl rfl rfl (by simp [Value.category]) (by omega) (by decide) (by decide) rfl dL_undo_4 (q := 7) rfl (fun sz9 hsz9 => ?_)
  refine v_catch h [] [(0, 9, 15, 21)] rfl (fun z hz => nomatch hz) (by decide) tw286 tw298 rfl (fun qq => ?_)
  refine v_astore_n h (i := 3) dL_undo_12 (q := 13) rfl rfl (Nat.le_of_ble_eq_true rfl) rfl ?_
  refine v_iconst h (v := nI 1) dL_undo_13 (q := 14) rfl (by decide +kernel) ?_
  refine v_iret h hQ rfl rfl dL_undo_14 (by decide) (by decide) ⟨rfl, hsz9, rfl, rfl, rfl⟩
set_option maxHeartbeats 4000000 in
set_option maxRecDepth 100000 in
theorem x2_L_undo {l : Launch} (hfl : l.stackTraces = false) {sz : Nat} {sk : pb_Sk} {rf : pb_Rf} {sg : pb_Sg} {X O d9 : Nat} (hX : sk X = (13, 0)) (hO : sk O = (3, 1)) {p0 : Int32} {sg9 : pb_Sg} (hd9 : d9 ≤ 18) (hM : pb_Met l mX7_undo d9 1 6 [.ref X, .int p0] sz sk rf sg (pb_thr "java/lang/IllegalStateException" sz sk rf sg9)) : pb_Met l mL_undo 20 1 6 [.ref X, .int p0, .ref O] sz sk rf sg (pb_cau (nI 2) sz sk rf sg9) := by
  refine pb_startH hfl (by decide +kernel) (fun h9 => nomatch h9) (pb_c1 rfl) (Nat.le_of_ble_eq_true rfl) (fun F hF h hQ => ?_)
  subst hF
  show pv F 0 0 sz sk rf sg 0 [some (.ref X), some (.int p0), some (.ref O), none] []
  refine v_aload_n h (i := 2) dL_undo_0 (q := 1) rfl rfl rfl ?_
  refine v_iconst h (v := nI 0) dL_undo_1 (q := 2) rfl (by decide +kernel) ?_
  refine v_aload_n h (i := 0) dL_undo_2 (q := 3) rfl rfl rfl ?_
  refine v_iload_n h (i := 1) dL_undo_3 (q := 4) rfl rfl rfl ?_
  refine v_callVy h hM kX7_undo tw453 tw455 (by assumption) (by decide) rfl rfl rfl (by simp [Value.category]) (by omega) (by decide) (by decide) rfl dL_undo_4 (q := 7) rfl (fun sz9 hsz9 => ?_)
  refine v_catch h [(0, 9, 12, 13)] [] rfl (fun z hz => by obtain rfl := List.mem_singleton.mp hz; exact ⟨by decide, "java/lang/IndexOutOfBoundsException", tw286, by simp [pb_ncs]⟩) (by decide) tw401 tw408 rfl (fun qq => ?_)
  refine v_astore_n h (i := 3) dL_undo_15 (q := 16) rfl rfl (Nat.le_of_ble_eq_true rfl) rfl ?_
  refine v_iconst h (v := nI 2) dL_undo_16 (q := 17) rfl (by decide +kernel) ?_
  refine v_iret h hQ rfl rfl dL_undo_17 (by decide) (by decide) ⟨rfl, hsz9, rfl, rfl, rfl⟩
set_option maxHeartbeats 4000000 in
set_option maxRecDepth 100000 in
theorem ok_L_tasks {l : Launch} (hfl : l.stackTraces = false) {sz : Nat} {sk : pb_Sk} {rf : pb_Rf} {sg : pb_Sg} {X O d9 : Nat} (hX : sk X = (13, 0)) (hO : sk O = (3, 1)) {p0 : Int32} {sg9 : pb_Sg} (hd9 : d9 ≤ 18) {v : Int32} (hM : pb_Met l mX7_tasks d9 0 0 [.ref X, .int p0] sz sk rf sg (pb_is (some (.int v)) sz sk rf sg9)) : pb_Met l mL_tasks 20 0 0 [.ref X, .int p0, .ref O] sz sk rf sg (pb_is (some (.int (nI 0))) sz sk rf (pb_up sg9 O 0 v)) := by
  refine pb_startH hfl (by decide +kernel) (fun h9 => nomatch h9) (pb_c1 rfl) (Nat.le_of_ble_eq_true rfl) (fun F hF h hQ => ?_)
  subst hF
  show pv F 0 0 sz sk rf sg 0 [some (.ref X), some (.int p0), some (.ref O), none] []
  refine v_aload_n h (i := 2) dL_tasks_0 (q := 1) rfl rfl rfl ?_
  refine v_iconst h (v := nI 0) dL_tasks_1 (q := 2) rfl (by decide +kernel) ?_
  refine v_aload_n h (i := 0) dL_tasks_2 (q := 3) rfl rfl rfl ?_
  refine v_iload_n h (i := 1) dL_tasks_3 (q := 4) rfl rfl rfl ?_
  refine v_callV1 h hM kX7_tasks tw466 tw468 (by assumption) (by decide) rfl rfl rfl (by simp [Value.category]) (by omega) (Nat.zero_le _) (Nat.zero_le _) rfl dL_tasks_4 (q := 7) rfl ?_
  refine v_i2l h dL_tasks_7 (q := 8) rfl ?_
  refine v_last h (by assumption) rfl (by first | assumption | omega) (by decide) dL_tasks_8 (q := 9) rfl ?_
  refine v_goto h dL_tasks_9 (tgt := 15) (by decide) ?_
  refine v_iconst h (v := nI 0) dL_tasks_15 (q := 16) rfl (by decide +kernel) ?_
  refine v_iret h hQ rfl rfl dL_tasks_16 (Nat.zero_le _) (Nat.zero_le _) ⟨rfl, rfl, rfl, rfl, rfl⟩
set_option maxHeartbeats 4000000 in
set_option maxRecDepth 100000 in
theorem x1_L_tasks {l : Launch} (hfl : l.stackTraces = false) {sz : Nat} {sk : pb_Sk} {rf : pb_Rf} {sg : pb_Sg} {X O d9 : Nat} (hX : sk X = (13, 0)) (hO : sk O = (3, 1)) {p0 : Int32} {sg9 : pb_Sg} (hd9 : d9 ≤ 18) (hM : pb_Met l mX7_tasks d9 1 6 [.ref X, .int p0] sz sk rf sg (pb_thr "java/lang/IndexOutOfBoundsException" sz sk rf sg9)) : pb_Met l mL_tasks 20 1 6 [.ref X, .int p0, .ref O] sz sk rf sg (pb_cau (nI 1) sz sk rf sg9) := by
  refine pb_startH hfl (by decide +kernel) (fun h9 => nomatch h9) (pb_c1 rfl) (Nat.le_of_ble_eq_true rfl) (fun F hF h hQ => ?_)
  subst hF
  show pv F 0 0 sz sk rf sg 0 [some (.ref X), some (.int p0), some (.ref O), none] []
  refine v_aload_n h (i := 2) dL_tasks_0 (q := 1) rfl rfl rfl ?_
  refine v_iconst h (v := nI 0) dL_tasks_1 (q := 2) rfl (by decide +kernel) ?_
  refine v_aload_n h (i := 0) dL_tasks_2 (q := 3) rfl rfl rfl ?_
  refine v_iload_n h (i := 1) dL_tasks_3 (q := 4) rfl rfl rfl ?_
  refine v_callVy h hM kX7_tasks tw466 tw468 (by assumption) (by decide) rfl rfl rfl (by simp [Value.category]) (by omega) (by decide) (by decide) rfl dL_tasks_4 (q := 7) rfl (fun sz9 hsz9 => ?_)
  refine v_catch h [] [] rfl (fun z hz => nomatch hz) (by decide) tw286 tw298 rfl (fun qq => ?_)
  refine v_astore_n h (i := 3) dL_tasks_12 (q := 13) rfl rfl (Nat.le_of_ble_eq_true rfl) rfl ?_
  refine v_iconst h (v := nI 1) dL_tasks_13 (q := 14) rfl (by decide +kernel) ?_
  refine v_iret h hQ rfl rfl dL_tasks_14 (by decide) (by decide) ⟨rfl, hsz9, rfl, rfl, rfl⟩
set_option maxHeartbeats 4000000 in
set_option maxRecDepth 100000 in
theorem ok_L_length {l : Launch} (hfl : l.stackTraces = false) {sz : Nat} {sk : pb_Sk} {rf : pb_Rf} {sg : pb_Sg} {X O d9 : Nat} (hX : sk X = (13, 0)) (hO : sk O = (3, 1)) {p0 p1 : Int32} {sg9 : pb_Sg} (hd9 : d9 ≤ 18) {v : Int32} (hM : pb_Met l mX7_length d9 0 0 [.ref X, .int p0, .int p1] sz sk rf sg (pb_is (some (.int v)) sz sk rf sg9)) : pb_Met l mL_length 20 0 0 [.ref X, .int p0, .int p1, .ref O] sz sk rf sg (pb_is (some (.int (nI 0))) sz sk rf (pb_up sg9 O 0 v)) := by
  refine pb_startH hfl (by decide +kernel) (fun h9 => nomatch h9) (pb_c1 rfl) (Nat.le_of_ble_eq_true rfl) (fun F hF h hQ => ?_)
  subst hF
  show pv F 0 0 sz sk rf sg 0 [some (.ref X), some (.int p0), some (.int p1), some (.ref O), none] []
  refine v_aload_n h (i := 3) dL_length_0 (q := 1) rfl rfl rfl ?_
  refine v_iconst h (v := nI 0) dL_length_1 (q := 2) rfl (by decide +kernel) ?_
  refine v_aload_n h (i := 0) dL_length_2 (q := 3) rfl rfl rfl ?_
  refine v_iload_n h (i := 1) dL_length_3 (q := 4) rfl rfl rfl ?_
  refine v_iload_n h (i := 2) dL_length_4 (q := 5) rfl rfl rfl ?_
  refine v_callV1 h hM kX7_length tw478 tw480 (by assumption) (by decide) rfl rfl rfl (by simp [Value.category]) (by omega) (Nat.zero_le _) (Nat.zero_le _) rfl dL_length_5 (q := 8) rfl ?_
  refine v_i2l h dL_length_8 (q := 9) rfl ?_
  refine v_last h (by assumption) rfl (by first | assumption | omega) (by decide) dL_length_9 (q := 10) rfl ?_
  refine v_goto h dL_length_10 (tgt := 21) (by decide) ?_
  refine v_iconst h (v := nI 0) dL_length_21 (q := 22) rfl (by decide +kernel) ?_
  refine v_iret h hQ rfl rfl dL_length_22 (Nat.zero_le _) (Nat.zero_le _) ⟨rfl, rfl, rfl, rfl, rfl⟩
set_option maxHeartbeats 4000000 in
set_option maxRecDepth 100000 in
theorem x1_L_length {l : Launch} (hfl : l.stackTraces = false) {sz : Nat} {sk : pb_Sk} {rf : pb_Rf} {sg : pb_Sg} {X O d9 : Nat} (hX : sk X = (13, 0)) (hO : sk O = (3, 1)) {p0 p1 : Int32} {sg9 : pb_Sg} (hd9 : d9 ≤ 18) (hM : pb_Met l mX7_length d9 1 6 [.ref X, .int p0, .int p1] sz sk rf sg (pb_thr "java/lang/IndexOutOfBoundsException" sz sk rf sg9)) : pb_Met l mL_length 20 1 6 [.ref X, .int p0, .int p1, .ref O] sz sk rf sg (pb_cau (nI 1) sz sk rf sg9) := by
  refine pb_startH hfl (by decide +kernel) (fun h9 => nomatch h9) (pb_c1 rfl) (Nat.le_of_ble_eq_true rfl) (fun F hF h hQ => ?_)
  subst hF
  show pv F 0 0 sz sk rf sg 0 [some (.ref X), some (.int p0), some (.int p1), some (.ref O), none] []
  refine v_aload_n h (i := 3) dL_length_0 (q := 1) rfl rfl rfl ?_
  refine v_iconst h (v := nI 0) dL_length_1 (q := 2) rfl (by decide +kernel) ?_
  refine v_aload_n h (i := 0) dL_length_2 (q := 3) rfl rfl rfl ?_
  refine v_iload_n h (i := 1) dL_length_3 (q := 4) rfl rfl rfl ?_
  refine v_iload_n h (i := 2) dL_length_4 (q := 5) rfl rfl rfl ?_
  refine v_callVy h hM kX7_length tw478 tw480 (by assumption) (by decide) rfl rfl rfl (by simp [Value.category]) (by omega) (by decide) (by decide) rfl dL_length_5 (q := 8) rfl (fun sz9 hsz9 => ?_)
  refine v_catch h [] [(0, 10, 17, 15)] rfl (fun z hz => nomatch hz) (by decide) tw286 tw298 rfl (fun qq => ?_)
  refine v_astore h dL_length_13 (q := 15) rfl (Nat.le_of_ble_eq_true rfl) rfl ?_
  refine v_iconst h (v := nI 1) dL_length_15 (q := 16) rfl (by decide +kernel) ?_
  refine v_iret h hQ rfl rfl dL_length_16 (by decide) (by decide) ⟨rfl, hsz9, rfl, rfl, rfl⟩
set_option maxHeartbeats 4000000 in
set_option maxRecDepth 100000 in
theorem x2_L_length {l : Launch} (hfl : l.stackTraces = false) {sz : Nat} {sk : pb_Sk} {rf : pb_Rf} {sg : pb_Sg} {X O d9 : Nat} (hX : sk X = (13, 0)) (hO : sk O = (3, 1)) {p0 p1 : Int32} {sg9 : pb_Sg} (hd9 : d9 ≤ 18) (hM : pb_Met l mX7_length d9 1 6 [.ref X, .int p0, .int p1] sz sk rf sg (pb_thr "java/lang/IllegalArgumentException" sz sk rf sg9)) : pb_Met l mL_length 20 1 6 [.ref X, .int p0, .int p1, .ref O] sz sk rf sg (pb_cau (nI 2) sz sk rf sg9) := by
  refine pb_startH hfl (by decide +kernel) (fun h9 => nomatch h9) (pb_c1 rfl) (Nat.le_of_ble_eq_true rfl) (fun F hF h hQ => ?_)
  subst hF
  show pv F 0 0 sz sk rf sg 0 [some (.ref X), some (.int p0), some (.int p1), some (.ref O), none] []
  refine v_aload_n h (i := 3) dL_length_0 (q := 1) rfl rfl rfl ?_
  refine v_iconst h (v := nI 0) dL_length_1 (q := 2) rfl (by decide +kernel) ?_
  refine v_aload_n h (i := 0) dL_length_2 (q := 3) rfl rfl rfl ?_
  refine v_iload_n h (i := 1) dL_length_3 (q := 4) rfl rfl rfl ?_
  refine v_iload_n h (i := 2) dL_length_4 (q := 5) rfl rfl rfl ?_
  refine v_callVy h hM kX7_length tw478 tw480 (by assumption) (by decide) rfl rfl rfl (by simp [Value.category]) (by omega) (by decide) (by decide) rfl dL_length_5 (q := 8) rfl (fun sz9 hsz9 => ?_)
  refine v_catch h [(0, 10, 13, 13)] [] rfl (fun z hz => by obtain rfl := List.mem_singleton.mp hz; exact ⟨by decide, "java/lang/IndexOutOfBoundsException", tw286, by simp [pb_ncs]⟩) (by decide) tw287 tw372 rfl (fun qq => ?_)
  refine v_astore h dL_length_17 (q := 19) rfl (Nat.le_of_ble_eq_true rfl) rfl ?_
  refine v_iconst h (v := nI 2) dL_length_19 (q := 20) rfl (by decide +kernel) ?_
  refine v_iret h hQ rfl rfl dL_length_20 (by decide) (by decide) ⟨rfl, hsz9, rfl, rfl, rfl⟩
set_option maxHeartbeats 4000000 in
set_option maxRecDepth 100000 in
theorem ok_L_crew {l : Launch} (hfl : l.stackTraces = false) {sz : Nat} {sk : pb_Sk} {rf : pb_Rf} {sg : pb_Sg} {X O d9 : Nat} (hX : sk X = (13, 0)) (hO : sk O = (3, 1)) {p0 p1 : Int32} {sg9 : pb_Sg} (hd9 : d9 ≤ 18) {v : Int32} (hM : pb_Met l mX7_crew d9 0 0 [.ref X, .int p0, .int p1] sz sk rf sg (pb_is (some (.int v)) sz sk rf sg9)) : pb_Met l mL_crew 20 0 0 [.ref X, .int p0, .int p1, .ref O] sz sk rf sg (pb_is (some (.int (nI 0))) sz sk rf (pb_up sg9 O 0 v)) := by
  refine pb_startH hfl (by decide +kernel) (fun h9 => nomatch h9) (pb_c1 rfl) (Nat.le_of_ble_eq_true rfl) (fun F hF h hQ => ?_)
  subst hF
  show pv F 0 0 sz sk rf sg 0 [some (.ref X), some (.int p0), some (.int p1), some (.ref O), none] []
  refine v_aload_n h (i := 3) dL_crew_0 (q := 1) rfl rfl rfl ?_
  refine v_iconst h (v := nI 0) dL_crew_1 (q := 2) rfl (by decide +kernel) ?_
  refine v_aload_n h (i := 0) dL_crew_2 (q := 3) rfl rfl rfl ?_
  refine v_iload_n h (i := 1) dL_crew_3 (q := 4) rfl rfl rfl ?_
  refine v_iload_n h (i := 2) dL_crew_4 (q := 5) rfl rfl rfl ?_
  refine v_callV1 h hM kX7_crew tw485 tw487 (by assumption) (by decide) rfl rfl rfl (by simp [Value.category]) (by omega) (Nat.zero_le _) (Nat.zero_le _) rfl dL_crew_5 (q := 8) rfl ?_
  refine v_i2l h dL_crew_8 (q := 9) rfl ?_
  refine v_last h (by assumption) rfl (by first | assumption | omega) (by decide) dL_crew_9 (q := 10) rfl ?_
  refine v_goto h dL_crew_10 (tgt := 21) (by decide) ?_
  refine v_iconst h (v := nI 0) dL_crew_21 (q := 22) rfl (by decide +kernel) ?_
  refine v_iret h hQ rfl rfl dL_crew_22 (Nat.zero_le _) (Nat.zero_le _) ⟨rfl, rfl, rfl, rfl, rfl⟩
set_option maxHeartbeats 4000000 in
set_option maxRecDepth 100000 in
theorem x1_L_crew {l : Launch} (hfl : l.stackTraces = false) {sz : Nat} {sk : pb_Sk} {rf : pb_Rf} {sg : pb_Sg} {X O d9 : Nat} (hX : sk X = (13, 0)) (hO : sk O = (3, 1)) {p0 p1 : Int32} {sg9 : pb_Sg} (hd9 : d9 ≤ 18) (hM : pb_Met l mX7_crew d9 1 6 [.ref X, .int p0, .int p1] sz sk rf sg (pb_thr "java/lang/IndexOutOfBoundsException" sz sk rf sg9)) : pb_Met l mL_crew 20 1 6 [.ref X, .int p0, .int p1, .ref O] sz sk rf sg (pb_cau (nI 1) sz sk rf sg9) := by
  refine pb_startH hfl (by decide +kernel) (fun h9 => nomatch h9) (pb_c1 rfl) (Nat.le_of_ble_eq_true rfl) (fun F hF h hQ => ?_)
  subst hF
  show pv F 0 0 sz sk rf sg 0 [some (.ref X), some (.int p0), some (.int p1), some (.ref O), none] []
  refine v_aload_n h (i := 3) dL_crew_0 (q := 1) rfl rfl rfl ?_
  refine v_iconst h (v := nI 0) dL_crew_1 (q := 2) rfl (by decide +kernel) ?_
  refine v_aload_n h (i := 0) dL_crew_2 (q := 3) rfl rfl rfl ?_
  refine v_iload_n h (i := 1) dL_crew_3 (q := 4) rfl rfl rfl ?_
  refine v_iload_n h (i := 2) dL_crew_4 (q := 5) rfl rfl rfl ?_
  refine v_callVy h hM kX7_crew tw485 tw487 (by assumption) (by decide) rfl rfl rfl (by simp [Value.category]) (by omega) (by decide) (by decide) rfl dL_crew_5 (q := 8) rfl (fun sz9 hsz9 => ?_)
  refine v_catch h [] [(0, 10, 17, 15)] rfl (fun z hz => nomatch hz) (by decide) tw286 tw298 rfl (fun qq => ?_)
  refine v_astore h dL_crew_13 (q := 15) rfl (Nat.le_of_ble_eq_true rfl) rfl ?_
  refine v_iconst h (v := nI 1) dL_crew_15 (q := 16) rfl (by decide +kernel) ?_
  refine v_iret h hQ rfl rfl dL_crew_16 (by decide) (by decide) ⟨rfl, hsz9, rfl, rfl, rfl⟩
set_option maxHeartbeats 4000000 in
set_option maxRecDepth 100000 in
theorem x2_L_crew {l : Launch} (hfl : l.stackTraces = false) {sz : Nat} {sk : pb_Sk} {rf : pb_Rf} {sg : pb_Sg} {X O d9 : Nat} (hX : sk X = (13, 0)) (hO : sk O = (3, 1)) {p0 p1 : Int32} {sg9 : pb_Sg} (hd9 : d9 ≤ 18) (hM : pb_Met l mX7_crew d9 1 6 [.ref X, .int p0, .int p1] sz sk rf sg (pb_thr "java/lang/IllegalArgumentException" sz sk rf sg9)) : pb_Met l mL_crew 20 1 6 [.ref X, .int p0, .int p1, .ref O] sz sk rf sg (pb_cau (nI 2) sz sk rf sg9) := by
  refine pb_startH hfl (by decide +kernel) (fun h9 => nomatch h9) (pb_c1 rfl) (Nat.le_of_ble_eq_true rfl) (fun F hF h hQ => ?_)
  subst hF
  show pv F 0 0 sz sk rf sg 0 [some (.ref X), some (.int p0), some (.int p1), some (.ref O), none] []
  refine v_aload_n h (i := 3) dL_crew_0 (q := 1) rfl rfl rfl ?_
  refine v_iconst h (v := nI 0) dL_crew_1 (q := 2) rfl (by decide +kernel) ?_
  refine v_aload_n h (i := 0) dL_crew_2 (q := 3) rfl rfl rfl ?_
  refine v_iload_n h (i := 1) dL_crew_3 (q := 4) rfl rfl rfl ?_
  refine v_iload_n h (i := 2) dL_crew_4 (q := 5) rfl rfl rfl ?_
  refine v_callVy h hM kX7_crew tw485 tw487 (by assumption) (by decide) rfl rfl rfl (by simp [Value.category]) (by omega) (by decide) (by decide) rfl dL_crew_5 (q := 8) rfl (fun sz9 hsz9 => ?_)
  refine v_catch h [(0, 10, 13, 13)] [] rfl (fun z hz => by obtain rfl := List.mem_singleton.mp hz; exact ⟨by decide, "java/lang/IndexOutOfBoundsException", tw286, by simp [pb_ncs]⟩) (by decide) tw287 tw372 rfl (fun qq => ?_)
  refine v_astore h dL_crew_17 (q := 19) rfl (Nat.le_of_ble_eq_true rfl) rfl ?_
  refine v_iconst h (v := nI 2) dL_crew_19 (q := 20) rfl (by decide +kernel) ?_
  refine v_iret h hQ rfl rfl dL_crew_20 (by decide) (by decide) ⟨rfl, hsz9, rfl, rfl, rfl⟩
set_option maxHeartbeats 4000000 in
set_option maxRecDepth 100000 in
theorem ok_L_needs {l : Launch} (hfl : l.stackTraces = false) {sz : Nat} {sk : pb_Sk} {rf : pb_Rf} {sg : pb_Sg} {X O d9 : Nat} (hX : sk X = (13, 0)) (hO : sk O = (3, 1)) {p0 p1 : Int32} {sg9 : pb_Sg} (hd9 : d9 ≤ 18) {v : Int32} (hM : pb_Met l mX7_needs d9 0 0 [.ref X, .int p0, .int p1] sz sk rf sg (pb_is (some (.int v)) sz sk rf sg9)) : pb_Met l mL_needs 20 0 0 [.ref X, .int p0, .int p1, .ref O] sz sk rf sg (pb_is (some (.int (nI 0))) sz sk rf (pb_up sg9 O 0 v)) := by
  refine pb_startH hfl (by decide +kernel) (fun h9 => nomatch h9) (pb_c1 rfl) (Nat.le_of_ble_eq_true rfl) (fun F hF h hQ => ?_)
  subst hF
  show pv F 0 0 sz sk rf sg 0 [some (.ref X), some (.int p0), some (.int p1), some (.ref O), none] []
  refine v_aload_n h (i := 3) dL_needs_0 (q := 1) rfl rfl rfl ?_
  refine v_iconst h (v := nI 0) dL_needs_1 (q := 2) rfl (by decide +kernel) ?_
  refine v_aload_n h (i := 0) dL_needs_2 (q := 3) rfl rfl rfl ?_
  refine v_iload_n h (i := 1) dL_needs_3 (q := 4) rfl rfl rfl ?_
  refine v_iload_n h (i := 2) dL_needs_4 (q := 5) rfl rfl rfl ?_
  refine v_callV1 h hM kX7_needs tw492 tw494 (by assumption) (by decide) rfl rfl rfl (by simp [Value.category]) (by omega) (Nat.zero_le _) (Nat.zero_le _) rfl dL_needs_5 (q := 8) rfl ?_
  refine v_i2l h dL_needs_8 (q := 9) rfl ?_
  refine v_last h (by assumption) rfl (by first | assumption | omega) (by decide) dL_needs_9 (q := 10) rfl ?_
  refine v_goto h dL_needs_10 (tgt := 21) (by decide) ?_
  refine v_iconst h (v := nI 0) dL_needs_21 (q := 22) rfl (by decide +kernel) ?_
  refine v_iret h hQ rfl rfl dL_needs_22 (Nat.zero_le _) (Nat.zero_le _) ⟨rfl, rfl, rfl, rfl, rfl⟩
set_option maxHeartbeats 4000000 in
set_option maxRecDepth 100000 in
theorem x1_L_needs {l : Launch} (hfl : l.stackTraces = false) {sz : Nat} {sk : pb_Sk} {rf : pb_Rf} {sg : pb_Sg} {X O d9 : Nat} (hX : sk X = (13, 0)) (hO : sk O = (3, 1)) {p0 p1 : Int32} {sg9 : pb_Sg} (hd9 : d9 ≤ 18) (hM : pb_Met l mX7_needs d9 1 6 [.ref X, .int p0, .int p1] sz sk rf sg (pb_thr "java/lang/IndexOutOfBoundsException" sz sk rf sg9)) : pb_Met l mL_needs 20 1 6 [.ref X, .int p0, .int p1, .ref O] sz sk rf sg (pb_cau (nI 1) sz sk rf sg9) := by
  refine pb_startH hfl (by decide +kernel) (fun h9 => nomatch h9) (pb_c1 rfl) (Nat.le_of_ble_eq_true rfl) (fun F hF h hQ => ?_)
  subst hF
  show pv F 0 0 sz sk rf sg 0 [some (.ref X), some (.int p0), some (.int p1), some (.ref O), none] []
  refine v_aload_n h (i := 3) dL_needs_0 (q := 1) rfl rfl rfl ?_
  refine v_iconst h (v := nI 0) dL_needs_1 (q := 2) rfl (by decide +kernel) ?_
  refine v_aload_n h (i := 0) dL_needs_2 (q := 3) rfl rfl rfl ?_
  refine v_iload_n h (i := 1) dL_needs_3 (q := 4) rfl rfl rfl ?_
  refine v_iload_n h (i := 2) dL_needs_4 (q := 5) rfl rfl rfl ?_
  refine v_callVy h hM kX7_needs tw492 tw494 (by assumption) (by decide) rfl rfl rfl (by simp [Value.category]) (by omega) (by decide) (by decide) rfl dL_needs_5 (q := 8) rfl (fun sz9 hsz9 => ?_)
  refine v_catch h [] [(0, 10, 17, 15)] rfl (fun z hz => nomatch hz) (by decide) tw286 tw298 rfl (fun qq => ?_)
  refine v_astore h dL_needs_13 (q := 15) rfl (Nat.le_of_ble_eq_true rfl) rfl ?_
  refine v_iconst h (v := nI 1) dL_needs_15 (q := 16) rfl (by decide +kernel) ?_
  refine v_iret h hQ rfl rfl dL_needs_16 (by decide) (by decide) ⟨rfl, hsz9, rfl, rfl, rfl⟩
set_option maxHeartbeats 4000000 in
set_option maxRecDepth 100000 in
theorem x2_L_needs {l : Launch} (hfl : l.stackTraces = false) {sz : Nat} {sk : pb_Sk} {rf : pb_Rf} {sg : pb_Sg} {X O d9 : Nat} (hX : sk X = (13, 0)) (hO : sk O = (3, 1)) {p0 p1 : Int32} {sg9 : pb_Sg} (hd9 : d9 ≤ 18) (hM : pb_Met l mX7_needs d9 1 6 [.ref X, .int p0, .int p1] sz sk rf sg (pb_thr "java/lang/IllegalArgumentException" sz sk rf sg9)) : pb_Met l mL_needs 20 1 6 [.ref X, .int p0, .int p1, .ref O] sz sk rf sg (pb_cau (nI 2) sz sk rf sg9) := by
  refine pb_startH hfl (by decide +kernel) (fun h9 => nomatch h9) (pb_c1 rfl) (Nat.le_of_ble_eq_true rfl) (fun F hF h hQ => ?_)
  subst hF
  show pv F 0 0 sz sk rf sg 0 [some (.ref X), some (.int p0), some (.int p1), some (.ref O), none] []
  refine v_aload_n h (i := 3) dL_needs_0 (q := 1) rfl rfl rfl ?_
  refine v_iconst h (v := nI 0) dL_needs_1 (q := 2) rfl (by decide +kernel) ?_
  refine v_aload_n h (i := 0) dL_needs_2 (q := 3) rfl rfl rfl ?_
  refine v_iload_n h (i := 1) dL_needs_3 (q := 4) rfl rfl rfl ?_
  refine v_iload_n h (i := 2) dL_needs_4 (q := 5) rfl rfl rfl ?_
  refine v_callVy h hM kX7_needs tw492 tw494 (by assumption) (by decide) rfl rfl rfl (by simp [Value.category]) (by omega) (by decide) (by decide) rfl dL_needs_5 (q := 8) rfl (fun sz9 hsz9 => ?_)
  refine v_catch h [(0, 10, 13, 13)] [] rfl (fun z hz => by obtain rfl := List.mem_singleton.mp hz; exact ⟨by decide, "java/lang/IndexOutOfBoundsException", tw286, by simp [pb_ncs]⟩) (by decide) tw287 tw372 rfl (fun qq => ?_)
  refine v_astore h dL_needs_17 (q := 19) rfl (Nat.le_of_ble_eq_true rfl) rfl ?_
  refine v_iconst h (v := nI 2) dL_needs_19 (q := 20) rfl (by decide +kernel) ?_
  refine v_iret h hQ rfl rfl dL_needs_20 (by decide) (by decide) ⟨rfl, hsz9, rfl, rfl, rfl⟩
set_option maxHeartbeats 4000000 in
set_option maxRecDepth 100000 in
theorem ok_L_cost {l : Launch} (hfl : l.stackTraces = false) {sz : Nat} {sk : pb_Sk} {rf : pb_Rf} {sg : pb_Sg} {X O d9 : Nat} (hX : sk X = (13, 0)) (hO : sk O = (3, 1)) {p0 : Int32} {sg9 : pb_Sg} (hd9 : d9 ≤ 18) {v : Int32} (hM : pb_Met l mX7_cost d9 0 0 [.ref X, .int p0] sz sk rf sg (pb_is (some (.int v)) sz sk rf sg9)) : pb_Met l mL_cost 20 0 0 [.ref X, .int p0, .ref O] sz sk rf sg (pb_is (some (.int (nI 0))) sz sk rf (pb_up sg9 O 0 v)) := by
  refine pb_startH hfl (by decide +kernel) (fun h9 => nomatch h9) (pb_c1 rfl) (Nat.le_of_ble_eq_true rfl) (fun F hF h hQ => ?_)
  subst hF
  show pv F 0 0 sz sk rf sg 0 [some (.ref X), some (.int p0), some (.ref O), none] []
  refine v_aload_n h (i := 2) dL_cost_0 (q := 1) rfl rfl rfl ?_
  refine v_iconst h (v := nI 0) dL_cost_1 (q := 2) rfl (by decide +kernel) ?_
  refine v_aload_n h (i := 0) dL_cost_2 (q := 3) rfl rfl rfl ?_
  refine v_iload_n h (i := 1) dL_cost_3 (q := 4) rfl rfl rfl ?_
  refine v_callV1 h hM kX7_cost tw499 tw501 (by assumption) (by decide) rfl rfl rfl (by simp [Value.category]) (by omega) (Nat.zero_le _) (Nat.zero_le _) rfl dL_cost_4 (q := 7) rfl ?_
  refine v_i2l h dL_cost_7 (q := 8) rfl ?_
  refine v_last h (by assumption) rfl (by first | assumption | omega) (by decide) dL_cost_8 (q := 9) rfl ?_
  refine v_goto h dL_cost_9 (tgt := 15) (by decide) ?_
  refine v_iconst h (v := nI 0) dL_cost_15 (q := 16) rfl (by decide +kernel) ?_
  refine v_iret h hQ rfl rfl dL_cost_16 (Nat.zero_le _) (Nat.zero_le _) ⟨rfl, rfl, rfl, rfl, rfl⟩
set_option maxHeartbeats 4000000 in
set_option maxRecDepth 100000 in
theorem x1_L_cost {l : Launch} (hfl : l.stackTraces = false) {sz : Nat} {sk : pb_Sk} {rf : pb_Rf} {sg : pb_Sg} {X O d9 : Nat} (hX : sk X = (13, 0)) (hO : sk O = (3, 1)) {p0 : Int32} {sg9 : pb_Sg} (hd9 : d9 ≤ 18) (hM : pb_Met l mX7_cost d9 1 6 [.ref X, .int p0] sz sk rf sg (pb_thr "java/lang/IndexOutOfBoundsException" sz sk rf sg9)) : pb_Met l mL_cost 20 1 6 [.ref X, .int p0, .ref O] sz sk rf sg (pb_cau (nI 1) sz sk rf sg9) := by
  refine pb_startH hfl (by decide +kernel) (fun h9 => nomatch h9) (pb_c1 rfl) (Nat.le_of_ble_eq_true rfl) (fun F hF h hQ => ?_)
  subst hF
  show pv F 0 0 sz sk rf sg 0 [some (.ref X), some (.int p0), some (.ref O), none] []
  refine v_aload_n h (i := 2) dL_cost_0 (q := 1) rfl rfl rfl ?_
  refine v_iconst h (v := nI 0) dL_cost_1 (q := 2) rfl (by decide +kernel) ?_
  refine v_aload_n h (i := 0) dL_cost_2 (q := 3) rfl rfl rfl ?_
  refine v_iload_n h (i := 1) dL_cost_3 (q := 4) rfl rfl rfl ?_
  refine v_callVy h hM kX7_cost tw499 tw501 (by assumption) (by decide) rfl rfl rfl (by simp [Value.category]) (by omega) (by decide) (by decide) rfl dL_cost_4 (q := 7) rfl (fun sz9 hsz9 => ?_)
  refine v_catch h [] [] rfl (fun z hz => nomatch hz) (by decide) tw286 tw298 rfl (fun qq => ?_)
  refine v_astore_n h (i := 3) dL_cost_12 (q := 13) rfl rfl (Nat.le_of_ble_eq_true rfl) rfl ?_
  refine v_iconst h (v := nI 1) dL_cost_13 (q := 14) rfl (by decide +kernel) ?_
  refine v_iret h hQ rfl rfl dL_cost_14 (by decide) (by decide) ⟨rfl, hsz9, rfl, rfl, rfl⟩
set_option maxHeartbeats 4000000 in
set_option maxRecDepth 100000 in
theorem ok_L_begin {l : Launch} (hfl : l.stackTraces = false) {sz : Nat} {sk : pb_Sk} {rf : pb_Rf} {sg : pb_Sg} {X O d9 : Nat} (hX : sk X = (13, 0)) {p0 : Int32} (hd9 : d9 ≤ 18) {v : Int32} {Q : pb_Sk → pb_Rf → pb_Sg → Prop} (hQO : ∀ sk9 rf9 sg9, Q sk9 rf9 sg9 → sk9 O = (3, 1)) (hM : pb_Met l mX7_begin d9 18 400 [.ref X, .int p0] sz sk rf sg (fun r sz9 sk9 rf9 sg9 => r = .inl (some (.int v)) ∧ sz9 = sz + 18 ∧ Q sk9 rf9 sg9)) : pb_Met l mL_begin 20 18 400 [.ref X, .int p0, .ref O] sz sk rf sg (fun r sz9 sk9 rf9 sg9 => r = .inl (some (.int (nI 0))) ∧ sz9 = sz + 18 ∧ ∃ sgm, Q sk9 rf9 sgm ∧ sg9 = pb_up sgm O 0 v) := by
  refine pb_startH hfl (by decide +kernel) (fun h9 => nomatch h9) (pb_c1 rfl) (Nat.le_of_ble_eq_true rfl) (fun F hF h hQ => ?_)
  subst hF
  show pv F 0 0 sz sk rf sg 0 [some (.ref X), some (.int p0), some (.ref O), none] []
  refine v_aload_n h (i := 2) dL_begin_0 (q := 1) rfl rfl rfl ?_
  refine v_iconst h (v := nI 0) dL_begin_1 (q := 2) rfl (by decide +kernel) ?_
  refine v_aload_n h (i := 0) dL_begin_2 (q := 3) rfl rfl rfl ?_
  refine v_iload_n h (i := 1) dL_begin_3 (q := 4) rfl rfl rfl ?_
  refine v_callV h hM kX7_begin tw510 tw512 (by assumption) (by decide) rfl rfl rfl (by simp [Value.category]) (by omega) (by decide) (by decide) rfl dL_begin_4 (q := 7) rfl ?_ (fun _ _ _ _ _ hx9 => nomatch hx9.1)
  rintro v1 sz1 sk1 rf1 sg1 ⟨q1, rfl, A1⟩
  cases q1
  have hO1 := hQO _ _ _ A1
  refine v_i2l h dL_begin_7 (q := 8) rfl ?_
  refine v_last h (by assumption) rfl (by first | assumption | omega) (by decide) dL_begin_8 (q := 9) rfl ?_
  refine v_goto h dL_begin_9 (tgt := 18) (by decide) ?_
  refine v_iconst h (v := nI 0) dL_begin_18 (q := 19) rfl (by decide +kernel) ?_
  refine v_iret h hQ rfl rfl dL_begin_19 (by decide) (by decide) ⟨rfl, rfl, _, A1, rfl⟩
set_option maxHeartbeats 4000000 in
set_option maxRecDepth 100000 in
theorem x1_L_begin {l : Launch} (hfl : l.stackTraces = false) {sz : Nat} {sk : pb_Sk} {rf : pb_Rf} {sg : pb_Sg} {X O d9 : Nat} (hX : sk X = (13, 0)) (hO : sk O = (3, 1)) {p0 : Int32} {sg9 : pb_Sg} (hd9 : d9 ≤ 18) (hM : pb_Met l mX7_begin d9 1 6 [.ref X, .int p0] sz sk rf sg (pb_thr "java/lang/IndexOutOfBoundsException" sz sk rf sg9)) : pb_Met l mL_begin 20 1 6 [.ref X, .int p0, .ref O] sz sk rf sg (pb_cau (nI 1) sz sk rf sg9) := by
  refine pb_startH hfl (by decide +kernel) (fun h9 => nomatch h9) (pb_c1 rfl) (Nat.le_of_ble_eq_true rfl) (fun F hF h hQ => ?_)
  subst hF
  show pv F 0 0 sz sk rf sg 0 [some (.ref X), some (.int p0), some (.ref O), none] []
  refine v_aload_n h (i := 2) dL_begin_0 (q := 1) rfl rfl rfl ?_
  refine v_iconst h (v := nI 0) dL_begin_1 (q := 2) rfl (by decide +kernel) ?_
  refine v_aload_n h (i := 0) dL_begin_2 (q := 3) rfl rfl rfl ?_
  refine v_iload_n h (i := 1) dL_begin_3 (q := 4) rfl rfl rfl ?_
  refine v_callVy h hM kX7_begin tw510 tw512 (by assumption) (by decide) rfl rfl rfl (by simp [Value.category]) (by omega) (by decide) (by decide) rfl dL_begin_4 (q := 7) rfl (fun sz9 hsz9 => ?_)
  refine v_catch h [] [(0, 9, 15, 21)] rfl (fun z hz => nomatch hz) (by decide) tw286 tw298 rfl (fun qq => ?_)
  refine v_astore_n h (i := 3) dL_begin_12 (q := 13) rfl rfl (Nat.le_of_ble_eq_true rfl) rfl ?_
  refine v_iconst h (v := nI 1) dL_begin_13 (q := 14) rfl (by decide +kernel) ?_
  refine v_iret h hQ rfl rfl dL_begin_14 (by decide) (by decide) ⟨rfl, hsz9, rfl, rfl, rfl⟩
set_option maxHeartbeats 4000000 in
set_option maxRecDepth 100000 in
theorem x2_L_begin {l : Launch} (hfl : l.stackTraces = false) {sz : Nat} {sk : pb_Sk} {rf : pb_Rf} {sg : pb_Sg} {X O d9 : Nat} (hX : sk X = (13, 0)) (hO : sk O = (3, 1)) {p0 : Int32} {sg9 : pb_Sg} (hd9 : d9 ≤ 18) (hM : pb_Met l mX7_begin d9 1 6 [.ref X, .int p0] sz sk rf sg (pb_thr "java/lang/IllegalStateException" sz sk rf sg9)) : pb_Met l mL_begin 20 1 6 [.ref X, .int p0, .ref O] sz sk rf sg (pb_cau (nI 2) sz sk rf sg9) := by
  refine pb_startH hfl (by decide +kernel) (fun h9 => nomatch h9) (pb_c1 rfl) (Nat.le_of_ble_eq_true rfl) (fun F hF h hQ => ?_)
  subst hF
  show pv F 0 0 sz sk rf sg 0 [some (.ref X), some (.int p0), some (.ref O), none] []
  refine v_aload_n h (i := 2) dL_begin_0 (q := 1) rfl rfl rfl ?_
  refine v_iconst h (v := nI 0) dL_begin_1 (q := 2) rfl (by decide +kernel) ?_
  refine v_aload_n h (i := 0) dL_begin_2 (q := 3) rfl rfl rfl ?_
  refine v_iload_n h (i := 1) dL_begin_3 (q := 4) rfl rfl rfl ?_
  refine v_callVy h hM kX7_begin tw510 tw512 (by assumption) (by decide) rfl rfl rfl (by simp [Value.category]) (by omega) (by decide) (by decide) rfl dL_begin_4 (q := 7) rfl (fun sz9 hsz9 => ?_)
  refine v_catch h [(0, 9, 12, 13)] [] rfl (fun z hz => by obtain rfl := List.mem_singleton.mp hz; exact ⟨by decide, "java/lang/IndexOutOfBoundsException", tw286, by simp [pb_ncs]⟩) (by decide) tw401 tw408 rfl (fun qq => ?_)
  refine v_astore_n h (i := 3) dL_begin_15 (q := 16) rfl rfl (Nat.le_of_ble_eq_true rfl) rfl ?_
  refine v_iconst h (v := nI 2) dL_begin_16 (q := 17) rfl (by decide +kernel) ?_
  refine v_iret h hQ rfl rfl dL_begin_17 (by decide) (by decide) ⟨rfl, hsz9, rfl, rfl, rfl⟩
set_option maxHeartbeats 4000000 in
set_option maxRecDepth 100000 in
theorem ok_L_parent {l : Launch} (hfl : l.stackTraces = false) {sz : Nat} {sk : pb_Sk} {rf : pb_Rf} {sg : pb_Sg} {X O d9 : Nat} (hX : sk X = (13, 0)) (hO : sk O = (3, 1)) {p0 : Int32} {sg9 : pb_Sg} (hd9 : d9 ≤ 18) {v : Int32} (hM : pb_Met l mX7_parent d9 0 0 [.ref X, .int p0] sz sk rf sg (pb_is (some (.int v)) sz sk rf sg9)) : pb_Met l mL_parent 20 0 0 [.ref X, .int p0, .ref O] sz sk rf sg (pb_is (some (.int (nI 0))) sz sk rf (pb_up sg9 O 0 v)) := by
  refine pb_startH hfl (by decide +kernel) (fun h9 => nomatch h9) (pb_c1 rfl) (Nat.le_of_ble_eq_true rfl) (fun F hF h hQ => ?_)
  subst hF
  show pv F 0 0 sz sk rf sg 0 [some (.ref X), some (.int p0), some (.ref O), none] []
  refine v_aload_n h (i := 2) dL_parent_0 (q := 1) rfl rfl rfl ?_
  refine v_iconst h (v := nI 0) dL_parent_1 (q := 2) rfl (by decide +kernel) ?_
  refine v_aload_n h (i := 0) dL_parent_2 (q := 3) rfl rfl rfl ?_
  refine v_iload_n h (i := 1) dL_parent_3 (q := 4) rfl rfl rfl ?_
  refine v_callV1 h hM kX7_parent tw530 tw532 (by assumption) (by decide) rfl rfl rfl (by simp [Value.category]) (by omega) (Nat.zero_le _) (Nat.zero_le _) rfl dL_parent_4 (q := 7) rfl ?_
  refine v_i2l h dL_parent_7 (q := 8) rfl ?_
  refine v_last h (by assumption) rfl (by first | assumption | omega) (by decide) dL_parent_8 (q := 9) rfl ?_
  refine v_goto h dL_parent_9 (tgt := 15) (by decide) ?_
  refine v_iconst h (v := nI 0) dL_parent_15 (q := 16) rfl (by decide +kernel) ?_
  refine v_iret h hQ rfl rfl dL_parent_16 (Nat.zero_le _) (Nat.zero_le _) ⟨rfl, rfl, rfl, rfl, rfl⟩
set_option maxHeartbeats 4000000 in
set_option maxRecDepth 100000 in
theorem x1_L_parent {l : Launch} (hfl : l.stackTraces = false) {sz : Nat} {sk : pb_Sk} {rf : pb_Rf} {sg : pb_Sg} {X O d9 : Nat} (hX : sk X = (13, 0)) (hO : sk O = (3, 1)) {p0 : Int32} {sg9 : pb_Sg} (hd9 : d9 ≤ 18) (hM : pb_Met l mX7_parent d9 1 6 [.ref X, .int p0] sz sk rf sg (pb_thr "java/lang/IndexOutOfBoundsException" sz sk rf sg9)) : pb_Met l mL_parent 20 1 6 [.ref X, .int p0, .ref O] sz sk rf sg (pb_cau (nI 1) sz sk rf sg9) := by
  refine pb_startH hfl (by decide +kernel) (fun h9 => nomatch h9) (pb_c1 rfl) (Nat.le_of_ble_eq_true rfl) (fun F hF h hQ => ?_)
  subst hF
  show pv F 0 0 sz sk rf sg 0 [some (.ref X), some (.int p0), some (.ref O), none] []
  refine v_aload_n h (i := 2) dL_parent_0 (q := 1) rfl rfl rfl ?_
  refine v_iconst h (v := nI 0) dL_parent_1 (q := 2) rfl (by decide +kernel) ?_
  refine v_aload_n h (i := 0) dL_parent_2 (q := 3) rfl rfl rfl ?_
  refine v_iload_n h (i := 1) dL_parent_3 (q := 4) rfl rfl rfl ?_
  refine v_callVy h hM kX7_parent tw530 tw532 (by assumption) (by decide) rfl rfl rfl (by simp [Value.category]) (by omega) (by decide) (by decide) rfl dL_parent_4 (q := 7) rfl (fun sz9 hsz9 => ?_)
  refine v_catch h [] [] rfl (fun z hz => nomatch hz) (by decide) tw286 tw298 rfl (fun qq => ?_)
  refine v_astore_n h (i := 3) dL_parent_12 (q := 13) rfl rfl (Nat.le_of_ble_eq_true rfl) rfl ?_
  refine v_iconst h (v := nI 1) dL_parent_13 (q := 14) rfl (by decide +kernel) ?_
  refine v_iret h hQ rfl rfl dL_parent_14 (by decide) (by decide) ⟨rfl, hsz9, rfl, rfl, rfl⟩
set_option maxHeartbeats 4000000 in
set_option maxRecDepth 100000 in
theorem ok_L_setBudget {l : Launch} (hfl : l.stackTraces = false) {sz : Nat} {sk : pb_Sk} {rf : pb_Rf} {sg : pb_Sg} {X O d9 : Nat} (hX : sk X = (13, 0)) (hO : sk O = (3, 1)) {p0 p1 : Int32} {sg9 : pb_Sg} (hd9 : d9 ≤ 18) {v : Int32} (hM : pb_Met l mX7_setBudget d9 0 0 [.ref X, .int p0, .int p1] sz sk rf sg (pb_is (some (.int v)) sz sk rf sg9)) : pb_Met l mL_setBudget 20 0 0 [.ref X, .int p0, .int p1, .ref O] sz sk rf sg (pb_is (some (.int (nI 0))) sz sk rf (pb_up sg9 O 0 v)) := by
  refine pb_startH hfl (by decide +kernel) (fun h9 => nomatch h9) (pb_c1 rfl) (Nat.le_of_ble_eq_true rfl) (fun F hF h hQ => ?_)
  subst hF
  show pv F 0 0 sz sk rf sg 0 [some (.ref X), some (.int p0), some (.int p1), some (.ref O), none] []
  refine v_aload_n h (i := 3) dL_setBudget_0 (q := 1) rfl rfl rfl ?_
  refine v_iconst h (v := nI 0) dL_setBudget_1 (q := 2) rfl (by decide +kernel) ?_
  refine v_aload_n h (i := 0) dL_setBudget_2 (q := 3) rfl rfl rfl ?_
  refine v_iload_n h (i := 1) dL_setBudget_3 (q := 4) rfl rfl rfl ?_
  refine v_iload_n h (i := 2) dL_setBudget_4 (q := 5) rfl rfl rfl ?_
  refine v_callV1 h hM kX7_setBudget tw537 tw539 (by assumption) (by decide) rfl rfl rfl (by simp [Value.category]) (by omega) (Nat.zero_le _) (Nat.zero_le _) rfl dL_setBudget_5 (q := 8) rfl ?_
  refine v_i2l h dL_setBudget_8 (q := 9) rfl ?_
  refine v_last h (by assumption) rfl (by first | assumption | omega) (by decide) dL_setBudget_9 (q := 10) rfl ?_
  refine v_goto h dL_setBudget_10 (tgt := 21) (by decide) ?_
  refine v_iconst h (v := nI 0) dL_setBudget_21 (q := 22) rfl (by decide +kernel) ?_
  refine v_iret h hQ rfl rfl dL_setBudget_22 (Nat.zero_le _) (Nat.zero_le _) ⟨rfl, rfl, rfl, rfl, rfl⟩
set_option maxHeartbeats 4000000 in
set_option maxRecDepth 100000 in
theorem x1_L_setBudget {l : Launch} (hfl : l.stackTraces = false) {sz : Nat} {sk : pb_Sk} {rf : pb_Rf} {sg : pb_Sg} {X O d9 : Nat} (hX : sk X = (13, 0)) (hO : sk O = (3, 1)) {p0 p1 : Int32} {sg9 : pb_Sg} (hd9 : d9 ≤ 18) (hM : pb_Met l mX7_setBudget d9 1 6 [.ref X, .int p0, .int p1] sz sk rf sg (pb_thr "java/lang/IndexOutOfBoundsException" sz sk rf sg9)) : pb_Met l mL_setBudget 20 1 6 [.ref X, .int p0, .int p1, .ref O] sz sk rf sg (pb_cau (nI 1) sz sk rf sg9) := by
  refine pb_startH hfl (by decide +kernel) (fun h9 => nomatch h9) (pb_c1 rfl) (Nat.le_of_ble_eq_true rfl) (fun F hF h hQ => ?_)
  subst hF
  show pv F 0 0 sz sk rf sg 0 [some (.ref X), some (.int p0), some (.int p1), some (.ref O), none] []
  refine v_aload_n h (i := 3) dL_setBudget_0 (q := 1) rfl rfl rfl ?_
  refine v_iconst h (v := nI 0) dL_setBudget_1 (q := 2) rfl (by decide +kernel) ?_
  refine v_aload_n h (i := 0) dL_setBudget_2 (q := 3) rfl rfl rfl ?_
  refine v_iload_n h (i := 1) dL_setBudget_3 (q := 4) rfl rfl rfl ?_
  refine v_iload_n h (i := 2) dL_setBudget_4 (q := 5) rfl rfl rfl ?_
  refine v_callVy h hM kX7_setBudget tw537 tw539 (by assumption) (by decide) rfl rfl rfl (by simp [Value.category]) (by omega) (by decide) (by decide) rfl dL_setBudget_5 (q := 8) rfl (fun sz9 hsz9 => ?_)
  refine v_catch h [] [(0, 10, 17, 15)] rfl (fun z hz => nomatch hz) (by decide) tw286 tw298 rfl (fun qq => ?_)
  refine v_astore h dL_setBudget_13 (q := 15) rfl (Nat.le_of_ble_eq_true rfl) rfl ?_
  refine v_iconst h (v := nI 1) dL_setBudget_15 (q := 16) rfl (by decide +kernel) ?_
  refine v_iret h hQ rfl rfl dL_setBudget_16 (by decide) (by decide) ⟨rfl, hsz9, rfl, rfl, rfl⟩
set_option maxHeartbeats 4000000 in
set_option maxRecDepth 100000 in
theorem x2_L_setBudget {l : Launch} (hfl : l.stackTraces = false) {sz : Nat} {sk : pb_Sk} {rf : pb_Rf} {sg : pb_Sg} {X O d9 : Nat} (hX : sk X = (13, 0)) (hO : sk O = (3, 1)) {p0 p1 : Int32} {sg9 : pb_Sg} (hd9 : d9 ≤ 18) (hM : pb_Met l mX7_setBudget d9 1 6 [.ref X, .int p0, .int p1] sz sk rf sg (pb_thr "java/lang/IllegalArgumentException" sz sk rf sg9)) : pb_Met l mL_setBudget 20 1 6 [.ref X, .int p0, .int p1, .ref O] sz sk rf sg (pb_cau (nI 2) sz sk rf sg9) := by
  refine pb_startH hfl (by decide +kernel) (fun h9 => nomatch h9) (pb_c1 rfl) (Nat.le_of_ble_eq_true rfl) (fun F hF h hQ => ?_)
  subst hF
  show pv F 0 0 sz sk rf sg 0 [some (.ref X), some (.int p0), some (.int p1), some (.ref O), none] []
  refine v_aload_n h (i := 3) dL_setBudget_0 (q := 1) rfl rfl rfl ?_
  refine v_iconst h (v := nI 0) dL_setBudget_1 (q := 2) rfl (by decide +kernel) ?_
  refine v_aload_n h (i := 0) dL_setBudget_2 (q := 3) rfl rfl rfl ?_
  refine v_iload_n h (i := 1) dL_setBudget_3 (q := 4) rfl rfl rfl ?_
  refine v_iload_n h (i := 2) dL_setBudget_4 (q := 5) rfl rfl rfl ?_
  refine v_callVy h hM kX7_setBudget tw537 tw539 (by assumption) (by decide) rfl rfl rfl (by simp [Value.category]) (by omega) (by decide) (by decide) rfl dL_setBudget_5 (q := 8) rfl (fun sz9 hsz9 => ?_)
  refine v_catch h [(0, 10, 13, 13)] [] rfl (fun z hz => by obtain rfl := List.mem_singleton.mp hz; exact ⟨by decide, "java/lang/IndexOutOfBoundsException", tw286, by simp [pb_ncs]⟩) (by decide) tw287 tw372 rfl (fun qq => ?_)
  refine v_astore h dL_setBudget_17 (q := 19) rfl (Nat.le_of_ble_eq_true rfl) rfl ?_
  refine v_iconst h (v := nI 2) dL_setBudget_19 (q := 20) rfl (by decide +kernel) ?_
  refine v_iret h hQ rfl rfl dL_setBudget_20 (by decide) (by decide) ⟨rfl, hsz9, rfl, rfl, rfl⟩
set_option maxHeartbeats 4000000 in
set_option maxRecDepth 100000 in
theorem ok_L_resolve {l : Launch} (hfl : l.stackTraces = false) {sz : Nat} {sk : pb_Sk} {rf : pb_Rf} {sg : pb_Sg} {X O d9 : Nat} (hX : sk X = (13, 0)) (hO : sk O = (3, 1)) {p0 p1 p2 : Int32} {sg9 : pb_Sg} (hd9 : d9 ≤ 18) {v : Int32} (hM : pb_Met l mX7_resolve d9 0 0 [.ref X, .int p0, .int p1, .int p2] sz sk rf sg (pb_is (some (.int v)) sz sk rf sg9)) : pb_Met l mL_resolve 20 0 0 [.ref X, .int p0, .int p1, .int p2, .ref O] sz sk rf sg (pb_is (some (.int (nI 0))) sz sk rf (pb_up sg9 O 0 v)) := by
  refine pb_startH hfl (by decide +kernel) (fun h9 => nomatch h9) (pb_c1 rfl) (Nat.le_of_ble_eq_true rfl) (fun F hF h hQ => ?_)
  subst hF
  show pv F 0 0 sz sk rf sg 0 [some (.ref X), some (.int p0), some (.int p1), some (.int p2), some (.ref O), none] []
  refine v_aload h dL_resolve_0 (q := 2) rfl rfl ?_
  refine v_iconst h (v := nI 0) dL_resolve_2 (q := 3) rfl (by decide +kernel) ?_
  refine v_aload_n h (i := 0) dL_resolve_3 (q := 4) rfl rfl rfl ?_
  refine v_iload_n h (i := 1) dL_resolve_4 (q := 5) rfl rfl rfl ?_
  refine v_iload_n h (i := 2) dL_resolve_5 (q := 6) rfl rfl rfl ?_
  refine v_iload_n h (i := 3) dL_resolve_6 (q := 7) rfl rfl rfl ?_
  refine v_callV1 h hM kX7_resolve tw545 tw547 (by assumption) (by decide) rfl rfl rfl (by simp [Value.category]) (by omega) (Nat.zero_le _) (Nat.zero_le _) rfl dL_resolve_7 (q := 10) rfl ?_
  refine v_i2l h dL_resolve_10 (q := 11) rfl ?_
  refine v_last h (by assumption) rfl (by first | assumption | omega) (by decide) dL_resolve_11 (q := 12) rfl ?_
  refine v_goto h dL_resolve_12 (tgt := 27) (by decide) ?_
  refine v_iconst h (v := nI 0) dL_resolve_27 (q := 28) rfl (by decide +kernel) ?_
  refine v_iret h hQ rfl rfl dL_resolve_28 (Nat.zero_le _) (Nat.zero_le _) ⟨rfl, rfl, rfl, rfl, rfl⟩
set_option maxHeartbeats 4000000 in
set_option maxRecDepth 100000 in
theorem x1_L_resolve {l : Launch} (hfl : l.stackTraces = false) {sz : Nat} {sk : pb_Sk} {rf : pb_Rf} {sg : pb_Sg} {X O d9 : Nat} (hX : sk X = (13, 0)) (hO : sk O = (3, 1)) {p0 p1 p2 : Int32} {sg9 : pb_Sg} (hd9 : d9 ≤ 18) (hM : pb_Met l mX7_resolve d9 1 6 [.ref X, .int p0, .int p1, .int p2] sz sk rf sg (pb_thr "java/lang/IndexOutOfBoundsException" sz sk rf sg9)) : pb_Met l mL_resolve 20 1 6 [.ref X, .int p0, .int p1, .int p2, .ref O] sz sk rf sg (pb_cau (nI 1) sz sk rf sg9) := by
  refine pb_startH hfl (by decide +kernel) (fun h9 => nomatch h9) (pb_c1 rfl) (Nat.le_of_ble_eq_true rfl) (fun F hF h hQ => ?_)
  subst hF
  show pv F 0 0 sz sk rf sg 0 [some (.ref X), some (.int p0), some (.int p1), some (.int p2), some (.ref O), none] []
  refine v_aload h dL_resolve_0 (q := 2) rfl rfl ?_
  refine v_iconst h (v := nI 0) dL_resolve_2 (q := 3) rfl (by decide +kernel) ?_
  refine v_aload_n h (i := 0) dL_resolve_3 (q := 4) rfl rfl rfl ?_
  refine v_iload_n h (i := 1) dL_resolve_4 (q := 5) rfl rfl rfl ?_
  refine v_iload_n h (i := 2) dL_resolve_5 (q := 6) rfl rfl rfl ?_
  refine v_iload_n h (i := 3) dL_resolve_6 (q := 7) rfl rfl rfl ?_
  refine v_callVy h hM kX7_resolve tw545 tw547 (by assumption) (by decide) rfl rfl rfl (by simp [Value.category]) (by omega) (by decide) (by decide) rfl dL_resolve_7 (q := 10) rfl (fun sz9 hsz9 => ?_)
  refine v_catch h [] [(0, 12, 19, 15), (0, 12, 23, 21)] rfl (fun z hz => nomatch hz) (by decide) tw286 tw298 rfl (fun qq => ?_)
  refine v_astore h dL_resolve_15 (q := 17) rfl (Nat.le_of_ble_eq_true rfl) rfl ?_
  refine v_iconst h (v := nI 1) dL_resolve_17 (q := 18) rfl (by decide +kernel) ?_
  refine v_iret h hQ rfl rfl dL_resolve_18 (by decide) (by decide) ⟨rfl, hsz9, rfl, rfl, rfl⟩
set_option maxHeartbeats 4000000 in
set_option maxRecDepth 100000 in
theorem x2_L_resolve {l : Launch} (hfl : l.stackTraces = false) {sz : Nat} {sk : pb_Sk} {rf : pb_Rf} {sg : pb_Sg} {X O d9 : Nat} (hX : sk X = (13, 0)) (hO : sk O = (3, 1)) {p0 p1 p2 : Int32} {sg9 : pb_Sg} (hd9 : d9 ≤ 18) (hM : pb_Met l mX7_resolve d9 1 6 [.ref X, .int p0, .int p1, .int p2] sz sk rf sg (pb_thr "java/lang/IllegalArgumentException" sz sk rf sg9)) : pb_Met l mL_resolve 20 1 6 [.ref X, .int p0, .int p1, .int p2, .ref O] sz sk rf sg (pb_cau (nI 2) sz sk rf sg9) := by
  refine pb_startH hfl (by decide +kernel) (fun h9 => nomatch h9) (pb_c1 rfl) (Nat.le_of_ble_eq_true rfl) (fun F hF h hQ => ?_)
  subst hF
  show pv F 0 0 sz sk rf sg 0 [some (.ref X), some (.int p0), some (.int p1), some (.int p2), some (.ref O), none] []
  refine v_aload h dL_resolve_0 (q := 2) rfl rfl ?_
  refine v_iconst h (v := nI 0) dL_resolve_2 (q := 3) rfl (by decide +kernel) ?_
  refine v_aload_n h (i := 0) dL_resolve_3 (q := 4) rfl rfl rfl ?_
  refine v_iload_n h (i := 1) dL_resolve_4 (q := 5) rfl rfl rfl ?_
  refine v_iload_n h (i := 2) dL_resolve_5 (q := 6) rfl rfl rfl ?_
  refine v_iload_n h (i := 3) dL_resolve_6 (q := 7) rfl rfl rfl ?_
  refine v_callVy h hM kX7_resolve tw545 tw547 (by assumption) (by decide) rfl rfl rfl (by simp [Value.category]) (by omega) (by decide) (by decide) rfl dL_resolve_7 (q := 10) rfl (fun sz9 hsz9 => ?_)
  refine v_catch h [(0, 12, 15, 13)] [(0, 12, 23, 21)] rfl (fun z hz => by obtain rfl := List.mem_singleton.mp hz; exact ⟨by decide, "java/lang/IndexOutOfBoundsException", tw286, by simp [pb_ncs]⟩) (by decide) tw287 tw372 rfl (fun qq => ?_)
  refine v_astore h dL_resolve_19 (q := 21) rfl (Nat.le_of_ble_eq_true rfl) rfl ?_
  refine v_iconst h (v := nI 2) dL_resolve_21 (q := 22) rfl (by decide +kernel) ?_
  refine v_iret h hQ rfl rfl dL_resolve_22 (by decide) (by decide) ⟨rfl, hsz9, rfl, rfl, rfl⟩
set_option maxHeartbeats 4000000 in
set_option maxRecDepth 100000 in
theorem x3_L_resolve {l : Launch} (hfl : l.stackTraces = false) {sz : Nat} {sk : pb_Sk} {rf : pb_Rf} {sg : pb_Sg} {X O d9 : Nat} (hX : sk X = (13, 0)) (hO : sk O = (3, 1)) {p0 p1 p2 : Int32} {sg9 : pb_Sg} (hd9 : d9 ≤ 18) (hM : pb_Met l mX7_resolve d9 1 6 [.ref X, .int p0, .int p1, .int p2] sz sk rf sg (pb_thr "java/lang/IllegalStateException" sz sk rf sg9)) : pb_Met l mL_resolve 20 1 6 [.ref X, .int p0, .int p1, .int p2, .ref O] sz sk rf sg (pb_cau (nI 3) sz sk rf sg9) := by
  refine pb_startH hfl (by decide +kernel) (fun h9 => nomatch h9) (pb_c1 rfl) (Nat.le_of_ble_eq_true rfl) (fun F hF h hQ => ?_)
  subst hF
  show pv F 0 0 sz sk rf sg 0 [some (.ref X), some (.int p0), some (.int p1), some (.int p2), some (.ref O), none] []
  refine v_aload h dL_resolve_0 (q := 2) rfl rfl ?_
  refine v_iconst h (v := nI 0) dL_resolve_2 (q := 3) rfl (by decide +kernel) ?_
  refine v_aload_n h (i := 0) dL_resolve_3 (q := 4) rfl rfl rfl ?_
  refine v_iload_n h (i := 1) dL_resolve_4 (q := 5) rfl rfl rfl ?_
  refine v_iload_n h (i := 2) dL_resolve_5 (q := 6) rfl rfl rfl ?_
  refine v_iload_n h (i := 3) dL_resolve_6 (q := 7) rfl rfl rfl ?_
  refine v_callVy h hM kX7_resolve tw545 tw547 (by assumption) (by decide) rfl rfl rfl (by simp [Value.category]) (by omega) (by decide) (by decide) rfl dL_resolve_7 (q := 10) rfl (fun sz9 hsz9 => ?_)
  refine v_catch h [(0, 12, 15, 13), (0, 12, 19, 15)] [] rfl (fun z hz => by rcases List.mem_cons.mp hz with rfl | hz; exact ⟨by decide, "java/lang/IndexOutOfBoundsException", tw286, by simp [pb_ncs]⟩; obtain rfl := List.mem_singleton.mp hz; exact ⟨by decide, "java/lang/IllegalArgumentException", tw287, by simp [pb_ncs]⟩) (by decide) tw401 tw408 rfl (fun qq => ?_)
  refine v_astore h dL_resolve_23 (q := 25) rfl (Nat.le_of_ble_eq_true rfl) rfl ?_
  refine v_iconst h (v := nI 3) dL_resolve_25 (q := 26) rfl (by decide +kernel) ?_
  refine v_iret h hQ rfl rfl dL_resolve_26 (by decide) (by decide) ⟨rfl, hsz9, rfl, rfl, rfl⟩
set_option maxHeartbeats 4000000 in
set_option maxRecDepth 100000 in
theorem ok_L_clashes {l : Launch} (hfl : l.stackTraces = false) {sz : Nat} {sk : pb_Sk} {rf : pb_Rf} {sg : pb_Sg} {X O d9 : Nat} (hX : sk X = (13, 0)) (hO : sk O = (3, 1)) {p0 : Int32} {sg9 : pb_Sg} (hd9 : d9 ≤ 18) {v : Int32} (hM : pb_Met l mX7_clashes d9 0 0 [.ref X, .int p0] sz sk rf sg (pb_is (some (.int v)) sz sk rf sg9)) : pb_Met l mL_clashes 20 0 0 [.ref X, .int p0, .ref O] sz sk rf sg (pb_is (some (.int (nI 0))) sz sk rf (pb_up sg9 O 0 v)) := by
  refine pb_startH hfl (by decide +kernel) (fun h9 => nomatch h9) (pb_c1 rfl) (Nat.le_of_ble_eq_true rfl) (fun F hF h hQ => ?_)
  subst hF
  show pv F 0 0 sz sk rf sg 0 [some (.ref X), some (.int p0), some (.ref O), none] []
  refine v_aload_n h (i := 2) dL_clashes_0 (q := 1) rfl rfl rfl ?_
  refine v_iconst h (v := nI 0) dL_clashes_1 (q := 2) rfl (by decide +kernel) ?_
  refine v_aload_n h (i := 0) dL_clashes_2 (q := 3) rfl rfl rfl ?_
  refine v_iload_n h (i := 1) dL_clashes_3 (q := 4) rfl rfl rfl ?_
  refine v_callV1 h hM kX7_clashes tw553 tw555 (by assumption) (by decide) rfl rfl rfl (by simp [Value.category]) (by omega) (Nat.zero_le _) (Nat.zero_le _) rfl dL_clashes_4 (q := 7) rfl ?_
  refine v_i2l h dL_clashes_7 (q := 8) rfl ?_
  refine v_last h (by assumption) rfl (by first | assumption | omega) (by decide) dL_clashes_8 (q := 9) rfl ?_
  refine v_goto h dL_clashes_9 (tgt := 15) (by decide) ?_
  refine v_iconst h (v := nI 0) dL_clashes_15 (q := 16) rfl (by decide +kernel) ?_
  refine v_iret h hQ rfl rfl dL_clashes_16 (Nat.zero_le _) (Nat.zero_le _) ⟨rfl, rfl, rfl, rfl, rfl⟩
set_option maxHeartbeats 4000000 in
set_option maxRecDepth 100000 in
theorem x1_L_clashes {l : Launch} (hfl : l.stackTraces = false) {sz : Nat} {sk : pb_Sk} {rf : pb_Rf} {sg : pb_Sg} {X O d9 : Nat} (hX : sk X = (13, 0)) (hO : sk O = (3, 1)) {p0 : Int32} {sg9 : pb_Sg} (hd9 : d9 ≤ 18) (hM : pb_Met l mX7_clashes d9 1 6 [.ref X, .int p0] sz sk rf sg (pb_thr "java/lang/IndexOutOfBoundsException" sz sk rf sg9)) : pb_Met l mL_clashes 20 1 6 [.ref X, .int p0, .ref O] sz sk rf sg (pb_cau (nI 1) sz sk rf sg9) := by
  refine pb_startH hfl (by decide +kernel) (fun h9 => nomatch h9) (pb_c1 rfl) (Nat.le_of_ble_eq_true rfl) (fun F hF h hQ => ?_)
  subst hF
  show pv F 0 0 sz sk rf sg 0 [some (.ref X), some (.int p0), some (.ref O), none] []
  refine v_aload_n h (i := 2) dL_clashes_0 (q := 1) rfl rfl rfl ?_
  refine v_iconst h (v := nI 0) dL_clashes_1 (q := 2) rfl (by decide +kernel) ?_
  refine v_aload_n h (i := 0) dL_clashes_2 (q := 3) rfl rfl rfl ?_
  refine v_iload_n h (i := 1) dL_clashes_3 (q := 4) rfl rfl rfl ?_
  refine v_callVy h hM kX7_clashes tw553 tw555 (by assumption) (by decide) rfl rfl rfl (by simp [Value.category]) (by omega) (by decide) (by decide) rfl dL_clashes_4 (q := 7) rfl (fun sz9 hsz9 => ?_)
  refine v_catch h [] [] rfl (fun z hz => nomatch hz) (by decide) tw286 tw298 rfl (fun qq => ?_)
  refine v_astore_n h (i := 3) dL_clashes_12 (q := 13) rfl rfl (Nat.le_of_ble_eq_true rfl) rfl ?_
  refine v_iconst h (v := nI 1) dL_clashes_13 (q := 14) rfl (by decide +kernel) ?_
  refine v_iret h hQ rfl rfl dL_clashes_14 (by decide) (by decide) ⟨rfl, hsz9, rfl, rfl, rfl⟩
set_option maxHeartbeats 4000000 in
set_option maxRecDepth 100000 in
theorem ok_L_reason {l : Launch} (hfl : l.stackTraces = false) {sz : Nat} {sk : pb_Sk} {rf : pb_Rf} {sg : pb_Sg} {X O d9 : Nat} (hX : sk X = (13, 0)) (hO : sk O = (3, 1)) {p0 p1 : Int32} {sg9 : pb_Sg} (hd9 : d9 ≤ 18) {v : Int32} (hM : pb_Met l mX7_reason d9 0 0 [.ref X, .int p0, .int p1] sz sk rf sg (pb_is (some (.int v)) sz sk rf sg9)) : pb_Met l mL_reason 20 0 0 [.ref X, .int p0, .int p1, .ref O] sz sk rf sg (pb_is (some (.int (nI 0))) sz sk rf (pb_up sg9 O 0 v)) := by
  refine pb_startH hfl (by decide +kernel) (fun h9 => nomatch h9) (pb_c1 rfl) (Nat.le_of_ble_eq_true rfl) (fun F hF h hQ => ?_)
  subst hF
  show pv F 0 0 sz sk rf sg 0 [some (.ref X), some (.int p0), some (.int p1), some (.ref O), none] []
  refine v_aload_n h (i := 3) dL_reason_0 (q := 1) rfl rfl rfl ?_
  refine v_iconst h (v := nI 0) dL_reason_1 (q := 2) rfl (by decide +kernel) ?_
  refine v_aload_n h (i := 0) dL_reason_2 (q := 3) rfl rfl rfl ?_
  refine v_iload_n h (i := 1) dL_reason_3 (q := 4) rfl rfl rfl ?_
  refine v_iload_n h (i := 2) dL_reason_4 (q := 5) rfl rfl rfl ?_
  refine v_callV1 h hM kX7_reason tw584 tw586 (by assumption) (by decide) rfl rfl rfl (by simp [Value.category]) (by omega) (Nat.zero_le _) (Nat.zero_le _) rfl dL_reason_5 (q := 8) rfl ?_
  refine v_i2l h dL_reason_8 (q := 9) rfl ?_
  refine v_last h (by assumption) rfl (by first | assumption | omega) (by decide) dL_reason_9 (q := 10) rfl ?_
  refine v_goto h dL_reason_10 (tgt := 21) (by decide) ?_
  refine v_iconst h (v := nI 0) dL_reason_21 (q := 22) rfl (by decide +kernel) ?_
  refine v_iret h hQ rfl rfl dL_reason_22 (Nat.zero_le _) (Nat.zero_le _) ⟨rfl, rfl, rfl, rfl, rfl⟩
set_option maxHeartbeats 4000000 in
set_option maxRecDepth 100000 in
theorem x1_L_reason {l : Launch} (hfl : l.stackTraces = false) {sz : Nat} {sk : pb_Sk} {rf : pb_Rf} {sg : pb_Sg} {X O d9 : Nat} (hX : sk X = (13, 0)) (hO : sk O = (3, 1)) {p0 p1 : Int32} {sg9 : pb_Sg} (hd9 : d9 ≤ 18) (hM : pb_Met l mX7_reason d9 1 6 [.ref X, .int p0, .int p1] sz sk rf sg (pb_thr "java/lang/IndexOutOfBoundsException" sz sk rf sg9)) : pb_Met l mL_reason 20 1 6 [.ref X, .int p0, .int p1, .ref O] sz sk rf sg (pb_cau (nI 1) sz sk rf sg9) := by
  refine pb_startH hfl (by decide +kernel) (fun h9 => nomatch h9) (pb_c1 rfl) (Nat.le_of_ble_eq_true rfl) (fun F hF h hQ => ?_)
  subst hF
  show pv F 0 0 sz sk rf sg 0 [some (.ref X), some (.int p0), some (.int p1), some (.ref O), none] []
  refine v_aload_n h (i := 3) dL_reason_0 (q := 1) rfl rfl rfl ?_
  refine v_iconst h (v := nI 0) dL_reason_1 (q := 2) rfl (by decide +kernel) ?_
  refine v_aload_n h (i := 0) dL_reason_2 (q := 3) rfl rfl rfl ?_
  refine v_iload_n h (i := 1) dL_reason_3 (q := 4) rfl rfl rfl ?_
  refine v_iload_n h (i := 2) dL_reason_4 (q := 5) rfl rfl rfl ?_
  refine v_callVy h hM kX7_reason tw584 tw586 (by assumption) (by decide) rfl rfl rfl (by simp [Value.category]) (by omega) (by decide) (by decide) rfl dL_reason_5 (q := 8) rfl (fun sz9 hsz9 => ?_)
  refine v_catch h [] [(0, 10, 17, 21)] rfl (fun z hz => nomatch hz) (by decide) tw286 tw298 rfl (fun qq => ?_)
  refine v_astore h dL_reason_13 (q := 15) rfl (Nat.le_of_ble_eq_true rfl) rfl ?_
  refine v_iconst h (v := nI 1) dL_reason_15 (q := 16) rfl (by decide +kernel) ?_
  refine v_iret h hQ rfl rfl dL_reason_16 (by decide) (by decide) ⟨rfl, hsz9, rfl, rfl, rfl⟩
set_option maxHeartbeats 4000000 in
set_option maxRecDepth 100000 in
theorem x2_L_reason {l : Launch} (hfl : l.stackTraces = false) {sz : Nat} {sk : pb_Sk} {rf : pb_Rf} {sg : pb_Sg} {X O d9 : Nat} (hX : sk X = (13, 0)) (hO : sk O = (3, 1)) {p0 p1 : Int32} {sg9 : pb_Sg} (hd9 : d9 ≤ 18) (hM : pb_Met l mX7_reason d9 1 6 [.ref X, .int p0, .int p1] sz sk rf sg (pb_thr "java/lang/IllegalStateException" sz sk rf sg9)) : pb_Met l mL_reason 20 1 6 [.ref X, .int p0, .int p1, .ref O] sz sk rf sg (pb_cau (nI 2) sz sk rf sg9) := by
  refine pb_startH hfl (by decide +kernel) (fun h9 => nomatch h9) (pb_c1 rfl) (Nat.le_of_ble_eq_true rfl) (fun F hF h hQ => ?_)
  subst hF
  show pv F 0 0 sz sk rf sg 0 [some (.ref X), some (.int p0), some (.int p1), some (.ref O), none] []
  refine v_aload_n h (i := 3) dL_reason_0 (q := 1) rfl rfl rfl ?_
  refine v_iconst h (v := nI 0) dL_reason_1 (q := 2) rfl (by decide +kernel) ?_
  refine v_aload_n h (i := 0) dL_reason_2 (q := 3) rfl rfl rfl ?_
  refine v_iload_n h (i := 1) dL_reason_3 (q := 4) rfl rfl rfl ?_
  refine v_iload_n h (i := 2) dL_reason_4 (q := 5) rfl rfl rfl ?_
  refine v_callVy h hM kX7_reason tw584 tw586 (by assumption) (by decide) rfl rfl rfl (by simp [Value.category]) (by omega) (by decide) (by decide) rfl dL_reason_5 (q := 8) rfl (fun sz9 hsz9 => ?_)
  refine v_catch h [(0, 10, 13, 13)] [] rfl (fun z hz => by obtain rfl := List.mem_singleton.mp hz; exact ⟨by decide, "java/lang/IndexOutOfBoundsException", tw286, by simp [pb_ncs]⟩) (by decide) tw401 tw408 rfl (fun qq => ?_)
  refine v_astore h dL_reason_17 (q := 19) rfl (Nat.le_of_ble_eq_true rfl) rfl ?_
  refine v_iconst h (v := nI 2) dL_reason_19 (q := 20) rfl (by decide +kernel) ?_
  refine v_iret h hQ rfl rfl dL_reason_20 (by decide) (by decide) ⟨rfl, hsz9, rfl, rfl, rfl⟩
set_option maxHeartbeats 4000000 in
set_option maxRecDepth 100000 in
theorem ok_L_reasonTask {l : Launch} (hfl : l.stackTraces = false) {sz : Nat} {sk : pb_Sk} {rf : pb_Rf} {sg : pb_Sg} {X O d9 : Nat} (hX : sk X = (13, 0)) (hO : sk O = (3, 1)) {p0 p1 : Int32} {sg9 : pb_Sg} (hd9 : d9 ≤ 18) {v : Int32} (hM : pb_Met l mX7_reasonTask d9 0 0 [.ref X, .int p0, .int p1] sz sk rf sg (pb_is (some (.int v)) sz sk rf sg9)) : pb_Met l mL_reasonTask 20 0 0 [.ref X, .int p0, .int p1, .ref O] sz sk rf sg (pb_is (some (.int (nI 0))) sz sk rf (pb_up sg9 O 0 v)) := by
  refine pb_startH hfl (by decide +kernel) (fun h9 => nomatch h9) (pb_c1 rfl) (Nat.le_of_ble_eq_true rfl) (fun F hF h hQ => ?_)
  subst hF
  show pv F 0 0 sz sk rf sg 0 [some (.ref X), some (.int p0), some (.int p1), some (.ref O), none] []
  refine v_aload_n h (i := 3) dL_reasonTask_0 (q := 1) rfl rfl rfl ?_
  refine v_iconst h (v := nI 0) dL_reasonTask_1 (q := 2) rfl (by decide +kernel) ?_
  refine v_aload_n h (i := 0) dL_reasonTask_2 (q := 3) rfl rfl rfl ?_
  refine v_iload_n h (i := 1) dL_reasonTask_3 (q := 4) rfl rfl rfl ?_
  refine v_iload_n h (i := 2) dL_reasonTask_4 (q := 5) rfl rfl rfl ?_
  refine v_callV1 h hM kX7_reasonTask tw666 tw668 (by assumption) (by decide) rfl rfl rfl (by simp [Value.category]) (by omega) (Nat.zero_le _) (Nat.zero_le _) rfl dL_reasonTask_5 (q := 8) rfl ?_
  refine v_i2l h dL_reasonTask_8 (q := 9) rfl ?_
  refine v_last h (by assumption) rfl (by first | assumption | omega) (by decide) dL_reasonTask_9 (q := 10) rfl ?_
  refine v_goto h dL_reasonTask_10 (tgt := 21) (by decide) ?_
  refine v_iconst h (v := nI 0) dL_reasonTask_21 (q := 22) rfl (by decide +kernel) ?_
  refine v_iret h hQ rfl rfl dL_reasonTask_22 (Nat.zero_le _) (Nat.zero_le _) ⟨rfl, rfl, rfl, rfl, rfl⟩
set_option maxHeartbeats 4000000 in
set_option maxRecDepth 100000 in
theorem x1_L_reasonTask {l : Launch} (hfl : l.stackTraces = false) {sz : Nat} {sk : pb_Sk} {rf : pb_Rf} {sg : pb_Sg} {X O d9 : Nat} (hX : sk X = (13, 0)) (hO : sk O = (3, 1)) {p0 p1 : Int32} {sg9 : pb_Sg} (hd9 : d9 ≤ 18) (hM : pb_Met l mX7_reasonTask d9 1 6 [.ref X, .int p0, .int p1] sz sk rf sg (pb_thr "java/lang/IndexOutOfBoundsException" sz sk rf sg9)) : pb_Met l mL_reasonTask 20 1 6 [.ref X, .int p0, .int p1, .ref O] sz sk rf sg (pb_cau (nI 1) sz sk rf sg9) := by
  refine pb_startH hfl (by decide +kernel) (fun h9 => nomatch h9) (pb_c1 rfl) (Nat.le_of_ble_eq_true rfl) (fun F hF h hQ => ?_)
  subst hF
  show pv F 0 0 sz sk rf sg 0 [some (.ref X), some (.int p0), some (.int p1), some (.ref O), none] []
  refine v_aload_n h (i := 3) dL_reasonTask_0 (q := 1) rfl rfl rfl ?_
  refine v_iconst h (v := nI 0) dL_reasonTask_1 (q := 2) rfl (by decide +kernel) ?_
  refine v_aload_n h (i := 0) dL_reasonTask_2 (q := 3) rfl rfl rfl ?_
  refine v_iload_n h (i := 1) dL_reasonTask_3 (q := 4) rfl rfl rfl ?_
  refine v_iload_n h (i := 2) dL_reasonTask_4 (q := 5) rfl rfl rfl ?_
  refine v_callVy h hM kX7_reasonTask tw666 tw668 (by assumption) (by decide) rfl rfl rfl (by simp [Value.category]) (by omega) (by decide) (by decide) rfl dL_reasonTask_5 (q := 8) rfl (fun sz9 hsz9 => ?_)
  refine v_catch h [] [(0, 10, 17, 21)] rfl (fun z hz => nomatch hz) (by decide) tw286 tw298 rfl (fun qq => ?_)
  refine v_astore h dL_reasonTask_13 (q := 15) rfl (Nat.le_of_ble_eq_true rfl) rfl ?_
  refine v_iconst h (v := nI 1) dL_reasonTask_15 (q := 16) rfl (by decide +kernel) ?_
  refine v_iret h hQ rfl rfl dL_reasonTask_16 (by decide) (by decide) ⟨rfl, hsz9, rfl, rfl, rfl⟩
set_option maxHeartbeats 4000000 in
set_option maxRecDepth 100000 in
theorem x2_L_reasonTask {l : Launch} (hfl : l.stackTraces = false) {sz : Nat} {sk : pb_Sk} {rf : pb_Rf} {sg : pb_Sg} {X O d9 : Nat} (hX : sk X = (13, 0)) (hO : sk O = (3, 1)) {p0 p1 : Int32} {sg9 : pb_Sg} (hd9 : d9 ≤ 18) (hM : pb_Met l mX7_reasonTask d9 1 6 [.ref X, .int p0, .int p1] sz sk rf sg (pb_thr "java/lang/IllegalStateException" sz sk rf sg9)) : pb_Met l mL_reasonTask 20 1 6 [.ref X, .int p0, .int p1, .ref O] sz sk rf sg (pb_cau (nI 2) sz sk rf sg9) := by
  refine pb_startH hfl (by decide +kernel) (fun h9 => nomatch h9) (pb_c1 rfl) (Nat.le_of_ble_eq_true rfl) (fun F hF h hQ => ?_)
  subst hF
  show pv F 0 0 sz sk rf sg 0 [some (.ref X), some (.int p0), some (.int p1), some (.ref O), none] []
  refine v_aload_n h (i := 3) dL_reasonTask_0 (q := 1) rfl rfl rfl ?_
  refine v_iconst h (v := nI 0) dL_reasonTask_1 (q := 2) rfl (by decide +kernel) ?_
  refine v_aload_n h (i := 0) dL_reasonTask_2 (q := 3) rfl rfl rfl ?_
  refine v_iload_n h (i := 1) dL_reasonTask_3 (q := 4) rfl rfl rfl ?_
  refine v_iload_n h (i := 2) dL_reasonTask_4 (q := 5) rfl rfl rfl ?_
  refine v_callVy h hM kX7_reasonTask tw666 tw668 (by assumption) (by decide) rfl rfl rfl (by simp [Value.category]) (by omega) (by decide) (by decide) rfl dL_reasonTask_5 (q := 8) rfl (fun sz9 hsz9 => ?_)
  refine v_catch h [(0, 10, 13, 13)] [] rfl (fun z hz => by obtain rfl := List.mem_singleton.mp hz; exact ⟨by decide, "java/lang/IndexOutOfBoundsException", tw286, by simp [pb_ncs]⟩) (by decide) tw401 tw408 rfl (fun qq => ?_)
  refine v_astore h dL_reasonTask_17 (q := 19) rfl (Nat.le_of_ble_eq_true rfl) rfl ?_
  refine v_iconst h (v := nI 2) dL_reasonTask_19 (q := 20) rfl (by decide +kernel) ?_
  refine v_iret h hQ rfl rfl dL_reasonTask_20 (by decide) (by decide) ⟨rfl, hsz9, rfl, rfl, rfl⟩
set_option maxHeartbeats 4000000 in
set_option maxRecDepth 100000 in
theorem ok_L_merge {l : Launch} (hfl : l.stackTraces = false) {sz : Nat} {sk : pb_Sk} {rf : pb_Rf} {sg : pb_Sg} {X O d9 : Nat} (hX : sk X = (13, 0)) (hO : sk O = (3, 1)) {p0 : Int32} {sg9 : pb_Sg} (hd9 : d9 ≤ 18) {v : Int32} (hM : pb_Met l mX7_merge d9 0 0 [.ref X, .int p0] sz sk rf sg (pb_is (some (.int v)) sz sk rf sg9)) : pb_Met l mL_merge 20 0 0 [.ref X, .int p0, .ref O] sz sk rf sg (pb_is (some (.int (nI 0))) sz sk rf (pb_up sg9 O 0 v)) := by
  refine pb_startH hfl (by decide +kernel) (fun h9 => nomatch h9) (pb_c1 rfl) (Nat.le_of_ble_eq_true rfl) (fun F hF h hQ => ?_)
  subst hF
  show pv F 0 0 sz sk rf sg 0 [some (.ref X), some (.int p0), some (.ref O), none] []
  refine v_aload_n h (i := 2) dL_merge_0 (q := 1) rfl rfl rfl ?_
  refine v_iconst h (v := nI 0) dL_merge_1 (q := 2) rfl (by decide +kernel) ?_
  refine v_aload_n h (i := 0) dL_merge_2 (q := 3) rfl rfl rfl ?_
  refine v_iload_n h (i := 1) dL_merge_3 (q := 4) rfl rfl rfl ?_
  refine v_callV1 h hM kX7_merge tw676 tw678 (by assumption) (by decide) rfl rfl rfl (by simp [Value.category]) (by omega) (Nat.zero_le _) (Nat.zero_le _) rfl dL_merge_4 (q := 7) rfl ?_
  refine v_i2l h dL_merge_7 (q := 8) rfl ?_
  refine v_last h (by assumption) rfl (by first | assumption | omega) (by decide) dL_merge_8 (q := 9) rfl ?_
  refine v_goto h dL_merge_9 (tgt := 18) (by decide) ?_
  refine v_iconst h (v := nI 0) dL_merge_18 (q := 19) rfl (by decide +kernel) ?_
  refine v_iret h hQ rfl rfl dL_merge_19 (Nat.zero_le _) (Nat.zero_le _) ⟨rfl, rfl, rfl, rfl, rfl⟩
set_option maxHeartbeats 4000000 in
set_option maxRecDepth 100000 in
theorem x1_L_merge {l : Launch} (hfl : l.stackTraces = false) {sz : Nat} {sk : pb_Sk} {rf : pb_Rf} {sg : pb_Sg} {X O d9 : Nat} (hX : sk X = (13, 0)) (hO : sk O = (3, 1)) {p0 : Int32} {sg9 : pb_Sg} (hd9 : d9 ≤ 18) (hM : pb_Met l mX7_merge d9 1 6 [.ref X, .int p0] sz sk rf sg (pb_thr "java/lang/IndexOutOfBoundsException" sz sk rf sg9)) : pb_Met l mL_merge 20 1 6 [.ref X, .int p0, .ref O] sz sk rf sg (pb_cau (nI 1) sz sk rf sg9) := by
  refine pb_startH hfl (by decide +kernel) (fun h9 => nomatch h9) (pb_c1 rfl) (Nat.le_of_ble_eq_true rfl) (fun F hF h hQ => ?_)
  subst hF
  show pv F 0 0 sz sk rf sg 0 [some (.ref X), some (.int p0), some (.ref O), none] []
  refine v_aload_n h (i := 2) dL_merge_0 (q := 1) rfl rfl rfl ?_
  refine v_iconst h (v := nI 0) dL_merge_1 (q := 2) rfl (by decide +kernel) ?_
  refine v_aload_n h (i := 0) dL_merge_2 (q := 3) rfl rfl rfl ?_
  refine v_iload_n h (i := 1) dL_merge_3 (q := 4) rfl rfl rfl ?_
  refine v_callVy h hM kX7_merge tw676 tw678 (by assumption) (by decide) rfl rfl rfl (by simp [Value.category]) (by omega) (by decide) (by decide) rfl dL_merge_4 (q := 7) rfl (fun sz9 hsz9 => ?_)
  refine v_catch h [] [(0, 9, 15, 21)] rfl (fun z hz => nomatch hz) (by decide) tw286 tw298 rfl (fun qq => ?_)
  refine v_astore_n h (i := 3) dL_merge_12 (q := 13) rfl rfl (Nat.le_of_ble_eq_true rfl) rfl ?_
  refine v_iconst h (v := nI 1) dL_merge_13 (q := 14) rfl (by decide +kernel) ?_
  refine v_iret h hQ rfl rfl dL_merge_14 (by decide) (by decide) ⟨rfl, hsz9, rfl, rfl, rfl⟩
set_option maxHeartbeats 4000000 in
set_option maxRecDepth 100000 in
theorem x2_L_merge {l : Launch} (hfl : l.stackTraces = false) {sz : Nat} {sk : pb_Sk} {rf : pb_Rf} {sg : pb_Sg} {X O d9 : Nat} (hX : sk X = (13, 0)) (hO : sk O = (3, 1)) {p0 : Int32} {sg9 : pb_Sg} (hd9 : d9 ≤ 18) (hM : pb_Met l mX7_merge d9 1 6 [.ref X, .int p0] sz sk rf sg (pb_thr "java/lang/IllegalStateException" sz sk rf sg9)) : pb_Met l mL_merge 20 1 6 [.ref X, .int p0, .ref O] sz sk rf sg (pb_cau (nI 2) sz sk rf sg9) := by
  refine pb_startH hfl (by decide +kernel) (fun h9 => nomatch h9) (pb_c1 rfl) (Nat.le_of_ble_eq_true rfl) (fun F hF h hQ => ?_)
  subst hF
  show pv F 0 0 sz sk rf sg 0 [some (.ref X), some (.int p0), some (.ref O), none] []
  refine v_aload_n h (i := 2) dL_merge_0 (q := 1) rfl rfl rfl ?_
  refine v_iconst h (v := nI 0) dL_merge_1 (q := 2) rfl (by decide +kernel) ?_
  refine v_aload_n h (i := 0) dL_merge_2 (q := 3) rfl rfl rfl ?_
  refine v_iload_n h (i := 1) dL_merge_3 (q := 4) rfl rfl rfl ?_
  refine v_callVy h hM kX7_merge tw676 tw678 (by assumption) (by decide) rfl rfl rfl (by simp [Value.category]) (by omega) (by decide) (by decide) rfl dL_merge_4 (q := 7) rfl (fun sz9 hsz9 => ?_)
  refine v_catch h [(0, 9, 12, 13)] [] rfl (fun z hz => by obtain rfl := List.mem_singleton.mp hz; exact ⟨by decide, "java/lang/IndexOutOfBoundsException", tw286, by simp [pb_ncs]⟩) (by decide) tw401 tw408 rfl (fun qq => ?_)
  refine v_astore_n h (i := 3) dL_merge_15 (q := 16) rfl rfl (Nat.le_of_ble_eq_true rfl) rfl ?_
  refine v_iconst h (v := nI 2) dL_merge_16 (q := 17) rfl (by decide +kernel) ?_
  refine v_iret h hQ rfl rfl dL_merge_17 (by decide) (by decide) ⟨rfl, hsz9, rfl, rfl, rfl⟩
set_option maxHeartbeats 4000000 in
set_option maxRecDepth 100000 in
theorem ok_L_update {l : Launch} (hfl : l.stackTraces = false) {sz : Nat} {sk : pb_Sk} {rf : pb_Rf} {sg : pb_Sg} {X O d9 : Nat} (hX : sk X = (13, 0)) (hO : sk O = (3, 1)) {p0 : Int32} {sg9 : pb_Sg} (hd9 : d9 ≤ 18) {v : Int32} (hM : pb_Met l mX7_update d9 0 0 [.ref X, .int p0] sz sk rf sg (pb_is (some (.int v)) sz sk rf sg9)) : pb_Met l mL_update 20 0 0 [.ref X, .int p0, .ref O] sz sk rf sg (pb_is (some (.int (nI 0))) sz sk rf (pb_up sg9 O 0 v)) := by
  refine pb_startH hfl (by decide +kernel) (fun h9 => nomatch h9) (pb_c1 rfl) (Nat.le_of_ble_eq_true rfl) (fun F hF h hQ => ?_)
  subst hF
  show pv F 0 0 sz sk rf sg 0 [some (.ref X), some (.int p0), some (.ref O), none] []
  refine v_aload_n h (i := 2) dL_update_0 (q := 1) rfl rfl rfl ?_
  refine v_iconst h (v := nI 0) dL_update_1 (q := 2) rfl (by decide +kernel) ?_
  refine v_aload_n h (i := 0) dL_update_2 (q := 3) rfl rfl rfl ?_
  refine v_iload_n h (i := 1) dL_update_3 (q := 4) rfl rfl rfl ?_
  refine v_callV1 h hM kX7_update tw696 tw698 (by assumption) (by decide) rfl rfl rfl (by simp [Value.category]) (by omega) (Nat.zero_le _) (Nat.zero_le _) rfl dL_update_4 (q := 7) rfl ?_
  refine v_i2l h dL_update_7 (q := 8) rfl ?_
  refine v_last h (by assumption) rfl (by first | assumption | omega) (by decide) dL_update_8 (q := 9) rfl ?_
  refine v_goto h dL_update_9 (tgt := 18) (by decide) ?_
  refine v_iconst h (v := nI 0) dL_update_18 (q := 19) rfl (by decide +kernel) ?_
  refine v_iret h hQ rfl rfl dL_update_19 (Nat.zero_le _) (Nat.zero_le _) ⟨rfl, rfl, rfl, rfl, rfl⟩
set_option maxHeartbeats 4000000 in
set_option maxRecDepth 100000 in
theorem x1_L_update {l : Launch} (hfl : l.stackTraces = false) {sz : Nat} {sk : pb_Sk} {rf : pb_Rf} {sg : pb_Sg} {X O d9 : Nat} (hX : sk X = (13, 0)) (hO : sk O = (3, 1)) {p0 : Int32} {sg9 : pb_Sg} (hd9 : d9 ≤ 18) (hM : pb_Met l mX7_update d9 1 6 [.ref X, .int p0] sz sk rf sg (pb_thr "java/lang/IndexOutOfBoundsException" sz sk rf sg9)) : pb_Met l mL_update 20 1 6 [.ref X, .int p0, .ref O] sz sk rf sg (pb_cau (nI 1) sz sk rf sg9) := by
  refine pb_startH hfl (by decide +kernel) (fun h9 => nomatch h9) (pb_c1 rfl) (Nat.le_of_ble_eq_true rfl) (fun F hF h hQ => ?_)
  subst hF
  show pv F 0 0 sz sk rf sg 0 [some (.ref X), some (.int p0), some (.ref O), none] []
  refine v_aload_n h (i := 2) dL_update_0 (q := 1) rfl rfl rfl ?_
  refine v_iconst h (v := nI 0) dL_update_1 (q := 2) rfl (by decide +kernel) ?_
  refine v_aload_n h (i := 0) dL_update_2 (q := 3) rfl rfl rfl ?_
  refine v_iload_n h (i := 1) dL_update_3 (q := 4) rfl rfl rfl ?_
  refine v_callVy h hM kX7_update tw696 tw698 (by assumption) (by decide) rfl rfl rfl (by simp [Value.category]) (by omega) (by decide) (by decide) rfl dL_update_4 (q := 7) rfl (fun sz9 hsz9 => ?_)
  refine v_catch h [] [(0, 9, 15, 21)] rfl (fun z hz => nomatch hz) (by decide) tw286 tw298 rfl (fun qq => ?_)
  refine v_astore_n h (i := 3) dL_update_12 (q := 13) rfl rfl (Nat.le_of_ble_eq_true rfl) rfl ?_
  refine v_iconst h (v := nI 1) dL_update_13 (q := 14) rfl (by decide +kernel) ?_
  refine v_iret h hQ rfl rfl dL_update_14 (by decide) (by decide) ⟨rfl, hsz9, rfl, rfl, rfl⟩
set_option maxHeartbeats 4000000 in
set_option maxRecDepth 100000 in
theorem x2_L_update {l : Launch} (hfl : l.stackTraces = false) {sz : Nat} {sk : pb_Sk} {rf : pb_Rf} {sg : pb_Sg} {X O d9 : Nat} (hX : sk X = (13, 0)) (hO : sk O = (3, 1)) {p0 : Int32} {sg9 : pb_Sg} (hd9 : d9 ≤ 18) (hM : pb_Met l mX7_update d9 1 6 [.ref X, .int p0] sz sk rf sg (pb_thr "java/lang/IllegalStateException" sz sk rf sg9)) : pb_Met l mL_update 20 1 6 [.ref X, .int p0, .ref O] sz sk rf sg (pb_cau (nI 2) sz sk rf sg9) := by
  refine pb_startH hfl (by decide +kernel) (fun h9 => nomatch h9) (pb_c1 rfl) (Nat.le_of_ble_eq_true rfl) (fun F hF h hQ => ?_)
  subst hF
  show pv F 0 0 sz sk rf sg 0 [some (.ref X), some (.int p0), some (.ref O), none] []
  refine v_aload_n h (i := 2) dL_update_0 (q := 1) rfl rfl rfl ?_
  refine v_iconst h (v := nI 0) dL_update_1 (q := 2) rfl (by decide +kernel) ?_
  refine v_aload_n h (i := 0) dL_update_2 (q := 3) rfl rfl rfl ?_
  refine v_iload_n h (i := 1) dL_update_3 (q := 4) rfl rfl rfl ?_
  refine v_callVy h hM kX7_update tw696 tw698 (by assumption) (by decide) rfl rfl rfl (by simp [Value.category]) (by omega) (by decide) (by decide) rfl dL_update_4 (q := 7) rfl (fun sz9 hsz9 => ?_)
  refine v_catch h [(0, 9, 12, 13)] [] rfl (fun z hz => by obtain rfl := List.mem_singleton.mp hz; exact ⟨by decide, "java/lang/IndexOutOfBoundsException", tw286, by simp [pb_ncs]⟩) (by decide) tw401 tw408 rfl (fun qq => ?_)
  refine v_astore_n h (i := 3) dL_update_15 (q := 16) rfl rfl (Nat.le_of_ble_eq_true rfl) rfl ?_
  refine v_iconst h (v := nI 2) dL_update_16 (q := 17) rfl (by decide +kernel) ?_
  refine v_iret h hQ rfl rfl dL_update_17 (by decide) (by decide) ⟨rfl, hsz9, rfl, rfl, rfl⟩
set_option maxHeartbeats 4000000 in
set_option maxRecDepth 100000 in
theorem ok_L_give {l : Launch} (hfl : l.stackTraces = false) {sz : Nat} {sk : pb_Sk} {rf : pb_Rf} {sg : pb_Sg} {X O d9 : Nat} (hX : sk X = (13, 0)) (hO : sk O = (3, 1)) {p0 p1 : Int32} {sg9 : pb_Sg} (hd9 : d9 ≤ 18) {v : Int32} (hM : pb_Met l mX7_give d9 0 0 [.ref X, .int p0, .int p1] sz sk rf sg (pb_is (some (.int v)) sz sk rf sg9)) : pb_Met l mL_give 20 0 0 [.ref X, .int p0, .int p1, .ref O] sz sk rf sg (pb_is (some (.int (nI 0))) sz sk rf (pb_up sg9 O 0 v)) := by
  refine pb_startH hfl (by decide +kernel) (fun h9 => nomatch h9) (pb_c1 rfl) (Nat.le_of_ble_eq_true rfl) (fun F hF h hQ => ?_)
  subst hF
  show pv F 0 0 sz sk rf sg 0 [some (.ref X), some (.int p0), some (.int p1), some (.ref O), none] []
  refine v_aload_n h (i := 3) dL_give_0 (q := 1) rfl rfl rfl ?_
  refine v_iconst h (v := nI 0) dL_give_1 (q := 2) rfl (by decide +kernel) ?_
  refine v_aload_n h (i := 0) dL_give_2 (q := 3) rfl rfl rfl ?_
  refine v_iload_n h (i := 1) dL_give_3 (q := 4) rfl rfl rfl ?_
  refine v_iload_n h (i := 2) dL_give_4 (q := 5) rfl rfl rfl ?_
  refine v_callV1 h hM kX7_give tw704 tw706 (by assumption) (by decide) rfl rfl rfl (by simp [Value.category]) (by omega) (Nat.zero_le _) (Nat.zero_le _) rfl dL_give_5 (q := 8) rfl ?_
  refine v_i2l h dL_give_8 (q := 9) rfl ?_
  refine v_last h (by assumption) rfl (by first | assumption | omega) (by decide) dL_give_9 (q := 10) rfl ?_
  refine v_goto h dL_give_10 (tgt := 21) (by decide) ?_
  refine v_iconst h (v := nI 0) dL_give_21 (q := 22) rfl (by decide +kernel) ?_
  refine v_iret h hQ rfl rfl dL_give_22 (Nat.zero_le _) (Nat.zero_le _) ⟨rfl, rfl, rfl, rfl, rfl⟩
set_option maxHeartbeats 4000000 in
set_option maxRecDepth 100000 in
theorem x1_L_give {l : Launch} (hfl : l.stackTraces = false) {sz : Nat} {sk : pb_Sk} {rf : pb_Rf} {sg : pb_Sg} {X O d9 : Nat} (hX : sk X = (13, 0)) (hO : sk O = (3, 1)) {p0 p1 : Int32} {sg9 : pb_Sg} (hd9 : d9 ≤ 18) (hM : pb_Met l mX7_give d9 1 6 [.ref X, .int p0, .int p1] sz sk rf sg (pb_thr "java/lang/IndexOutOfBoundsException" sz sk rf sg9)) : pb_Met l mL_give 20 1 6 [.ref X, .int p0, .int p1, .ref O] sz sk rf sg (pb_cau (nI 1) sz sk rf sg9) := by
  refine pb_startH hfl (by decide +kernel) (fun h9 => nomatch h9) (pb_c1 rfl) (Nat.le_of_ble_eq_true rfl) (fun F hF h hQ => ?_)
  subst hF
  show pv F 0 0 sz sk rf sg 0 [some (.ref X), some (.int p0), some (.int p1), some (.ref O), none] []
  refine v_aload_n h (i := 3) dL_give_0 (q := 1) rfl rfl rfl ?_
  refine v_iconst h (v := nI 0) dL_give_1 (q := 2) rfl (by decide +kernel) ?_
  refine v_aload_n h (i := 0) dL_give_2 (q := 3) rfl rfl rfl ?_
  refine v_iload_n h (i := 1) dL_give_3 (q := 4) rfl rfl rfl ?_
  refine v_iload_n h (i := 2) dL_give_4 (q := 5) rfl rfl rfl ?_
  refine v_callVy h hM kX7_give tw704 tw706 (by assumption) (by decide) rfl rfl rfl (by simp [Value.category]) (by omega) (by decide) (by decide) rfl dL_give_5 (q := 8) rfl (fun sz9 hsz9 => ?_)
  refine v_catch h [] [(0, 10, 17, 15)] rfl (fun z hz => nomatch hz) (by decide) tw286 tw298 rfl (fun qq => ?_)
  refine v_astore h dL_give_13 (q := 15) rfl (Nat.le_of_ble_eq_true rfl) rfl ?_
  refine v_iconst h (v := nI 1) dL_give_15 (q := 16) rfl (by decide +kernel) ?_
  refine v_iret h hQ rfl rfl dL_give_16 (by decide) (by decide) ⟨rfl, hsz9, rfl, rfl, rfl⟩
set_option maxHeartbeats 4000000 in
set_option maxRecDepth 100000 in
theorem x2_L_give {l : Launch} (hfl : l.stackTraces = false) {sz : Nat} {sk : pb_Sk} {rf : pb_Rf} {sg : pb_Sg} {X O d9 : Nat} (hX : sk X = (13, 0)) (hO : sk O = (3, 1)) {p0 p1 : Int32} {sg9 : pb_Sg} (hd9 : d9 ≤ 18) (hM : pb_Met l mX7_give d9 1 6 [.ref X, .int p0, .int p1] sz sk rf sg (pb_thr "java/lang/IllegalArgumentException" sz sk rf sg9)) : pb_Met l mL_give 20 1 6 [.ref X, .int p0, .int p1, .ref O] sz sk rf sg (pb_cau (nI 2) sz sk rf sg9) := by
  refine pb_startH hfl (by decide +kernel) (fun h9 => nomatch h9) (pb_c1 rfl) (Nat.le_of_ble_eq_true rfl) (fun F hF h hQ => ?_)
  subst hF
  show pv F 0 0 sz sk rf sg 0 [some (.ref X), some (.int p0), some (.int p1), some (.ref O), none] []
  refine v_aload_n h (i := 3) dL_give_0 (q := 1) rfl rfl rfl ?_
  refine v_iconst h (v := nI 0) dL_give_1 (q := 2) rfl (by decide +kernel) ?_
  refine v_aload_n h (i := 0) dL_give_2 (q := 3) rfl rfl rfl ?_
  refine v_iload_n h (i := 1) dL_give_3 (q := 4) rfl rfl rfl ?_
  refine v_iload_n h (i := 2) dL_give_4 (q := 5) rfl rfl rfl ?_
  refine v_callVy h hM kX7_give tw704 tw706 (by assumption) (by decide) rfl rfl rfl (by simp [Value.category]) (by omega) (by decide) (by decide) rfl dL_give_5 (q := 8) rfl (fun sz9 hsz9 => ?_)
  refine v_catch h [(0, 10, 13, 13)] [] rfl (fun z hz => by obtain rfl := List.mem_singleton.mp hz; exact ⟨by decide, "java/lang/IndexOutOfBoundsException", tw286, by simp [pb_ncs]⟩) (by decide) tw287 tw372 rfl (fun qq => ?_)
  refine v_astore h dL_give_17 (q := 19) rfl (Nat.le_of_ble_eq_true rfl) rfl ?_
  refine v_iconst h (v := nI 2) dL_give_19 (q := 20) rfl (by decide +kernel) ?_
  refine v_iret h hQ rfl rfl dL_give_20 (by decide) (by decide) ⟨rfl, hsz9, rfl, rfl, rfl⟩
set_option maxHeartbeats 4000000 in
set_option maxRecDepth 100000 in
theorem ok_L_lend {l : Launch} (hfl : l.stackTraces = false) {sz : Nat} {sk : pb_Sk} {rf : pb_Rf} {sg : pb_Sg} {X O d9 : Nat} (hX : sk X = (13, 0)) (hO : sk O = (3, 1)) {p0 p1 p2 p3 : Int32} {sg9 : pb_Sg} (hd9 : d9 ≤ 18) {v : Int32} (hM : pb_Met l mX7_lend d9 0 0 [.ref X, .int p0, .int p1, .int p2, .int p3] sz sk rf sg (pb_is (some (.int v)) sz sk rf sg9)) : pb_Met l mL_lend 20 0 0 [.ref X, .int p0, .int p1, .int p2, .int p3, .ref O] sz sk rf sg (pb_is (some (.int (nI 0))) sz sk rf (pb_up sg9 O 0 v)) := by
  refine pb_startH hfl (by decide +kernel) (fun h9 => nomatch h9) (pb_c1 rfl) (Nat.le_of_ble_eq_true rfl) (fun F hF h hQ => ?_)
  subst hF
  show pv F 0 0 sz sk rf sg 0 [some (.ref X), some (.int p0), some (.int p1), some (.int p2), some (.int p3), some (.ref O), none] []
  refine v_aload h dL_lend_0 (q := 2) rfl rfl ?_
  refine v_iconst h (v := nI 0) dL_lend_2 (q := 3) rfl (by decide +kernel) ?_
  refine v_aload_n h (i := 0) dL_lend_3 (q := 4) rfl rfl rfl ?_
  refine v_iload_n h (i := 1) dL_lend_4 (q := 5) rfl rfl rfl ?_
  refine v_iload_n h (i := 2) dL_lend_5 (q := 6) rfl rfl rfl ?_
  refine v_iload_n h (i := 3) dL_lend_6 (q := 7) rfl rfl rfl ?_
  refine v_iload h dL_lend_7 (q := 9) rfl rfl ?_
  refine v_callV1 h hM kX7_lend tw711 tw713 (by assumption) (by decide) rfl rfl rfl (by simp [Value.category]) (by omega) (Nat.zero_le _) (Nat.zero_le _) rfl dL_lend_9 (q := 12) rfl ?_
  refine v_i2l h dL_lend_12 (q := 13) rfl ?_
  refine v_last h (by assumption) rfl (by first | assumption | omega) (by decide) dL_lend_13 (q := 14) rfl ?_
  refine v_goto h dL_lend_14 (tgt := 29) (by decide) ?_
  refine v_iconst h (v := nI 0) dL_lend_29 (q := 30) rfl (by decide +kernel) ?_
  refine v_iret h hQ rfl rfl dL_lend_30 (Nat.zero_le _) (Nat.zero_le _) ⟨rfl, rfl, rfl, rfl, rfl⟩
set_option maxHeartbeats 4000000 in
set_option maxRecDepth 100000 in
theorem x1_L_lend {l : Launch} (hfl : l.stackTraces = false) {sz : Nat} {sk : pb_Sk} {rf : pb_Rf} {sg : pb_Sg} {X O d9 : Nat} (hX : sk X = (13, 0)) (hO : sk O = (3, 1)) {p0 p1 p2 p3 : Int32} {sg9 : pb_Sg} (hd9 : d9 ≤ 18) (hM : pb_Met l mX7_lend d9 1 6 [.ref X, .int p0, .int p1, .int p2, .int p3] sz sk rf sg (pb_thr "java/lang/IndexOutOfBoundsException" sz sk rf sg9)) : pb_Met l mL_lend 20 1 6 [.ref X, .int p0, .int p1, .int p2, .int p3, .ref O] sz sk rf sg (pb_cau (nI 1) sz sk rf sg9) := by
  refine pb_startH hfl (by decide +kernel) (fun h9 => nomatch h9) (pb_c1 rfl) (Nat.le_of_ble_eq_true rfl) (fun F hF h hQ => ?_)
  subst hF
  show pv F 0 0 sz sk rf sg 0 [some (.ref X), some (.int p0), some (.int p1), some (.int p2), some (.int p3), some (.ref O), none] []
  refine v_aload h dL_lend_0 (q := 2) rfl rfl ?_
  refine v_iconst h (v := nI 0) dL_lend_2 (q := 3) rfl (by decide +kernel) ?_
  refine v_aload_n h (i := 0) dL_lend_3 (q := 4) rfl rfl rfl ?_
  refine v_iload_n h (i := 1) dL_lend_4 (q := 5) rfl rfl rfl ?_
  refine v_iload_n h (i := 2) dL_lend_5 (q := 6) rfl rfl rfl ?_
  refine v_iload_n h (i := 3) dL_lend_6 (q := 7) rfl rfl rfl ?_
  refine v_iload h dL_lend_7 (q := 9) rfl rfl ?_
  refine v_callVy h hM kX7_lend tw711 tw713 (by assumption) (by decide) rfl rfl rfl (by simp [Value.category]) (by omega) (by decide) (by decide) rfl dL_lend_9 (q := 12) rfl (fun sz9 hsz9 => ?_)
  refine v_catch h [] [(0, 14, 21, 15), (0, 14, 25, 21)] rfl (fun z hz => nomatch hz) (by decide) tw286 tw298 rfl (fun qq => ?_)
  refine v_astore h dL_lend_17 (q := 19) rfl (Nat.le_of_ble_eq_true rfl) rfl ?_
  refine v_iconst h (v := nI 1) dL_lend_19 (q := 20) rfl (by decide +kernel) ?_
  refine v_iret h hQ rfl rfl dL_lend_20 (by decide) (by decide) ⟨rfl, hsz9, rfl, rfl, rfl⟩
set_option maxHeartbeats 4000000 in
set_option maxRecDepth 100000 in
theorem x2_L_lend {l : Launch} (hfl : l.stackTraces = false) {sz : Nat} {sk : pb_Sk} {rf : pb_Rf} {sg : pb_Sg} {X O d9 : Nat} (hX : sk X = (13, 0)) (hO : sk O = (3, 1)) {p0 p1 p2 p3 : Int32} {sg9 : pb_Sg} (hd9 : d9 ≤ 18) (hM : pb_Met l mX7_lend d9 1 6 [.ref X, .int p0, .int p1, .int p2, .int p3] sz sk rf sg (pb_thr "java/lang/IllegalArgumentException" sz sk rf sg9)) : pb_Met l mL_lend 20 1 6 [.ref X, .int p0, .int p1, .int p2, .int p3, .ref O] sz sk rf sg (pb_cau (nI 2) sz sk rf sg9) := by
  refine pb_startH hfl (by decide +kernel) (fun h9 => nomatch h9) (pb_c1 rfl) (Nat.le_of_ble_eq_true rfl) (fun F hF h hQ => ?_)
  subst hF
  show pv F 0 0 sz sk rf sg 0 [some (.ref X), some (.int p0), some (.int p1), some (.int p2), some (.int p3), some (.ref O), none] []
  refine v_aload h dL_lend_0 (q := 2) rfl rfl ?_
  refine v_iconst h (v := nI 0) dL_lend_2 (q := 3) rfl (by decide +kernel) ?_
  refine v_aload_n h (i := 0) dL_lend_3 (q := 4) rfl rfl rfl ?_
  refine v_iload_n h (i := 1) dL_lend_4 (q := 5) rfl rfl rfl ?_
  refine v_iload_n h (i := 2) dL_lend_5 (q := 6) rfl rfl rfl ?_
  refine v_iload_n h (i := 3) dL_lend_6 (q := 7) rfl rfl rfl ?_
  refine v_iload h dL_lend_7 (q := 9) rfl rfl ?_
  refine v_callVy h hM kX7_lend tw711 tw713 (by assumption) (by decide) rfl rfl rfl (by simp [Value.category]) (by omega) (by decide) (by decide) rfl dL_lend_9 (q := 12) rfl (fun sz9 hsz9 => ?_)
  refine v_catch h [(0, 14, 17, 13)] [(0, 14, 25, 21)] rfl (fun z hz => by obtain rfl := List.mem_singleton.mp hz; exact ⟨by decide, "java/lang/IndexOutOfBoundsException", tw286, by simp [pb_ncs]⟩) (by decide) tw287 tw372 rfl (fun qq => ?_)
  refine v_astore h dL_lend_21 (q := 23) rfl (Nat.le_of_ble_eq_true rfl) rfl ?_
  refine v_iconst h (v := nI 2) dL_lend_23 (q := 24) rfl (by decide +kernel) ?_
  refine v_iret h hQ rfl rfl dL_lend_24 (by decide) (by decide) ⟨rfl, hsz9, rfl, rfl, rfl⟩
set_option maxHeartbeats 4000000 in
set_option maxRecDepth 100000 in
theorem x3_L_lend {l : Launch} (hfl : l.stackTraces = false) {sz : Nat} {sk : pb_Sk} {rf : pb_Rf} {sg : pb_Sg} {X O d9 : Nat} (hX : sk X = (13, 0)) (hO : sk O = (3, 1)) {p0 p1 p2 p3 : Int32} {sg9 : pb_Sg} (hd9 : d9 ≤ 18) (hM : pb_Met l mX7_lend d9 1 6 [.ref X, .int p0, .int p1, .int p2, .int p3] sz sk rf sg (pb_thr "java/lang/IllegalStateException" sz sk rf sg9)) : pb_Met l mL_lend 20 1 6 [.ref X, .int p0, .int p1, .int p2, .int p3, .ref O] sz sk rf sg (pb_cau (nI 3) sz sk rf sg9) := by
  refine pb_startH hfl (by decide +kernel) (fun h9 => nomatch h9) (pb_c1 rfl) (Nat.le_of_ble_eq_true rfl) (fun F hF h hQ => ?_)
  subst hF
  show pv F 0 0 sz sk rf sg 0 [some (.ref X), some (.int p0), some (.int p1), some (.int p2), some (.int p3), some (.ref O), none] []
  refine v_aload h dL_lend_0 (q := 2) rfl rfl ?_
  refine v_iconst h (v := nI 0) dL_lend_2 (q := 3) rfl (by decide +kernel) ?_
  refine v_aload_n h (i := 0) dL_lend_3 (q := 4) rfl rfl rfl ?_
  refine v_iload_n h (i := 1) dL_lend_4 (q := 5) rfl rfl rfl ?_
  refine v_iload_n h (i := 2) dL_lend_5 (q := 6) rfl rfl rfl ?_
  refine v_iload_n h (i := 3) dL_lend_6 (q := 7) rfl rfl rfl ?_
  refine v_iload h dL_lend_7 (q := 9) rfl rfl ?_
  refine v_callVy h hM kX7_lend tw711 tw713 (by assumption) (by decide) rfl rfl rfl (by simp [Value.category]) (by omega) (by decide) (by decide) rfl dL_lend_9 (q := 12) rfl (fun sz9 hsz9 => ?_)
  refine v_catch h [(0, 14, 17, 13), (0, 14, 21, 15)] [] rfl (fun z hz => by rcases List.mem_cons.mp hz with rfl | hz; exact ⟨by decide, "java/lang/IndexOutOfBoundsException", tw286, by simp [pb_ncs]⟩; obtain rfl := List.mem_singleton.mp hz; exact ⟨by decide, "java/lang/IllegalArgumentException", tw287, by simp [pb_ncs]⟩) (by decide) tw401 tw408 rfl (fun qq => ?_)
  refine v_astore h dL_lend_25 (q := 27) rfl (Nat.le_of_ble_eq_true rfl) rfl ?_
  refine v_iconst h (v := nI 3) dL_lend_27 (q := 28) rfl (by decide +kernel) ?_
  refine v_iret h hQ rfl rfl dL_lend_28 (by decide) (by decide) ⟨rfl, hsz9, rfl, rfl, rfl⟩
set_option maxHeartbeats 4000000 in
set_option maxRecDepth 100000 in
theorem ok_L_holder {l : Launch} (hfl : l.stackTraces = false) {sz : Nat} {sk : pb_Sk} {rf : pb_Rf} {sg : pb_Sg} {X O d9 : Nat} (hX : sk X = (13, 0)) (hO : sk O = (3, 1)) {p0 p1 : Int32} {sg9 : pb_Sg} (hd9 : d9 ≤ 18) {v : Int32} (hM : pb_Met l mX7_holder d9 0 0 [.ref X, .int p0, .int p1] sz sk rf sg (pb_is (some (.int v)) sz sk rf sg9)) : pb_Met l mL_holder 20 0 0 [.ref X, .int p0, .int p1, .ref O] sz sk rf sg (pb_is (some (.int (nI 0))) sz sk rf (pb_up sg9 O 0 v)) := by
  refine pb_startH hfl (by decide +kernel) (fun h9 => nomatch h9) (pb_c1 rfl) (Nat.le_of_ble_eq_true rfl) (fun F hF h hQ => ?_)
  subst hF
  show pv F 0 0 sz sk rf sg 0 [some (.ref X), some (.int p0), some (.int p1), some (.ref O), none] []
  refine v_aload_n h (i := 3) dL_holder_0 (q := 1) rfl rfl rfl ?_
  refine v_iconst h (v := nI 0) dL_holder_1 (q := 2) rfl (by decide +kernel) ?_
  refine v_aload_n h (i := 0) dL_holder_2 (q := 3) rfl rfl rfl ?_
  refine v_iload_n h (i := 1) dL_holder_3 (q := 4) rfl rfl rfl ?_
  refine v_iload_n h (i := 2) dL_holder_4 (q := 5) rfl rfl rfl ?_
  refine v_callV1 h hM kX7_holder tw723 tw725 (by assumption) (by decide) rfl rfl rfl (by simp [Value.category]) (by omega) (Nat.zero_le _) (Nat.zero_le _) rfl dL_holder_5 (q := 8) rfl ?_
  refine v_i2l h dL_holder_8 (q := 9) rfl ?_
  refine v_last h (by assumption) rfl (by first | assumption | omega) (by decide) dL_holder_9 (q := 10) rfl ?_
  refine v_goto h dL_holder_10 (tgt := 17) (by decide) ?_
  refine v_iconst h (v := nI 0) dL_holder_17 (q := 18) rfl (by decide +kernel) ?_
  refine v_iret h hQ rfl rfl dL_holder_18 (Nat.zero_le _) (Nat.zero_le _) ⟨rfl, rfl, rfl, rfl, rfl⟩
set_option maxHeartbeats 4000000 in
set_option maxRecDepth 100000 in
theorem x1_L_holder {l : Launch} (hfl : l.stackTraces = false) {sz : Nat} {sk : pb_Sk} {rf : pb_Rf} {sg : pb_Sg} {X O d9 : Nat} (hX : sk X = (13, 0)) (hO : sk O = (3, 1)) {p0 p1 : Int32} {sg9 : pb_Sg} (hd9 : d9 ≤ 18) (hM : pb_Met l mX7_holder d9 1 6 [.ref X, .int p0, .int p1] sz sk rf sg (pb_thr "java/lang/IllegalArgumentException" sz sk rf sg9)) : pb_Met l mL_holder 20 1 6 [.ref X, .int p0, .int p1, .ref O] sz sk rf sg (pb_cau (nI 1) sz sk rf sg9) := by
  refine pb_startH hfl (by decide +kernel) (fun h9 => nomatch h9) (pb_c1 rfl) (Nat.le_of_ble_eq_true rfl) (fun F hF h hQ => ?_)
  subst hF
  show pv F 0 0 sz sk rf sg 0 [some (.ref X), some (.int p0), some (.int p1), some (.ref O), none] []
  refine v_aload_n h (i := 3) dL_holder_0 (q := 1) rfl rfl rfl ?_
  refine v_iconst h (v := nI 0) dL_holder_1 (q := 2) rfl (by decide +kernel) ?_
  refine v_aload_n h (i := 0) dL_holder_2 (q := 3) rfl rfl rfl ?_
  refine v_iload_n h (i := 1) dL_holder_3 (q := 4) rfl rfl rfl ?_
  refine v_iload_n h (i := 2) dL_holder_4 (q := 5) rfl rfl rfl ?_
  refine v_callVy h hM kX7_holder tw723 tw725 (by assumption) (by decide) rfl rfl rfl (by simp [Value.category]) (by omega) (by decide) (by decide) rfl dL_holder_5 (q := 8) rfl (fun sz9 hsz9 => ?_)
  refine v_catch h [] [] rfl (fun z hz => nomatch hz) (by decide) tw287 tw372 rfl (fun qq => ?_)
  refine v_astore h dL_holder_13 (q := 15) rfl (Nat.le_of_ble_eq_true rfl) rfl ?_
  refine v_iconst h (v := nI 1) dL_holder_15 (q := 16) rfl (by decide +kernel) ?_
  refine v_iret h hQ rfl rfl dL_holder_16 (by decide) (by decide) ⟨rfl, hsz9, rfl, rfl, rfl⟩
set_option maxHeartbeats 4000000 in
set_option maxRecDepth 100000 in
theorem ok_L_tail {l : Launch} (hfl : l.stackTraces = false) {sz : Nat} {sk : pb_Sk} {rf : pb_Rf} {sg : pb_Sg} {X O d9 : Nat} (hX : sk X = (13, 0)) (hO : sk O = (3, 1)) {p0 p1 : Int32} {sg9 : pb_Sg} (hd9 : d9 ≤ 18) {v : Int32} (hM : pb_Met l mX7_tail d9 0 0 [.ref X, .int p0, .int p1] sz sk rf sg (pb_is (some (.int v)) sz sk rf sg9)) : pb_Met l mL_tail 20 0 0 [.ref X, .int p0, .int p1, .ref O] sz sk rf sg (pb_is (some (.int (nI 0))) sz sk rf (pb_up sg9 O 0 v)) := by
  refine pb_startH hfl (by decide +kernel) (fun h9 => nomatch h9) (pb_c1 rfl) (Nat.le_of_ble_eq_true rfl) (fun F hF h hQ => ?_)
  subst hF
  show pv F 0 0 sz sk rf sg 0 [some (.ref X), some (.int p0), some (.int p1), some (.ref O), none] []
  refine v_aload_n h (i := 3) dL_tail_0 (q := 1) rfl rfl rfl ?_
  refine v_iconst h (v := nI 0) dL_tail_1 (q := 2) rfl (by decide +kernel) ?_
  refine v_aload_n h (i := 0) dL_tail_2 (q := 3) rfl rfl rfl ?_
  refine v_iload_n h (i := 1) dL_tail_3 (q := 4) rfl rfl rfl ?_
  refine v_iload_n h (i := 2) dL_tail_4 (q := 5) rfl rfl rfl ?_
  refine v_callV1 h hM kX7_tail tw731 tw733 (by assumption) (by decide) rfl rfl rfl (by simp [Value.category]) (by omega) (Nat.zero_le _) (Nat.zero_le _) rfl dL_tail_5 (q := 8) rfl ?_
  refine v_i2l h dL_tail_8 (q := 9) rfl ?_
  refine v_last h (by assumption) rfl (by first | assumption | omega) (by decide) dL_tail_9 (q := 10) rfl ?_
  refine v_goto h dL_tail_10 (tgt := 21) (by decide) ?_
  refine v_iconst h (v := nI 0) dL_tail_21 (q := 22) rfl (by decide +kernel) ?_
  refine v_iret h hQ rfl rfl dL_tail_22 (Nat.zero_le _) (Nat.zero_le _) ⟨rfl, rfl, rfl, rfl, rfl⟩
set_option maxHeartbeats 4000000 in
set_option maxRecDepth 100000 in
theorem x1_L_tail {l : Launch} (hfl : l.stackTraces = false) {sz : Nat} {sk : pb_Sk} {rf : pb_Rf} {sg : pb_Sg} {X O d9 : Nat} (hX : sk X = (13, 0)) (hO : sk O = (3, 1)) {p0 p1 : Int32} {sg9 : pb_Sg} (hd9 : d9 ≤ 18) (hM : pb_Met l mX7_tail d9 1 6 [.ref X, .int p0, .int p1] sz sk rf sg (pb_thr "java/lang/IndexOutOfBoundsException" sz sk rf sg9)) : pb_Met l mL_tail 20 1 6 [.ref X, .int p0, .int p1, .ref O] sz sk rf sg (pb_cau (nI 1) sz sk rf sg9) := by
  refine pb_startH hfl (by decide +kernel) (fun h9 => nomatch h9) (pb_c1 rfl) (Nat.le_of_ble_eq_true rfl) (fun F hF h hQ => ?_)
  subst hF
  show pv F 0 0 sz sk rf sg 0 [some (.ref X), some (.int p0), some (.int p1), some (.ref O), none] []
  refine v_aload_n h (i := 3) dL_tail_0 (q := 1) rfl rfl rfl ?_
  refine v_iconst h (v := nI 0) dL_tail_1 (q := 2) rfl (by decide +kernel) ?_
  refine v_aload_n h (i := 0) dL_tail_2 (q := 3) rfl rfl rfl ?_
  refine v_iload_n h (i := 1) dL_tail_3 (q := 4) rfl rfl rfl ?_
  refine v_iload_n h (i := 2) dL_tail_4 (q := 5) rfl rfl rfl ?_
  refine v_callVy h hM kX7_tail tw731 tw733 (by assumption) (by decide) rfl rfl rfl (by simp [Value.category]) (by omega) (by decide) (by decide) rfl dL_tail_5 (q := 8) rfl (fun sz9 hsz9 => ?_)
  refine v_catch h [] [(0, 10, 17, 15)] rfl (fun z hz => nomatch hz) (by decide) tw286 tw298 rfl (fun qq => ?_)
  refine v_astore h dL_tail_13 (q := 15) rfl (Nat.le_of_ble_eq_true rfl) rfl ?_
  refine v_iconst h (v := nI 1) dL_tail_15 (q := 16) rfl (by decide +kernel) ?_
  refine v_iret h hQ rfl rfl dL_tail_16 (by decide) (by decide) ⟨rfl, hsz9, rfl, rfl, rfl⟩
set_option maxHeartbeats 4000000 in
set_option maxRecDepth 100000 in
theorem x2_L_tail {l : Launch} (hfl : l.stackTraces = false) {sz : Nat} {sk : pb_Sk} {rf : pb_Rf} {sg : pb_Sg} {X O d9 : Nat} (hX : sk X = (13, 0)) (hO : sk O = (3, 1)) {p0 p1 : Int32} {sg9 : pb_Sg} (hd9 : d9 ≤ 18) (hM : pb_Met l mX7_tail d9 1 6 [.ref X, .int p0, .int p1] sz sk rf sg (pb_thr "java/lang/IllegalArgumentException" sz sk rf sg9)) : pb_Met l mL_tail 20 1 6 [.ref X, .int p0, .int p1, .ref O] sz sk rf sg (pb_cau (nI 2) sz sk rf sg9) := by
  refine pb_startH hfl (by decide +kernel) (fun h9 => nomatch h9) (pb_c1 rfl) (Nat.le_of_ble_eq_true rfl) (fun F hF h hQ => ?_)
  subst hF
  show pv F 0 0 sz sk rf sg 0 [some (.ref X), some (.int p0), some (.int p1), some (.ref O), none] []
  refine v_aload_n h (i := 3) dL_tail_0 (q := 1) rfl rfl rfl ?_
  refine v_iconst h (v := nI 0) dL_tail_1 (q := 2) rfl (by decide +kernel) ?_
  refine v_aload_n h (i := 0) dL_tail_2 (q := 3) rfl rfl rfl ?_
  refine v_iload_n h (i := 1) dL_tail_3 (q := 4) rfl rfl rfl ?_
  refine v_iload_n h (i := 2) dL_tail_4 (q := 5) rfl rfl rfl ?_
  refine v_callVy h hM kX7_tail tw731 tw733 (by assumption) (by decide) rfl rfl rfl (by simp [Value.category]) (by omega) (by decide) (by decide) rfl dL_tail_5 (q := 8) rfl (fun sz9 hsz9 => ?_)
  refine v_catch h [(0, 10, 13, 13)] [] rfl (fun z hz => by obtain rfl := List.mem_singleton.mp hz; exact ⟨by decide, "java/lang/IndexOutOfBoundsException", tw286, by simp [pb_ncs]⟩) (by decide) tw287 tw372 rfl (fun qq => ?_)
  refine v_astore h dL_tail_17 (q := 19) rfl (Nat.le_of_ble_eq_true rfl) rfl ?_
  refine v_iconst h (v := nI 2) dL_tail_19 (q := 20) rfl (by decide +kernel) ?_
  refine v_iret h hQ rfl rfl dL_tail_20 (by decide) (by decide) ⟨rfl, hsz9, rfl, rfl, rfl⟩
set_option maxHeartbeats 4000000 in
set_option maxRecDepth 100000 in
theorem ok_L_slack {l : Launch} (hfl : l.stackTraces = false) {sz : Nat} {sk : pb_Sk} {rf : pb_Rf} {sg : pb_Sg} {X O d9 : Nat} (hX : sk X = (13, 0)) (hO : sk O = (3, 1)) {p0 p1 : Int32} {sg9 : pb_Sg} (hd9 : d9 ≤ 18) {v : Int32} (hM : pb_Met l mX7_slack d9 0 0 [.ref X, .int p0, .int p1] sz sk rf sg (pb_is (some (.int v)) sz sk rf sg9)) : pb_Met l mL_slack 20 0 0 [.ref X, .int p0, .int p1, .ref O] sz sk rf sg (pb_is (some (.int (nI 0))) sz sk rf (pb_up sg9 O 0 v)) := by
  refine pb_startH hfl (by decide +kernel) (fun h9 => nomatch h9) (pb_c1 rfl) (Nat.le_of_ble_eq_true rfl) (fun F hF h hQ => ?_)
  subst hF
  show pv F 0 0 sz sk rf sg 0 [some (.ref X), some (.int p0), some (.int p1), some (.ref O), none] []
  refine v_aload_n h (i := 3) dL_slack_0 (q := 1) rfl rfl rfl ?_
  refine v_iconst h (v := nI 0) dL_slack_1 (q := 2) rfl (by decide +kernel) ?_
  refine v_aload_n h (i := 0) dL_slack_2 (q := 3) rfl rfl rfl ?_
  refine v_iload_n h (i := 1) dL_slack_3 (q := 4) rfl rfl rfl ?_
  refine v_iload_n h (i := 2) dL_slack_4 (q := 5) rfl rfl rfl ?_
  refine v_callV1 h hM kX7_slack tw738 tw740 (by assumption) (by decide) rfl rfl rfl (by simp [Value.category]) (by omega) (Nat.zero_le _) (Nat.zero_le _) rfl dL_slack_5 (q := 8) rfl ?_
  refine v_i2l h dL_slack_8 (q := 9) rfl ?_
  refine v_last h (by assumption) rfl (by first | assumption | omega) (by decide) dL_slack_9 (q := 10) rfl ?_
  refine v_goto h dL_slack_10 (tgt := 21) (by decide) ?_
  refine v_iconst h (v := nI 0) dL_slack_21 (q := 22) rfl (by decide +kernel) ?_
  refine v_iret h hQ rfl rfl dL_slack_22 (Nat.zero_le _) (Nat.zero_le _) ⟨rfl, rfl, rfl, rfl, rfl⟩
set_option maxHeartbeats 4000000 in
set_option maxRecDepth 100000 in
theorem x1_L_slack {l : Launch} (hfl : l.stackTraces = false) {sz : Nat} {sk : pb_Sk} {rf : pb_Rf} {sg : pb_Sg} {X O d9 : Nat} (hX : sk X = (13, 0)) (hO : sk O = (3, 1)) {p0 p1 : Int32} {sg9 : pb_Sg} (hd9 : d9 ≤ 18) (hM : pb_Met l mX7_slack d9 1 6 [.ref X, .int p0, .int p1] sz sk rf sg (pb_thr "java/lang/IndexOutOfBoundsException" sz sk rf sg9)) : pb_Met l mL_slack 20 1 6 [.ref X, .int p0, .int p1, .ref O] sz sk rf sg (pb_cau (nI 1) sz sk rf sg9) := by
  refine pb_startH hfl (by decide +kernel) (fun h9 => nomatch h9) (pb_c1 rfl) (Nat.le_of_ble_eq_true rfl) (fun F hF h hQ => ?_)
  subst hF
  show pv F 0 0 sz sk rf sg 0 [some (.ref X), some (.int p0), some (.int p1), some (.ref O), none] []
  refine v_aload_n h (i := 3) dL_slack_0 (q := 1) rfl rfl rfl ?_
  refine v_iconst h (v := nI 0) dL_slack_1 (q := 2) rfl (by decide +kernel) ?_
  refine v_aload_n h (i := 0) dL_slack_2 (q := 3) rfl rfl rfl ?_
  refine v_iload_n h (i := 1) dL_slack_3 (q := 4) rfl rfl rfl ?_
  refine v_iload_n h (i := 2) dL_slack_4 (q := 5) rfl rfl rfl ?_
  refine v_callVy h hM kX7_slack tw738 tw740 (by assumption) (by decide) rfl rfl rfl (by simp [Value.category]) (by omega) (by decide) (by decide) rfl dL_slack_5 (q := 8) rfl (fun sz9 hsz9 => ?_)
  refine v_catch h [] [(0, 10, 17, 15)] rfl (fun z hz => nomatch hz) (by decide) tw286 tw298 rfl (fun qq => ?_)
  refine v_astore h dL_slack_13 (q := 15) rfl (Nat.le_of_ble_eq_true rfl) rfl ?_
  refine v_iconst h (v := nI 1) dL_slack_15 (q := 16) rfl (by decide +kernel) ?_
  refine v_iret h hQ rfl rfl dL_slack_16 (by decide) (by decide) ⟨rfl, hsz9, rfl, rfl, rfl⟩
set_option maxHeartbeats 4000000 in
set_option maxRecDepth 100000 in
theorem x2_L_slack {l : Launch} (hfl : l.stackTraces = false) {sz : Nat} {sk : pb_Sk} {rf : pb_Rf} {sg : pb_Sg} {X O d9 : Nat} (hX : sk X = (13, 0)) (hO : sk O = (3, 1)) {p0 p1 : Int32} {sg9 : pb_Sg} (hd9 : d9 ≤ 18) (hM : pb_Met l mX7_slack d9 1 6 [.ref X, .int p0, .int p1] sz sk rf sg (pb_thr "java/lang/IllegalArgumentException" sz sk rf sg9)) : pb_Met l mL_slack 20 1 6 [.ref X, .int p0, .int p1, .ref O] sz sk rf sg (pb_cau (nI 2) sz sk rf sg9) := by
  refine pb_startH hfl (by decide +kernel) (fun h9 => nomatch h9) (pb_c1 rfl) (Nat.le_of_ble_eq_true rfl) (fun F hF h hQ => ?_)
  subst hF
  show pv F 0 0 sz sk rf sg 0 [some (.ref X), some (.int p0), some (.int p1), some (.ref O), none] []
  refine v_aload_n h (i := 3) dL_slack_0 (q := 1) rfl rfl rfl ?_
  refine v_iconst h (v := nI 0) dL_slack_1 (q := 2) rfl (by decide +kernel) ?_
  refine v_aload_n h (i := 0) dL_slack_2 (q := 3) rfl rfl rfl ?_
  refine v_iload_n h (i := 1) dL_slack_3 (q := 4) rfl rfl rfl ?_
  refine v_iload_n h (i := 2) dL_slack_4 (q := 5) rfl rfl rfl ?_
  refine v_callVy h hM kX7_slack tw738 tw740 (by assumption) (by decide) rfl rfl rfl (by simp [Value.category]) (by omega) (by decide) (by decide) rfl dL_slack_5 (q := 8) rfl (fun sz9 hsz9 => ?_)
  refine v_catch h [(0, 10, 13, 13)] [] rfl (fun z hz => by obtain rfl := List.mem_singleton.mp hz; exact ⟨by decide, "java/lang/IndexOutOfBoundsException", tw286, by simp [pb_ncs]⟩) (by decide) tw287 tw372 rfl (fun qq => ?_)
  refine v_astore h dL_slack_17 (q := 19) rfl (Nat.le_of_ble_eq_true rfl) rfl ?_
  refine v_iconst h (v := nI 2) dL_slack_19 (q := 20) rfl (by decide +kernel) ?_
  refine v_iret h hQ rfl rfl dL_slack_20 (by decide) (by decide) ⟨rfl, hsz9, rfl, rfl, rfl⟩
set_option maxHeartbeats 4000000 in
set_option maxRecDepth 100000 in
theorem ok_L_critical {l : Launch} (hfl : l.stackTraces = false) {sz : Nat} {sk : pb_Sk} {rf : pb_Rf} {sg : pb_Sg} {X O d9 : Nat} (hX : sk X = (13, 0)) (hO : sk O = (3, 1)) {p0 : Int32} {sg9 : pb_Sg} (hd9 : d9 ≤ 18) {v : Int32} (hM : pb_Met l mX7_critical d9 0 0 [.ref X, .int p0] sz sk rf sg (pb_is (some (.int v)) sz sk rf sg9)) : pb_Met l mL_critical 20 0 0 [.ref X, .int p0, .ref O] sz sk rf sg (pb_is (some (.int (nI 0))) sz sk rf (pb_up sg9 O 0 v)) := by
  refine pb_startH hfl (by decide +kernel) (fun h9 => nomatch h9) (pb_c1 rfl) (Nat.le_of_ble_eq_true rfl) (fun F hF h hQ => ?_)
  subst hF
  show pv F 0 0 sz sk rf sg 0 [some (.ref X), some (.int p0), some (.ref O), none] []
  refine v_aload_n h (i := 2) dL_critical_0 (q := 1) rfl rfl rfl ?_
  refine v_iconst h (v := nI 0) dL_critical_1 (q := 2) rfl (by decide +kernel) ?_
  refine v_aload_n h (i := 0) dL_critical_2 (q := 3) rfl rfl rfl ?_
  refine v_iload_n h (i := 1) dL_critical_3 (q := 4) rfl rfl rfl ?_
  refine v_callV1 h hM kX7_critical tw749 tw751 (by assumption) (by decide) rfl rfl rfl (by simp [Value.category]) (by omega) (Nat.zero_le _) (Nat.zero_le _) rfl dL_critical_4 (q := 7) rfl ?_
  refine v_i2l h dL_critical_7 (q := 8) rfl ?_
  refine v_last h (by assumption) rfl (by first | assumption | omega) (by decide) dL_critical_8 (q := 9) rfl ?_
  refine v_goto h dL_critical_9 (tgt := 15) (by decide) ?_
  refine v_iconst h (v := nI 0) dL_critical_15 (q := 16) rfl (by decide +kernel) ?_
  refine v_iret h hQ rfl rfl dL_critical_16 (Nat.zero_le _) (Nat.zero_le _) ⟨rfl, rfl, rfl, rfl, rfl⟩
set_option maxHeartbeats 4000000 in
set_option maxRecDepth 100000 in
theorem x1_L_critical {l : Launch} (hfl : l.stackTraces = false) {sz : Nat} {sk : pb_Sk} {rf : pb_Rf} {sg : pb_Sg} {X O d9 : Nat} (hX : sk X = (13, 0)) (hO : sk O = (3, 1)) {p0 : Int32} {sg9 : pb_Sg} (hd9 : d9 ≤ 18) (hM : pb_Met l mX7_critical d9 1 6 [.ref X, .int p0] sz sk rf sg (pb_thr "java/lang/IndexOutOfBoundsException" sz sk rf sg9)) : pb_Met l mL_critical 20 1 6 [.ref X, .int p0, .ref O] sz sk rf sg (pb_cau (nI 1) sz sk rf sg9) := by
  refine pb_startH hfl (by decide +kernel) (fun h9 => nomatch h9) (pb_c1 rfl) (Nat.le_of_ble_eq_true rfl) (fun F hF h hQ => ?_)
  subst hF
  show pv F 0 0 sz sk rf sg 0 [some (.ref X), some (.int p0), some (.ref O), none] []
  refine v_aload_n h (i := 2) dL_critical_0 (q := 1) rfl rfl rfl ?_
  refine v_iconst h (v := nI 0) dL_critical_1 (q := 2) rfl (by decide +kernel) ?_
  refine v_aload_n h (i := 0) dL_critical_2 (q := 3) rfl rfl rfl ?_
  refine v_iload_n h (i := 1) dL_critical_3 (q := 4) rfl rfl rfl ?_
  refine v_callVy h hM kX7_critical tw749 tw751 (by assumption) (by decide) rfl rfl rfl (by simp [Value.category]) (by omega) (by decide) (by decide) rfl dL_critical_4 (q := 7) rfl (fun sz9 hsz9 => ?_)
  refine v_catch h [] [] rfl (fun z hz => nomatch hz) (by decide) tw286 tw298 rfl (fun qq => ?_)
  refine v_astore_n h (i := 3) dL_critical_12 (q := 13) rfl rfl (Nat.le_of_ble_eq_true rfl) rfl ?_
  refine v_iconst h (v := nI 1) dL_critical_13 (q := 14) rfl (by decide +kernel) ?_
  refine v_iret h hQ rfl rfl dL_critical_14 (by decide) (by decide) ⟨rfl, hsz9, rfl, rfl, rfl⟩
set_option maxHeartbeats 4000000 in
set_option maxRecDepth 100000 in
theorem ok_L_way {l : Launch} (hfl : l.stackTraces = false) {sz : Nat} {sk : pb_Sk} {rf : pb_Rf} {sg : pb_Sg} {X O d9 : Nat} (hX : sk X = (13, 0)) (hO : sk O = (3, 1)) {p0 : Int32} {sg9 : pb_Sg} (hd9 : d9 ≤ 18) {v : Int32} (hM : pb_Met l mX7_way d9 0 0 [.ref X, .int p0] sz sk rf sg (pb_is (some (.int v)) sz sk rf sg9)) : pb_Met l mL_way 20 0 0 [.ref X, .int p0, .ref O] sz sk rf sg (pb_is (some (.int (nI 0))) sz sk rf (pb_up sg9 O 0 v)) := by
  refine pb_startH hfl (by decide +kernel) (fun h9 => nomatch h9) (pb_c1 rfl) (Nat.le_of_ble_eq_true rfl) (fun F hF h hQ => ?_)
  subst hF
  show pv F 0 0 sz sk rf sg 0 [some (.ref X), some (.int p0), some (.ref O), none] []
  refine v_aload_n h (i := 2) dL_way_0 (q := 1) rfl rfl rfl ?_
  refine v_iconst h (v := nI 0) dL_way_1 (q := 2) rfl (by decide +kernel) ?_
  refine v_aload_n h (i := 0) dL_way_2 (q := 3) rfl rfl rfl ?_
  refine v_iload_n h (i := 1) dL_way_3 (q := 4) rfl rfl rfl ?_
  refine v_callV1 h hM kX7_way tw756 tw758 (by assumption) (by decide) rfl rfl rfl (by simp [Value.category]) (by omega) (Nat.zero_le _) (Nat.zero_le _) rfl dL_way_4 (q := 7) rfl ?_
  refine v_i2l h dL_way_7 (q := 8) rfl ?_
  refine v_last h (by assumption) rfl (by first | assumption | omega) (by decide) dL_way_8 (q := 9) rfl ?_
  refine v_goto h dL_way_9 (tgt := 15) (by decide) ?_
  refine v_iconst h (v := nI 0) dL_way_15 (q := 16) rfl (by decide +kernel) ?_
  refine v_iret h hQ rfl rfl dL_way_16 (Nat.zero_le _) (Nat.zero_le _) ⟨rfl, rfl, rfl, rfl, rfl⟩
set_option maxHeartbeats 4000000 in
set_option maxRecDepth 100000 in
theorem x1_L_way {l : Launch} (hfl : l.stackTraces = false) {sz : Nat} {sk : pb_Sk} {rf : pb_Rf} {sg : pb_Sg} {X O d9 : Nat} (hX : sk X = (13, 0)) (hO : sk O = (3, 1)) {p0 : Int32} {sg9 : pb_Sg} (hd9 : d9 ≤ 18) (hM : pb_Met l mX7_way d9 1 6 [.ref X, .int p0] sz sk rf sg (pb_thr "java/lang/IndexOutOfBoundsException" sz sk rf sg9)) : pb_Met l mL_way 20 1 6 [.ref X, .int p0, .ref O] sz sk rf sg (pb_cau (nI 1) sz sk rf sg9) := by
  refine pb_startH hfl (by decide +kernel) (fun h9 => nomatch h9) (pb_c1 rfl) (Nat.le_of_ble_eq_true rfl) (fun F hF h hQ => ?_)
  subst hF
  show pv F 0 0 sz sk rf sg 0 [some (.ref X), some (.int p0), some (.ref O), none] []
  refine v_aload_n h (i := 2) dL_way_0 (q := 1) rfl rfl rfl ?_
  refine v_iconst h (v := nI 0) dL_way_1 (q := 2) rfl (by decide +kernel) ?_
  refine v_aload_n h (i := 0) dL_way_2 (q := 3) rfl rfl rfl ?_
  refine v_iload_n h (i := 1) dL_way_3 (q := 4) rfl rfl rfl ?_
  refine v_callVy h hM kX7_way tw756 tw758 (by assumption) (by decide) rfl rfl rfl (by simp [Value.category]) (by omega) (by decide) (by decide) rfl dL_way_4 (q := 7) rfl (fun sz9 hsz9 => ?_)
  refine v_catch h [] [] rfl (fun z hz => nomatch hz) (by decide) tw286 tw298 rfl (fun qq => ?_)
  refine v_astore_n h (i := 3) dL_way_12 (q := 13) rfl rfl (Nat.le_of_ble_eq_true rfl) rfl ?_
  refine v_iconst h (v := nI 1) dL_way_13 (q := 14) rfl (by decide +kernel) ?_
  refine v_iret h hQ rfl rfl dL_way_14 (by decide) (by decide) ⟨rfl, hsz9, rfl, rfl, rfl⟩
set_option maxHeartbeats 4000000 in
set_option maxRecDepth 100000 in
theorem ok_L_firstDay {l : Launch} (hfl : l.stackTraces = false) {sz : Nat} {sk : pb_Sk} {rf : pb_Rf} {sg : pb_Sg} {X O d9 : Nat} (hX : sk X = (13, 0)) (hO : sk O = (3, 1)) {p0 p1 : Int32} {sg9 : pb_Sg} (hd9 : d9 ≤ 18) {v : Int32} (hM : pb_Met l mX7_firstDay d9 0 0 [.ref X, .int p0, .int p1] sz sk rf sg (pb_is (some (.int v)) sz sk rf sg9)) : pb_Met l mL_firstDay 20 0 0 [.ref X, .int p0, .int p1, .ref O] sz sk rf sg (pb_is (some (.int (nI 0))) sz sk rf (pb_up sg9 O 0 v)) := by
  refine pb_startH hfl (by decide +kernel) (fun h9 => nomatch h9) (pb_c1 rfl) (Nat.le_of_ble_eq_true rfl) (fun F hF h hQ => ?_)
  subst hF
  show pv F 0 0 sz sk rf sg 0 [some (.ref X), some (.int p0), some (.int p1), some (.ref O), none] []
  refine v_aload_n h (i := 3) dL_firstDay_0 (q := 1) rfl rfl rfl ?_
  refine v_iconst h (v := nI 0) dL_firstDay_1 (q := 2) rfl (by decide +kernel) ?_
  refine v_aload_n h (i := 0) dL_firstDay_2 (q := 3) rfl rfl rfl ?_
  refine v_iload_n h (i := 1) dL_firstDay_3 (q := 4) rfl rfl rfl ?_
  refine v_iload_n h (i := 2) dL_firstDay_4 (q := 5) rfl rfl rfl ?_
  refine v_callV1 h hM kX7_firstDay tw763 tw765 (by assumption) (by decide) rfl rfl rfl (by simp [Value.category]) (by omega) (Nat.zero_le _) (Nat.zero_le _) rfl dL_firstDay_5 (q := 8) rfl ?_
  refine v_i2l h dL_firstDay_8 (q := 9) rfl ?_
  refine v_last h (by assumption) rfl (by first | assumption | omega) (by decide) dL_firstDay_9 (q := 10) rfl ?_
  refine v_goto h dL_firstDay_10 (tgt := 21) (by decide) ?_
  refine v_iconst h (v := nI 0) dL_firstDay_21 (q := 22) rfl (by decide +kernel) ?_
  refine v_iret h hQ rfl rfl dL_firstDay_22 (Nat.zero_le _) (Nat.zero_le _) ⟨rfl, rfl, rfl, rfl, rfl⟩
set_option maxHeartbeats 4000000 in
set_option maxRecDepth 100000 in
theorem x1_L_firstDay {l : Launch} (hfl : l.stackTraces = false) {sz : Nat} {sk : pb_Sk} {rf : pb_Rf} {sg : pb_Sg} {X O d9 : Nat} (hX : sk X = (13, 0)) (hO : sk O = (3, 1)) {p0 p1 : Int32} {sg9 : pb_Sg} (hd9 : d9 ≤ 18) (hM : pb_Met l mX7_firstDay d9 1 6 [.ref X, .int p0, .int p1] sz sk rf sg (pb_thr "java/lang/IndexOutOfBoundsException" sz sk rf sg9)) : pb_Met l mL_firstDay 20 1 6 [.ref X, .int p0, .int p1, .ref O] sz sk rf sg (pb_cau (nI 1) sz sk rf sg9) := by
  refine pb_startH hfl (by decide +kernel) (fun h9 => nomatch h9) (pb_c1 rfl) (Nat.le_of_ble_eq_true rfl) (fun F hF h hQ => ?_)
  subst hF
  show pv F 0 0 sz sk rf sg 0 [some (.ref X), some (.int p0), some (.int p1), some (.ref O), none] []
  refine v_aload_n h (i := 3) dL_firstDay_0 (q := 1) rfl rfl rfl ?_
  refine v_iconst h (v := nI 0) dL_firstDay_1 (q := 2) rfl (by decide +kernel) ?_
  refine v_aload_n h (i := 0) dL_firstDay_2 (q := 3) rfl rfl rfl ?_
  refine v_iload_n h (i := 1) dL_firstDay_3 (q := 4) rfl rfl rfl ?_
  refine v_iload_n h (i := 2) dL_firstDay_4 (q := 5) rfl rfl rfl ?_
  refine v_callVy h hM kX7_firstDay tw763 tw765 (by assumption) (by decide) rfl rfl rfl (by simp [Value.category]) (by omega) (by decide) (by decide) rfl dL_firstDay_5 (q := 8) rfl (fun sz9 hsz9 => ?_)
  refine v_catch h [] [(0, 10, 17, 15)] rfl (fun z hz => nomatch hz) (by decide) tw286 tw298 rfl (fun qq => ?_)
  refine v_astore h dL_firstDay_13 (q := 15) rfl (Nat.le_of_ble_eq_true rfl) rfl ?_
  refine v_iconst h (v := nI 1) dL_firstDay_15 (q := 16) rfl (by decide +kernel) ?_
  refine v_iret h hQ rfl rfl dL_firstDay_16 (by decide) (by decide) ⟨rfl, hsz9, rfl, rfl, rfl⟩
set_option maxHeartbeats 4000000 in
set_option maxRecDepth 100000 in
theorem x2_L_firstDay {l : Launch} (hfl : l.stackTraces = false) {sz : Nat} {sk : pb_Sk} {rf : pb_Rf} {sg : pb_Sg} {X O d9 : Nat} (hX : sk X = (13, 0)) (hO : sk O = (3, 1)) {p0 p1 : Int32} {sg9 : pb_Sg} (hd9 : d9 ≤ 18) (hM : pb_Met l mX7_firstDay d9 1 6 [.ref X, .int p0, .int p1] sz sk rf sg (pb_thr "java/lang/IllegalArgumentException" sz sk rf sg9)) : pb_Met l mL_firstDay 20 1 6 [.ref X, .int p0, .int p1, .ref O] sz sk rf sg (pb_cau (nI 2) sz sk rf sg9) := by
  refine pb_startH hfl (by decide +kernel) (fun h9 => nomatch h9) (pb_c1 rfl) (Nat.le_of_ble_eq_true rfl) (fun F hF h hQ => ?_)
  subst hF
  show pv F 0 0 sz sk rf sg 0 [some (.ref X), some (.int p0), some (.int p1), some (.ref O), none] []
  refine v_aload_n h (i := 3) dL_firstDay_0 (q := 1) rfl rfl rfl ?_
  refine v_iconst h (v := nI 0) dL_firstDay_1 (q := 2) rfl (by decide +kernel) ?_
  refine v_aload_n h (i := 0) dL_firstDay_2 (q := 3) rfl rfl rfl ?_
  refine v_iload_n h (i := 1) dL_firstDay_3 (q := 4) rfl rfl rfl ?_
  refine v_iload_n h (i := 2) dL_firstDay_4 (q := 5) rfl rfl rfl ?_
  refine v_callVy h hM kX7_firstDay tw763 tw765 (by assumption) (by decide) rfl rfl rfl (by simp [Value.category]) (by omega) (by decide) (by decide) rfl dL_firstDay_5 (q := 8) rfl (fun sz9 hsz9 => ?_)
  refine v_catch h [(0, 10, 13, 13)] [] rfl (fun z hz => by obtain rfl := List.mem_singleton.mp hz; exact ⟨by decide, "java/lang/IndexOutOfBoundsException", tw286, by simp [pb_ncs]⟩) (by decide) tw287 tw372 rfl (fun qq => ?_)
  refine v_astore h dL_firstDay_17 (q := 19) rfl (Nat.le_of_ble_eq_true rfl) rfl ?_
  refine v_iconst h (v := nI 2) dL_firstDay_19 (q := 20) rfl (by decide +kernel) ?_
  refine v_iret h hQ rfl rfl dL_firstDay_20 (by decide) (by decide) ⟨rfl, hsz9, rfl, rfl, rfl⟩
set_option maxHeartbeats 4000000 in
set_option maxRecDepth 100000 in
theorem ok_L_leftOut {l : Launch} (hfl : l.stackTraces = false) {sz : Nat} {sk : pb_Sk} {rf : pb_Rf} {sg : pb_Sg} {X O d9 : Nat} (hX : sk X = (13, 0)) (hO : sk O = (3, 1)) {p0 : Int32} {sg9 : pb_Sg} (hd9 : d9 ≤ 18) {v : Int32} (hM : pb_Met l mX7_leftOut d9 0 0 [.ref X, .int p0] sz sk rf sg (pb_is (some (.int v)) sz sk rf sg9)) : pb_Met l mL_leftOut 20 0 0 [.ref X, .int p0, .ref O] sz sk rf sg (pb_is (some (.int (nI 0))) sz sk rf (pb_up sg9 O 0 v)) := by
  refine pb_startH hfl (by decide +kernel) (fun h9 => nomatch h9) (pb_c1 rfl) (Nat.le_of_ble_eq_true rfl) (fun F hF h hQ => ?_)
  subst hF
  show pv F 0 0 sz sk rf sg 0 [some (.ref X), some (.int p0), some (.ref O), none] []
  refine v_aload_n h (i := 2) dL_leftOut_0 (q := 1) rfl rfl rfl ?_
  refine v_iconst h (v := nI 0) dL_leftOut_1 (q := 2) rfl (by decide +kernel) ?_
  refine v_aload_n h (i := 0) dL_leftOut_2 (q := 3) rfl rfl rfl ?_
  refine v_iload_n h (i := 1) dL_leftOut_3 (q := 4) rfl rfl rfl ?_
  refine v_callV1 h hM kX7_leftOut tw770 tw772 (by assumption) (by decide) rfl rfl rfl (by simp [Value.category]) (by omega) (Nat.zero_le _) (Nat.zero_le _) rfl dL_leftOut_4 (q := 7) rfl ?_
  refine v_i2l h dL_leftOut_7 (q := 8) rfl ?_
  refine v_last h (by assumption) rfl (by first | assumption | omega) (by decide) dL_leftOut_8 (q := 9) rfl ?_
  refine v_goto h dL_leftOut_9 (tgt := 15) (by decide) ?_
  refine v_iconst h (v := nI 0) dL_leftOut_15 (q := 16) rfl (by decide +kernel) ?_
  refine v_iret h hQ rfl rfl dL_leftOut_16 (Nat.zero_le _) (Nat.zero_le _) ⟨rfl, rfl, rfl, rfl, rfl⟩
set_option maxHeartbeats 4000000 in
set_option maxRecDepth 100000 in
theorem x1_L_leftOut {l : Launch} (hfl : l.stackTraces = false) {sz : Nat} {sk : pb_Sk} {rf : pb_Rf} {sg : pb_Sg} {X O d9 : Nat} (hX : sk X = (13, 0)) (hO : sk O = (3, 1)) {p0 : Int32} {sg9 : pb_Sg} (hd9 : d9 ≤ 18) (hM : pb_Met l mX7_leftOut d9 1 6 [.ref X, .int p0] sz sk rf sg (pb_thr "java/lang/IndexOutOfBoundsException" sz sk rf sg9)) : pb_Met l mL_leftOut 20 1 6 [.ref X, .int p0, .ref O] sz sk rf sg (pb_cau (nI 1) sz sk rf sg9) := by
  refine pb_startH hfl (by decide +kernel) (fun h9 => nomatch h9) (pb_c1 rfl) (Nat.le_of_ble_eq_true rfl) (fun F hF h hQ => ?_)
  subst hF
  show pv F 0 0 sz sk rf sg 0 [some (.ref X), some (.int p0), some (.ref O), none] []
  refine v_aload_n h (i := 2) dL_leftOut_0 (q := 1) rfl rfl rfl ?_
  refine v_iconst h (v := nI 0) dL_leftOut_1 (q := 2) rfl (by decide +kernel) ?_
  refine v_aload_n h (i := 0) dL_leftOut_2 (q := 3) rfl rfl rfl ?_
  refine v_iload_n h (i := 1) dL_leftOut_3 (q := 4) rfl rfl rfl ?_
  refine v_callVy h hM kX7_leftOut tw770 tw772 (by assumption) (by decide) rfl rfl rfl (by simp [Value.category]) (by omega) (by decide) (by decide) rfl dL_leftOut_4 (q := 7) rfl (fun sz9 hsz9 => ?_)
  refine v_catch h [] [] rfl (fun z hz => nomatch hz) (by decide) tw286 tw298 rfl (fun qq => ?_)
  refine v_astore_n h (i := 3) dL_leftOut_12 (q := 13) rfl rfl (Nat.le_of_ble_eq_true rfl) rfl ?_
  refine v_iconst h (v := nI 1) dL_leftOut_13 (q := 14) rfl (by decide +kernel) ?_
  refine v_iret h hQ rfl rfl dL_leftOut_14 (by decide) (by decide) ⟨rfl, hsz9, rfl, rfl, rfl⟩
set_option maxHeartbeats 4000000 in
set_option maxRecDepth 100000 in
theorem ok_L_lastDay {l : Launch} (hfl : l.stackTraces = false) {sz : Nat} {sk : pb_Sk} {rf : pb_Rf} {sg : pb_Sg} {X O d9 : Nat} (hX : sk X = (13, 0)) (hO : sk O = (3, 1)) {p0 : Int32} {sg9 : pb_Sg} (hd9 : d9 ≤ 18) {v : Int32} (hM : pb_Met l mX7_lastDay d9 0 0 [.ref X, .int p0] sz sk rf sg (pb_is (some (.int v)) sz sk rf sg9)) : pb_Met l mL_lastDay 20 0 0 [.ref X, .int p0, .ref O] sz sk rf sg (pb_is (some (.int (nI 0))) sz sk rf (pb_up sg9 O 0 v)) := by
  refine pb_startH hfl (by decide +kernel) (fun h9 => nomatch h9) (pb_c1 rfl) (Nat.le_of_ble_eq_true rfl) (fun F hF h hQ => ?_)
  subst hF
  show pv F 0 0 sz sk rf sg 0 [some (.ref X), some (.int p0), some (.ref O), none] []
  refine v_aload_n h (i := 2) dL_lastDay_0 (q := 1) rfl rfl rfl ?_
  refine v_iconst h (v := nI 0) dL_lastDay_1 (q := 2) rfl (by decide +kernel) ?_
  refine v_aload_n h (i := 0) dL_lastDay_2 (q := 3) rfl rfl rfl ?_
  refine v_iload_n h (i := 1) dL_lastDay_3 (q := 4) rfl rfl rfl ?_
  refine v_callV1 h hM kX7_lastDay tw777 tw779 (by assumption) (by decide) rfl rfl rfl (by simp [Value.category]) (by omega) (Nat.zero_le _) (Nat.zero_le _) rfl dL_lastDay_4 (q := 7) rfl ?_
  refine v_i2l h dL_lastDay_7 (q := 8) rfl ?_
  refine v_last h (by assumption) rfl (by first | assumption | omega) (by decide) dL_lastDay_8 (q := 9) rfl ?_
  refine v_goto h dL_lastDay_9 (tgt := 15) (by decide) ?_
  refine v_iconst h (v := nI 0) dL_lastDay_15 (q := 16) rfl (by decide +kernel) ?_
  refine v_iret h hQ rfl rfl dL_lastDay_16 (Nat.zero_le _) (Nat.zero_le _) ⟨rfl, rfl, rfl, rfl, rfl⟩
set_option maxHeartbeats 4000000 in
set_option maxRecDepth 100000 in
theorem x1_L_lastDay {l : Launch} (hfl : l.stackTraces = false) {sz : Nat} {sk : pb_Sk} {rf : pb_Rf} {sg : pb_Sg} {X O d9 : Nat} (hX : sk X = (13, 0)) (hO : sk O = (3, 1)) {p0 : Int32} {sg9 : pb_Sg} (hd9 : d9 ≤ 18) (hM : pb_Met l mX7_lastDay d9 1 6 [.ref X, .int p0] sz sk rf sg (pb_thr "java/lang/IndexOutOfBoundsException" sz sk rf sg9)) : pb_Met l mL_lastDay 20 1 6 [.ref X, .int p0, .ref O] sz sk rf sg (pb_cau (nI 1) sz sk rf sg9) := by
  refine pb_startH hfl (by decide +kernel) (fun h9 => nomatch h9) (pb_c1 rfl) (Nat.le_of_ble_eq_true rfl) (fun F hF h hQ => ?_)
  subst hF
  show pv F 0 0 sz sk rf sg 0 [some (.ref X), some (.int p0), some (.ref O), none] []
  refine v_aload_n h (i := 2) dL_lastDay_0 (q := 1) rfl rfl rfl ?_
  refine v_iconst h (v := nI 0) dL_lastDay_1 (q := 2) rfl (by decide +kernel) ?_
  refine v_aload_n h (i := 0) dL_lastDay_2 (q := 3) rfl rfl rfl ?_
  refine v_iload_n h (i := 1) dL_lastDay_3 (q := 4) rfl rfl rfl ?_
  refine v_callVy h hM kX7_lastDay tw777 tw779 (by assumption) (by decide) rfl rfl rfl (by simp [Value.category]) (by omega) (by decide) (by decide) rfl dL_lastDay_4 (q := 7) rfl (fun sz9 hsz9 => ?_)
  refine v_catch h [] [] rfl (fun z hz => nomatch hz) (by decide) tw286 tw298 rfl (fun qq => ?_)
  refine v_astore_n h (i := 3) dL_lastDay_12 (q := 13) rfl rfl (Nat.le_of_ble_eq_true rfl) rfl ?_
  refine v_iconst h (v := nI 1) dL_lastDay_13 (q := 14) rfl (by decide +kernel) ?_
  refine v_iret h hQ rfl rfl dL_lastDay_14 (by decide) (by decide) ⟨rfl, hsz9, rfl, rfl, rfl⟩
set_option maxHeartbeats 4000000 in
set_option maxRecDepth 100000 in
theorem ok_L_lastDayByAll {l : Launch} (hfl : l.stackTraces = false) {sz : Nat} {sk : pb_Sk} {rf : pb_Rf} {sg : pb_Sg} {X O d9 : Nat} (hX : sk X = (13, 0)) (hO : sk O = (3, 1)) {p0 : Int32} {sg9 : pb_Sg} (hd9 : d9 ≤ 18) {v : Int32} (hM : pb_Met l mX7_lastDayByAll d9 0 0 [.ref X, .int p0] sz sk rf sg (pb_is (some (.int v)) sz sk rf sg9)) : pb_Met l mL_lastDayByAll 20 0 0 [.ref X, .int p0, .ref O] sz sk rf sg (pb_is (some (.int (nI 0))) sz sk rf (pb_up sg9 O 0 v)) := by
  refine pb_startH hfl (by decide +kernel) (fun h9 => nomatch h9) (pb_c1 rfl) (Nat.le_of_ble_eq_true rfl) (fun F hF h hQ => ?_)
  subst hF
  show pv F 0 0 sz sk rf sg 0 [some (.ref X), some (.int p0), some (.ref O), none] []
  refine v_aload_n h (i := 2) dL_lastDayByAll_0 (q := 1) rfl rfl rfl ?_
  refine v_iconst h (v := nI 0) dL_lastDayByAll_1 (q := 2) rfl (by decide +kernel) ?_
  refine v_aload_n h (i := 0) dL_lastDayByAll_2 (q := 3) rfl rfl rfl ?_
  refine v_iload_n h (i := 1) dL_lastDayByAll_3 (q := 4) rfl rfl rfl ?_
  refine v_callV1 h hM kX7_lastDayByAll tw788 tw790 (by assumption) (by decide) rfl rfl rfl (by simp [Value.category]) (by omega) (Nat.zero_le _) (Nat.zero_le _) rfl dL_lastDayByAll_4 (q := 7) rfl ?_
  refine v_i2l h dL_lastDayByAll_7 (q := 8) rfl ?_
  refine v_last h (by assumption) rfl (by first | assumption | omega) (by decide) dL_lastDayByAll_8 (q := 9) rfl ?_
  refine v_goto h dL_lastDayByAll_9 (tgt := 18) (by decide) ?_
  refine v_iconst h (v := nI 0) dL_lastDayByAll_18 (q := 19) rfl (by decide +kernel) ?_
  refine v_iret h hQ rfl rfl dL_lastDayByAll_19 (Nat.zero_le _) (Nat.zero_le _) ⟨rfl, rfl, rfl, rfl, rfl⟩
set_option maxHeartbeats 4000000 in
set_option maxRecDepth 100000 in
theorem x1_L_lastDayByAll {l : Launch} (hfl : l.stackTraces = false) {sz : Nat} {sk : pb_Sk} {rf : pb_Rf} {sg : pb_Sg} {X O d9 : Nat} (hX : sk X = (13, 0)) (hO : sk O = (3, 1)) {p0 : Int32} {sg9 : pb_Sg} (hd9 : d9 ≤ 18) (hM : pb_Met l mX7_lastDayByAll d9 1 6 [.ref X, .int p0] sz sk rf sg (pb_thr "java/lang/IndexOutOfBoundsException" sz sk rf sg9)) : pb_Met l mL_lastDayByAll 20 1 6 [.ref X, .int p0, .ref O] sz sk rf sg (pb_cau (nI 1) sz sk rf sg9) := by
  refine pb_startH hfl (by decide +kernel) (fun h9 => nomatch h9) (pb_c1 rfl) (Nat.le_of_ble_eq_true rfl) (fun F hF h hQ => ?_)
  subst hF
  show pv F 0 0 sz sk rf sg 0 [some (.ref X), some (.int p0), some (.ref O), none] []
  refine v_aload_n h (i := 2) dL_lastDayByAll_0 (q := 1) rfl rfl rfl ?_
  refine v_iconst h (v := nI 0) dL_lastDayByAll_1 (q := 2) rfl (by decide +kernel) ?_
  refine v_aload_n h (i := 0) dL_lastDayByAll_2 (q := 3) rfl rfl rfl ?_
  refine v_iload_n h (i := 1) dL_lastDayByAll_3 (q := 4) rfl rfl rfl ?_
  refine v_callVy h hM kX7_lastDayByAll tw788 tw790 (by assumption) (by decide) rfl rfl rfl (by simp [Value.category]) (by omega) (by decide) (by decide) rfl dL_lastDayByAll_4 (q := 7) rfl (fun sz9 hsz9 => ?_)
  refine v_catch h [] [(0, 9, 15, 21)] rfl (fun z hz => nomatch hz) (by decide) tw286 tw298 rfl (fun qq => ?_)
  refine v_astore_n h (i := 3) dL_lastDayByAll_12 (q := 13) rfl rfl (Nat.le_of_ble_eq_true rfl) rfl ?_
  refine v_iconst h (v := nI 1) dL_lastDayByAll_13 (q := 14) rfl (by decide +kernel) ?_
  refine v_iret h hQ rfl rfl dL_lastDayByAll_14 (by decide) (by decide) ⟨rfl, hsz9, rfl, rfl, rfl⟩
set_option maxHeartbeats 4000000 in
set_option maxRecDepth 100000 in
theorem x2_L_lastDayByAll {l : Launch} (hfl : l.stackTraces = false) {sz : Nat} {sk : pb_Sk} {rf : pb_Rf} {sg : pb_Sg} {X O d9 : Nat} (hX : sk X = (13, 0)) (hO : sk O = (3, 1)) {p0 : Int32} {sg9 : pb_Sg} (hd9 : d9 ≤ 18) (hM : pb_Met l mX7_lastDayByAll d9 1 6 [.ref X, .int p0] sz sk rf sg (pb_thr "java/lang/IllegalStateException" sz sk rf sg9)) : pb_Met l mL_lastDayByAll 20 1 6 [.ref X, .int p0, .ref O] sz sk rf sg (pb_cau (nI 2) sz sk rf sg9) := by
  refine pb_startH hfl (by decide +kernel) (fun h9 => nomatch h9) (pb_c1 rfl) (Nat.le_of_ble_eq_true rfl) (fun F hF h hQ => ?_)
  subst hF
  show pv F 0 0 sz sk rf sg 0 [some (.ref X), some (.int p0), some (.ref O), none] []
  refine v_aload_n h (i := 2) dL_lastDayByAll_0 (q := 1) rfl rfl rfl ?_
  refine v_iconst h (v := nI 0) dL_lastDayByAll_1 (q := 2) rfl (by decide +kernel) ?_
  refine v_aload_n h (i := 0) dL_lastDayByAll_2 (q := 3) rfl rfl rfl ?_
  refine v_iload_n h (i := 1) dL_lastDayByAll_3 (q := 4) rfl rfl rfl ?_
  refine v_callVy h hM kX7_lastDayByAll tw788 tw790 (by assumption) (by decide) rfl rfl rfl (by simp [Value.category]) (by omega) (by decide) (by decide) rfl dL_lastDayByAll_4 (q := 7) rfl (fun sz9 hsz9 => ?_)
  refine v_catch h [(0, 9, 12, 13)] [] rfl (fun z hz => by obtain rfl := List.mem_singleton.mp hz; exact ⟨by decide, "java/lang/IndexOutOfBoundsException", tw286, by simp [pb_ncs]⟩) (by decide) tw401 tw408 rfl (fun qq => ?_)
  refine v_astore_n h (i := 3) dL_lastDayByAll_15 (q := 16) rfl rfl (Nat.le_of_ble_eq_true rfl) rfl ?_
  refine v_iconst h (v := nI 2) dL_lastDayByAll_16 (q := 17) rfl (by decide +kernel) ?_
  refine v_iret h hQ rfl rfl dL_lastDayByAll_17 (by decide) (by decide) ⟨rfl, hsz9, rfl, rfl, rfl⟩
set_option maxHeartbeats 4000000 in
set_option maxRecDepth 100000 in
theorem ok_L_taskOn {l : Launch} (hfl : l.stackTraces = false) {sz : Nat} {sk : pb_Sk} {rf : pb_Rf} {sg : pb_Sg} {X O d9 : Nat} (hX : sk X = (13, 0)) (hO : sk O = (3, 1)) {p0 p1 p2 : Int32} {sg9 : pb_Sg} (hd9 : d9 ≤ 18) {v : Int32} (hM : pb_Met l mX7_taskOn d9 0 0 [.ref X, .int p0, .int p1, .int p2] sz sk rf sg (pb_is (some (.int v)) sz sk rf sg9)) : pb_Met l mL_taskOn 20 0 0 [.ref X, .int p0, .int p1, .int p2, .ref O] sz sk rf sg (pb_is (some (.int (nI 0))) sz sk rf (pb_up sg9 O 0 v)) := by
  refine pb_startH hfl (by decide +kernel) (fun h9 => nomatch h9) (pb_c1 rfl) (Nat.le_of_ble_eq_true rfl) (fun F hF h hQ => ?_)
  subst hF
  show pv F 0 0 sz sk rf sg 0 [some (.ref X), some (.int p0), some (.int p1), some (.int p2), some (.ref O), none] []
  refine v_aload h dL_taskOn_0 (q := 2) rfl rfl ?_
  refine v_iconst h (v := nI 0) dL_taskOn_2 (q := 3) rfl (by decide +kernel) ?_
  refine v_aload_n h (i := 0) dL_taskOn_3 (q := 4) rfl rfl rfl ?_
  refine v_iload_n h (i := 1) dL_taskOn_4 (q := 5) rfl rfl rfl ?_
  refine v_iload_n h (i := 2) dL_taskOn_5 (q := 6) rfl rfl rfl ?_
  refine v_iload_n h (i := 3) dL_taskOn_6 (q := 7) rfl rfl rfl ?_
  refine v_callV1 h hM kX7_taskOn tw813 tw815 (by assumption) (by decide) rfl rfl rfl (by simp [Value.category]) (by omega) (Nat.zero_le _) (Nat.zero_le _) rfl dL_taskOn_7 (q := 10) rfl ?_
  refine v_i2l h dL_taskOn_10 (q := 11) rfl ?_
  refine v_last h (by assumption) rfl (by first | assumption | omega) (by decide) dL_taskOn_11 (q := 12) rfl ?_
  refine v_goto h dL_taskOn_12 (tgt := 23) (by decide) ?_
  refine v_iconst h (v := nI 0) dL_taskOn_23 (q := 24) rfl (by decide +kernel) ?_
  refine v_iret h hQ rfl rfl dL_taskOn_24 (Nat.zero_le _) (Nat.zero_le _) ⟨rfl, rfl, rfl, rfl, rfl⟩
set_option maxHeartbeats 4000000 in
set_option maxRecDepth 100000 in
theorem x1_L_taskOn {l : Launch} (hfl : l.stackTraces = false) {sz : Nat} {sk : pb_Sk} {rf : pb_Rf} {sg : pb_Sg} {X O d9 : Nat} (hX : sk X = (13, 0)) (hO : sk O = (3, 1)) {p0 p1 p2 : Int32} {sg9 : pb_Sg} (hd9 : d9 ≤ 18) (hM : pb_Met l mX7_taskOn d9 1 6 [.ref X, .int p0, .int p1, .int p2] sz sk rf sg (pb_thr "java/lang/IndexOutOfBoundsException" sz sk rf sg9)) : pb_Met l mL_taskOn 20 1 6 [.ref X, .int p0, .int p1, .int p2, .ref O] sz sk rf sg (pb_cau (nI 1) sz sk rf sg9) := by
  refine pb_startH hfl (by decide +kernel) (fun h9 => nomatch h9) (pb_c1 rfl) (Nat.le_of_ble_eq_true rfl) (fun F hF h hQ => ?_)
  subst hF
  show pv F 0 0 sz sk rf sg 0 [some (.ref X), some (.int p0), some (.int p1), some (.int p2), some (.ref O), none] []
  refine v_aload h dL_taskOn_0 (q := 2) rfl rfl ?_
  refine v_iconst h (v := nI 0) dL_taskOn_2 (q := 3) rfl (by decide +kernel) ?_
  refine v_aload_n h (i := 0) dL_taskOn_3 (q := 4) rfl rfl rfl ?_
  refine v_iload_n h (i := 1) dL_taskOn_4 (q := 5) rfl rfl rfl ?_
  refine v_iload_n h (i := 2) dL_taskOn_5 (q := 6) rfl rfl rfl ?_
  refine v_iload_n h (i := 3) dL_taskOn_6 (q := 7) rfl rfl rfl ?_
  refine v_callVy h hM kX7_taskOn tw813 tw815 (by assumption) (by decide) rfl rfl rfl (by simp [Value.category]) (by omega) (by decide) (by decide) rfl dL_taskOn_7 (q := 10) rfl (fun sz9 hsz9 => ?_)
  refine v_catch h [] [(0, 12, 19, 15)] rfl (fun z hz => nomatch hz) (by decide) tw286 tw298 rfl (fun qq => ?_)
  refine v_astore h dL_taskOn_15 (q := 17) rfl (Nat.le_of_ble_eq_true rfl) rfl ?_
  refine v_iconst h (v := nI 1) dL_taskOn_17 (q := 18) rfl (by decide +kernel) ?_
  refine v_iret h hQ rfl rfl dL_taskOn_18 (by decide) (by decide) ⟨rfl, hsz9, rfl, rfl, rfl⟩
set_option maxHeartbeats 4000000 in
set_option maxRecDepth 100000 in
theorem x2_L_taskOn {l : Launch} (hfl : l.stackTraces = false) {sz : Nat} {sk : pb_Sk} {rf : pb_Rf} {sg : pb_Sg} {X O d9 : Nat} (hX : sk X = (13, 0)) (hO : sk O = (3, 1)) {p0 p1 p2 : Int32} {sg9 : pb_Sg} (hd9 : d9 ≤ 18) (hM : pb_Met l mX7_taskOn d9 1 6 [.ref X, .int p0, .int p1, .int p2] sz sk rf sg (pb_thr "java/lang/IllegalArgumentException" sz sk rf sg9)) : pb_Met l mL_taskOn 20 1 6 [.ref X, .int p0, .int p1, .int p2, .ref O] sz sk rf sg (pb_cau (nI 2) sz sk rf sg9) := by
  refine pb_startH hfl (by decide +kernel) (fun h9 => nomatch h9) (pb_c1 rfl) (Nat.le_of_ble_eq_true rfl) (fun F hF h hQ => ?_)
  subst hF
  show pv F 0 0 sz sk rf sg 0 [some (.ref X), some (.int p0), some (.int p1), some (.int p2), some (.ref O), none] []
  refine v_aload h dL_taskOn_0 (q := 2) rfl rfl ?_
  refine v_iconst h (v := nI 0) dL_taskOn_2 (q := 3) rfl (by decide +kernel) ?_
  refine v_aload_n h (i := 0) dL_taskOn_3 (q := 4) rfl rfl rfl ?_
  refine v_iload_n h (i := 1) dL_taskOn_4 (q := 5) rfl rfl rfl ?_
  refine v_iload_n h (i := 2) dL_taskOn_5 (q := 6) rfl rfl rfl ?_
  refine v_iload_n h (i := 3) dL_taskOn_6 (q := 7) rfl rfl rfl ?_
  refine v_callVy h hM kX7_taskOn tw813 tw815 (by assumption) (by decide) rfl rfl rfl (by simp [Value.category]) (by omega) (by decide) (by decide) rfl dL_taskOn_7 (q := 10) rfl (fun sz9 hsz9 => ?_)
  refine v_catch h [(0, 12, 15, 13)] [] rfl (fun z hz => by obtain rfl := List.mem_singleton.mp hz; exact ⟨by decide, "java/lang/IndexOutOfBoundsException", tw286, by simp [pb_ncs]⟩) (by decide) tw287 tw372 rfl (fun qq => ?_)
  refine v_astore h dL_taskOn_19 (q := 21) rfl (Nat.le_of_ble_eq_true rfl) rfl ?_
  refine v_iconst h (v := nI 2) dL_taskOn_21 (q := 22) rfl (by decide +kernel) ?_
  refine v_iret h hQ rfl rfl dL_taskOn_22 (by decide) (by decide) ⟨rfl, hsz9, rfl, rfl, rfl⟩
