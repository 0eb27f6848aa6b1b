theorem dL_cell_0 : decode cL_cell 0 = .ok (.iload_n 1, 1) := by decide +kernel
theorem dL_cell_1 : decode cL_cell 1 = .ok (.aload_n 0, 1) := by decide +kernel
theorem dL_cell_2 : decode cL_cell 2 = .ok (.arraylength, 1) := by decide +kernel
theorem dL_cell_3 : decode cL_cell 3 = .ok (.if_icmp .ge 9, 3) := by decide +kernel
theorem dL_cell_6 : decode cL_cell 6 = .ok (.aload_n 0, 1) := by decide +kernel
theorem dL_cell_7 : decode cL_cell 7 = .ok (.iload_n 1, 1) := by decide +kernel
theorem dL_cell_8 : decode cL_cell 8 = .ok (.iaload, 1) := by decide +kernel
theorem dL_cell_9 : decode cL_cell 9 = .ok (.goto 18, 3) := by decide +kernel
theorem dL_cell_12 : decode cL_cell 12 = .ok (.sipush 7919, 3) := by decide +kernel
theorem dL_cell_15 : decode cL_cell 15 = .ok (.iload_n 1, 1) := by decide +kernel
theorem dL_cell_16 : decode cL_cell 16 = .ok (.sipush 2347, 3) := by decide +kernel
theorem dL_cell_19 : decode cL_cell 19 = .ok (.iadd, 1) := by decide +kernel
theorem dL_cell_20 : decode cL_cell 20 = .ok (.imul, 1) := by decide +kernel
theorem dL_cell_21 : decode cL_cell 21 = .ok (.iload_n 1, 1) := by decide +kernel
theorem dL_cell_22 : decode cL_cell 22 = .ok (.sipush 179, 3) := by decide +kernel
theorem dL_cell_25 : decode cL_cell 25 = .ok (.iadd, 1) := by decide +kernel
theorem dL_cell_26 : decode cL_cell 26 = .ok (.imul, 1) := by decide +kernel
theorem dL_cell_27 : decode cL_cell 27 = .ok (.ireturn, 1) := by decide +kernel
theorem dL_low_0 : decode cL_low 0 = .ok (.iload_n 0, 1) := by decide +kernel
theorem dL_low_1 : decode cL_low 1 = .ok (.ldc 7, 2) := by decide +kernel
theorem dL_low_3 : decode cL_low 3 = .ok (.iand, 1) := by decide +kernel
theorem dL_low_4 : decode cL_low 4 = .ok (.iload_n 1, 1) := by decide +kernel
theorem dL_low_5 : decode cL_low 5 = .ok (.irem, 1) := by decide +kernel
theorem dL_low_6 : decode cL_low 6 = .ok (.ireturn, 1) := by decide +kernel
theorem dL_file_0 : decode cL_file 0 = .ok (.aload_n 0, 1) := by decide +kernel
theorem dL_file_1 : decode cL_file 1 = .ok (.iload_n 1, 1) := by decide +kernel
theorem dL_file_2 : decode cL_file 2 = .ok (.invokevirtual 8, 3) := by decide +kernel
theorem dL_file_5 : decode cL_file 5 = .ok (.ireturn, 1) := by decide +kernel
theorem dL_file_6 : decode cL_file 6 = .ok (.astore_n 2, 1) := by decide +kernel
theorem dL_file_7 : decode cL_file 7 = .ok (.ldc 16, 2) := by decide +kernel
theorem dL_file_9 : decode cL_file 9 = .ok (.ireturn, 1) := by decide +kernel
theorem dL_file_10 : decode cL_file 10 = .ok (.astore_n 2, 1) := by decide +kernel
theorem dL_file_11 : decode cL_file 11 = .ok (.ldc 16, 2) := by decide +kernel
theorem dL_file_13 : decode cL_file 13 = .ok (.ireturn, 1) := by decide +kernel
theorem dL_change_0 : decode cL_change 0 = .ok (.aload_n 0, 1) := by decide +kernel
theorem dL_change_1 : decode cL_change 1 = .ok (.iload_n 1, 1) := by decide +kernel
theorem dL_change_2 : decode cL_change 2 = .ok (.iload_n 2, 1) := by decide +kernel
theorem dL_change_3 : decode cL_change 3 = .ok (.invokevirtual 19, 3) := by decide +kernel
theorem dL_change_6 : decode cL_change 6 = .ok (.ireturn, 1) := by decide +kernel
theorem dL_change_7 : decode cL_change 7 = .ok (.astore_n 3, 1) := by decide +kernel
theorem dL_change_8 : decode cL_change 8 = .ok (.ldc 16, 2) := by decide +kernel
theorem dL_change_10 : decode cL_change 10 = .ok (.ireturn, 1) := by decide +kernel
theorem dL_change_11 : decode cL_change 11 = .ok (.astore_n 3, 1) := by decide +kernel
theorem dL_change_12 : decode cL_change 12 = .ok (.ldc 16, 2) := by decide +kernel
theorem dL_change_14 : decode cL_change 14 = .ok (.ireturn, 1) := by decide +kernel
theorem dL_party_0 : decode cL_party 0 = .ok (.aload_n 0, 1) := by decide +kernel
theorem dL_party_1 : decode cL_party 1 = .ok (.iload_n 1, 1) := by decide +kernel
theorem dL_party_2 : decode cL_party 2 = .ok (.invokevirtual 25, 3) := by decide +kernel
theorem dL_party_5 : decode cL_party 5 = .ok (.ireturn, 1) := by decide +kernel
theorem dL_party_6 : decode cL_party 6 = .ok (.astore_n 2, 1) := by decide +kernel
theorem dL_party_7 : decode cL_party 7 = .ok (.ldc 16, 2) := by decide +kernel
theorem dL_party_9 : decode cL_party 9 = .ok (.ireturn, 1) := by decide +kernel
theorem dL_party_10 : decode cL_party 10 = .ok (.astore_n 2, 1) := by decide +kernel
theorem dL_party_11 : decode cL_party 11 = .ok (.ldc 16, 2) := by decide +kernel
theorem dL_party_13 : decode cL_party 13 = .ok (.ireturn, 1) := by decide +kernel
theorem dL_budget_0 : decode cL_budget 0 = .ok (.aload_n 0, 1) := by decide +kernel
theorem dL_budget_1 : decode cL_budget 1 = .ok (.iload_n 1, 1) := by decide +kernel
theorem dL_budget_2 : decode cL_budget 2 = .ok (.iload_n 2, 1) := by decide +kernel
theorem dL_budget_3 : decode cL_budget 3 = .ok (.invokevirtual 28, 3) := by decide +kernel
theorem dL_budget_6 : decode cL_budget 6 = .ok (.ireturn, 1) := by decide +kernel
theorem dL_budget_7 : decode cL_budget 7 = .ok (.astore_n 3, 1) := by decide +kernel
theorem dL_budget_8 : decode cL_budget 8 = .ok (.ldc 16, 2) := by decide +kernel
theorem dL_budget_10 : decode cL_budget 10 = .ok (.ireturn, 1) := by decide +kernel
theorem dL_budget_11 : decode cL_budget 11 = .ok (.astore_n 3, 1) := by decide +kernel
theorem dL_budget_12 : decode cL_budget 12 = .ok (.ldc 16, 2) := by decide +kernel
theorem dL_budget_14 : decode cL_budget 14 = .ok (.ireturn, 1) := by decide +kernel
theorem dL_right_0 : decode cL_right 0 = .ok (.aload_n 0, 1) := by decide +kernel
theorem dL_right_1 : decode cL_right 1 = .ok (.iload_n 1, 1) := by decide +kernel
theorem dL_right_2 : decode cL_right 2 = .ok (.iload_n 2, 1) := by decide +kernel
theorem dL_right_3 : decode cL_right 3 = .ok (.iload_n 3, 1) := by decide +kernel
theorem dL_right_4 : decode cL_right 4 = .ok (.iload 4, 2) := by decide +kernel
theorem dL_right_6 : decode cL_right 6 = .ok (.iload 5, 2) := by decide +kernel
theorem dL_right_8 : decode cL_right 8 = .ok (.invokevirtual 31, 3) := by decide +kernel
theorem dL_right_11 : decode cL_right 11 = .ok (.iconst 0, 1) := by decide +kernel
theorem dL_right_12 : decode cL_right 12 = .ok (.ireturn, 1) := by decide +kernel
theorem dL_right_13 : decode cL_right 13 = .ok (.astore 6, 2) := by decide +kernel
theorem dL_right_15 : decode cL_right 15 = .ok (.ldc 16, 2) := by decide +kernel
theorem dL_right_17 : decode cL_right 17 = .ok (.ireturn, 1) := by decide +kernel
theorem dL_right_18 : decode cL_right 18 = .ok (.astore 6, 2) := by decide +kernel
theorem dL_right_20 : decode cL_right 20 = .ok (.ldc 16, 2) := by decide +kernel
theorem dL_right_22 : decode cL_right 22 = .ok (.ireturn, 1) := by decide +kernel
theorem dL_takeBack_0 : decode cL_takeBack 0 = .ok (.aload_n 0, 1) := by decide +kernel
theorem dL_takeBack_1 : decode cL_takeBack 1 = .ok (.iload_n 1, 1) := by decide +kernel
theorem dL_takeBack_2 : decode cL_takeBack 2 = .ok (.iload_n 2, 1) := by decide +kernel
theorem dL_takeBack_3 : decode cL_takeBack 3 = .ok (.invokevirtual 35, 3) := by decide +kernel
theorem dL_takeBack_6 : decode cL_takeBack 6 = .ok (.ireturn, 1) := by decide +kernel
theorem dL_takeBack_7 : decode cL_takeBack 7 = .ok (.astore_n 3, 1) := by decide +kernel
theorem dL_takeBack_8 : decode cL_takeBack 8 = .ok (.ldc 16, 2) := by decide +kernel
theorem dL_takeBack_10 : decode cL_takeBack 10 = .ok (.ireturn, 1) := by decide +kernel
theorem dL_seal_0 : decode cL_seal 0 = .ok (.aload_n 0, 1) := by decide +kernel
theorem dL_seal_1 : decode cL_seal 1 = .ok (.iload_n 1, 1) := by decide +kernel
theorem dL_seal_2 : decode cL_seal 2 = .ok (.iload_n 2, 1) := by decide +kernel
theorem dL_seal_3 : decode cL_seal 3 = .ok (.invokevirtual 38, 3) := by decide +kernel
theorem dL_seal_6 : decode cL_seal 6 = .ok (.iconst 0, 1) := by decide +kernel
theorem dL_seal_7 : decode cL_seal 7 = .ok (.ireturn, 1) := by decide +kernel
theorem dL_seal_8 : decode cL_seal 8 = .ok (.astore_n 3, 1) := by decide +kernel
theorem dL_seal_9 : decode cL_seal 9 = .ok (.ldc 16, 2) := by decide +kernel
theorem dL_seal_11 : decode cL_seal 11 = .ok (.ireturn, 1) := by decide +kernel
theorem dL_seal_12 : decode cL_seal 12 = .ok (.astore_n 3, 1) := by decide +kernel
theorem dL_seal_13 : decode cL_seal 13 = .ok (.ldc 16, 2) := by decide +kernel
theorem dL_seal_15 : decode cL_seal 15 = .ok (.ireturn, 1) := by decide +kernel
theorem dL_pass_0 : decode cL_pass 0 = .ok (.aload_n 0, 1) := by decide +kernel
theorem dL_pass_1 : decode cL_pass 1 = .ok (.iload_n 1, 1) := by decide +kernel
theorem dL_pass_2 : decode cL_pass 2 = .ok (.invokevirtual 42, 3) := by decide +kernel
theorem dL_pass_5 : decode cL_pass 5 = .ok (.ireturn, 1) := by decide +kernel
theorem dL_pass_6 : decode cL_pass 6 = .ok (.astore_n 2, 1) := by decide +kernel
theorem dL_pass_7 : decode cL_pass 7 = .ok (.ldc 16, 2) := by decide +kernel
theorem dL_pass_9 : decode cL_pass 9 = .ok (.ireturn, 1) := by decide +kernel
theorem dL_pass_10 : decode cL_pass 10 = .ok (.astore_n 2, 1) := by decide +kernel
theorem dL_pass_11 : decode cL_pass 11 = .ok (.ldc 16, 2) := by decide +kernel
theorem dL_pass_13 : decode cL_pass 13 = .ok (.ireturn, 1) := by decide +kernel
theorem dL_ask_0 : decode cL_ask 0 = .ok (.aload_n 0, 1) := by decide +kernel
theorem dL_ask_1 : decode cL_ask 1 = .ok (.iload_n 1, 1) := by decide +kernel
theorem dL_ask_2 : decode cL_ask 2 = .ok (.iload_n 2, 1) := by decide +kernel
theorem dL_ask_3 : decode cL_ask 3 = .ok (.iload_n 3, 1) := by decide +kernel
theorem dL_ask_4 : decode cL_ask 4 = .ok (.invokevirtual 45, 3) := by decide +kernel
theorem dL_ask_7 : decode cL_ask 7 = .ok (.ireturn, 1) := by decide +kernel
theorem dL_ask_8 : decode cL_ask 8 = .ok (.astore 4, 2) := by decide +kernel
theorem dL_ask_10 : decode cL_ask 10 = .ok (.ldc 16, 2) := by decide +kernel
theorem dL_ask_12 : decode cL_ask 12 = .ok (.ireturn, 1) := by decide +kernel
theorem dL_ask_13 : decode cL_ask 13 = .ok (.astore 4, 2) := by decide +kernel
theorem dL_ask_15 : decode cL_ask 15 = .ok (.ldc 16, 2) := by decide +kernel
theorem dL_ask_17 : decode cL_ask 17 = .ok (.ireturn, 1) := by decide +kernel
theorem dL_ask_18 : decode cL_ask 18 = .ok (.astore 4, 2) := by decide +kernel
theorem dL_ask_20 : decode cL_ask 20 = .ok (.ldc 16, 2) := by decide +kernel
theorem dL_ask_22 : decode cL_ask 22 = .ok (.ireturn, 1) := by decide +kernel
theorem dL_cost_0 : decode cL_cost 0 = .ok (.aload_n 0, 1) := by decide +kernel
theorem dL_cost_1 : decode cL_cost 1 = .ok (.iload_n 1, 1) := by decide +kernel
theorem dL_cost_2 : decode cL_cost 2 = .ok (.iload_n 2, 1) := by decide +kernel
theorem dL_cost_3 : decode cL_cost 3 = .ok (.iload_n 3, 1) := by decide +kernel
theorem dL_cost_4 : decode cL_cost 4 = .ok (.invokevirtual 49, 3) := by decide +kernel
theorem dL_cost_7 : decode cL_cost 7 = .ok (.ireturn, 1) := by decide +kernel
theorem dL_cost_8 : decode cL_cost 8 = .ok (.astore 4, 2) := by decide +kernel
theorem dL_cost_10 : decode cL_cost 10 = .ok (.ldc 16, 2) := by decide +kernel
theorem dL_cost_12 : decode cL_cost 12 = .ok (.ireturn, 1) := by decide +kernel
theorem dL_cost_13 : decode cL_cost 13 = .ok (.astore 4, 2) := by decide +kernel
theorem dL_cost_15 : decode cL_cost 15 = .ok (.ldc 16, 2) := by decide +kernel
theorem dL_cost_17 : decode cL_cost 17 = .ok (.ireturn, 1) := by decide +kernel
theorem dL_answer_0 : decode cL_answer 0 = .ok (.aload_n 0, 1) := by decide +kernel
theorem dL_answer_1 : decode cL_answer 1 = .ok (.iload_n 1, 1) := by decide +kernel
theorem dL_answer_2 : decode cL_answer 2 = .ok (.iload_n 2, 1) := by decide +kernel
theorem dL_answer_3 : decode cL_answer 3 = .ok (.invokevirtual 52, 3) := by decide +kernel
theorem dL_answer_6 : decode cL_answer 6 = .ok (.ireturn, 1) := by decide +kernel
theorem dL_answer_7 : decode cL_answer 7 = .ok (.astore_n 3, 1) := by decide +kernel
theorem dL_answer_8 : decode cL_answer 8 = .ok (.ldc 16, 2) := by decide +kernel
theorem dL_answer_10 : decode cL_answer 10 = .ok (.ireturn, 1) := by decide +kernel
theorem dL_answer_11 : decode cL_answer 11 = .ok (.astore_n 3, 1) := by decide +kernel
theorem dL_answer_12 : decode cL_answer 12 = .ok (.ldc 16, 2) := by decide +kernel
theorem dL_answer_14 : decode cL_answer 14 = .ok (.ireturn, 1) := by decide +kernel
theorem dL_spent_0 : decode cL_spent 0 = .ok (.aload_n 0, 1) := by decide +kernel
theorem dL_spent_1 : decode cL_spent 1 = .ok (.iload_n 1, 1) := by decide +kernel
theorem dL_spent_2 : decode cL_spent 2 = .ok (.invokevirtual 55, 3) := by decide +kernel
theorem dL_spent_5 : decode cL_spent 5 = .ok (.ireturn, 1) := by decide +kernel
theorem dL_spent_6 : decode cL_spent 6 = .ok (.astore_n 2, 1) := by decide +kernel
theorem dL_spent_7 : decode cL_spent 7 = .ok (.ldc 16, 2) := by decide +kernel
theorem dL_spent_9 : decode cL_spent 9 = .ok (.ireturn, 1) := by decide +kernel
theorem dL_finds_0 : decode cL_finds 0 = .ok (.aload_n 0, 1) := by decide +kernel
theorem dL_finds_1 : decode cL_finds 1 = .ok (.iload_n 1, 1) := by decide +kernel
theorem dL_finds_2 : decode cL_finds 2 = .ok (.iload_n 2, 1) := by decide +kernel
theorem dL_finds_3 : decode cL_finds 3 = .ok (.invokevirtual 61, 3) := by decide +kernel
theorem dL_finds_6 : decode cL_finds 6 = .ok (.ireturn, 1) := by decide +kernel
theorem dL_finds_7 : decode cL_finds 7 = .ok (.astore_n 3, 1) := by decide +kernel
theorem dL_finds_8 : decode cL_finds 8 = .ok (.ldc 16, 2) := by decide +kernel
theorem dL_finds_10 : decode cL_finds 10 = .ok (.ireturn, 1) := by decide +kernel
theorem dL_together_0 : decode cL_together 0 = .ok (.aload_n 0, 1) := by decide +kernel
theorem dL_together_1 : decode cL_together 1 = .ok (.iload_n 1, 1) := by decide +kernel
theorem dL_together_2 : decode cL_together 2 = .ok (.iload_n 2, 1) := by decide +kernel
theorem dL_together_3 : decode cL_together 3 = .ok (.invokevirtual 64, 3) := by decide +kernel
theorem dL_together_6 : decode cL_together 6 = .ok (.ireturn, 1) := by decide +kernel
theorem dL_together_7 : decode cL_together 7 = .ok (.astore_n 3, 1) := by decide +kernel
theorem dL_together_8 : decode cL_together 8 = .ok (.ldc 16, 2) := by decide +kernel
theorem dL_together_10 : decode cL_together 10 = .ok (.ireturn, 1) := by decide +kernel
theorem dL_together_11 : decode cL_together 11 = .ok (.astore_n 3, 1) := by decide +kernel
theorem dL_together_12 : decode cL_together 12 = .ok (.ldc 16, 2) := by decide +kernel
theorem dL_together_14 : decode cL_together 14 = .ok (.ireturn, 1) := by decide +kernel
theorem dL_rightTo_0 : decode cL_rightTo 0 = .ok (.aload_n 0, 1) := by decide +kernel
theorem dL_rightTo_1 : decode cL_rightTo 1 = .ok (.iload_n 1, 1) := by decide +kernel
theorem dL_rightTo_2 : decode cL_rightTo 2 = .ok (.iload_n 2, 1) := by decide +kernel
theorem dL_rightTo_3 : decode cL_rightTo 3 = .ok (.invokevirtual 67, 3) := by decide +kernel
theorem dL_rightTo_6 : decode cL_rightTo 6 = .ok (.ireturn, 1) := by decide +kernel
theorem dL_rightTo_7 : decode cL_rightTo 7 = .ok (.astore_n 3, 1) := by decide +kernel
theorem dL_rightTo_8 : decode cL_rightTo 8 = .ok (.ldc 16, 2) := by decide +kernel
theorem dL_rightTo_10 : decode cL_rightTo 10 = .ok (.ireturn, 1) := by decide +kernel
theorem dL_isSealed_0 : decode cL_isSealed 0 = .ok (.aload_n 0, 1) := by decide +kernel
theorem dL_isSealed_1 : decode cL_isSealed 1 = .ok (.iload_n 1, 1) := by decide +kernel
theorem dL_isSealed_2 : decode cL_isSealed 2 = .ok (.invokevirtual 70, 3) := by decide +kernel
theorem dL_isSealed_5 : decode cL_isSealed 5 = .ok (.ifCond .eq 7, 3) := by decide +kernel
theorem dL_isSealed_8 : decode cL_isSealed 8 = .ok (.iconst 1, 1) := by decide +kernel
theorem dL_isSealed_9 : decode cL_isSealed 9 = .ok (.goto 4, 3) := by decide +kernel
theorem dL_isSealed_12 : decode cL_isSealed 12 = .ok (.iconst 0, 1) := by decide +kernel
theorem dL_isSealed_13 : decode cL_isSealed 13 = .ok (.ireturn, 1) := by decide +kernel
theorem dL_isSealed_14 : decode cL_isSealed 14 = .ok (.astore_n 2, 1) := by decide +kernel
theorem dL_isSealed_15 : decode cL_isSealed 15 = .ok (.ldc 16, 2) := by decide +kernel
theorem dL_isSealed_17 : decode cL_isSealed 17 = .ok (.ireturn, 1) := by decide +kernel
theorem dL_count_0 : decode cL_count 0 = .ok (.aload_n 0, 1) := by decide +kernel
theorem dL_count_1 : decode cL_count 1 = .ok (.iload_n 1, 1) := by decide +kernel
theorem dL_count_2 : decode cL_count 2 = .ok (.iload_n 2, 1) := by decide +kernel
theorem dL_count_3 : decode cL_count 3 = .ok (.invokevirtual 74, 3) := by decide +kernel
theorem dL_count_6 : decode cL_count 6 = .ok (.ireturn, 1) := by decide +kernel
theorem dL_count_7 : decode cL_count 7 = .ok (.astore_n 3, 1) := by decide +kernel
theorem dL_count_8 : decode cL_count 8 = .ok (.ldc 16, 2) := by decide +kernel
theorem dL_count_10 : decode cL_count 10 = .ok (.ireturn, 1) := by decide +kernel
theorem dL_count_11 : decode cL_count 11 = .ok (.astore_n 3, 1) := by decide +kernel
theorem dL_count_12 : decode cL_count 12 = .ok (.ldc 16, 2) := by decide +kernel
theorem dL_count_14 : decode cL_count 14 = .ok (.ireturn, 1) := by decide +kernel
theorem dL_act_0 : decode cL_act 0 = .ok (.iload_n 1, 1) := by decide +kernel
theorem dL_act_1 : decode cL_act 1 = .ok (.bipush 26, 2) := by decide +kernel
theorem dL_act_3 : decode cL_act 3 = .ok (.ishr, 1) := by decide +kernel
theorem dL_act_4 : decode cL_act 4 = .ok (.bipush 14, 2) := by decide +kernel
theorem dL_act_6 : decode cL_act 6 = .ok (.invokestatic 77, 3) := by decide +kernel
theorem dL_act_9 : decode cL_act 9 = .ok (.ifCond .ne 7, 3) := by decide +kernel
theorem dL_act_12 : decode cL_act 12 = .ok (.iconst 1, 1) := by decide +kernel
theorem dL_act_13 : decode cL_act 13 = .ok (.goto 4, 3) := by decide +kernel
theorem dL_act_16 : decode cL_act 16 = .ok (.iconst 0, 1) := by decide +kernel
theorem dL_act_17 : decode cL_act 17 = .ok (.istore_n 2, 1) := by decide +kernel
theorem dL_act_18 : decode cL_act 18 = .ok (.iload_n 2, 1) := by decide +kernel
theorem dL_act_19 : decode cL_act 19 = .ok (.ifCond .eq 16, 3) := by decide +kernel
theorem dL_act_22 : decode cL_act 22 = .ok (.iload_n 1, 1) := by decide +kernel
theorem dL_act_23 : decode cL_act 23 = .ok (.iconst 5, 1) := by decide +kernel
theorem dL_act_24 : decode cL_act 24 = .ok (.ishr, 1) := by decide +kernel
theorem dL_act_25 : decode cL_act 25 = .ok (.bipush 20, 2) := by decide +kernel
theorem dL_act_27 : decode cL_act 27 = .ok (.invokestatic 77, 3) := by decide +kernel
theorem dL_act_30 : decode cL_act 30 = .ok (.iconst 2, 1) := by decide +kernel
theorem dL_act_31 : decode cL_act 31 = .ok (.isub, 1) := by decide +kernel
theorem dL_act_32 : decode cL_act 32 = .ok (.goto 10, 3) := by decide +kernel
theorem dL_act_35 : decode cL_act 35 = .ok (.iload_n 1, 1) := by decide +kernel
theorem dL_act_36 : decode cL_act 36 = .ok (.iconst 5, 1) := by decide +kernel
theorem dL_act_37 : decode cL_act 37 = .ok (.ishr, 1) := by decide +kernel
theorem dL_act_38 : decode cL_act 38 = .ok (.iconst 5, 1) := by decide +kernel
theorem dL_act_39 : decode cL_act 39 = .ok (.invokestatic 77, 3) := by decide +kernel
theorem dL_act_42 : decode cL_act 42 = .ok (.istore_n 3, 1) := by decide +kernel
theorem dL_act_43 : decode cL_act 43 = .ok (.iload_n 2, 1) := by decide +kernel
theorem dL_act_44 : decode cL_act 44 = .ok (.ifCond .eq 17, 3) := by decide +kernel
theorem dL_act_47 : decode cL_act 47 = .ok (.iload_n 1, 1) := by decide +kernel
theorem dL_act_48 : decode cL_act 48 = .ok (.bipush 8, 2) := by decide +kernel
theorem dL_act_50 : decode cL_act 50 = .ok (.ishr, 1) := by decide +kernel
theorem dL_act_51 : decode cL_act 51 = .ok (.bipush 9, 2) := by decide +kernel
theorem dL_act_53 : decode cL_act 53 = .ok (.invokestatic 77, 3) := by decide +kernel
theorem dL_act_56 : decode cL_act 56 = .ok (.iconst 1, 1) := by decide +kernel
theorem dL_act_57 : decode cL_act 57 = .ok (.isub, 1) := by decide +kernel
theorem dL_act_58 : decode cL_act 58 = .ok (.goto 11, 3) := by decide +kernel
theorem dL_act_61 : decode cL_act 61 = .ok (.iload_n 1, 1) := by decide +kernel
theorem dL_act_62 : decode cL_act 62 = .ok (.bipush 8, 2) := by decide +kernel
theorem dL_act_64 : decode cL_act 64 = .ok (.ishr, 1) := by decide +kernel
theorem dL_act_65 : decode cL_act 65 = .ok (.iconst 3, 1) := by decide +kernel
theorem dL_act_66 : decode cL_act 66 = .ok (.invokestatic 77, 3) := by decide +kernel
theorem dL_act_69 : decode cL_act 69 = .ok (.istore 4, 2) := by decide +kernel
theorem dL_act_71 : decode cL_act 71 = .ok (.iload_n 2, 1) := by decide +kernel
theorem dL_act_72 : decode cL_act 72 = .ok (.ifCond .eq 17, 3) := by decide +kernel
theorem dL_act_75 : decode cL_act 75 = .ok (.iload_n 1, 1) := by decide +kernel
theorem dL_act_76 : decode cL_act 76 = .ok (.bipush 11, 2) := by decide +kernel
theorem dL_act_78 : decode cL_act 78 = .ok (.ishr, 1) := by decide +kernel
theorem dL_act_79 : decode cL_act 79 = .ok (.bipush 12, 2) := by decide +kernel
theorem dL_act_81 : decode cL_act 81 = .ok (.invokestatic 77, 3) := by decide +kernel
theorem dL_act_84 : decode cL_act 84 = .ok (.iconst 2, 1) := by decide +kernel
theorem dL_act_85 : decode cL_act 85 = .ok (.isub, 1) := by decide +kernel
theorem dL_act_86 : decode cL_act 86 = .ok (.goto 13, 3) := by decide +kernel
theorem dL_act_89 : decode cL_act 89 = .ok (.iload_n 1, 1) := by decide +kernel
theorem dL_act_90 : decode cL_act 90 = .ok (.bipush 11, 2) := by decide +kernel
theorem dL_act_92 : decode cL_act 92 = .ok (.ishr, 1) := by decide +kernel
theorem dL_act_93 : decode cL_act 93 = .ok (.iconst 4, 1) := by decide +kernel
theorem dL_act_94 : decode cL_act 94 = .ok (.invokestatic 77, 3) := by decide +kernel
theorem dL_act_97 : decode cL_act 97 = .ok (.iconst 1, 1) := by decide +kernel
theorem dL_act_98 : decode cL_act 98 = .ok (.isub, 1) := by decide +kernel
theorem dL_act_99 : decode cL_act 99 = .ok (.istore 5, 2) := by decide +kernel
theorem dL_act_101 : decode cL_act 101 = .ok (.iload_n 2, 1) := by decide +kernel
theorem dL_act_102 : decode cL_act 102 = .ok (.ifCond .eq 10, 3) := by decide +kernel
theorem dL_act_105 : decode cL_act 105 = .ok (.iload_n 1, 1) := by decide +kernel
theorem dL_act_106 : decode cL_act 106 = .ok (.bipush 9, 2) := by decide +kernel
theorem dL_act_108 : decode cL_act 108 = .ok (.ishr, 1) := by decide +kernel
theorem dL_act_109 : decode cL_act 109 = .ok (.goto 14, 3) := by decide +kernel
theorem dL_act_112 : decode cL_act 112 = .ok (.iconst 1, 1) := by decide +kernel
theorem dL_act_113 : decode cL_act 113 = .ok (.iload_n 1, 1) := by decide +kernel
theorem dL_act_114 : decode cL_act 114 = .ok (.bipush 9, 2) := by decide +kernel
theorem dL_act_116 : decode cL_act 116 = .ok (.ishr, 1) := by decide +kernel
theorem dL_act_117 : decode cL_act 117 = .ok (.bipush 31, 2) := by decide +kernel
theorem dL_act_119 : decode cL_act 119 = .ok (.invokestatic 77, 3) := by decide +kernel
theorem dL_act_122 : decode cL_act 122 = .ok (.iadd, 1) := by decide +kernel
theorem dL_act_123 : decode cL_act 123 = .ok (.istore 6, 2) := by decide +kernel
theorem dL_act_125 : decode cL_act 125 = .ok (.iload_n 2, 1) := by decide +kernel
theorem dL_act_126 : decode cL_act 126 = .ok (.ifCond .eq 9, 3) := by decide +kernel
theorem dL_act_129 : decode cL_act 129 = .ok (.iload_n 1, 1) := by decide +kernel
theorem dL_act_130 : decode cL_act 130 = .ok (.iconst 4, 1) := by decide +kernel
theorem dL_act_131 : decode cL_act 131 = .ok (.ishr, 1) := by decide +kernel
theorem dL_act_132 : decode cL_act 132 = .ok (.goto 11, 3) := by decide +kernel
theorem dL_act_135 : decode cL_act 135 = .ok (.iload_n 1, 1) := by decide +kernel
theorem dL_act_136 : decode cL_act 136 = .ok (.iconst 4, 1) := by decide +kernel
theorem dL_act_137 : decode cL_act 137 = .ok (.ishr, 1) := by decide +kernel
theorem dL_act_138 : decode cL_act 138 = .ok (.bipush 40, 2) := by decide +kernel
theorem dL_act_140 : decode cL_act 140 = .ok (.invokestatic 77, 3) := by decide +kernel
theorem dL_act_143 : decode cL_act 143 = .ok (.istore 7, 2) := by decide +kernel
theorem dL_act_145 : decode cL_act 145 = .ok (.iload_n 1, 1) := by decide +kernel
theorem dL_act_146 : decode cL_act 146 = .ok (.bipush 32, 2) := by decide +kernel
theorem dL_act_148 : decode cL_act 148 = .ok (.invokestatic 77, 3) := by decide +kernel
theorem dL_act_151 : decode cL_act 151 = .ok (.tableswitch 440 0 29 #[133, 133, 133, 157, 182, 182, 205, 230, 230, 230, 230, 230, 285, 293, 301, 325, 325, 325, 325, 325, 325, 325, 325, 336, 347, 387, 394, 402, 426, 434], 133) := by decide +kernel
theorem dL_act_284 : decode cL_act 284 = .ok (.aload_n 0, 1) := by decide +kernel
theorem dL_act_285 : decode cL_act 285 = .ok (.iload_n 2, 1) := by decide +kernel
theorem dL_act_286 : decode cL_act 286 = .ok (.ifCond .eq 8, 3) := by decide +kernel
theorem dL_act_289 : decode cL_act 289 = .ok (.iload 6, 2) := by decide +kernel
theorem dL_act_291 : decode cL_act 291 = .ok (.goto 13, 3) := by decide +kernel
theorem dL_act_294 : decode cL_act 294 = .ok (.iload_n 1, 1) := by decide +kernel
theorem dL_act_295 : decode cL_act 295 = .ok (.bipush 9, 2) := by decide +kernel
theorem dL_act_297 : decode cL_act 297 = .ok (.ishr, 1) := by decide +kernel
theorem dL_act_298 : decode cL_act 298 = .ok (.sipush 256, 3) := by decide +kernel
theorem dL_act_301 : decode cL_act 301 = .ok (.invokestatic 77, 3) := by decide +kernel
theorem dL_act_304 : decode cL_act 304 = .ok (.invokestatic 82, 3) := by decide +kernel
theorem dL_act_307 : decode cL_act 307 = .ok (.ireturn, 1) := by decide +kernel
theorem dL_act_308 : decode cL_act 308 = .ok (.aload_n 0, 1) := by decide +kernel
theorem dL_act_309 : decode cL_act 309 = .ok (.iload_n 3, 1) := by decide +kernel
theorem dL_act_310 : decode cL_act 310 = .ok (.iload_n 2, 1) := by decide +kernel
theorem dL_act_311 : decode cL_act 311 = .ok (.ifCond .eq 8, 3) := by decide +kernel
theorem dL_act_314 : decode cL_act 314 = .ok (.iload 6, 2) := by decide +kernel
theorem dL_act_316 : decode cL_act 316 = .ok (.goto 13, 3) := by decide +kernel
theorem dL_act_319 : decode cL_act 319 = .ok (.iload_n 1, 1) := by decide +kernel
theorem dL_act_320 : decode cL_act 320 = .ok (.bipush 9, 2) := by decide +kernel
theorem dL_act_322 : decode cL_act 322 = .ok (.ishr, 1) := by decide +kernel
theorem dL_act_323 : decode cL_act 323 = .ok (.sipush 256, 3) := by decide +kernel
theorem dL_act_326 : decode cL_act 326 = .ok (.invokestatic 77, 3) := by decide +kernel
theorem dL_act_329 : decode cL_act 329 = .ok (.invokestatic 85, 3) := by decide +kernel
theorem dL_act_332 : decode cL_act 332 = .ok (.ireturn, 1) := by decide +kernel
theorem dL_act_333 : decode cL_act 333 = .ok (.aload_n 0, 1) := by decide +kernel
theorem dL_act_334 : decode cL_act 334 = .ok (.iload_n 2, 1) := by decide +kernel
theorem dL_act_335 : decode cL_act 335 = .ok (.ifCond .eq 8, 3) := by decide +kernel
theorem dL_act_338 : decode cL_act 338 = .ok (.iload 6, 2) := by decide +kernel
theorem dL_act_340 : decode cL_act 340 = .ok (.goto 12, 3) := by decide +kernel
theorem dL_act_343 : decode cL_act 343 = .ok (.iload_n 1, 1) := by decide +kernel
theorem dL_act_344 : decode cL_act 344 = .ok (.bipush 9, 2) := by decide +kernel
theorem dL_act_346 : decode cL_act 346 = .ok (.ishr, 1) := by decide +kernel
theorem dL_act_347 : decode cL_act 347 = .ok (.bipush 60, 2) := by decide +kernel
theorem dL_act_349 : decode cL_act 349 = .ok (.invokestatic 77, 3) := by decide +kernel
theorem dL_act_352 : decode cL_act 352 = .ok (.invokestatic 88, 3) := by decide +kernel
theorem dL_act_355 : decode cL_act 355 = .ok (.ireturn, 1) := by decide +kernel
theorem dL_act_356 : decode cL_act 356 = .ok (.aload_n 0, 1) := by decide +kernel
theorem dL_act_357 : decode cL_act 357 = .ok (.iload 4, 2) := by decide +kernel
theorem dL_act_359 : decode cL_act 359 = .ok (.iload_n 2, 1) := by decide +kernel
theorem dL_act_360 : decode cL_act 360 = .ok (.ifCond .eq 8, 3) := by decide +kernel
theorem dL_act_363 : decode cL_act 363 = .ok (.iload 6, 2) := by decide +kernel
theorem dL_act_365 : decode cL_act 365 = .ok (.goto 12, 3) := by decide +kernel
theorem dL_act_368 : decode cL_act 368 = .ok (.iload_n 1, 1) := by decide +kernel
theorem dL_act_369 : decode cL_act 369 = .ok (.bipush 9, 2) := by decide +kernel
theorem dL_act_371 : decode cL_act 371 = .ok (.ishr, 1) := by decide +kernel
theorem dL_act_372 : decode cL_act 372 = .ok (.bipush 100, 2) := by decide +kernel
theorem dL_act_374 : decode cL_act 374 = .ok (.invokestatic 77, 3) := by decide +kernel
theorem dL_act_377 : decode cL_act 377 = .ok (.invokestatic 90, 3) := by decide +kernel
theorem dL_act_380 : decode cL_act 380 = .ok (.ireturn, 1) := by decide +kernel
theorem dL_act_381 : decode cL_act 381 = .ok (.aload_n 0, 1) := by decide +kernel
theorem dL_act_382 : decode cL_act 382 = .ok (.iload 4, 2) := by decide +kernel
theorem dL_act_384 : decode cL_act 384 = .ok (.iload_n 3, 1) := by decide +kernel
theorem dL_act_385 : decode cL_act 385 = .ok (.iload_n 2, 1) := by decide +kernel
theorem dL_act_386 : decode cL_act 386 = .ok (.ifCond .eq 8, 3) := by decide +kernel
theorem dL_act_389 : decode cL_act 389 = .ok (.iload 5, 2) := by decide +kernel
theorem dL_act_391 : decode cL_act 391 = .ok (.goto 13, 3) := by decide +kernel
theorem dL_act_394 : decode cL_act 394 = .ok (.iconst 1, 1) := by decide +kernel
theorem dL_act_395 : decode cL_act 395 = .ok (.iload_n 1, 1) := by decide +kernel
theorem dL_act_396 : decode cL_act 396 = .ok (.bipush 11, 2) := by decide +kernel
theorem dL_act_398 : decode cL_act 398 = .ok (.ishr, 1) := by decide +kernel
theorem dL_act_399 : decode cL_act 399 = .ok (.iconst 2, 1) := by decide +kernel
theorem dL_act_400 : decode cL_act 400 = .ok (.invokestatic 77, 3) := by decide +kernel
theorem dL_act_403 : decode cL_act 403 = .ok (.iadd, 1) := by decide +kernel
theorem dL_act_404 : decode cL_act 404 = .ok (.iload 7, 2) := by decide +kernel
theorem dL_act_406 : decode cL_act 406 = .ok (.iconst 4, 1) := by decide +kernel
theorem dL_act_407 : decode cL_act 407 = .ok (.idiv, 1) := by decide +kernel
theorem dL_act_408 : decode cL_act 408 = .ok (.iload_n 2, 1) := by decide +kernel
theorem dL_act_409 : decode cL_act 409 = .ok (.ifCond .eq 8, 3) := by decide +kernel
theorem dL_act_412 : decode cL_act 412 = .ok (.iload 7, 2) := by decide +kernel
theorem dL_act_414 : decode cL_act 414 = .ok (.goto 18, 3) := by decide +kernel
theorem dL_act_417 : decode cL_act 417 = .ok (.iload 7, 2) := by decide +kernel
theorem dL_act_419 : decode cL_act 419 = .ok (.iconst 4, 1) := by decide +kernel
theorem dL_act_420 : decode cL_act 420 = .ok (.idiv, 1) := by decide +kernel
theorem dL_act_421 : decode cL_act 421 = .ok (.iload_n 1, 1) := by decide +kernel
theorem dL_act_422 : decode cL_act 422 = .ok (.bipush 9, 2) := by decide +kernel
theorem dL_act_424 : decode cL_act 424 = .ok (.ishr, 1) := by decide +kernel
theorem dL_act_425 : decode cL_act 425 = .ok (.sipush 200, 3) := by decide +kernel
theorem dL_act_428 : decode cL_act 428 = .ok (.invokestatic 77, 3) := by decide +kernel
theorem dL_act_431 : decode cL_act 431 = .ok (.iadd, 1) := by decide +kernel
theorem dL_act_432 : decode cL_act 432 = .ok (.invokestatic 92, 3) := by decide +kernel
theorem dL_act_435 : decode cL_act 435 = .ok (.ireturn, 1) := by decide +kernel
theorem dL_act_436 : decode cL_act 436 = .ok (.aload_n 0, 1) := by decide +kernel
theorem dL_act_437 : decode cL_act 437 = .ok (.iload 4, 2) := by decide +kernel
theorem dL_act_439 : decode cL_act 439 = .ok (.iload_n 3, 1) := by decide +kernel
theorem dL_act_440 : decode cL_act 440 = .ok (.invokestatic 95, 3) := by decide +kernel
theorem dL_act_443 : decode cL_act 443 = .ok (.ireturn, 1) := by decide +kernel
theorem dL_act_444 : decode cL_act 444 = .ok (.aload_n 0, 1) := by decide +kernel
theorem dL_act_445 : decode cL_act 445 = .ok (.iload_n 3, 1) := by decide +kernel
theorem dL_act_446 : decode cL_act 446 = .ok (.iload 7, 2) := by decide +kernel
theorem dL_act_448 : decode cL_act 448 = .ok (.invokestatic 97, 3) := by decide +kernel
theorem dL_act_451 : decode cL_act 451 = .ok (.ireturn, 1) := by decide +kernel
theorem dL_act_452 : decode cL_act 452 = .ok (.aload_n 0, 1) := by decide +kernel
theorem dL_act_453 : decode cL_act 453 = .ok (.iload_n 2, 1) := by decide +kernel
theorem dL_act_454 : decode cL_act 454 = .ok (.ifCond .eq 8, 3) := by decide +kernel
theorem dL_act_457 : decode cL_act 457 = .ok (.iload 7, 2) := by decide +kernel
theorem dL_act_459 : decode cL_act 459 = .ok (.goto 13, 3) := by decide +kernel
theorem dL_act_462 : decode cL_act 462 = .ok (.iconst 1, 1) := by decide +kernel
theorem dL_act_463 : decode cL_act 463 = .ok (.iload_n 1, 1) := by decide +kernel
theorem dL_act_464 : decode cL_act 464 = .ok (.bipush 9, 2) := by decide +kernel
theorem dL_act_466 : decode cL_act 466 = .ok (.ishr, 1) := by decide +kernel
theorem dL_act_467 : decode cL_act 467 = .ok (.iconst 5, 1) := by decide +kernel
theorem dL_act_468 : decode cL_act 468 = .ok (.invokestatic 77, 3) := by decide +kernel
theorem dL_act_471 : decode cL_act 471 = .ok (.iadd, 1) := by decide +kernel
theorem dL_act_472 : decode cL_act 472 = .ok (.invokestatic 99, 3) := by decide +kernel
theorem dL_act_475 : decode cL_act 475 = .ok (.ireturn, 1) := by decide +kernel
theorem dL_act_476 : decode cL_act 476 = .ok (.aload_n 0, 1) := by decide +kernel
theorem dL_act_477 : decode cL_act 477 = .ok (.iload 4, 2) := by decide +kernel
theorem dL_act_479 : decode cL_act 479 = .ok (.iload 6, 2) := by decide +kernel
theorem dL_act_481 : decode cL_act 481 = .ok (.iload 5, 2) := by decide +kernel
theorem dL_act_483 : decode cL_act 483 = .ok (.invokestatic 101, 3) := by decide +kernel
theorem dL_act_486 : decode cL_act 486 = .ok (.ireturn, 1) := by decide +kernel
theorem dL_act_487 : decode cL_act 487 = .ok (.aload_n 0, 1) := by decide +kernel
theorem dL_act_488 : decode cL_act 488 = .ok (.iload 4, 2) := by decide +kernel
theorem dL_act_490 : decode cL_act 490 = .ok (.iload 6, 2) := by decide +kernel
theorem dL_act_492 : decode cL_act 492 = .ok (.iload 5, 2) := by decide +kernel
theorem dL_act_494 : decode cL_act 494 = .ok (.invokestatic 104, 3) := by decide +kernel
theorem dL_act_497 : decode cL_act 497 = .ok (.ireturn, 1) := by decide +kernel
theorem dL_act_498 : decode cL_act 498 = .ok (.aload_n 0, 1) := by decide +kernel
theorem dL_act_499 : decode cL_act 499 = .ok (.iload_n 2, 1) := by decide +kernel
theorem dL_act_500 : decode cL_act 500 = .ok (.ifCond .eq 8, 3) := by decide +kernel
theorem dL_act_503 : decode cL_act 503 = .ok (.iload 7, 2) := by decide +kernel
theorem dL_act_505 : decode cL_act 505 = .ok (.goto 11, 3) := by decide +kernel
theorem dL_act_508 : decode cL_act 508 = .ok (.iload_n 1, 1) := by decide +kernel
theorem dL_act_509 : decode cL_act 509 = .ok (.iconst 4, 1) := by decide +kernel
theorem dL_act_510 : decode cL_act 510 = .ok (.ishr, 1) := by decide +kernel
theorem dL_act_511 : decode cL_act 511 = .ok (.bipush 12, 2) := by decide +kernel
theorem dL_act_513 : decode cL_act 513 = .ok (.invokestatic 77, 3) := by decide +kernel
theorem dL_act_516 : decode cL_act 516 = .ok (.iload_n 2, 1) := by decide +kernel
theorem dL_act_517 : decode cL_act 517 = .ok (.ifCond .eq 8, 3) := by decide +kernel
theorem dL_act_520 : decode cL_act 520 = .ok (.iload 5, 2) := by decide +kernel
theorem dL_act_522 : decode cL_act 522 = .ok (.goto 12, 3) := by decide +kernel
theorem dL_act_525 : decode cL_act 525 = .ok (.iload_n 1, 1) := by decide +kernel
theorem dL_act_526 : decode cL_act 526 = .ok (.bipush 11, 2) := by decide +kernel
theorem dL_act_528 : decode cL_act 528 = .ok (.ishr, 1) := by decide +kernel
theorem dL_act_529 : decode cL_act 529 = .ok (.bipush 6, 2) := by decide +kernel
theorem dL_act_531 : decode cL_act 531 = .ok (.invokestatic 77, 3) := by decide +kernel
theorem dL_act_534 : decode cL_act 534 = .ok (.invokestatic 106, 3) := by decide +kernel
theorem dL_act_537 : decode cL_act 537 = .ok (.ireturn, 1) := by decide +kernel
theorem dL_act_538 : decode cL_act 538 = .ok (.aload_n 0, 1) := by decide +kernel
theorem dL_act_539 : decode cL_act 539 = .ok (.iload 4, 2) := by decide +kernel
theorem dL_act_541 : decode cL_act 541 = .ok (.invokestatic 108, 3) := by decide +kernel
theorem dL_act_544 : decode cL_act 544 = .ok (.ireturn, 1) := by decide +kernel
theorem dL_act_545 : decode cL_act 545 = .ok (.aload_n 0, 1) := by decide +kernel
theorem dL_act_546 : decode cL_act 546 = .ok (.iload 4, 2) := by decide +kernel
theorem dL_act_548 : decode cL_act 548 = .ok (.iload_n 3, 1) := by decide +kernel
theorem dL_act_549 : decode cL_act 549 = .ok (.invokestatic 110, 3) := by decide +kernel
theorem dL_act_552 : decode cL_act 552 = .ok (.ireturn, 1) := by decide +kernel
theorem dL_act_553 : decode cL_act 553 = .ok (.aload_n 0, 1) := by decide +kernel
theorem dL_act_554 : decode cL_act 554 = .ok (.iload_n 2, 1) := by decide +kernel
theorem dL_act_555 : decode cL_act 555 = .ok (.ifCond .eq 8, 3) := by decide +kernel
theorem dL_act_558 : decode cL_act 558 = .ok (.iload 6, 2) := by decide +kernel
theorem dL_act_560 : decode cL_act 560 = .ok (.goto 12, 3) := by decide +kernel
theorem dL_act_563 : decode cL_act 563 = .ok (.iload_n 1, 1) := by decide +kernel
theorem dL_act_564 : decode cL_act 564 = .ok (.bipush 9, 2) := by decide +kernel
theorem dL_act_566 : decode cL_act 566 = .ok (.ishr, 1) := by decide +kernel
theorem dL_act_567 : decode cL_act 567 = .ok (.bipush 8, 2) := by decide +kernel
theorem dL_act_569 : decode cL_act 569 = .ok (.invokestatic 77, 3) := by decide +kernel
theorem dL_act_572 : decode cL_act 572 = .ok (.iload_n 3, 1) := by decide +kernel
theorem dL_act_573 : decode cL_act 573 = .ok (.invokestatic 112, 3) := by decide +kernel
theorem dL_act_576 : decode cL_act 576 = .ok (.ireturn, 1) := by decide +kernel
theorem dL_act_577 : decode cL_act 577 = .ok (.aload_n 0, 1) := by decide +kernel
theorem dL_act_578 : decode cL_act 578 = .ok (.iload 4, 2) := by decide +kernel
theorem dL_act_580 : decode cL_act 580 = .ok (.iload_n 3, 1) := by decide +kernel
theorem dL_act_581 : decode cL_act 581 = .ok (.invokestatic 114, 3) := by decide +kernel
theorem dL_act_584 : decode cL_act 584 = .ok (.ireturn, 1) := by decide +kernel
theorem dL_act_585 : decode cL_act 585 = .ok (.aload_n 0, 1) := by decide +kernel
theorem dL_act_586 : decode cL_act 586 = .ok (.iload_n 3, 1) := by decide +kernel
theorem dL_act_587 : decode cL_act 587 = .ok (.invokestatic 116, 3) := by decide +kernel
theorem dL_act_590 : decode cL_act 590 = .ok (.ireturn, 1) := by decide +kernel
theorem dL_act_591 : decode cL_act 591 = .ok (.aload_n 0, 1) := by decide +kernel
theorem dL_act_592 : decode cL_act 592 = .ok (.iload 4, 2) := by decide +kernel
theorem dL_act_594 : decode cL_act 594 = .ok (.iload_n 2, 1) := by decide +kernel
theorem dL_act_595 : decode cL_act 595 = .ok (.ifCond .eq 8, 3) := by decide +kernel
theorem dL_act_598 : decode cL_act 598 = .ok (.iload 7, 2) := by decide +kernel
theorem dL_act_600 : decode cL_act 600 = .ok (.goto 11, 3) := by decide +kernel
theorem dL_act_603 : decode cL_act 603 = .ok (.iload_n 1, 1) := by decide +kernel
theorem dL_act_604 : decode cL_act 604 = .ok (.iconst 4, 1) := by decide +kernel
theorem dL_act_605 : decode cL_act 605 = .ok (.ishr, 1) := by decide +kernel
theorem dL_act_606 : decode cL_act 606 = .ok (.bipush 6, 2) := by decide +kernel
theorem dL_act_608 : decode cL_act 608 = .ok (.invokestatic 77, 3) := by decide +kernel
theorem dL_act_611 : decode cL_act 611 = .ok (.invokestatic 118, 3) := by decide +kernel
theorem dL_act_614 : decode cL_act 614 = .ok (.ireturn, 1) := by decide +kernel
theorem dL_areAlike_0 : decode cL_areAlike 0 = .ok (.iconst 1, 1) := by decide +kernel
theorem dL_areAlike_1 : decode cL_areAlike 1 = .ok (.istore_n 3, 1) := by decide +kernel
theorem dL_areAlike_2 : decode cL_areAlike 2 = .ok (.iconst 0, 1) := by decide +kernel
theorem dL_areAlike_3 : decode cL_areAlike 3 = .ok (.istore 4, 2) := by decide +kernel
theorem dL_areAlike_5 : decode cL_areAlike 5 = .ok (.iload 4, 2) := by decide +kernel
theorem dL_areAlike_7 : decode cL_areAlike 7 = .ok (.iconst 4, 1) := by decide +kernel
theorem dL_areAlike_8 : decode cL_areAlike 8 = .ok (.if_icmp .ge 167, 3) := by decide +kernel
theorem dL_areAlike_11 : decode cL_areAlike 11 = .ok (.iload_n 3, 1) := by decide +kernel
theorem dL_areAlike_12 : decode cL_areAlike 12 = .ok (.ifCond .eq 163, 3) := by decide +kernel
theorem dL_areAlike_15 : decode cL_areAlike 15 = .ok (.aload_n 0, 1) := by decide +kernel
theorem dL_areAlike_16 : decode cL_areAlike 16 = .ok (.iload 4, 2) := by decide +kernel
theorem dL_areAlike_18 : decode cL_areAlike 18 = .ok (.invokestatic 108, 3) := by decide +kernel
theorem dL_areAlike_21 : decode cL_areAlike 21 = .ok (.aload_n 1, 1) := by decide +kernel
theorem dL_areAlike_22 : decode cL_areAlike 22 = .ok (.iload 4, 2) := by decide +kernel
theorem dL_areAlike_24 : decode cL_areAlike 24 = .ok (.invokestatic 108, 3) := by decide +kernel
theorem dL_areAlike_27 : decode cL_areAlike 27 = .ok (.if_icmp .ne 140, 3) := by decide +kernel
theorem dL_areAlike_30 : decode cL_areAlike 30 = .ok (.aload_n 0, 1) := by decide +kernel
theorem dL_areAlike_31 : decode cL_areAlike 31 = .ok (.iload 4, 2) := by decide +kernel
theorem dL_areAlike_33 : decode cL_areAlike 33 = .ok (.iload_n 2, 1) := by decide +kernel
theorem dL_areAlike_34 : decode cL_areAlike 34 = .ok (.iconst 5, 1) := by decide +kernel
theorem dL_areAlike_35 : decode cL_areAlike 35 = .ok (.invokestatic 77, 3) := by decide +kernel
theorem dL_areAlike_38 : decode cL_areAlike 38 = .ok (.invokestatic 110, 3) := by decide +kernel
theorem dL_areAlike_41 : decode cL_areAlike 41 = .ok (.aload_n 1, 1) := by decide +kernel
theorem dL_areAlike_42 : decode cL_areAlike 42 = .ok (.iload 4, 2) := by decide +kernel
theorem dL_areAlike_44 : decode cL_areAlike 44 = .ok (.iload_n 2, 1) := by decide +kernel
theorem dL_areAlike_45 : decode cL_areAlike 45 = .ok (.iconst 5, 1) := by decide +kernel
theorem dL_areAlike_46 : decode cL_areAlike 46 = .ok (.invokestatic 77, 3) := by decide +kernel
theorem dL_areAlike_49 : decode cL_areAlike 49 = .ok (.invokestatic 110, 3) := by decide +kernel
theorem dL_areAlike_52 : decode cL_areAlike 52 = .ok (.if_icmp .ne 115, 3) := by decide +kernel
theorem dL_areAlike_55 : decode cL_areAlike 55 = .ok (.aload_n 0, 1) := by decide +kernel
theorem dL_areAlike_56 : decode cL_areAlike 56 = .ok (.iload 4, 2) := by decide +kernel
theorem dL_areAlike_58 : decode cL_areAlike 58 = .ok (.iload_n 2, 1) := by decide +kernel
theorem dL_areAlike_59 : decode cL_areAlike 59 = .ok (.iconst 2, 1) := by decide +kernel
theorem dL_areAlike_60 : decode cL_areAlike 60 = .ok (.ishr, 1) := by decide +kernel
theorem dL_areAlike_61 : decode cL_areAlike 61 = .ok (.bipush 6, 2) := by decide +kernel
theorem dL_areAlike_63 : decode cL_areAlike 63 = .ok (.invokestatic 77, 3) := by decide +kernel
theorem dL_areAlike_66 : decode cL_areAlike 66 = .ok (.invokestatic 118, 3) := by decide +kernel
theorem dL_areAlike_69 : decode cL_areAlike 69 = .ok (.aload_n 1, 1) := by decide +kernel
theorem dL_areAlike_70 : decode cL_areAlike 70 = .ok (.iload 4, 2) := by decide +kernel
theorem dL_areAlike_72 : decode cL_areAlike 72 = .ok (.iload_n 2, 1) := by decide +kernel
theorem dL_areAlike_73 : decode cL_areAlike 73 = .ok (.iconst 2, 1) := by decide +kernel
theorem dL_areAlike_74 : decode cL_areAlike 74 = .ok (.ishr, 1) := by decide +kernel
theorem dL_areAlike_75 : decode cL_areAlike 75 = .ok (.bipush 6, 2) := by decide +kernel
theorem dL_areAlike_77 : decode cL_areAlike 77 = .ok (.invokestatic 77, 3) := by decide +kernel
theorem dL_areAlike_80 : decode cL_areAlike 80 = .ok (.invokestatic 118, 3) := by decide +kernel
theorem dL_areAlike_83 : decode cL_areAlike 83 = .ok (.if_icmp .ne 84, 3) := by decide +kernel
theorem dL_areAlike_86 : decode cL_areAlike 86 = .ok (.aload_n 0, 1) := by decide +kernel
theorem dL_areAlike_87 : decode cL_areAlike 87 = .ok (.iload 4, 2) := by decide +kernel
theorem dL_areAlike_89 : decode cL_areAlike 89 = .ok (.iload_n 2, 1) := by decide +kernel
theorem dL_areAlike_90 : decode cL_areAlike 90 = .ok (.iconst 4, 1) := by decide +kernel
theorem dL_areAlike_91 : decode cL_areAlike 91 = .ok (.ishr, 1) := by decide +kernel
theorem dL_areAlike_92 : decode cL_areAlike 92 = .ok (.iconst 5, 1) := by decide +kernel
theorem dL_areAlike_93 : decode cL_areAlike 93 = .ok (.invokestatic 77, 3) := by decide +kernel
theorem dL_areAlike_96 : decode cL_areAlike 96 = .ok (.invokestatic 114, 3) := by decide +kernel
theorem dL_areAlike_99 : decode cL_areAlike 99 = .ok (.aload_n 1, 1) := by decide +kernel
theorem dL_areAlike_100 : decode cL_areAlike 100 = .ok (.iload 4, 2) := by decide +kernel
theorem dL_areAlike_102 : decode cL_areAlike 102 = .ok (.iload_n 2, 1) := by decide +kernel
theorem dL_areAlike_103 : decode cL_areAlike 103 = .ok (.iconst 4, 1) := by decide +kernel
theorem dL_areAlike_104 : decode cL_areAlike 104 = .ok (.ishr, 1) := by decide +kernel
theorem dL_areAlike_105 : decode cL_areAlike 105 = .ok (.iconst 5, 1) := by decide +kernel
theorem dL_areAlike_106 : decode cL_areAlike 106 = .ok (.invokestatic 77, 3) := by decide +kernel
theorem dL_areAlike_109 : decode cL_areAlike 109 = .ok (.invokestatic 114, 3) := by decide +kernel
theorem dL_areAlike_112 : decode cL_areAlike 112 = .ok (.if_icmp .ne 55, 3) := by decide +kernel
theorem dL_areAlike_115 : decode cL_areAlike 115 = .ok (.aload_n 0, 1) := by decide +kernel
theorem dL_areAlike_116 : decode cL_areAlike 116 = .ok (.iload 4, 2) := by decide +kernel
theorem dL_areAlike_118 : decode cL_areAlike 118 = .ok (.invokestatic 116, 3) := by decide +kernel
theorem dL_areAlike_121 : decode cL_areAlike 121 = .ok (.aload_n 1, 1) := by decide +kernel
theorem dL_areAlike_122 : decode cL_areAlike 122 = .ok (.iload 4, 2) := by decide +kernel
theorem dL_areAlike_124 : decode cL_areAlike 124 = .ok (.invokestatic 116, 3) := by decide +kernel
theorem dL_areAlike_127 : decode cL_areAlike 127 = .ok (.if_icmp .ne 40, 3) := by decide +kernel
theorem dL_areAlike_130 : decode cL_areAlike 130 = .ok (.aload_n 0, 1) := by decide +kernel
theorem dL_areAlike_131 : decode cL_areAlike 131 = .ok (.iload 4, 2) := by decide +kernel
theorem dL_areAlike_133 : decode cL_areAlike 133 = .ok (.iload_n 2, 1) := by decide +kernel
theorem dL_areAlike_134 : decode cL_areAlike 134 = .ok (.bipush 6, 2) := by decide +kernel
theorem dL_areAlike_136 : decode cL_areAlike 136 = .ok (.ishr, 1) := by decide +kernel
theorem dL_areAlike_137 : decode cL_areAlike 137 = .ok (.bipush 6, 2) := by decide +kernel
theorem dL_areAlike_139 : decode cL_areAlike 139 = .ok (.invokestatic 77, 3) := by decide +kernel
theorem dL_areAlike_142 : decode cL_areAlike 142 = .ok (.invokestatic 106, 3) := by decide +kernel
theorem dL_areAlike_145 : decode cL_areAlike 145 = .ok (.aload_n 1, 1) := by decide +kernel
theorem dL_areAlike_146 : decode cL_areAlike 146 = .ok (.iload 4, 2) := by decide +kernel
theorem dL_areAlike_148 : decode cL_areAlike 148 = .ok (.iload_n 2, 1) := by decide +kernel
theorem dL_areAlike_149 : decode cL_areAlike 149 = .ok (.bipush 6, 2) := by decide +kernel
theorem dL_areAlike_151 : decode cL_areAlike 151 = .ok (.ishr, 1) := by decide +kernel
theorem dL_areAlike_152 : decode cL_areAlike 152 = .ok (.bipush 6, 2) := by decide +kernel
theorem dL_areAlike_154 : decode cL_areAlike 154 = .ok (.invokestatic 77, 3) := by decide +kernel
theorem dL_areAlike_157 : decode cL_areAlike 157 = .ok (.invokestatic 106, 3) := by decide +kernel
theorem dL_areAlike_160 : decode cL_areAlike 160 = .ok (.if_icmp .ne 7, 3) := by decide +kernel
theorem dL_areAlike_163 : decode cL_areAlike 163 = .ok (.iconst 1, 1) := by decide +kernel
theorem dL_areAlike_164 : decode cL_areAlike 164 = .ok (.goto 4, 3) := by decide +kernel
theorem dL_areAlike_167 : decode cL_areAlike 167 = .ok (.iconst 0, 1) := by decide +kernel
theorem dL_areAlike_168 : decode cL_areAlike 168 = .ok (.istore_n 3, 1) := by decide +kernel
theorem dL_areAlike_169 : decode cL_areAlike 169 = .ok (.iinc 4 1, 3) := by decide +kernel
theorem dL_areAlike_172 : decode cL_areAlike 172 = .ok (.goto (-167), 3) := by decide +kernel
theorem dL_areAlike_175 : decode cL_areAlike 175 = .ok (.iload_n 3, 1) := by decide +kernel
theorem dL_areAlike_176 : decode cL_areAlike 176 = .ok (.ireturn, 1) := by decide +kernel
theorem dL_isSo_0 : decode cL_isSo 0 = .ok (.iconst 1, 1) := by decide +kernel
theorem dL_isSo_1 : decode cL_isSo 1 = .ok (.istore_n 1, 1) := by decide +kernel
theorem dL_isSo_2 : decode cL_isSo 2 = .ok (.iconst 0, 1) := by decide +kernel
theorem dL_isSo_3 : decode cL_isSo 3 = .ok (.istore_n 2, 1) := by decide +kernel
theorem dL_isSo_4 : decode cL_isSo 4 = .ok (.iconst 0, 1) := by decide +kernel
theorem dL_isSo_5 : decode cL_isSo 5 = .ok (.istore_n 3, 1) := by decide +kernel
theorem dL_isSo_6 : decode cL_isSo 6 = .ok (.iconst 0, 1) := by decide +kernel
theorem dL_isSo_7 : decode cL_isSo 7 = .ok (.istore 4, 2) := by decide +kernel
theorem dL_isSo_9 : decode cL_isSo 9 = .ok (.iload 4, 2) := by decide +kernel
theorem dL_isSo_11 : decode cL_isSo 11 = .ok (.sipush 150, 3) := by decide +kernel
theorem dL_isSo_14 : decode cL_isSo 14 = .ok (.if_icmp .ge 140, 3) := by decide +kernel
theorem dL_isSo_17 : decode cL_isSo 17 = .ok (.iload_n 1, 1) := by decide +kernel
theorem dL_isSo_18 : decode cL_isSo 18 = .ok (.ifCond .eq 136, 3) := by decide +kernel
theorem dL_isSo_21 : decode cL_isSo 21 = .ok (.aload_n 0, 1) := by decide +kernel
theorem dL_isSo_22 : decode cL_isSo 22 = .ok (.iload 4, 2) := by decide +kernel
theorem dL_isSo_24 : decode cL_isSo 24 = .ok (.iconst 4, 1) := by decide +kernel
theorem dL_isSo_25 : decode cL_isSo 25 = .ok (.invokestatic 106, 3) := by decide +kernel
theorem dL_isSo_28 : decode cL_isSo 28 = .ok (.istore 5, 2) := by decide +kernel
theorem dL_isSo_30 : decode cL_isSo 30 = .ok (.iload_n 2, 1) := by decide +kernel
theorem dL_isSo_31 : decode cL_isSo 31 = .ok (.iload 5, 2) := by decide +kernel
theorem dL_isSo_33 : decode cL_isSo 33 = .ok (.ifCond .ne 7, 3) := by decide +kernel
theorem dL_isSo_36 : decode cL_isSo 36 = .ok (.iconst 1, 1) := by decide +kernel
theorem dL_isSo_37 : decode cL_isSo 37 = .ok (.goto 4, 3) := by decide +kernel
theorem dL_isSo_40 : decode cL_isSo 40 = .ok (.iconst 0, 1) := by decide +kernel
theorem dL_isSo_41 : decode cL_isSo 41 = .ok (.iadd, 1) := by decide +kernel
theorem dL_isSo_42 : decode cL_isSo 42 = .ok (.istore_n 2, 1) := by decide +kernel
theorem dL_isSo_43 : decode cL_isSo 43 = .ok (.iload 5, 2) := by decide +kernel
theorem dL_isSo_45 : decode cL_isSo 45 = .ok (.ldc 16, 2) := by decide +kernel
theorem dL_isSo_47 : decode cL_isSo 47 = .ok (.if_icmp .eq 95, 3) := by decide +kernel
theorem dL_isSo_50 : decode cL_isSo 50 = .ok (.iload 5, 2) := by decide +kernel
theorem dL_isSo_52 : decode cL_isSo 52 = .ok (.ifCond .lt 94, 3) := by decide +kernel
theorem dL_isSo_55 : decode cL_isSo 55 = .ok (.iload 5, 2) := by decide +kernel
theorem dL_isSo_57 : decode cL_isSo 57 = .ok (.iconst 1, 1) := by decide +kernel
theorem dL_isSo_58 : decode cL_isSo 58 = .ok (.if_icmp .gt 88, 3) := by decide +kernel
theorem dL_isSo_61 : decode cL_isSo 61 = .ok (.aload_n 0, 1) := by decide +kernel
theorem dL_isSo_62 : decode cL_isSo 62 = .ok (.iload 4, 2) := by decide +kernel
theorem dL_isSo_64 : decode cL_isSo 64 = .ok (.iconst 1, 1) := by decide +kernel
theorem dL_isSo_65 : decode cL_isSo 65 = .ok (.invokevirtual 52, 3) := by decide +kernel
theorem dL_isSo_68 : decode cL_isSo 68 = .ok (.ifCond .le 78, 3) := by decide +kernel
theorem dL_isSo_71 : decode cL_isSo 71 = .ok (.aload_n 0, 1) := by decide +kernel
theorem dL_isSo_72 : decode cL_isSo 72 = .ok (.iload 4, 2) := by decide +kernel
theorem dL_isSo_74 : decode cL_isSo 74 = .ok (.iconst 2, 1) := by decide +kernel
theorem dL_isSo_75 : decode cL_isSo 75 = .ok (.invokevirtual 52, 3) := by decide +kernel
theorem dL_isSo_78 : decode cL_isSo 78 = .ok (.ifCond .ge 19, 3) := by decide +kernel
theorem dL_isSo_81 : decode cL_isSo 81 = .ok (.aload_n 0, 1) := by decide +kernel
theorem dL_isSo_82 : decode cL_isSo 82 = .ok (.iload 4, 2) := by decide +kernel
theorem dL_isSo_84 : decode cL_isSo 84 = .ok (.iconst 3, 1) := by decide +kernel
theorem dL_isSo_85 : decode cL_isSo 85 = .ok (.invokevirtual 52, 3) := by decide +kernel
theorem dL_isSo_88 : decode cL_isSo 88 = .ok (.sipush 256, 3) := by decide +kernel
theorem dL_isSo_91 : decode cL_isSo 91 = .ok (.if_icmp .ge 55, 3) := by decide +kernel
theorem dL_isSo_94 : decode cL_isSo 94 = .ok (.goto 14, 3) := by decide +kernel
theorem dL_isSo_97 : decode cL_isSo 97 = .ok (.aload_n 0, 1) := by decide +kernel
theorem dL_isSo_98 : decode cL_isSo 98 = .ok (.iload 4, 2) := by decide +kernel
theorem dL_isSo_100 : decode cL_isSo 100 = .ok (.iconst 3, 1) := by decide +kernel
theorem dL_isSo_101 : decode cL_isSo 101 = .ok (.invokevirtual 52, 3) := by decide +kernel
theorem dL_isSo_104 : decode cL_isSo 104 = .ok (.iconst 2, 1) := by decide +kernel
theorem dL_isSo_105 : decode cL_isSo 105 = .ok (.if_icmp .ge 41, 3) := by decide +kernel
theorem dL_isSo_108 : decode cL_isSo 108 = .ok (.iload 5, 2) := by decide +kernel
theorem dL_isSo_110 : decode cL_isSo 110 = .ok (.iconst 1, 1) := by decide +kernel
theorem dL_isSo_111 : decode cL_isSo 111 = .ok (.if_icmp .eq 31, 3) := by decide +kernel
theorem dL_isSo_114 : decode cL_isSo 114 = .ok (.aload_n 0, 1) := by decide +kernel
theorem dL_isSo_115 : decode cL_isSo 115 = .ok (.aload_n 0, 1) := by decide +kernel
theorem dL_isSo_116 : decode cL_isSo 116 = .ok (.iload 4, 2) := by decide +kernel
theorem dL_isSo_118 : decode cL_isSo 118 = .ok (.iconst 0, 1) := by decide +kernel
theorem dL_isSo_119 : decode cL_isSo 119 = .ok (.invokevirtual 52, 3) := by decide +kernel
theorem dL_isSo_122 : decode cL_isSo 122 = .ok (.aload_n 0, 1) := by decide +kernel
theorem dL_isSo_123 : decode cL_isSo 123 = .ok (.iload 4, 2) := by decide +kernel
theorem dL_isSo_125 : decode cL_isSo 125 = .ok (.iconst 1, 1) := by decide +kernel
theorem dL_isSo_126 : decode cL_isSo 126 = .ok (.invokevirtual 52, 3) := by decide +kernel
theorem dL_isSo_129 : decode cL_isSo 129 = .ok (.aload_n 0, 1) := by decide +kernel
theorem dL_isSo_130 : decode cL_isSo 130 = .ok (.iload 4, 2) := by decide +kernel
theorem dL_isSo_132 : decode cL_isSo 132 = .ok (.iconst 2, 1) := by decide +kernel
theorem dL_isSo_133 : decode cL_isSo 133 = .ok (.invokevirtual 52, 3) := by decide +kernel
theorem dL_isSo_136 : decode cL_isSo 136 = .ok (.invokevirtual 49, 3) := by decide +kernel
theorem dL_isSo_139 : decode cL_isSo 139 = .ok (.ifCond .ne 7, 3) := by decide +kernel
theorem dL_isSo_142 : decode cL_isSo 142 = .ok (.iconst 1, 1) := by decide +kernel
theorem dL_isSo_143 : decode cL_isSo 143 = .ok (.goto 4, 3) := by decide +kernel
theorem dL_isSo_146 : decode cL_isSo 146 = .ok (.iconst 0, 1) := by decide +kernel
theorem dL_isSo_147 : decode cL_isSo 147 = .ok (.istore_n 1, 1) := by decide +kernel
theorem dL_isSo_148 : decode cL_isSo 148 = .ok (.iinc 4 1, 3) := by decide +kernel
theorem dL_isSo_151 : decode cL_isSo 151 = .ok (.goto (-142), 3) := by decide +kernel
theorem dL_isSo_154 : decode cL_isSo 154 = .ok (.iconst 0, 1) := by decide +kernel
theorem dL_isSo_155 : decode cL_isSo 155 = .ok (.istore 4, 2) := by decide +kernel
theorem dL_isSo_157 : decode cL_isSo 157 = .ok (.iload 4, 2) := by decide +kernel
theorem dL_isSo_159 : decode cL_isSo 159 = .ok (.bipush 6, 2) := by decide +kernel
theorem dL_isSo_161 : decode cL_isSo 161 = .ok (.if_icmp .ge 175, 3) := by decide +kernel
theorem dL_isSo_164 : decode cL_isSo 164 = .ok (.iload_n 1, 1) := by decide +kernel
theorem dL_isSo_165 : decode cL_isSo 165 = .ok (.ifCond .eq 171, 3) := by decide +kernel
theorem dL_isSo_168 : decode cL_isSo 168 = .ok (.aload_n 0, 1) := by decide +kernel
theorem dL_isSo_169 : decode cL_isSo 169 = .ok (.iload 4, 2) := by decide +kernel
theorem dL_isSo_171 : decode cL_isSo 171 = .ok (.invokestatic 108, 3) := by decide +kernel
theorem dL_isSo_174 : decode cL_isSo 174 = .ok (.istore 5, 2) := by decide +kernel
theorem dL_isSo_176 : decode cL_isSo 176 = .ok (.iload 5, 2) := by decide +kernel
theorem dL_isSo_178 : decode cL_isSo 178 = .ok (.ifCond .lt 152, 3) := by decide +kernel
theorem dL_isSo_181 : decode cL_isSo 181 = .ok (.iload_n 3, 1) := by decide +kernel
theorem dL_isSo_182 : decode cL_isSo 182 = .ok (.aload_n 0, 1) := by decide +kernel
theorem dL_isSo_183 : decode cL_isSo 183 = .ok (.iload 4, 2) := by decide +kernel
theorem dL_isSo_185 : decode cL_isSo 185 = .ok (.iconst 5, 1) := by decide +kernel
theorem dL_isSo_186 : decode cL_isSo 186 = .ok (.invokevirtual 74, 3) := by decide +kernel
theorem dL_isSo_189 : decode cL_isSo 189 = .ok (.iadd, 1) := by decide +kernel
theorem dL_isSo_190 : decode cL_isSo 190 = .ok (.istore_n 3, 1) := by decide +kernel
theorem dL_isSo_191 : decode cL_isSo 191 = .ok (.iload 5, 2) := by decide +kernel
theorem dL_isSo_193 : decode cL_isSo 193 = .ok (.aload_n 0, 1) := by decide +kernel
theorem dL_isSo_194 : decode cL_isSo 194 = .ok (.iload 4, 2) := by decide +kernel
theorem dL_isSo_196 : decode cL_isSo 196 = .ok (.invokevirtual 58, 3) := by decide +kernel
theorem dL_isSo_199 : decode cL_isSo 199 = .ok (.if_icmp .ne 32, 3) := by decide +kernel
theorem dL_isSo_202 : decode cL_isSo 202 = .ok (.iload 5, 2) := by decide +kernel
theorem dL_isSo_204 : decode cL_isSo 204 = .ok (.sipush 128, 3) := by decide +kernel
theorem dL_isSo_207 : decode cL_isSo 207 = .ok (.if_icmp .gt 24, 3) := by decide +kernel
theorem dL_isSo_210 : decode cL_isSo 210 = .ok (.aload_n 0, 1) := by decide +kernel
theorem dL_isSo_211 : decode cL_isSo 211 = .ok (.iload 4, 2) := by decide +kernel
theorem dL_isSo_213 : decode cL_isSo 213 = .ok (.iconst 5, 1) := by decide +kernel
theorem dL_isSo_214 : decode cL_isSo 214 = .ok (.invokevirtual 74, 3) := by decide +kernel
theorem dL_isSo_217 : decode cL_isSo 217 = .ok (.aload_n 0, 1) := by decide +kernel
theorem dL_isSo_218 : decode cL_isSo 218 = .ok (.iload 4, 2) := by decide +kernel
theorem dL_isSo_220 : decode cL_isSo 220 = .ok (.iconst 0, 1) := by decide +kernel
theorem dL_isSo_221 : decode cL_isSo 221 = .ok (.invokevirtual 74, 3) := by decide +kernel
theorem dL_isSo_224 : decode cL_isSo 224 = .ok (.if_icmp .gt 7, 3) := by decide +kernel
theorem dL_isSo_227 : decode cL_isSo 227 = .ok (.iconst 1, 1) := by decide +kernel
theorem dL_isSo_228 : decode cL_isSo 228 = .ok (.goto 4, 3) := by decide +kernel
theorem dL_isSo_231 : decode cL_isSo 231 = .ok (.iconst 0, 1) := by decide +kernel
theorem dL_isSo_232 : decode cL_isSo 232 = .ok (.istore_n 1, 1) := by decide +kernel
theorem dL_isSo_233 : decode cL_isSo 233 = .ok (.iconst 0, 1) := by decide +kernel
theorem dL_isSo_234 : decode cL_isSo 234 = .ok (.istore 6, 2) := by decide +kernel
theorem dL_isSo_236 : decode cL_isSo 236 = .ok (.iload 6, 2) := by decide +kernel
theorem dL_isSo_238 : decode cL_isSo 238 = .ok (.iconst 5, 1) := by decide +kernel
theorem dL_isSo_239 : decode cL_isSo 239 = .ok (.if_icmp .ge 91, 3) := by decide +kernel
theorem dL_isSo_242 : decode cL_isSo 242 = .ok (.iload_n 1, 1) := by decide +kernel
theorem dL_isSo_243 : decode cL_isSo 243 = .ok (.ifCond .eq 87, 3) := by decide +kernel
theorem dL_isSo_246 : decode cL_isSo 246 = .ok (.aload_n 0, 1) := by decide +kernel
theorem dL_isSo_247 : decode cL_isSo 247 = .ok (.iload 4, 2) := by decide +kernel
theorem dL_isSo_249 : decode cL_isSo 249 = .ok (.iload 6, 2) := by decide +kernel
theorem dL_isSo_251 : decode cL_isSo 251 = .ok (.invokestatic 110, 3) := by decide +kernel
theorem dL_isSo_254 : decode cL_isSo 254 = .ok (.istore 7, 2) := by decide +kernel
theorem dL_isSo_256 : decode cL_isSo 256 = .ok (.iload 7, 2) := by decide +kernel
theorem dL_isSo_258 : decode cL_isSo 258 = .ok (.ifCond .lt 60, 3) := by decide +kernel
theorem dL_isSo_261 : decode cL_isSo 261 = .ok (.iload 7, 2) := by decide +kernel
theorem dL_isSo_263 : decode cL_isSo 263 = .ok (.aload_n 0, 1) := by decide +kernel
theorem dL_isSo_264 : decode cL_isSo 264 = .ok (.iconst 1, 1) := by decide +kernel
theorem dL_isSo_265 : decode cL_isSo 265 = .ok (.iload 4, 2) := by decide +kernel
theorem dL_isSo_267 : decode cL_isSo 267 = .ok (.ishl, 1) := by decide +kernel
theorem dL_isSo_268 : decode cL_isSo 268 = .ok (.iload 6, 2) := by decide +kernel
theorem dL_isSo_270 : decode cL_isSo 270 = .ok (.invokevirtual 64, 3) := by decide +kernel
theorem dL_isSo_273 : decode cL_isSo 273 = .ok (.iconst (-1), 1) := by decide +kernel
theorem dL_isSo_274 : decode cL_isSo 274 = .ok (.ixor, 1) := by decide +kernel
theorem dL_isSo_275 : decode cL_isSo 275 = .ok (.iand, 1) := by decide +kernel
theorem dL_isSo_276 : decode cL_isSo 276 = .ok (.ifCond .ne 46, 3) := by decide +kernel
theorem dL_isSo_279 : decode cL_isSo 279 = .ok (.aload_n 0, 1) := by decide +kernel
theorem dL_isSo_280 : decode cL_isSo 280 = .ok (.iconst 1, 1) := by decide +kernel
theorem dL_isSo_281 : decode cL_isSo 281 = .ok (.iload 4, 2) := by decide +kernel
theorem dL_isSo_283 : decode cL_isSo 283 = .ok (.ishl, 1) := by decide +kernel
theorem dL_isSo_284 : decode cL_isSo 284 = .ok (.iload 6, 2) := by decide +kernel
theorem dL_isSo_286 : decode cL_isSo 286 = .ok (.invokevirtual 64, 3) := by decide +kernel
theorem dL_isSo_289 : decode cL_isSo 289 = .ok (.iload 7, 2) := by decide +kernel
theorem dL_isSo_291 : decode cL_isSo 291 = .ok (.if_icmp .ne 31, 3) := by decide +kernel
theorem dL_isSo_294 : decode cL_isSo 294 = .ok (.aload_n 0, 1) := by decide +kernel
theorem dL_isSo_295 : decode cL_isSo 295 = .ok (.iconst 0, 1) := by decide +kernel
theorem dL_isSo_296 : decode cL_isSo 296 = .ok (.iload 6, 2) := by decide +kernel
theorem dL_isSo_298 : decode cL_isSo 298 = .ok (.invokevirtual 64, 3) := by decide +kernel
theorem dL_isSo_301 : decode cL_isSo 301 = .ok (.ifCond .ne 21, 3) := by decide +kernel
theorem dL_isSo_304 : decode cL_isSo 304 = .ok (.aload_n 0, 1) := by decide +kernel
theorem dL_isSo_305 : decode cL_isSo 305 = .ok (.iload 4, 2) := by decide +kernel
theorem dL_isSo_307 : decode cL_isSo 307 = .ok (.iconst 1, 1) := by decide +kernel
theorem dL_isSo_308 : decode cL_isSo 308 = .ok (.iload 6, 2) := by decide +kernel
theorem dL_isSo_310 : decode cL_isSo 310 = .ok (.ishl, 1) := by decide +kernel
theorem dL_isSo_311 : decode cL_isSo 311 = .ok (.iconst (-1), 1) := by decide +kernel
theorem dL_isSo_312 : decode cL_isSo 312 = .ok (.invokevirtual 49, 3) := by decide +kernel
theorem dL_isSo_315 : decode cL_isSo 315 = .ok (.ifCond .lt 7, 3) := by decide +kernel
theorem dL_isSo_318 : decode cL_isSo 318 = .ok (.iconst 1, 1) := by decide +kernel
theorem dL_isSo_319 : decode cL_isSo 319 = .ok (.goto 4, 3) := by decide +kernel
theorem dL_isSo_322 : decode cL_isSo 322 = .ok (.iconst 0, 1) := by decide +kernel
theorem dL_isSo_323 : decode cL_isSo 323 = .ok (.istore_n 1, 1) := by decide +kernel
theorem dL_isSo_324 : decode cL_isSo 324 = .ok (.iinc 6 1, 3) := by decide +kernel
theorem dL_isSo_327 : decode cL_isSo 327 = .ok (.goto (-91), 3) := by decide +kernel
theorem dL_isSo_330 : decode cL_isSo 330 = .ok (.iinc 4 1, 3) := by decide +kernel
theorem dL_isSo_333 : decode cL_isSo 333 = .ok (.goto (-176), 3) := by decide +kernel
theorem dL_isSo_336 : decode cL_isSo 336 = .ok (.iload_n 1, 1) := by decide +kernel
theorem dL_isSo_337 : decode cL_isSo 337 = .ok (.ifCond .eq 34, 3) := by decide +kernel
theorem dL_isSo_340 : decode cL_isSo 340 = .ok (.iload_n 2, 1) := by decide +kernel
theorem dL_isSo_341 : decode cL_isSo 341 = .ok (.iload_n 3, 1) := by decide +kernel
theorem dL_isSo_342 : decode cL_isSo 342 = .ok (.if_icmp .ne 29, 3) := by decide +kernel
theorem dL_isSo_345 : decode cL_isSo 345 = .ok (.aload_n 0, 1) := by decide +kernel
theorem dL_isSo_346 : decode cL_isSo 346 = .ok (.bipush 6, 2) := by decide +kernel
theorem dL_isSo_348 : decode cL_isSo 348 = .ok (.invokestatic 108, 3) := by decide +kernel
theorem dL_isSo_351 : decode cL_isSo 351 = .ok (.ldc 16, 2) := by decide +kernel
theorem dL_isSo_353 : decode cL_isSo 353 = .ok (.if_icmp .ne 18, 3) := by decide +kernel
theorem dL_isSo_356 : decode cL_isSo 356 = .ok (.aload_n 0, 1) := by decide +kernel
theorem dL_isSo_357 : decode cL_isSo 357 = .ok (.iconst (-1), 1) := by decide +kernel
theorem dL_isSo_358 : decode cL_isSo 358 = .ok (.iconst 0, 1) := by decide +kernel
theorem dL_isSo_359 : decode cL_isSo 359 = .ok (.invokestatic 106, 3) := by decide +kernel
theorem dL_isSo_362 : decode cL_isSo 362 = .ok (.ldc 16, 2) := by decide +kernel
theorem dL_isSo_364 : decode cL_isSo 364 = .ok (.if_icmp .ne 7, 3) := by decide +kernel
theorem dL_isSo_367 : decode cL_isSo 367 = .ok (.iconst 1, 1) := by decide +kernel
theorem dL_isSo_368 : decode cL_isSo 368 = .ok (.goto 4, 3) := by decide +kernel
theorem dL_isSo_371 : decode cL_isSo 371 = .ok (.iconst 0, 1) := by decide +kernel
theorem dL_isSo_372 : decode cL_isSo 372 = .ok (.ireturn, 1) := by decide +kernel
