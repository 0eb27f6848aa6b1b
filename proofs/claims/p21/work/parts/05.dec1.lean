theorem dX0_init_0 : decode cX0_init 0 = .ok (.aload_n 0, 1) := by decide +kernel
theorem dX0_init_1 : decode cX0_init 1 = .ok (.invokespecial 1, 3) := by decide +kernel
theorem dX0_init_4 : decode cX0_init 4 = .ok (.aload_n 0, 1) := by decide +kernel
theorem dX0_init_5 : decode cX0_init 5 = .ok (.iload_n 1, 1) := by decide +kernel
theorem dX0_init_6 : decode cX0_init 6 = .ok (.putfield 7, 3) := by decide +kernel
theorem dX0_init_9 : decode cX0_init 9 = .ok (.aload_n 0, 1) := by decide +kernel
theorem dX0_init_10 : decode cX0_init 10 = .ok (.iload_n 2, 1) := by decide +kernel
theorem dX0_init_11 : decode cX0_init 11 = .ok (.putfield 13, 3) := by decide +kernel
theorem dX0_init_14 : decode cX0_init 14 = .ok (.aload_n 0, 1) := by decide +kernel
theorem dX0_init_15 : decode cX0_init 15 = .ok (.iload_n 3, 1) := by decide +kernel
theorem dX0_init_16 : decode cX0_init 16 = .ok (.putfield 16, 3) := by decide +kernel
theorem dX0_init_19 : decode cX0_init 19 = .ok (.aload_n 0, 1) := by decide +kernel
theorem dX0_init_20 : decode cX0_init 20 = .ok (.iload 4, 2) := by decide +kernel
theorem dX0_init_22 : decode cX0_init 22 = .ok (.putfield 19, 3) := by decide +kernel
theorem dX0_init_25 : decode cX0_init 25 = .ok (.aload_n 0, 1) := by decide +kernel
theorem dX0_init_26 : decode cX0_init 26 = .ok (.iload 5, 2) := by decide +kernel
theorem dX0_init_28 : decode cX0_init 28 = .ok (.putfield 22, 3) := by decide +kernel
theorem dX0_init_31 : decode cX0_init 31 = .ok (.return_, 1) := by decide +kernel
theorem dX0_standsFor_0 : decode cX0_standsFor 0 = .ok (.aload_n 0, 1) := by decide +kernel
theorem dX0_standsFor_1 : decode cX0_standsFor 1 = .ok (.getfield 25, 3) := by decide +kernel
theorem dX0_standsFor_4 : decode cX0_standsFor 4 = .ok (.ifCond .ne 18, 3) := by decide +kernel
theorem dX0_standsFor_7 : decode cX0_standsFor 7 = .ok (.aload_n 0, 1) := by decide +kernel
theorem dX0_standsFor_8 : decode cX0_standsFor 8 = .ok (.getfield 7, 3) := by decide +kernel
theorem dX0_standsFor_11 : decode cX0_standsFor 11 = .ok (.aload_n 1, 1) := by decide +kernel
theorem dX0_standsFor_12 : decode cX0_standsFor 12 = .ok (.getfield 29, 3) := by decide +kernel
theorem dX0_standsFor_15 : decode cX0_standsFor 15 = .ok (.if_icmp .ne 7, 3) := by decide +kernel
theorem dX0_standsFor_18 : decode cX0_standsFor 18 = .ok (.iconst 1, 1) := by decide +kernel
theorem dX0_standsFor_19 : decode cX0_standsFor 19 = .ok (.goto 4, 3) := by decide +kernel
theorem dX0_standsFor_22 : decode cX0_standsFor 22 = .ok (.iconst 0, 1) := by decide +kernel
theorem dX0_standsFor_23 : decode cX0_standsFor 23 = .ok (.ireturn, 1) := by decide +kernel
theorem dX0_tell_0 : decode cX0_tell 0 = .ok (.iload_n 1, 1) := by decide +kernel
theorem dX0_tell_1 : decode cX0_tell 1 = .ok (.tableswitch 68 0 4 #[35, 40, 45, 50, 55], 35) := by decide +kernel
theorem dX0_tell_36 : decode cX0_tell 36 = .ok (.aload_n 0, 1) := by decide +kernel
theorem dX0_tell_37 : decode cX0_tell 37 = .ok (.getfield 7, 3) := by decide +kernel
theorem dX0_tell_40 : decode cX0_tell 40 = .ok (.ireturn, 1) := by decide +kernel
theorem dX0_tell_41 : decode cX0_tell 41 = .ok (.aload_n 0, 1) := by decide +kernel
theorem dX0_tell_42 : decode cX0_tell 42 = .ok (.getfield 13, 3) := by decide +kernel
theorem dX0_tell_45 : decode cX0_tell 45 = .ok (.ireturn, 1) := by decide +kernel
theorem dX0_tell_46 : decode cX0_tell 46 = .ok (.aload_n 0, 1) := by decide +kernel
theorem dX0_tell_47 : decode cX0_tell 47 = .ok (.getfield 16, 3) := by decide +kernel
theorem dX0_tell_50 : decode cX0_tell 50 = .ok (.ireturn, 1) := by decide +kernel
theorem dX0_tell_51 : decode cX0_tell 51 = .ok (.aload_n 0, 1) := by decide +kernel
theorem dX0_tell_52 : decode cX0_tell 52 = .ok (.getfield 19, 3) := by decide +kernel
theorem dX0_tell_55 : decode cX0_tell 55 = .ok (.ireturn, 1) := by decide +kernel
theorem dX0_tell_56 : decode cX0_tell 56 = .ok (.aload_n 0, 1) := by decide +kernel
theorem dX0_tell_57 : decode cX0_tell 57 = .ok (.getfield 25, 3) := by decide +kernel
theorem dX0_tell_60 : decode cX0_tell 60 = .ok (.ifCond .eq 7, 3) := by decide +kernel
theorem dX0_tell_63 : decode cX0_tell 63 = .ok (.iconst 1, 1) := by decide +kernel
theorem dX0_tell_64 : decode cX0_tell 64 = .ok (.goto 4, 3) := by decide +kernel
theorem dX0_tell_67 : decode cX0_tell 67 = .ok (.iconst 0, 1) := by decide +kernel
theorem dX0_tell_68 : decode cX0_tell 68 = .ok (.ireturn, 1) := by decide +kernel
theorem dX0_tell_69 : decode cX0_tell 69 = .ok (.aload_n 0, 1) := by decide +kernel
theorem dX0_tell_70 : decode cX0_tell 70 = .ok (.getfield 22, 3) := by decide +kernel
theorem dX0_tell_73 : decode cX0_tell 73 = .ok (.ireturn, 1) := by decide +kernel
theorem dX1_init_0 : decode cX1_init 0 = .ok (.aload_n 0, 1) := by decide +kernel
theorem dX1_init_1 : decode cX1_init 1 = .ok (.invokespecial 3, 3) := by decide +kernel
theorem dX1_init_4 : decode cX1_init 4 = .ok (.aload_n 0, 1) := by decide +kernel
theorem dX1_init_5 : decode cX1_init 5 = .ok (.iconst (-1), 1) := by decide +kernel
theorem dX1_init_6 : decode cX1_init 6 = .ok (.putfield 9, 3) := by decide +kernel
theorem dX1_init_9 : decode cX1_init 9 = .ok (.aload_n 0, 1) := by decide +kernel
theorem dX1_init_10 : decode cX1_init 10 = .ok (.iload_n 1, 1) := by decide +kernel
theorem dX1_init_11 : decode cX1_init 11 = .ok (.putfield 15, 3) := by decide +kernel
theorem dX1_init_14 : decode cX1_init 14 = .ok (.return_, 1) := by decide +kernel
theorem dX1_isClosedIn_0 : decode cX1_isClosedIn 0 = .ok (.iload_n 1, 1) := by decide +kernel
theorem dX1_isClosedIn_1 : decode cX1_isClosedIn 1 = .ok (.aload_n 0, 1) := by decide +kernel
theorem dX1_isClosedIn_2 : decode cX1_isClosedIn 2 = .ok (.getfield 9, 3) := by decide +kernel
theorem dX1_isClosedIn_5 : decode cX1_isClosedIn 5 = .ok (.if_icmp .gt 7, 3) := by decide +kernel
theorem dX1_isClosedIn_8 : decode cX1_isClosedIn 8 = .ok (.iconst 1, 1) := by decide +kernel
theorem dX1_isClosedIn_9 : decode cX1_isClosedIn 9 = .ok (.goto 4, 3) := by decide +kernel
theorem dX1_isClosedIn_12 : decode cX1_isClosedIn 12 = .ok (.iconst 0, 1) := by decide +kernel
theorem dX1_isClosedIn_13 : decode cX1_isClosedIn 13 = .ok (.ireturn, 1) := by decide +kernel
theorem dX2_init_0 : decode cX2_init 0 = .ok (.aload_n 0, 1) := by decide +kernel
theorem dX2_init_1 : decode cX2_init 1 = .ok (.invokespecial 3, 3) := by decide +kernel
theorem dX2_init_4 : decode cX2_init 4 = .ok (.aload_n 0, 1) := by decide +kernel
theorem dX2_init_5 : decode cX2_init 5 = .ok (.bipush 16, 2) := by decide +kernel
theorem dX2_init_7 : decode cX2_init 7 = .ok (.newarray .int, 2) := by decide +kernel
theorem dX2_init_9 : decode cX2_init 9 = .ok (.putfield 9, 3) := by decide +kernel
theorem dX2_init_12 : decode cX2_init 12 = .ok (.return_, 1) := by decide +kernel
theorem dX2_forget_0 : decode cX2_forget 0 = .ok (.iconst 0, 1) := by decide +kernel
theorem dX2_forget_1 : decode cX2_forget 1 = .ok (.istore_n 1, 1) := by decide +kernel
theorem dX2_forget_2 : decode cX2_forget 2 = .ok (.iload_n 1, 1) := by decide +kernel
theorem dX2_forget_3 : decode cX2_forget 3 = .ok (.aload_n 0, 1) := by decide +kernel
theorem dX2_forget_4 : decode cX2_forget 4 = .ok (.getfield 9, 3) := by decide +kernel
theorem dX2_forget_7 : decode cX2_forget 7 = .ok (.arraylength, 1) := by decide +kernel
theorem dX2_forget_8 : decode cX2_forget 8 = .ok (.if_icmp .ge 16, 3) := by decide +kernel
theorem dX2_forget_11 : decode cX2_forget 11 = .ok (.aload_n 0, 1) := by decide +kernel
theorem dX2_forget_12 : decode cX2_forget 12 = .ok (.getfield 9, 3) := by decide +kernel
theorem dX2_forget_15 : decode cX2_forget 15 = .ok (.iload_n 1, 1) := by decide +kernel
theorem dX2_forget_16 : decode cX2_forget 16 = .ok (.iconst 0, 1) := by decide +kernel
theorem dX2_forget_17 : decode cX2_forget 17 = .ok (.iastore, 1) := by decide +kernel
theorem dX2_forget_18 : decode cX2_forget 18 = .ok (.iinc 1 1, 3) := by decide +kernel
theorem dX2_forget_21 : decode cX2_forget 21 = .ok (.goto (-19), 3) := by decide +kernel
theorem dX2_forget_24 : decode cX2_forget 24 = .ok (.aload_n 0, 1) := by decide +kernel
theorem dX2_forget_25 : decode cX2_forget 25 = .ok (.iconst 0, 1) := by decide +kernel
theorem dX2_forget_26 : decode cX2_forget 26 = .ok (.putfield 15, 3) := by decide +kernel
theorem dX2_forget_29 : decode cX2_forget 29 = .ok (.return_, 1) := by decide +kernel
theorem dX2_learn_0 : decode cX2_learn 0 = .ok (.iload_n 1, 1) := by decide +kernel
theorem dX2_learn_1 : decode cX2_learn 1 = .ok (.istore_n 2, 1) := by decide +kernel
theorem dX2_learn_2 : decode cX2_learn 2 = .ok (.aload_n 0, 1) := by decide +kernel
theorem dX2_learn_3 : decode cX2_learn 3 = .ok (.getfield 9, 3) := by decide +kernel
theorem dX2_learn_6 : decode cX2_learn 6 = .ok (.arraylength, 1) := by decide +kernel
theorem dX2_learn_7 : decode cX2_learn 7 = .ok (.iconst 1, 1) := by decide +kernel
theorem dX2_learn_8 : decode cX2_learn 8 = .ok (.isub, 1) := by decide +kernel
theorem dX2_learn_9 : decode cX2_learn 9 = .ok (.istore_n 3, 1) := by decide +kernel
theorem dX2_learn_10 : decode cX2_learn 10 = .ok (.iload_n 3, 1) := by decide +kernel
theorem dX2_learn_11 : decode cX2_learn 11 = .ok (.ifCond .lt 56, 3) := by decide +kernel
theorem dX2_learn_14 : decode cX2_learn 14 = .ok (.iload_n 2, 1) := by decide +kernel
theorem dX2_learn_15 : decode cX2_learn 15 = .ok (.iload_n 3, 1) := by decide +kernel
theorem dX2_learn_16 : decode cX2_learn 16 = .ok (.invokestatic 19, 3) := by decide +kernel
theorem dX2_learn_19 : decode cX2_learn 19 = .ok (.ifCond .ne 6, 3) := by decide +kernel
theorem dX2_learn_22 : decode cX2_learn 22 = .ok (.goto 39, 3) := by decide +kernel
theorem dX2_learn_25 : decode cX2_learn 25 = .ok (.aload_n 0, 1) := by decide +kernel
theorem dX2_learn_26 : decode cX2_learn 26 = .ok (.getfield 9, 3) := by decide +kernel
theorem dX2_learn_29 : decode cX2_learn 29 = .ok (.iload_n 3, 1) := by decide +kernel
theorem dX2_learn_30 : decode cX2_learn 30 = .ok (.iaload, 1) := by decide +kernel
theorem dX2_learn_31 : decode cX2_learn 31 = .ok (.ifCond .ne 21, 3) := by decide +kernel
theorem dX2_learn_34 : decode cX2_learn 34 = .ok (.aload_n 0, 1) := by decide +kernel
theorem dX2_learn_35 : decode cX2_learn 35 = .ok (.getfield 9, 3) := by decide +kernel
theorem dX2_learn_38 : decode cX2_learn 38 = .ok (.iload_n 3, 1) := by decide +kernel
theorem dX2_learn_39 : decode cX2_learn 39 = .ok (.iload_n 2, 1) := by decide +kernel
theorem dX2_learn_40 : decode cX2_learn 40 = .ok (.iastore, 1) := by decide +kernel
theorem dX2_learn_41 : decode cX2_learn 41 = .ok (.aload_n 0, 1) := by decide +kernel
theorem dX2_learn_42 : decode cX2_learn 42 = .ok (.dup, 1) := by decide +kernel
theorem dX2_learn_43 : decode cX2_learn 43 = .ok (.getfield 15, 3) := by decide +kernel
theorem dX2_learn_46 : decode cX2_learn 46 = .ok (.iconst 1, 1) := by decide +kernel
theorem dX2_learn_47 : decode cX2_learn 47 = .ok (.iadd, 1) := by decide +kernel
theorem dX2_learn_48 : decode cX2_learn 48 = .ok (.putfield 15, 3) := by decide +kernel
theorem dX2_learn_51 : decode cX2_learn 51 = .ok (.return_, 1) := by decide +kernel
theorem dX2_learn_52 : decode cX2_learn 52 = .ok (.iload_n 2, 1) := by decide +kernel
theorem dX2_learn_53 : decode cX2_learn 53 = .ok (.aload_n 0, 1) := by decide +kernel
theorem dX2_learn_54 : decode cX2_learn 54 = .ok (.getfield 9, 3) := by decide +kernel
theorem dX2_learn_57 : decode cX2_learn 57 = .ok (.iload_n 3, 1) := by decide +kernel
theorem dX2_learn_58 : decode cX2_learn 58 = .ok (.iaload, 1) := by decide +kernel
theorem dX2_learn_59 : decode cX2_learn 59 = .ok (.ixor, 1) := by decide +kernel
theorem dX2_learn_60 : decode cX2_learn 60 = .ok (.istore_n 2, 1) := by decide +kernel
theorem dX2_learn_61 : decode cX2_learn 61 = .ok (.iinc 3 (-1), 3) := by decide +kernel
theorem dX2_learn_64 : decode cX2_learn 64 = .ok (.goto (-54), 3) := by decide +kernel
theorem dX2_learn_67 : decode cX2_learn 67 = .ok (.return_, 1) := by decide +kernel
theorem dX2_learnFrom_0 : decode cX2_learnFrom 0 = .ok (.iconst 0, 1) := by decide +kernel
theorem dX2_learnFrom_1 : decode cX2_learnFrom 1 = .ok (.istore_n 2, 1) := by decide +kernel
theorem dX2_learnFrom_2 : decode cX2_learnFrom 2 = .ok (.iload_n 2, 1) := by decide +kernel
theorem dX2_learnFrom_3 : decode cX2_learnFrom 3 = .ok (.aload_n 1, 1) := by decide +kernel
theorem dX2_learnFrom_4 : decode cX2_learnFrom 4 = .ok (.getfield 9, 3) := by decide +kernel
theorem dX2_learnFrom_7 : decode cX2_learnFrom 7 = .ok (.arraylength, 1) := by decide +kernel
theorem dX2_learnFrom_8 : decode cX2_learnFrom 8 = .ok (.if_icmp .ge 19, 3) := by decide +kernel
theorem dX2_learnFrom_11 : decode cX2_learnFrom 11 = .ok (.aload_n 0, 1) := by decide +kernel
theorem dX2_learnFrom_12 : decode cX2_learnFrom 12 = .ok (.aload_n 1, 1) := by decide +kernel
theorem dX2_learnFrom_13 : decode cX2_learnFrom 13 = .ok (.getfield 9, 3) := by decide +kernel
theorem dX2_learnFrom_16 : decode cX2_learnFrom 16 = .ok (.iload_n 2, 1) := by decide +kernel
theorem dX2_learnFrom_17 : decode cX2_learnFrom 17 = .ok (.iaload, 1) := by decide +kernel
theorem dX2_learnFrom_18 : decode cX2_learnFrom 18 = .ok (.invokevirtual 23, 3) := by decide +kernel
theorem dX2_learnFrom_21 : decode cX2_learnFrom 21 = .ok (.iinc 2 1, 3) := by decide +kernel
theorem dX2_learnFrom_24 : decode cX2_learnFrom 24 = .ok (.goto (-22), 3) := by decide +kernel
theorem dX2_learnFrom_27 : decode cX2_learnFrom 27 = .ok (.return_, 1) := by decide +kernel
theorem dX2_knows_0 : decode cX2_knows 0 = .ok (.iload_n 1, 1) := by decide +kernel
theorem dX2_knows_1 : decode cX2_knows 1 = .ok (.istore_n 2, 1) := by decide +kernel
theorem dX2_knows_2 : decode cX2_knows 2 = .ok (.aload_n 0, 1) := by decide +kernel
theorem dX2_knows_3 : decode cX2_knows 3 = .ok (.getfield 9, 3) := by decide +kernel
theorem dX2_knows_6 : decode cX2_knows 6 = .ok (.arraylength, 1) := by decide +kernel
theorem dX2_knows_7 : decode cX2_knows 7 = .ok (.iconst 1, 1) := by decide +kernel
theorem dX2_knows_8 : decode cX2_knows 8 = .ok (.isub, 1) := by decide +kernel
theorem dX2_knows_9 : decode cX2_knows 9 = .ok (.istore_n 3, 1) := by decide +kernel
theorem dX2_knows_10 : decode cX2_knows 10 = .ok (.iload_n 3, 1) := by decide +kernel
theorem dX2_knows_11 : decode cX2_knows 11 = .ok (.ifCond .lt 26, 3) := by decide +kernel
theorem dX2_knows_14 : decode cX2_knows 14 = .ok (.iload_n 2, 1) := by decide +kernel
theorem dX2_knows_15 : decode cX2_knows 15 = .ok (.iload_n 3, 1) := by decide +kernel
theorem dX2_knows_16 : decode cX2_knows 16 = .ok (.invokestatic 19, 3) := by decide +kernel
theorem dX2_knows_19 : decode cX2_knows 19 = .ok (.ifCond .eq 12, 3) := by decide +kernel
theorem dX2_knows_22 : decode cX2_knows 22 = .ok (.iload_n 2, 1) := by decide +kernel
theorem dX2_knows_23 : decode cX2_knows 23 = .ok (.aload_n 0, 1) := by decide +kernel
theorem dX2_knows_24 : decode cX2_knows 24 = .ok (.getfield 9, 3) := by decide +kernel
theorem dX2_knows_27 : decode cX2_knows 27 = .ok (.iload_n 3, 1) := by decide +kernel
theorem dX2_knows_28 : decode cX2_knows 28 = .ok (.iaload, 1) := by decide +kernel
theorem dX2_knows_29 : decode cX2_knows 29 = .ok (.ixor, 1) := by decide +kernel
theorem dX2_knows_30 : decode cX2_knows 30 = .ok (.istore_n 2, 1) := by decide +kernel
theorem dX2_knows_31 : decode cX2_knows 31 = .ok (.iinc 3 (-1), 3) := by decide +kernel
theorem dX2_knows_34 : decode cX2_knows 34 = .ok (.goto (-24), 3) := by decide +kernel
theorem dX2_knows_37 : decode cX2_knows 37 = .ok (.iload_n 2, 1) := by decide +kernel
theorem dX2_knows_38 : decode cX2_knows 38 = .ok (.ifCond .ne 7, 3) := by decide +kernel
theorem dX2_knows_41 : decode cX2_knows 41 = .ok (.iconst 1, 1) := by decide +kernel
theorem dX2_knows_42 : decode cX2_knows 42 = .ok (.goto 4, 3) := by decide +kernel
theorem dX2_knows_45 : decode cX2_knows 45 = .ok (.iconst 0, 1) := by decide +kernel
theorem dX2_knows_46 : decode cX2_knows 46 = .ok (.ireturn, 1) := by decide +kernel
theorem dX2_wouldReach_0 : decode cX2_wouldReach 0 = .ok (.aload_n 0, 1) := by decide +kernel
theorem dX2_wouldReach_1 : decode cX2_wouldReach 1 = .ok (.iload_n 1, 1) := by decide +kernel
theorem dX2_wouldReach_2 : decode cX2_wouldReach 2 = .ok (.iload_n 2, 1) := by decide +kernel
theorem dX2_wouldReach_3 : decode cX2_wouldReach 3 = .ok (.ixor, 1) := by decide +kernel
theorem dX2_wouldReach_4 : decode cX2_wouldReach 4 = .ok (.invokevirtual 27, 3) := by decide +kernel
theorem dX2_wouldReach_7 : decode cX2_wouldReach 7 = .ok (.ifCond .eq 15, 3) := by decide +kernel
theorem dX2_wouldReach_10 : decode cX2_wouldReach 10 = .ok (.aload_n 0, 1) := by decide +kernel
theorem dX2_wouldReach_11 : decode cX2_wouldReach 11 = .ok (.iload_n 1, 1) := by decide +kernel
theorem dX2_wouldReach_12 : decode cX2_wouldReach 12 = .ok (.invokevirtual 27, 3) := by decide +kernel
theorem dX2_wouldReach_15 : decode cX2_wouldReach 15 = .ok (.ifCond .ne 7, 3) := by decide +kernel
theorem dX2_wouldReach_18 : decode cX2_wouldReach 18 = .ok (.iconst 1, 1) := by decide +kernel
theorem dX2_wouldReach_19 : decode cX2_wouldReach 19 = .ok (.goto 4, 3) := by decide +kernel
theorem dX2_wouldReach_22 : decode cX2_wouldReach 22 = .ok (.iconst 0, 1) := by decide +kernel
theorem dX2_wouldReach_23 : decode cX2_wouldReach 23 = .ok (.ireturn, 1) := by decide +kernel
theorem dX3_init_0 : decode cX3_init 0 = .ok (.aload_n 0, 1) := by decide +kernel
theorem dX3_init_1 : decode cX3_init 1 = .ok (.invokespecial 3, 3) := by decide +kernel
theorem dX3_init_4 : decode cX3_init 4 = .ok (.aload_n 0, 1) := by decide +kernel
theorem dX3_init_5 : decode cX3_init 5 = .ok (.sipush 1024, 3) := by decide +kernel
theorem dX3_init_8 : decode cX3_init 8 = .ok (.newarray .long, 2) := by decide +kernel
theorem dX3_init_10 : decode cX3_init 10 = .ok (.putfield 11, 3) := by decide +kernel
theorem dX3_init_13 : decode cX3_init 13 = .ok (.return_, 1) := by decide +kernel
theorem dX3_begin_0 : decode cX3_begin 0 = .ok (.aload_n 0, 1) := by decide +kernel
theorem dX3_begin_1 : decode cX3_begin 1 = .ok (.aload_n 0, 1) := by decide +kernel
theorem dX3_begin_2 : decode cX3_begin 2 = .ok (.getfield 11, 3) := by decide +kernel
theorem dX3_begin_5 : decode cX3_begin 5 = .ok (.arraylength, 1) := by decide +kernel
theorem dX3_begin_6 : decode cX3_begin 6 = .ok (.iconst 1, 1) := by decide +kernel
theorem dX3_begin_7 : decode cX3_begin 7 = .ok (.iconst 0, 1) := by decide +kernel
theorem dX3_begin_8 : decode cX3_begin 8 = .ok (.iload_n 1, 1) := by decide +kernel
theorem dX3_begin_9 : decode cX3_begin 9 = .ok (.bipush 6, 2) := by decide +kernel
theorem dX3_begin_11 : decode cX3_begin 11 = .ok (.isub, 1) := by decide +kernel
theorem dX3_begin_12 : decode cX3_begin 12 = .ok (.invokestatic 15, 3) := by decide +kernel
theorem dX3_begin_15 : decode cX3_begin 15 = .ok (.ishl, 1) := by decide +kernel
theorem dX3_begin_16 : decode cX3_begin 16 = .ok (.invokestatic 21, 3) := by decide +kernel
theorem dX3_begin_19 : decode cX3_begin 19 = .ok (.putfield 24, 3) := by decide +kernel
theorem dX3_begin_22 : decode cX3_begin 22 = .ok (.iconst 0, 1) := by decide +kernel
theorem dX3_begin_23 : decode cX3_begin 23 = .ok (.istore_n 2, 1) := by decide +kernel
theorem dX3_begin_24 : decode cX3_begin 24 = .ok (.iload_n 2, 1) := by decide +kernel
theorem dX3_begin_25 : decode cX3_begin 25 = .ok (.aload_n 0, 1) := by decide +kernel
theorem dX3_begin_26 : decode cX3_begin 26 = .ok (.getfield 24, 3) := by decide +kernel
theorem dX3_begin_29 : decode cX3_begin 29 = .ok (.if_icmp .ge 16, 3) := by decide +kernel
theorem dX3_begin_32 : decode cX3_begin 32 = .ok (.aload_n 0, 1) := by decide +kernel
theorem dX3_begin_33 : decode cX3_begin 33 = .ok (.getfield 11, 3) := by decide +kernel
theorem dX3_begin_36 : decode cX3_begin 36 = .ok (.iload_n 2, 1) := by decide +kernel
theorem dX3_begin_37 : decode cX3_begin 37 = .ok (.lconst 0, 1) := by decide +kernel
theorem dX3_begin_38 : decode cX3_begin 38 = .ok (.lastore, 1) := by decide +kernel
theorem dX3_begin_39 : decode cX3_begin 39 = .ok (.iinc 2 1, 3) := by decide +kernel
theorem dX3_begin_42 : decode cX3_begin 42 = .ok (.goto (-18), 3) := by decide +kernel
theorem dX3_begin_45 : decode cX3_begin 45 = .ok (.aload_n 0, 1) := by decide +kernel
theorem dX3_begin_46 : decode cX3_begin 46 = .ok (.getfield 11, 3) := by decide +kernel
theorem dX3_begin_49 : decode cX3_begin 49 = .ok (.iconst 0, 1) := by decide +kernel
theorem dX3_begin_50 : decode cX3_begin 50 = .ok (.lconst 1, 1) := by decide +kernel
theorem dX3_begin_51 : decode cX3_begin 51 = .ok (.lastore, 1) := by decide +kernel
theorem dX3_begin_52 : decode cX3_begin 52 = .ok (.return_, 1) := by decide +kernel
theorem dX3_add_0 : decode cX3_add 0 = .ok (.aload_n 0, 1) := by decide +kernel
theorem dX3_add_1 : decode cX3_add 1 = .ok (.iload_n 1, 1) := by decide +kernel
theorem dX3_add_2 : decode cX3_add 2 = .ok (.invokevirtual 28, 3) := by decide +kernel
theorem dX3_add_5 : decode cX3_add 5 = .ok (.ifCond .eq 4, 3) := by decide +kernel
theorem dX3_add_8 : decode cX3_add 8 = .ok (.return_, 1) := by decide +kernel
theorem dX3_add_9 : decode cX3_add 9 = .ok (.iconst 0, 1) := by decide +kernel
theorem dX3_add_10 : decode cX3_add 10 = .ok (.istore_n 2, 1) := by decide +kernel
theorem dX3_add_11 : decode cX3_add 11 = .ok (.iload_n 2, 1) := by decide +kernel
theorem dX3_add_12 : decode cX3_add 12 = .ok (.aload_n 0, 1) := by decide +kernel
theorem dX3_add_13 : decode cX3_add 13 = .ok (.getfield 24, 3) := by decide +kernel
theorem dX3_add_16 : decode cX3_add 16 = .ok (.if_icmp .ge 54, 3) := by decide +kernel
theorem dX3_add_19 : decode cX3_add 19 = .ok (.iload_n 2, 1) := by decide +kernel
theorem dX3_add_20 : decode cX3_add 20 = .ok (.iload_n 1, 1) := by decide +kernel
theorem dX3_add_21 : decode cX3_add 21 = .ok (.bipush 6, 2) := by decide +kernel
theorem dX3_add_23 : decode cX3_add 23 = .ok (.iushr, 1) := by decide +kernel
theorem dX3_add_24 : decode cX3_add 24 = .ok (.ixor, 1) := by decide +kernel
theorem dX3_add_25 : decode cX3_add 25 = .ok (.istore_n 3, 1) := by decide +kernel
theorem dX3_add_26 : decode cX3_add 26 = .ok (.aload_n 0, 1) := by decide +kernel
theorem dX3_add_27 : decode cX3_add 27 = .ok (.getfield 11, 3) := by decide +kernel
theorem dX3_add_30 : decode cX3_add 30 = .ok (.iload_n 2, 1) := by decide +kernel
theorem dX3_add_31 : decode cX3_add 31 = .ok (.laload, 1) := by decide +kernel
theorem dX3_add_32 : decode cX3_add 32 = .ok (.lconst 0, 1) := by decide +kernel
theorem dX3_add_33 : decode cX3_add 33 = .ok (.lcmp, 1) := by decide +kernel
theorem dX3_add_34 : decode cX3_add 34 = .ok (.ifCond .eq 30, 3) := by decide +kernel
theorem dX3_add_37 : decode cX3_add 37 = .ok (.iload_n 3, 1) := by decide +kernel
theorem dX3_add_38 : decode cX3_add 38 = .ok (.aload_n 0, 1) := by decide +kernel
theorem dX3_add_39 : decode cX3_add 39 = .ok (.getfield 24, 3) := by decide +kernel
theorem dX3_add_42 : decode cX3_add 42 = .ok (.if_icmp .ge 22, 3) := by decide +kernel
theorem dX3_add_45 : decode cX3_add 45 = .ok (.aload_n 0, 1) := by decide +kernel
theorem dX3_add_46 : decode cX3_add 46 = .ok (.getfield 11, 3) := by decide +kernel
theorem dX3_add_49 : decode cX3_add 49 = .ok (.iload_n 3, 1) := by decide +kernel
theorem dX3_add_50 : decode cX3_add 50 = .ok (.dup2, 1) := by decide +kernel
theorem dX3_add_51 : decode cX3_add 51 = .ok (.laload, 1) := by decide +kernel
theorem dX3_add_52 : decode cX3_add 52 = .ok (.aload_n 0, 1) := by decide +kernel
theorem dX3_add_53 : decode cX3_add 53 = .ok (.getfield 11, 3) := by decide +kernel
theorem dX3_add_56 : decode cX3_add 56 = .ok (.iload_n 2, 1) := by decide +kernel
theorem dX3_add_57 : decode cX3_add 57 = .ok (.laload, 1) := by decide +kernel
theorem dX3_add_58 : decode cX3_add 58 = .ok (.iload_n 1, 1) := by decide +kernel
theorem dX3_add_59 : decode cX3_add 59 = .ok (.invokestatic 32, 3) := by decide +kernel
theorem dX3_add_62 : decode cX3_add 62 = .ok (.lor, 1) := by decide +kernel
theorem dX3_add_63 : decode cX3_add 63 = .ok (.lastore, 1) := by decide +kernel
theorem dX3_add_64 : decode cX3_add 64 = .ok (.iinc 2 1, 3) := by decide +kernel
theorem dX3_add_67 : decode cX3_add 67 = .ok (.goto (-56), 3) := by decide +kernel
theorem dX3_add_70 : decode cX3_add 70 = .ok (.return_, 1) := by decide +kernel
theorem dX3_sets_0 : decode cX3_sets 0 = .ok (.iconst 0, 1) := by decide +kernel
theorem dX3_sets_1 : decode cX3_sets 1 = .ok (.istore_n 1, 1) := by decide +kernel
theorem dX3_sets_2 : decode cX3_sets 2 = .ok (.iconst 0, 1) := by decide +kernel
theorem dX3_sets_3 : decode cX3_sets 3 = .ok (.istore_n 2, 1) := by decide +kernel
theorem dX3_sets_4 : decode cX3_sets 4 = .ok (.iload_n 2, 1) := by decide +kernel
theorem dX3_sets_5 : decode cX3_sets 5 = .ok (.aload_n 0, 1) := by decide +kernel
theorem dX3_sets_6 : decode cX3_sets 6 = .ok (.getfield 24, 3) := by decide +kernel
theorem dX3_sets_9 : decode cX3_sets 9 = .ok (.if_icmp .ge 21, 3) := by decide +kernel
theorem dX3_sets_12 : decode cX3_sets 12 = .ok (.iload_n 1, 1) := by decide +kernel
theorem dX3_sets_13 : decode cX3_sets 13 = .ok (.aload_n 0, 1) := by decide +kernel
theorem dX3_sets_14 : decode cX3_sets 14 = .ok (.getfield 11, 3) := by decide +kernel
theorem dX3_sets_17 : decode cX3_sets 17 = .ok (.iload_n 2, 1) := by decide +kernel
theorem dX3_sets_18 : decode cX3_sets 18 = .ok (.laload, 1) := by decide +kernel
theorem dX3_sets_19 : decode cX3_sets 19 = .ok (.invokestatic 36, 3) := by decide +kernel
theorem dX3_sets_22 : decode cX3_sets 22 = .ok (.iadd, 1) := by decide +kernel
theorem dX3_sets_23 : decode cX3_sets 23 = .ok (.istore_n 1, 1) := by decide +kernel
theorem dX3_sets_24 : decode cX3_sets 24 = .ok (.iinc 2 1, 3) := by decide +kernel
theorem dX3_sets_27 : decode cX3_sets 27 = .ok (.goto (-23), 3) := by decide +kernel
theorem dX3_sets_30 : decode cX3_sets 30 = .ok (.iload_n 1, 1) := by decide +kernel
theorem dX3_sets_31 : decode cX3_sets 31 = .ok (.ireturn, 1) := by decide +kernel
theorem dX3_isMarked_0 : decode cX3_isMarked 0 = .ok (.iload_n 1, 1) := by decide +kernel
theorem dX3_isMarked_1 : decode cX3_isMarked 1 = .ok (.bipush 6, 2) := by decide +kernel
theorem dX3_isMarked_3 : decode cX3_isMarked 3 = .ok (.iushr, 1) := by decide +kernel
theorem dX3_isMarked_4 : decode cX3_isMarked 4 = .ok (.istore_n 2, 1) := by decide +kernel
theorem dX3_isMarked_5 : decode cX3_isMarked 5 = .ok (.iload_n 2, 1) := by decide +kernel
theorem dX3_isMarked_6 : decode cX3_isMarked 6 = .ok (.aload_n 0, 1) := by decide +kernel
theorem dX3_isMarked_7 : decode cX3_isMarked 7 = .ok (.getfield 24, 3) := by decide +kernel
theorem dX3_isMarked_10 : decode cX3_isMarked 10 = .ok (.if_icmp .ge 25, 3) := by decide +kernel
theorem dX3_isMarked_13 : decode cX3_isMarked 13 = .ok (.aload_n 0, 1) := by decide +kernel
theorem dX3_isMarked_14 : decode cX3_isMarked 14 = .ok (.getfield 11, 3) := by decide +kernel
theorem dX3_isMarked_17 : decode cX3_isMarked 17 = .ok (.iload_n 2, 1) := by decide +kernel
theorem dX3_isMarked_18 : decode cX3_isMarked 18 = .ok (.laload, 1) := by decide +kernel
theorem dX3_isMarked_19 : decode cX3_isMarked 19 = .ok (.iload_n 1, 1) := by decide +kernel
theorem dX3_isMarked_20 : decode cX3_isMarked 20 = .ok (.bipush 63, 2) := by decide +kernel
theorem dX3_isMarked_22 : decode cX3_isMarked 22 = .ok (.iand, 1) := by decide +kernel
theorem dX3_isMarked_23 : decode cX3_isMarked 23 = .ok (.lushr, 1) := by decide +kernel
theorem dX3_isMarked_24 : decode cX3_isMarked 24 = .ok (.lconst 1, 1) := by decide +kernel
theorem dX3_isMarked_25 : decode cX3_isMarked 25 = .ok (.land, 1) := by decide +kernel
theorem dX3_isMarked_26 : decode cX3_isMarked 26 = .ok (.lconst 0, 1) := by decide +kernel
theorem dX3_isMarked_27 : decode cX3_isMarked 27 = .ok (.lcmp, 1) := by decide +kernel
theorem dX3_isMarked_28 : decode cX3_isMarked 28 = .ok (.ifCond .eq 7, 3) := by decide +kernel
theorem dX3_isMarked_31 : decode cX3_isMarked 31 = .ok (.iconst 1, 1) := by decide +kernel
theorem dX3_isMarked_32 : decode cX3_isMarked 32 = .ok (.goto 4, 3) := by decide +kernel
theorem dX3_isMarked_35 : decode cX3_isMarked 35 = .ok (.iconst 0, 1) := by decide +kernel
theorem dX3_isMarked_36 : decode cX3_isMarked 36 = .ok (.ireturn, 1) := by decide +kernel
theorem dX3_crossed_0 : decode cX3_crossed 0 = .ok (.lload_n 0, 1) := by decide +kernel
theorem dX3_crossed_1 : decode cX3_crossed 1 = .ok (.lstore_n 3, 1) := by decide +kernel
theorem dX3_crossed_2 : decode cX3_crossed 2 = .ok (.iconst 0, 1) := by decide +kernel
theorem dX3_crossed_3 : decode cX3_crossed 3 = .ok (.istore 5, 2) := by decide +kernel
theorem dX3_crossed_5 : decode cX3_crossed 5 = .ok (.iload 5, 2) := by decide +kernel
theorem dX3_crossed_7 : decode cX3_crossed 7 = .ok (.getstatic 42, 3) := by decide +kernel
theorem dX3_crossed_10 : decode cX3_crossed 10 = .ok (.arraylength, 1) := by decide +kernel
theorem dX3_crossed_11 : decode cX3_crossed 11 = .ok (.if_icmp .ge 48, 3) := by decide +kernel
theorem dX3_crossed_14 : decode cX3_crossed 14 = .ok (.iload_n 2, 1) := by decide +kernel
theorem dX3_crossed_15 : decode cX3_crossed 15 = .ok (.iload 5, 2) := by decide +kernel
theorem dX3_crossed_17 : decode cX3_crossed 17 = .ok (.invokestatic 45, 3) := by decide +kernel
theorem dX3_crossed_20 : decode cX3_crossed 20 = .ok (.ifCond .eq 33, 3) := by decide +kernel
theorem dX3_crossed_23 : decode cX3_crossed 23 = .ok (.iconst 1, 1) := by decide +kernel
theorem dX3_crossed_24 : decode cX3_crossed 24 = .ok (.iload 5, 2) := by decide +kernel
theorem dX3_crossed_26 : decode cX3_crossed 26 = .ok (.ishl, 1) := by decide +kernel
theorem dX3_crossed_27 : decode cX3_crossed 27 = .ok (.istore 6, 2) := by decide +kernel
theorem dX3_crossed_29 : decode cX3_crossed 29 = .ok (.lload_n 3, 1) := by decide +kernel
theorem dX3_crossed_30 : decode cX3_crossed 30 = .ok (.getstatic 42, 3) := by decide +kernel
theorem dX3_crossed_33 : decode cX3_crossed 33 = .ok (.iload 5, 2) := by decide +kernel
theorem dX3_crossed_35 : decode cX3_crossed 35 = .ok (.laload, 1) := by decide +kernel
theorem dX3_crossed_36 : decode cX3_crossed 36 = .ok (.land, 1) := by decide +kernel
theorem dX3_crossed_37 : decode cX3_crossed 37 = .ok (.iload 6, 2) := by decide +kernel
theorem dX3_crossed_39 : decode cX3_crossed 39 = .ok (.lshl, 1) := by decide +kernel
theorem dX3_crossed_40 : decode cX3_crossed 40 = .ok (.lload_n 3, 1) := by decide +kernel
theorem dX3_crossed_41 : decode cX3_crossed 41 = .ok (.iload 6, 2) := by decide +kernel
theorem dX3_crossed_43 : decode cX3_crossed 43 = .ok (.lushr, 1) := by decide +kernel
theorem dX3_crossed_44 : decode cX3_crossed 44 = .ok (.getstatic 42, 3) := by decide +kernel
theorem dX3_crossed_47 : decode cX3_crossed 47 = .ok (.iload 5, 2) := by decide +kernel
theorem dX3_crossed_49 : decode cX3_crossed 49 = .ok (.laload, 1) := by decide +kernel
theorem dX3_crossed_50 : decode cX3_crossed 50 = .ok (.land, 1) := by decide +kernel
theorem dX3_crossed_51 : decode cX3_crossed 51 = .ok (.lor, 1) := by decide +kernel
theorem dX3_crossed_52 : decode cX3_crossed 52 = .ok (.lstore_n 3, 1) := by decide +kernel
theorem dX3_crossed_53 : decode cX3_crossed 53 = .ok (.iinc 5 1, 3) := by decide +kernel
theorem dX3_crossed_56 : decode cX3_crossed 56 = .ok (.goto (-51), 3) := by decide +kernel
theorem dX3_crossed_59 : decode cX3_crossed 59 = .ok (.lload_n 3, 1) := by decide +kernel
theorem dX3_crossed_60 : decode cX3_crossed 60 = .ok (.lreturn, 1) := by decide +kernel
theorem dX4_init_0 : decode cX4_init 0 = .ok (.aload_n 0, 1) := by decide +kernel
theorem dX4_init_1 : decode cX4_init 1 = .ok (.invokespecial 3, 3) := by decide +kernel
theorem dX4_init_4 : decode cX4_init 4 = .ok (.aload_n 0, 1) := by decide +kernel
theorem dX4_init_5 : decode cX4_init 5 = .ok (.bipush 16, 2) := by decide +kernel
theorem dX4_init_7 : decode cX4_init 7 = .ok (.anewarray 9, 3) := by decide +kernel
theorem dX4_init_10 : decode cX4_init 10 = .ok (.putfield 11, 3) := by decide +kernel
theorem dX4_init_13 : decode cX4_init 13 = .ok (.aload_n 0, 1) := by decide +kernel
theorem dX4_init_14 : decode cX4_init 14 = .ok (.bipush 8, 2) := by decide +kernel
theorem dX4_init_16 : decode cX4_init 16 = .ok (.anewarray 17, 3) := by decide +kernel
theorem dX4_init_19 : decode cX4_init 19 = .ok (.putfield 19, 3) := by decide +kernel
theorem dX4_init_22 : decode cX4_init 22 = .ok (.aload_n 0, 1) := by decide +kernel
theorem dX4_init_23 : decode cX4_init 23 = .ok (.iconst 5, 1) := by decide +kernel
theorem dX4_init_24 : decode cX4_init 24 = .ok (.newarray .int, 2) := by decide +kernel
theorem dX4_init_26 : decode cX4_init 26 = .ok (.putfield 23, 3) := by decide +kernel
theorem dX4_init_29 : decode cX4_init 29 = .ok (.aload_n 0, 1) := by decide +kernel
theorem dX4_init_30 : decode cX4_init 30 = .ok (.iload_n 1, 1) := by decide +kernel
theorem dX4_init_31 : decode cX4_init 31 = .ok (.putfield 27, 3) := by decide +kernel
theorem dX4_init_34 : decode cX4_init 34 = .ok (.aload_n 0, 1) := by decide +kernel
theorem dX4_init_35 : decode cX4_init 35 = .ok (.iload_n 2, 1) := by decide +kernel
theorem dX4_init_36 : decode cX4_init 36 = .ok (.putfield 31, 3) := by decide +kernel
theorem dX4_init_39 : decode cX4_init 39 = .ok (.iconst 0, 1) := by decide +kernel
theorem dX4_init_40 : decode cX4_init 40 = .ok (.istore_n 3, 1) := by decide +kernel
theorem dX4_init_41 : decode cX4_init 41 = .ok (.iload_n 3, 1) := by decide +kernel
theorem dX4_init_42 : decode cX4_init 42 = .ok (.aload_n 0, 1) := by decide +kernel
theorem dX4_init_43 : decode cX4_init 43 = .ok (.getfield 19, 3) := by decide +kernel
theorem dX4_init_46 : decode cX4_init 46 = .ok (.arraylength, 1) := by decide +kernel
theorem dX4_init_47 : decode cX4_init 47 = .ok (.if_icmp .ge 22, 3) := by decide +kernel
theorem dX4_init_50 : decode cX4_init 50 = .ok (.aload_n 0, 1) := by decide +kernel
theorem dX4_init_51 : decode cX4_init 51 = .ok (.getfield 19, 3) := by decide +kernel
theorem dX4_init_54 : decode cX4_init 54 = .ok (.iload_n 3, 1) := by decide +kernel
theorem dX4_init_55 : decode cX4_init 55 = .ok (.new 17, 3) := by decide +kernel
theorem dX4_init_58 : decode cX4_init 58 = .ok (.dup, 1) := by decide +kernel
theorem dX4_init_59 : decode cX4_init 59 = .ok (.invokespecial 34, 3) := by decide +kernel
theorem dX4_init_62 : decode cX4_init 62 = .ok (.aastore, 1) := by decide +kernel
theorem dX4_init_63 : decode cX4_init 63 = .ok (.iinc 3 1, 3) := by decide +kernel
theorem dX4_init_66 : decode cX4_init 66 = .ok (.goto (-25), 3) := by decide +kernel
theorem dX4_init_69 : decode cX4_init 69 = .ok (.return_, 1) := by decide +kernel
theorem dX4_rightFor_0 : decode cX4_rightFor 0 = .ok (.iload_n 1, 1) := by decide +kernel
theorem dX4_rightFor_1 : decode cX4_rightFor 1 = .ok (.ifCond .lt 21, 3) := by decide +kernel
theorem dX4_rightFor_4 : decode cX4_rightFor 4 = .ok (.iload_n 1, 1) := by decide +kernel
theorem dX4_rightFor_5 : decode cX4_rightFor 5 = .ok (.aload_n 0, 1) := by decide +kernel
theorem dX4_rightFor_6 : decode cX4_rightFor 6 = .ok (.getfield 11, 3) := by decide +kernel
theorem dX4_rightFor_9 : decode cX4_rightFor 9 = .ok (.arraylength, 1) := by decide +kernel
theorem dX4_rightFor_10 : decode cX4_rightFor 10 = .ok (.if_icmp .ge 12, 3) := by decide +kernel
theorem dX4_rightFor_13 : decode cX4_rightFor 13 = .ok (.aload_n 0, 1) := by decide +kernel
theorem dX4_rightFor_14 : decode cX4_rightFor 14 = .ok (.getfield 11, 3) := by decide +kernel
theorem dX4_rightFor_17 : decode cX4_rightFor 17 = .ok (.iload_n 1, 1) := by decide +kernel
theorem dX4_rightFor_18 : decode cX4_rightFor 18 = .ok (.aaload, 1) := by decide +kernel
theorem dX4_rightFor_19 : decode cX4_rightFor 19 = .ok (.goto 4, 3) := by decide +kernel
theorem dX4_rightFor_22 : decode cX4_rightFor 22 = .ok (.aconst_null, 1) := by decide +kernel
theorem dX4_rightFor_23 : decode cX4_rightFor 23 = .ok (.areturn, 1) := by decide +kernel
theorem dX4_setRight_0 : decode cX4_setRight 0 = .ok (.iload_n 1, 1) := by decide +kernel
theorem dX4_setRight_1 : decode cX4_setRight 1 = .ok (.ifCond .lt 19, 3) := by decide +kernel
theorem dX4_setRight_4 : decode cX4_setRight 4 = .ok (.iload_n 1, 1) := by decide +kernel
theorem dX4_setRight_5 : decode cX4_setRight 5 = .ok (.aload_n 0, 1) := by decide +kernel
theorem dX4_setRight_6 : decode cX4_setRight 6 = .ok (.getfield 11, 3) := by decide +kernel
theorem dX4_setRight_9 : decode cX4_setRight 9 = .ok (.arraylength, 1) := by decide +kernel
theorem dX4_setRight_10 : decode cX4_setRight 10 = .ok (.if_icmp .ge 10, 3) := by decide +kernel
theorem dX4_setRight_13 : decode cX4_setRight 13 = .ok (.aload_n 0, 1) := by decide +kernel
theorem dX4_setRight_14 : decode cX4_setRight 14 = .ok (.getfield 11, 3) := by decide +kernel
theorem dX4_setRight_17 : decode cX4_setRight 17 = .ok (.iload_n 1, 1) := by decide +kernel
theorem dX4_setRight_18 : decode cX4_setRight 18 = .ok (.aload_n 2, 1) := by decide +kernel
theorem dX4_setRight_19 : decode cX4_setRight 19 = .ok (.aastore, 1) := by decide +kernel
theorem dX4_setRight_20 : decode cX4_setRight 20 = .ok (.return_, 1) := by decide +kernel
theorem dX4_rightIn_0 : decode cX4_rightIn 0 = .ok (.aload_n 0, 1) := by decide +kernel
theorem dX4_rightIn_1 : decode cX4_rightIn 1 = .ok (.iload_n 2, 1) := by decide +kernel
theorem dX4_rightIn_2 : decode cX4_rightIn 2 = .ok (.invokevirtual 35, 3) := by decide +kernel
theorem dX4_rightIn_5 : decode cX4_rightIn 5 = .ok (.astore_n 3, 1) := by decide +kernel
theorem dX4_rightIn_6 : decode cX4_rightIn 6 = .ok (.aload_n 3, 1) := by decide +kernel
theorem dX4_rightIn_7 : decode cX4_rightIn 7 = .ok (.ifnonnull 7, 3) := by decide +kernel
theorem dX4_rightIn_10 : decode cX4_rightIn 10 = .ok (.iconst 0, 1) := by decide +kernel
theorem dX4_rightIn_11 : decode cX4_rightIn 11 = .ok (.goto 8, 3) := by decide +kernel
theorem dX4_rightIn_14 : decode cX4_rightIn 14 = .ok (.aload_n 3, 1) := by decide +kernel
theorem dX4_rightIn_15 : decode cX4_rightIn 15 = .ok (.iload_n 1, 1) := by decide +kernel
theorem dX4_rightIn_16 : decode cX4_rightIn 16 = .ok (.invokevirtual 39, 3) := by decide +kernel
theorem dX4_rightIn_19 : decode cX4_rightIn 19 = .ok (.ireturn, 1) := by decide +kernel
theorem dX4_countQuestion_0 : decode cX4_countQuestion 0 = .ok (.iload_n 1, 1) := by decide +kernel
theorem dX4_countQuestion_1 : decode cX4_countQuestion 1 = .ok (.ineg, 1) := by decide +kernel
theorem dX4_countQuestion_2 : decode cX4_countQuestion 2 = .ok (.istore_n 2, 1) := by decide +kernel
theorem dX4_countQuestion_3 : decode cX4_countQuestion 3 = .ok (.iload_n 2, 1) := by decide +kernel
theorem dX4_countQuestion_4 : decode cX4_countQuestion 4 = .ok (.ifCond .lt 22, 3) := by decide +kernel
theorem dX4_countQuestion_7 : decode cX4_countQuestion 7 = .ok (.iload_n 2, 1) := by decide +kernel
theorem dX4_countQuestion_8 : decode cX4_countQuestion 8 = .ok (.aload_n 0, 1) := by decide +kernel
theorem dX4_countQuestion_9 : decode cX4_countQuestion 9 = .ok (.getfield 23, 3) := by decide +kernel
theorem dX4_countQuestion_12 : decode cX4_countQuestion 12 = .ok (.arraylength, 1) := by decide +kernel
theorem dX4_countQuestion_13 : decode cX4_countQuestion 13 = .ok (.if_icmp .ge 13, 3) := by decide +kernel
theorem dX4_countQuestion_16 : decode cX4_countQuestion 16 = .ok (.aload_n 0, 1) := by decide +kernel
theorem dX4_countQuestion_17 : decode cX4_countQuestion 17 = .ok (.getfield 23, 3) := by decide +kernel
theorem dX4_countQuestion_20 : decode cX4_countQuestion 20 = .ok (.iload_n 2, 1) := by decide +kernel
theorem dX4_countQuestion_21 : decode cX4_countQuestion 21 = .ok (.dup2, 1) := by decide +kernel
theorem dX4_countQuestion_22 : decode cX4_countQuestion 22 = .ok (.iaload, 1) := by decide +kernel
theorem dX4_countQuestion_23 : decode cX4_countQuestion 23 = .ok (.iconst 1, 1) := by decide +kernel
theorem dX4_countQuestion_24 : decode cX4_countQuestion 24 = .ok (.iadd, 1) := by decide +kernel
theorem dX4_countQuestion_25 : decode cX4_countQuestion 25 = .ok (.iastore, 1) := by decide +kernel
theorem dX4_countQuestion_26 : decode cX4_countQuestion 26 = .ok (.return_, 1) := by decide +kernel
theorem dX4_questions_0 : decode cX4_questions 0 = .ok (.iload_n 1, 1) := by decide +kernel
theorem dX4_questions_1 : decode cX4_questions 1 = .ok (.ifCond .lt 21, 3) := by decide +kernel
theorem dX4_questions_4 : decode cX4_questions 4 = .ok (.iload_n 1, 1) := by decide +kernel
theorem dX4_questions_5 : decode cX4_questions 5 = .ok (.aload_n 0, 1) := by decide +kernel
theorem dX4_questions_6 : decode cX4_questions 6 = .ok (.getfield 23, 3) := by decide +kernel
theorem dX4_questions_9 : decode cX4_questions 9 = .ok (.arraylength, 1) := by decide +kernel
theorem dX4_questions_10 : decode cX4_questions 10 = .ok (.if_icmp .ge 12, 3) := by decide +kernel
theorem dX4_questions_13 : decode cX4_questions 13 = .ok (.aload_n 0, 1) := by decide +kernel
theorem dX4_questions_14 : decode cX4_questions 14 = .ok (.getfield 23, 3) := by decide +kernel
theorem dX4_questions_17 : decode cX4_questions 17 = .ok (.iload_n 1, 1) := by decide +kernel
theorem dX4_questions_18 : decode cX4_questions 18 = .ok (.iaload, 1) := by decide +kernel
theorem dX4_questions_19 : decode cX4_questions 19 = .ok (.goto 4, 3) := by decide +kernel
theorem dX4_questions_22 : decode cX4_questions 22 = .ok (.iconst 0, 1) := by decide +kernel
theorem dX4_questions_23 : decode cX4_questions 23 = .ok (.ireturn, 1) := by decide +kernel
theorem dX4_learn_0 : decode cX4_learn 0 = .ok (.iconst 0, 1) := by decide +kernel
theorem dX4_learn_1 : decode cX4_learn 1 = .ok (.istore_n 3, 1) := by decide +kernel
theorem dX4_learn_2 : decode cX4_learn 2 = .ok (.iload_n 3, 1) := by decide +kernel
theorem dX4_learn_3 : decode cX4_learn 3 = .ok (.aload_n 0, 1) := by decide +kernel
theorem dX4_learn_4 : decode cX4_learn 4 = .ok (.getfield 19, 3) := by decide +kernel
theorem dX4_learn_7 : decode cX4_learn 7 = .ok (.arraylength, 1) := by decide +kernel
theorem dX4_learn_8 : decode cX4_learn 8 = .ok (.if_icmp .ge 27, 3) := by decide +kernel
theorem dX4_learn_11 : decode cX4_learn 11 = .ok (.iload_n 2, 1) := by decide +kernel
theorem dX4_learn_12 : decode cX4_learn 12 = .ok (.iload_n 3, 1) := by decide +kernel
theorem dX4_learn_13 : decode cX4_learn 13 = .ok (.invokestatic 43, 3) := by decide +kernel
theorem dX4_learn_16 : decode cX4_learn 16 = .ok (.ifCond .eq 13, 3) := by decide +kernel
theorem dX4_learn_19 : decode cX4_learn 19 = .ok (.aload_n 0, 1) := by decide +kernel
theorem dX4_learn_20 : decode cX4_learn 20 = .ok (.getfield 19, 3) := by decide +kernel
theorem dX4_learn_23 : decode cX4_learn 23 = .ok (.iload_n 3, 1) := by decide +kernel
theorem dX4_learn_24 : decode cX4_learn 24 = .ok (.aaload, 1) := by decide +kernel
theorem dX4_learn_25 : decode cX4_learn 25 = .ok (.iload_n 1, 1) := by decide +kernel
theorem dX4_learn_26 : decode cX4_learn 26 = .ok (.invokevirtual 47, 3) := by decide +kernel
theorem dX4_learn_29 : decode cX4_learn 29 = .ok (.iinc 3 1, 3) := by decide +kernel
theorem dX4_learn_32 : decode cX4_learn 32 = .ok (.goto (-30), 3) := by decide +kernel
theorem dX4_learn_35 : decode cX4_learn 35 = .ok (.return_, 1) := by decide +kernel
theorem dX4_forget_0 : decode cX4_forget 0 = .ok (.iconst 0, 1) := by decide +kernel
theorem dX4_forget_1 : decode cX4_forget 1 = .ok (.istore_n 1, 1) := by decide +kernel
theorem dX4_forget_2 : decode cX4_forget 2 = .ok (.iload_n 1, 1) := by decide +kernel
theorem dX4_forget_3 : decode cX4_forget 3 = .ok (.aload_n 0, 1) := by decide +kernel
theorem dX4_forget_4 : decode cX4_forget 4 = .ok (.getfield 19, 3) := by decide +kernel
theorem dX4_forget_7 : decode cX4_forget 7 = .ok (.arraylength, 1) := by decide +kernel
theorem dX4_forget_8 : decode cX4_forget 8 = .ok (.if_icmp .ge 18, 3) := by decide +kernel
theorem dX4_forget_11 : decode cX4_forget 11 = .ok (.aload_n 0, 1) := by decide +kernel
theorem dX4_forget_12 : decode cX4_forget 12 = .ok (.getfield 19, 3) := by decide +kernel
theorem dX4_forget_15 : decode cX4_forget 15 = .ok (.iload_n 1, 1) := by decide +kernel
theorem dX4_forget_16 : decode cX4_forget 16 = .ok (.aaload, 1) := by decide +kernel
theorem dX4_forget_17 : decode cX4_forget 17 = .ok (.invokevirtual 51, 3) := by decide +kernel
theorem dX4_forget_20 : decode cX4_forget 20 = .ok (.iinc 1 1, 3) := by decide +kernel
theorem dX4_forget_23 : decode cX4_forget 23 = .ok (.goto (-21), 3) := by decide +kernel
theorem dX4_forget_26 : decode cX4_forget 26 = .ok (.return_, 1) := by decide +kernel
theorem dX4_learnedInAll_0 : decode cX4_learnedInAll 0 = .ok (.iconst 0, 1) := by decide +kernel
theorem dX4_learnedInAll_1 : decode cX4_learnedInAll 1 = .ok (.istore_n 1, 1) := by decide +kernel
theorem dX4_learnedInAll_2 : decode cX4_learnedInAll 2 = .ok (.iconst 0, 1) := by decide +kernel
theorem dX4_learnedInAll_3 : decode cX4_learnedInAll 3 = .ok (.istore_n 2, 1) := by decide +kernel
theorem dX4_learnedInAll_4 : decode cX4_learnedInAll 4 = .ok (.iload_n 2, 1) := by decide +kernel
theorem dX4_learnedInAll_5 : decode cX4_learnedInAll 5 = .ok (.aload_n 0, 1) := by decide +kernel
theorem dX4_learnedInAll_6 : decode cX4_learnedInAll 6 = .ok (.getfield 19, 3) := by decide +kernel
theorem dX4_learnedInAll_9 : decode cX4_learnedInAll 9 = .ok (.arraylength, 1) := by decide +kernel
theorem dX4_learnedInAll_10 : decode cX4_learnedInAll 10 = .ok (.if_icmp .ge 21, 3) := by decide +kernel
theorem dX4_learnedInAll_13 : decode cX4_learnedInAll 13 = .ok (.iload_n 1, 1) := by decide +kernel
theorem dX4_learnedInAll_14 : decode cX4_learnedInAll 14 = .ok (.aload_n 0, 1) := by decide +kernel
theorem dX4_learnedInAll_15 : decode cX4_learnedInAll 15 = .ok (.getfield 19, 3) := by decide +kernel
theorem dX4_learnedInAll_18 : decode cX4_learnedInAll 18 = .ok (.iload_n 2, 1) := by decide +kernel
theorem dX4_learnedInAll_19 : decode cX4_learnedInAll 19 = .ok (.aaload, 1) := by decide +kernel
theorem dX4_learnedInAll_20 : decode cX4_learnedInAll 20 = .ok (.getfield 54, 3) := by decide +kernel
theorem dX4_learnedInAll_23 : decode cX4_learnedInAll 23 = .ok (.iadd, 1) := by decide +kernel
theorem dX4_learnedInAll_24 : decode cX4_learnedInAll 24 = .ok (.istore_n 1, 1) := by decide +kernel
theorem dX4_learnedInAll_25 : decode cX4_learnedInAll 25 = .ok (.iinc 2 1, 3) := by decide +kernel
theorem dX4_learnedInAll_28 : decode cX4_learnedInAll 28 = .ok (.goto (-24), 3) := by decide +kernel
theorem dX4_learnedInAll_31 : decode cX4_learnedInAll 31 = .ok (.iload_n 1, 1) := by decide +kernel
theorem dX4_learnedInAll_32 : decode cX4_learnedInAll 32 = .ok (.ireturn, 1) := by decide +kernel
theorem dX4_costOf_0 : decode cX4_costOf 0 = .ok (.iconst 0, 1) := by decide +kernel
theorem dX4_costOf_1 : decode cX4_costOf 1 = .ok (.istore_n 3, 1) := by decide +kernel
theorem dX4_costOf_2 : decode cX4_costOf 2 = .ok (.iconst 0, 1) := by decide +kernel
theorem dX4_costOf_3 : decode cX4_costOf 3 = .ok (.istore 4, 2) := by decide +kernel
theorem dX4_costOf_5 : decode cX4_costOf 5 = .ok (.iload 4, 2) := by decide +kernel
theorem dX4_costOf_7 : decode cX4_costOf 7 = .ok (.aload_n 0, 1) := by decide +kernel
theorem dX4_costOf_8 : decode cX4_costOf 8 = .ok (.getfield 19, 3) := by decide +kernel
theorem dX4_costOf_11 : decode cX4_costOf 11 = .ok (.arraylength, 1) := by decide +kernel
theorem dX4_costOf_12 : decode cX4_costOf 12 = .ok (.if_icmp .ge 35, 3) := by decide +kernel
theorem dX4_costOf_15 : decode cX4_costOf 15 = .ok (.iload_n 2, 1) := by decide +kernel
theorem dX4_costOf_16 : decode cX4_costOf 16 = .ok (.iload 4, 2) := by decide +kernel
theorem dX4_costOf_18 : decode cX4_costOf 18 = .ok (.invokestatic 43, 3) := by decide +kernel
theorem dX4_costOf_21 : decode cX4_costOf 21 = .ok (.ifCond .eq 20, 3) := by decide +kernel
theorem dX4_costOf_24 : decode cX4_costOf 24 = .ok (.aload_n 0, 1) := by decide +kernel
theorem dX4_costOf_25 : decode cX4_costOf 25 = .ok (.getfield 19, 3) := by decide +kernel
theorem dX4_costOf_28 : decode cX4_costOf 28 = .ok (.iload 4, 2) := by decide +kernel
theorem dX4_costOf_30 : decode cX4_costOf 30 = .ok (.aaload, 1) := by decide +kernel
theorem dX4_costOf_31 : decode cX4_costOf 31 = .ok (.iload_n 1, 1) := by decide +kernel
theorem dX4_costOf_32 : decode cX4_costOf 32 = .ok (.invokevirtual 57, 3) := by decide +kernel
theorem dX4_costOf_35 : decode cX4_costOf 35 = .ok (.ifCond .ne 6, 3) := by decide +kernel
theorem dX4_costOf_38 : decode cX4_costOf 38 = .ok (.iinc 3 1, 3) := by decide +kernel
theorem dX4_costOf_41 : decode cX4_costOf 41 = .ok (.iinc 4 1, 3) := by decide +kernel
theorem dX4_costOf_44 : decode cX4_costOf 44 = .ok (.goto (-39), 3) := by decide +kernel
theorem dX4_costOf_47 : decode cX4_costOf 47 = .ok (.iload_n 3, 1) := by decide +kernel
theorem dX4_costOf_48 : decode cX4_costOf 48 = .ok (.ireturn, 1) := by decide +kernel
theorem dX4_wouldFindUnread_0 : decode cX4_wouldFindUnread 0 = .ok (.iconst 0, 1) := by decide +kernel
theorem dX4_wouldFindUnread_1 : decode cX4_wouldFindUnread 1 = .ok (.istore 4, 2) := by decide +kernel
theorem dX4_wouldFindUnread_3 : decode cX4_wouldFindUnread 3 = .ok (.iload 4, 2) := by decide +kernel
theorem dX4_wouldFindUnread_5 : decode cX4_wouldFindUnread 5 = .ok (.aload_n 0, 1) := by decide +kernel
theorem dX4_wouldFindUnread_6 : decode cX4_wouldFindUnread 6 = .ok (.getfield 11, 3) := by decide +kernel
theorem dX4_wouldFindUnread_9 : decode cX4_wouldFindUnread 9 = .ok (.arraylength, 1) := by decide +kernel
theorem dX4_wouldFindUnread_10 : decode cX4_wouldFindUnread 10 = .ok (.if_icmp .ge 33, 3) := by decide +kernel
theorem dX4_wouldFindUnread_13 : decode cX4_wouldFindUnread 13 = .ok (.aload_n 0, 1) := by decide +kernel
theorem dX4_wouldFindUnread_14 : decode cX4_wouldFindUnread 14 = .ok (.iload_n 3, 1) := by decide +kernel
theorem dX4_wouldFindUnread_15 : decode cX4_wouldFindUnread 15 = .ok (.iload 4, 2) := by decide +kernel
theorem dX4_wouldFindUnread_17 : decode cX4_wouldFindUnread 17 = .ok (.invokevirtual 61, 3) := by decide +kernel
theorem dX4_wouldFindUnread_20 : decode cX4_wouldFindUnread 20 = .ok (.iconst 2, 1) := by decide +kernel
theorem dX4_wouldFindUnread_21 : decode cX4_wouldFindUnread 21 = .ok (.if_icmp .eq 16, 3) := by decide +kernel
theorem dX4_wouldFindUnread_24 : decode cX4_wouldFindUnread 24 = .ok (.aload_n 0, 1) := by decide +kernel
theorem dX4_wouldFindUnread_25 : decode cX4_wouldFindUnread 25 = .ok (.iload 4, 2) := by decide +kernel
theorem dX4_wouldFindUnread_27 : decode cX4_wouldFindUnread 27 = .ok (.iload_n 1, 1) := by decide +kernel
theorem dX4_wouldFindUnread_28 : decode cX4_wouldFindUnread 28 = .ok (.iload_n 2, 1) := by decide +kernel
theorem dX4_wouldFindUnread_29 : decode cX4_wouldFindUnread 29 = .ok (.invokevirtual 65, 3) := by decide +kernel
theorem dX4_wouldFindUnread_32 : decode cX4_wouldFindUnread 32 = .ok (.ifCond .eq 5, 3) := by decide +kernel
theorem dX4_wouldFindUnread_35 : decode cX4_wouldFindUnread 35 = .ok (.iconst 1, 1) := by decide +kernel
theorem dX4_wouldFindUnread_36 : decode cX4_wouldFindUnread 36 = .ok (.ireturn, 1) := by decide +kernel
theorem dX4_wouldFindUnread_37 : decode cX4_wouldFindUnread 37 = .ok (.iinc 4 1, 3) := by decide +kernel
theorem dX4_wouldFindUnread_40 : decode cX4_wouldFindUnread 40 = .ok (.goto (-37), 3) := by decide +kernel
theorem dX4_wouldFindUnread_43 : decode cX4_wouldFindUnread 43 = .ok (.iconst 0, 1) := by decide +kernel
theorem dX4_wouldFindUnread_44 : decode cX4_wouldFindUnread 44 = .ok (.ireturn, 1) := by decide +kernel
theorem dX4_wouldFind_0 : decode cX4_wouldFind 0 = .ok (.iconst 0, 1) := by decide +kernel
theorem dX4_wouldFind_1 : decode cX4_wouldFind 1 = .ok (.istore 4, 2) := by decide +kernel
theorem dX4_wouldFind_3 : decode cX4_wouldFind 3 = .ok (.iload 4, 2) := by decide +kernel
theorem dX4_wouldFind_5 : decode cX4_wouldFind 5 = .ok (.aload_n 0, 1) := by decide +kernel
theorem dX4_wouldFind_6 : decode cX4_wouldFind 6 = .ok (.getfield 19, 3) := by decide +kernel
theorem dX4_wouldFind_9 : decode cX4_wouldFind 9 = .ok (.arraylength, 1) := by decide +kernel
theorem dX4_wouldFind_10 : decode cX4_wouldFind 10 = .ok (.if_icmp .ge 37, 3) := by decide +kernel
theorem dX4_wouldFind_13 : decode cX4_wouldFind 13 = .ok (.iload_n 3, 1) := by decide +kernel
theorem dX4_wouldFind_14 : decode cX4_wouldFind 14 = .ok (.iload 4, 2) := by decide +kernel
theorem dX4_wouldFind_16 : decode cX4_wouldFind 16 = .ok (.invokestatic 43, 3) := by decide +kernel
theorem dX4_wouldFind_19 : decode cX4_wouldFind 19 = .ok (.ifCond .eq 22, 3) := by decide +kernel
theorem dX4_wouldFind_22 : decode cX4_wouldFind 22 = .ok (.aload_n 0, 1) := by decide +kernel
theorem dX4_wouldFind_23 : decode cX4_wouldFind 23 = .ok (.getfield 19, 3) := by decide +kernel
theorem dX4_wouldFind_26 : decode cX4_wouldFind 26 = .ok (.iload 4, 2) := by decide +kernel
theorem dX4_wouldFind_28 : decode cX4_wouldFind 28 = .ok (.aaload, 1) := by decide +kernel
theorem dX4_wouldFind_29 : decode cX4_wouldFind 29 = .ok (.iconst 1, 1) := by decide +kernel
theorem dX4_wouldFind_30 : decode cX4_wouldFind 30 = .ok (.iload_n 1, 1) := by decide +kernel
theorem dX4_wouldFind_31 : decode cX4_wouldFind 31 = .ok (.ishl, 1) := by decide +kernel
theorem dX4_wouldFind_32 : decode cX4_wouldFind 32 = .ok (.iload_n 2, 1) := by decide +kernel
theorem dX4_wouldFind_33 : decode cX4_wouldFind 33 = .ok (.invokevirtual 69, 3) := by decide +kernel
theorem dX4_wouldFind_36 : decode cX4_wouldFind 36 = .ok (.ifCond .eq 5, 3) := by decide +kernel
theorem dX4_wouldFind_39 : decode cX4_wouldFind 39 = .ok (.iconst 1, 1) := by decide +kernel
theorem dX4_wouldFind_40 : decode cX4_wouldFind 40 = .ok (.ireturn, 1) := by decide +kernel
theorem dX4_wouldFind_41 : decode cX4_wouldFind 41 = .ok (.iinc 4 1, 3) := by decide +kernel
theorem dX4_wouldFind_44 : decode cX4_wouldFind 44 = .ok (.goto (-41), 3) := by decide +kernel
theorem dX4_wouldFind_47 : decode cX4_wouldFind 47 = .ok (.iconst 0, 1) := by decide +kernel
theorem dX4_wouldFind_48 : decode cX4_wouldFind 48 = .ok (.ireturn, 1) := by decide +kernel
theorem dX5_init_0 : decode cX5_init 0 = .ok (.aload_n 0, 1) := by decide +kernel
theorem dX5_init_1 : decode cX5_init 1 = .ok (.invokespecial 3, 3) := by decide +kernel
theorem dX5_init_4 : decode cX5_init 4 = .ok (.aload_n 0, 1) := by decide +kernel
theorem dX5_init_5 : decode cX5_init 5 = .ok (.iload_n 1, 1) := by decide +kernel
theorem dX5_init_6 : decode cX5_init 6 = .ok (.putfield 9, 3) := by decide +kernel
theorem dX5_init_9 : decode cX5_init 9 = .ok (.aload_n 0, 1) := by decide +kernel
theorem dX5_init_10 : decode cX5_init 10 = .ok (.iload_n 2, 1) := by decide +kernel
theorem dX5_init_11 : decode cX5_init 11 = .ok (.putfield 15, 3) := by decide +kernel
theorem dX5_init_14 : decode cX5_init 14 = .ok (.aload_n 0, 1) := by decide +kernel
theorem dX5_init_15 : decode cX5_init 15 = .ok (.iload_n 3, 1) := by decide +kernel
theorem dX5_init_16 : decode cX5_init 16 = .ok (.putfield 18, 3) := by decide +kernel
theorem dX5_init_19 : decode cX5_init 19 = .ok (.return_, 1) := by decide +kernel
theorem dX5_in_0 : decode cX5_in 0 = .ok (.aload_n 0, 1) := by decide +kernel
theorem dX5_in_1 : decode cX5_in 1 = .ok (.getfield 15, 3) := by decide +kernel
theorem dX5_in_4 : decode cX5_in 4 = .ok (.iload_n 1, 1) := by decide +kernel
theorem dX5_in_5 : decode cX5_in 5 = .ok (.if_icmp .gt 18, 3) := by decide +kernel
theorem dX5_in_8 : decode cX5_in 8 = .ok (.iload_n 1, 1) := by decide +kernel
theorem dX5_in_9 : decode cX5_in 9 = .ok (.aload_n 0, 1) := by decide +kernel
theorem dX5_in_10 : decode cX5_in 10 = .ok (.getfield 18, 3) := by decide +kernel
theorem dX5_in_13 : decode cX5_in 13 = .ok (.if_icmp .gt 10, 3) := by decide +kernel
theorem dX5_in_16 : decode cX5_in 16 = .ok (.aload_n 0, 1) := by decide +kernel
theorem dX5_in_17 : decode cX5_in 17 = .ok (.getfield 9, 3) := by decide +kernel
theorem dX5_in_20 : decode cX5_in 20 = .ok (.goto 4, 3) := by decide +kernel
theorem dX5_in_23 : decode cX5_in 23 = .ok (.iconst 0, 1) := by decide +kernel
theorem dX5_in_24 : decode cX5_in 24 = .ok (.ireturn, 1) := by decide +kernel
theorem dX6_init_0 : decode cX6_init 0 = .ok (.aload_n 0, 1) := by decide +kernel
theorem dX6_init_1 : decode cX6_init 1 = .ok (.invokespecial 1, 3) := by decide +kernel
theorem dX6_init_4 : decode cX6_init 4 = .ok (.aload_n 0, 1) := by decide +kernel
theorem dX6_init_5 : decode cX6_init 5 = .ok (.new 7, 3) := by decide +kernel
theorem dX6_init_8 : decode cX6_init 8 = .ok (.dup, 1) := by decide +kernel
theorem dX6_init_9 : decode cX6_init 9 = .ok (.invokespecial 9, 3) := by decide +kernel
theorem dX6_init_12 : decode cX6_init 12 = .ok (.putfield 10, 3) := by decide +kernel
theorem dX6_init_15 : decode cX6_init 15 = .ok (.aload_n 0, 1) := by decide +kernel
theorem dX6_init_16 : decode cX6_init 16 = .ok (.new 7, 3) := by decide +kernel
theorem dX6_init_19 : decode cX6_init 19 = .ok (.dup, 1) := by decide +kernel
theorem dX6_init_20 : decode cX6_init 20 = .ok (.invokespecial 9, 3) := by decide +kernel
theorem dX6_init_23 : decode cX6_init 23 = .ok (.putfield 16, 3) := by decide +kernel
theorem dX6_init_26 : decode cX6_init 26 = .ok (.aload_n 0, 1) := by decide +kernel
theorem dX6_init_27 : decode cX6_init 27 = .ok (.new 7, 3) := by decide +kernel
theorem dX6_init_30 : decode cX6_init 30 = .ok (.dup, 1) := by decide +kernel
theorem dX6_init_31 : decode cX6_init 31 = .ok (.invokespecial 9, 3) := by decide +kernel
theorem dX6_init_34 : decode cX6_init 34 = .ok (.putfield 19, 3) := by decide +kernel
theorem dX6_init_37 : decode cX6_init 37 = .ok (.aload_n 0, 1) := by decide +kernel
theorem dX6_init_38 : decode cX6_init 38 = .ok (.new 22, 3) := by decide +kernel
theorem dX6_init_41 : decode cX6_init 41 = .ok (.dup, 1) := by decide +kernel
theorem dX6_init_42 : decode cX6_init 42 = .ok (.invokespecial 24, 3) := by decide +kernel
theorem dX6_init_45 : decode cX6_init 45 = .ok (.putfield 25, 3) := by decide +kernel
theorem dX6_init_48 : decode cX6_init 48 = .ok (.aload_n 0, 1) := by decide +kernel
theorem dX6_init_49 : decode cX6_init 49 = .ok (.new 29, 3) := by decide +kernel
theorem dX6_init_52 : decode cX6_init 52 = .ok (.dup, 1) := by decide +kernel
theorem dX6_init_53 : decode cX6_init 53 = .ok (.invokespecial 31, 3) := by decide +kernel
theorem dX6_init_56 : decode cX6_init 56 = .ok (.putfield 32, 3) := by decide +kernel
theorem dX6_init_59 : decode cX6_init 59 = .ok (.return_, 1) := by decide +kernel
theorem dX6_file_0 : decode cX6_file 0 = .ok (.iload_n 1, 1) := by decide +kernel
theorem dX6_file_1 : decode cX6_file 1 = .ok (.iconst 0, 1) := by decide +kernel
theorem dX6_file_2 : decode cX6_file 2 = .ok (.sipush 255, 3) := by decide +kernel
theorem dX6_file_5 : decode cX6_file 5 = .ok (.invokestatic 36, 3) := by decide +kernel
theorem dX6_file_8 : decode cX6_file 8 = .ok (.aload_n 0, 1) := by decide +kernel
theorem dX6_file_9 : decode cX6_file 9 = .ok (.getfield 10, 3) := by decide +kernel
theorem dX6_file_12 : decode cX6_file 12 = .ok (.invokevirtual 40, 3) := by decide +kernel
theorem dX6_file_15 : decode cX6_file 15 = .ok (.bipush 16, 2) := by decide +kernel
theorem dX6_file_17 : decode cX6_file 17 = .ok (.if_icmp .lt 13, 3) := by decide +kernel
theorem dX6_file_20 : decode cX6_file 20 = .ok (.new 44, 3) := by decide +kernel
theorem dX6_file_23 : decode cX6_file 23 = .ok (.dup, 1) := by decide +kernel
theorem dX6_file_24 : decode cX6_file 24 = .ok (.ldc 46, 2) := by decide +kernel
theorem dX6_file_26 : decode cX6_file 26 = .ok (.invokespecial 48, 3) := by decide +kernel
theorem dX6_file_29 : decode cX6_file 29 = .ok (.athrow, 1) := by decide +kernel
theorem dX6_file_30 : decode cX6_file 30 = .ok (.aload_n 0, 1) := by decide +kernel
theorem dX6_file_31 : decode cX6_file 31 = .ok (.getfield 10, 3) := by decide +kernel
theorem dX6_file_34 : decode cX6_file 34 = .ok (.new 51, 3) := by decide +kernel
theorem dX6_file_37 : decode cX6_file 37 = .ok (.dup, 1) := by decide +kernel
theorem dX6_file_38 : decode cX6_file 38 = .ok (.iload_n 1, 1) := by decide +kernel
theorem dX6_file_39 : decode cX6_file 39 = .ok (.invokespecial 53, 3) := by decide +kernel
theorem dX6_file_42 : decode cX6_file 42 = .ok (.invokevirtual 56, 3) := by decide +kernel
theorem dX6_file_45 : decode cX6_file 45 = .ok (.pop, 1) := by decide +kernel
theorem dX6_file_46 : decode cX6_file 46 = .ok (.aload_n 0, 1) := by decide +kernel
theorem dX6_file_47 : decode cX6_file 47 = .ok (.getfield 10, 3) := by decide +kernel
theorem dX6_file_50 : decode cX6_file 50 = .ok (.invokevirtual 40, 3) := by decide +kernel
theorem dX6_file_53 : decode cX6_file 53 = .ok (.iconst 1, 1) := by decide +kernel
theorem dX6_file_54 : decode cX6_file 54 = .ok (.isub, 1) := by decide +kernel
theorem dX6_file_55 : decode cX6_file 55 = .ok (.ireturn, 1) := by decide +kernel
theorem dX6_change_0 : decode cX6_change 0 = .ok (.aload_n 0, 1) := by decide +kernel
theorem dX6_change_1 : decode cX6_change 1 = .ok (.iload_n 1, 1) := by decide +kernel
theorem dX6_change_2 : decode cX6_change 2 = .ok (.invokevirtual 60, 3) := by decide +kernel
theorem dX6_change_5 : decode cX6_change 5 = .ok (.astore_n 3, 1) := by decide +kernel
theorem dX6_change_6 : decode cX6_change 6 = .ok (.iload_n 2, 1) := by decide +kernel
theorem dX6_change_7 : decode cX6_change 7 = .ok (.iconst 0, 1) := by decide +kernel
theorem dX6_change_8 : decode cX6_change 8 = .ok (.sipush 255, 3) := by decide +kernel
theorem dX6_change_11 : decode cX6_change 11 = .ok (.invokestatic 36, 3) := by decide +kernel
theorem dX6_change_14 : decode cX6_change 14 = .ok (.aload_n 3, 1) := by decide +kernel
theorem dX6_change_15 : decode cX6_change 15 = .ok (.iload_n 2, 1) := by decide +kernel
theorem dX6_change_16 : decode cX6_change 16 = .ok (.putfield 64, 3) := by decide +kernel
theorem dX6_change_19 : decode cX6_change 19 = .ok (.iconst 0, 1) := by decide +kernel
theorem dX6_change_20 : decode cX6_change 20 = .ok (.istore 4, 2) := by decide +kernel
theorem dX6_change_22 : decode cX6_change 22 = .ok (.iconst 0, 1) := by decide +kernel
theorem dX6_change_23 : decode cX6_change 23 = .ok (.istore 5, 2) := by decide +kernel
theorem dX6_change_25 : decode cX6_change 25 = .ok (.iload 5, 2) := by decide +kernel
theorem dX6_change_27 : decode cX6_change 27 = .ok (.aload_n 0, 1) := by decide +kernel
theorem dX6_change_28 : decode cX6_change 28 = .ok (.getfield 16, 3) := by decide +kernel
theorem dX6_change_31 : decode cX6_change 31 = .ok (.invokevirtual 40, 3) := by decide +kernel
theorem dX6_change_34 : decode cX6_change 34 = .ok (.if_icmp .ge 31, 3) := by decide +kernel
theorem dX6_change_37 : decode cX6_change 37 = .ok (.iload 4, 2) := by decide +kernel
theorem dX6_change_39 : decode cX6_change 39 = .ok (.aload_n 0, 1) := by decide +kernel
theorem dX6_change_40 : decode cX6_change 40 = .ok (.aload_n 0, 1) := by decide +kernel
theorem dX6_change_41 : decode cX6_change 41 = .ok (.getfield 16, 3) := by decide +kernel
theorem dX6_change_44 : decode cX6_change 44 = .ok (.iload 5, 2) := by decide +kernel
theorem dX6_change_46 : decode cX6_change 46 = .ok (.invokevirtual 68, 3) := by decide +kernel
theorem dX6_change_49 : decode cX6_change 49 = .ok (.checkcast 72, 3) := by decide +kernel
theorem dX6_change_52 : decode cX6_change 52 = .ok (.iload_n 1, 1) := by decide +kernel
theorem dX6_change_53 : decode cX6_change 53 = .ok (.invokevirtual 74, 3) := by decide +kernel
theorem dX6_change_56 : decode cX6_change 56 = .ok (.iadd, 1) := by decide +kernel
theorem dX6_change_57 : decode cX6_change 57 = .ok (.istore 4, 2) := by decide +kernel
theorem dX6_change_59 : decode cX6_change 59 = .ok (.iinc 5 1, 3) := by decide +kernel
theorem dX6_change_62 : decode cX6_change 62 = .ok (.goto (-37), 3) := by decide +kernel
theorem dX6_change_65 : decode cX6_change 65 = .ok (.iload 4, 2) := by decide +kernel
theorem dX6_change_67 : decode cX6_change 67 = .ok (.ireturn, 1) := by decide +kernel
theorem dX6_party_0 : decode cX6_party 0 = .ok (.iload_n 1, 1) := by decide +kernel
theorem dX6_party_1 : decode cX6_party 1 = .ok (.iconst 0, 1) := by decide +kernel
theorem dX6_party_2 : decode cX6_party 2 = .ok (.sipush 128, 3) := by decide +kernel
theorem dX6_party_5 : decode cX6_party 5 = .ok (.invokestatic 36, 3) := by decide +kernel
theorem dX6_party_8 : decode cX6_party 8 = .ok (.aload_n 0, 1) := by decide +kernel
theorem dX6_party_9 : decode cX6_party 9 = .ok (.getfield 16, 3) := by decide +kernel
theorem dX6_party_12 : decode cX6_party 12 = .ok (.invokevirtual 40, 3) := by decide +kernel
theorem dX6_party_15 : decode cX6_party 15 = .ok (.bipush 6, 2) := by decide +kernel
theorem dX6_party_17 : decode cX6_party 17 = .ok (.if_icmp .lt 13, 3) := by decide +kernel
theorem dX6_party_20 : decode cX6_party 20 = .ok (.new 44, 3) := by decide +kernel
theorem dX6_party_23 : decode cX6_party 23 = .ok (.dup, 1) := by decide +kernel
theorem dX6_party_24 : decode cX6_party 24 = .ok (.ldc 78, 2) := by decide +kernel
theorem dX6_party_26 : decode cX6_party 26 = .ok (.invokespecial 48, 3) := by decide +kernel
theorem dX6_party_29 : decode cX6_party 29 = .ok (.athrow, 1) := by decide +kernel
theorem dX6_party_30 : decode cX6_party 30 = .ok (.aload_n 0, 1) := by decide +kernel
theorem dX6_party_31 : decode cX6_party 31 = .ok (.getfield 16, 3) := by decide +kernel
theorem dX6_party_34 : decode cX6_party 34 = .ok (.invokevirtual 40, 3) := by decide +kernel
theorem dX6_party_37 : decode cX6_party 37 = .ok (.istore_n 2, 1) := by decide +kernel
theorem dX6_party_38 : decode cX6_party 38 = .ok (.aload_n 0, 1) := by decide +kernel
theorem dX6_party_39 : decode cX6_party 39 = .ok (.getfield 16, 3) := by decide +kernel
theorem dX6_party_42 : decode cX6_party 42 = .ok (.new 72, 3) := by decide +kernel
theorem dX6_party_45 : decode cX6_party 45 = .ok (.dup, 1) := by decide +kernel
theorem dX6_party_46 : decode cX6_party 46 = .ok (.iload_n 2, 1) := by decide +kernel
theorem dX6_party_47 : decode cX6_party 47 = .ok (.iload_n 1, 1) := by decide +kernel
theorem dX6_party_48 : decode cX6_party 48 = .ok (.invokespecial 80, 3) := by decide +kernel
theorem dX6_party_51 : decode cX6_party 51 = .ok (.invokevirtual 56, 3) := by decide +kernel
theorem dX6_party_54 : decode cX6_party 54 = .ok (.pop, 1) := by decide +kernel
theorem dX6_party_55 : decode cX6_party 55 = .ok (.iload_n 2, 1) := by decide +kernel
theorem dX6_party_56 : decode cX6_party 56 = .ok (.ireturn, 1) := by decide +kernel
theorem dX6_budget_0 : decode cX6_budget 0 = .ok (.aload_n 0, 1) := by decide +kernel
theorem dX6_budget_1 : decode cX6_budget 1 = .ok (.iload_n 1, 1) := by decide +kernel
theorem dX6_budget_2 : decode cX6_budget 2 = .ok (.invokevirtual 83, 3) := by decide +kernel
theorem dX6_budget_5 : decode cX6_budget 5 = .ok (.astore_n 3, 1) := by decide +kernel
theorem dX6_budget_6 : decode cX6_budget 6 = .ok (.iload_n 2, 1) := by decide +kernel
theorem dX6_budget_7 : decode cX6_budget 7 = .ok (.iconst 0, 1) := by decide +kernel
theorem dX6_budget_8 : decode cX6_budget 8 = .ok (.sipush 128, 3) := by decide +kernel
theorem dX6_budget_11 : decode cX6_budget 11 = .ok (.invokestatic 36, 3) := by decide +kernel
theorem dX6_budget_14 : decode cX6_budget 14 = .ok (.aload_n 3, 1) := by decide +kernel
theorem dX6_budget_15 : decode cX6_budget 15 = .ok (.getfield 87, 3) := by decide +kernel
theorem dX6_budget_18 : decode cX6_budget 18 = .ok (.istore 4, 2) := by decide +kernel
theorem dX6_budget_20 : decode cX6_budget 20 = .ok (.aload_n 3, 1) := by decide +kernel
theorem dX6_budget_21 : decode cX6_budget 21 = .ok (.iload_n 2, 1) := by decide +kernel
theorem dX6_budget_22 : decode cX6_budget 22 = .ok (.putfield 87, 3) := by decide +kernel
theorem dX6_budget_25 : decode cX6_budget 25 = .ok (.iload 4, 2) := by decide +kernel
theorem dX6_budget_27 : decode cX6_budget 27 = .ok (.ireturn, 1) := by decide +kernel
theorem dX6_right_0 : decode cX6_right 0 = .ok (.aload_n 0, 1) := by decide +kernel
theorem dX6_right_1 : decode cX6_right 1 = .ok (.iload_n 1, 1) := by decide +kernel
theorem dX6_right_2 : decode cX6_right 2 = .ok (.invokevirtual 83, 3) := by decide +kernel
theorem dX6_right_5 : decode cX6_right 5 = .ok (.astore 6, 2) := by decide +kernel
theorem dX6_right_7 : decode cX6_right 7 = .ok (.aload_n 0, 1) := by decide +kernel
theorem dX6_right_8 : decode cX6_right 8 = .ok (.iload_n 2, 1) := by decide +kernel
theorem dX6_right_9 : decode cX6_right 9 = .ok (.invokevirtual 90, 3) := by decide +kernel
theorem dX6_right_12 : decode cX6_right 12 = .ok (.iload_n 3, 1) := by decide +kernel
theorem dX6_right_13 : decode cX6_right 13 = .ok (.iconst 1, 1) := by decide +kernel
theorem dX6_right_14 : decode cX6_right 14 = .ok (.iconst 2, 1) := by decide +kernel
theorem dX6_right_15 : decode cX6_right 15 = .ok (.invokestatic 36, 3) := by decide +kernel
theorem dX6_right_18 : decode cX6_right 18 = .ok (.iload 4, 2) := by decide +kernel
theorem dX6_right_20 : decode cX6_right 20 = .ok (.iconst 0, 1) := by decide +kernel
theorem dX6_right_21 : decode cX6_right 21 = .ok (.sipush 5000, 3) := by decide +kernel
theorem dX6_right_24 : decode cX6_right 24 = .ok (.invokestatic 36, 3) := by decide +kernel
theorem dX6_right_27 : decode cX6_right 27 = .ok (.iload 5, 2) := by decide +kernel
theorem dX6_right_29 : decode cX6_right 29 = .ok (.iload 4, 2) := by decide +kernel
theorem dX6_right_31 : decode cX6_right 31 = .ok (.sipush 5000, 3) := by decide +kernel
theorem dX6_right_34 : decode cX6_right 34 = .ok (.invokestatic 36, 3) := by decide +kernel
theorem dX6_right_37 : decode cX6_right 37 = .ok (.aload 6, 2) := by decide +kernel
theorem dX6_right_39 : decode cX6_right 39 = .ok (.iload_n 2, 1) := by decide +kernel
theorem dX6_right_40 : decode cX6_right 40 = .ok (.new 93, 3) := by decide +kernel
theorem dX6_right_43 : decode cX6_right 43 = .ok (.dup, 1) := by decide +kernel
theorem dX6_right_44 : decode cX6_right 44 = .ok (.iload_n 3, 1) := by decide +kernel
theorem dX6_right_45 : decode cX6_right 45 = .ok (.iload 4, 2) := by decide +kernel
theorem dX6_right_47 : decode cX6_right 47 = .ok (.iload 5, 2) := by decide +kernel
theorem dX6_right_49 : decode cX6_right 49 = .ok (.invokespecial 95, 3) := by decide +kernel
theorem dX6_right_52 : decode cX6_right 52 = .ok (.invokevirtual 97, 3) := by decide +kernel
theorem dX6_right_55 : decode cX6_right 55 = .ok (.return_, 1) := by decide +kernel
theorem dX6_takeBack_0 : decode cX6_takeBack 0 = .ok (.aload_n 0, 1) := by decide +kernel
theorem dX6_takeBack_1 : decode cX6_takeBack 1 = .ok (.iload_n 1, 1) := by decide +kernel
theorem dX6_takeBack_2 : decode cX6_takeBack 2 = .ok (.invokevirtual 83, 3) := by decide +kernel
theorem dX6_takeBack_5 : decode cX6_takeBack 5 = .ok (.astore_n 3, 1) := by decide +kernel
theorem dX6_takeBack_6 : decode cX6_takeBack 6 = .ok (.aload_n 0, 1) := by decide +kernel
theorem dX6_takeBack_7 : decode cX6_takeBack 7 = .ok (.iload_n 2, 1) := by decide +kernel
theorem dX6_takeBack_8 : decode cX6_takeBack 8 = .ok (.invokevirtual 90, 3) := by decide +kernel
theorem dX6_takeBack_11 : decode cX6_takeBack 11 = .ok (.aload_n 3, 1) := by decide +kernel
theorem dX6_takeBack_12 : decode cX6_takeBack 12 = .ok (.iload_n 2, 1) := by decide +kernel
theorem dX6_takeBack_13 : decode cX6_takeBack 13 = .ok (.invokevirtual 101, 3) := by decide +kernel
theorem dX6_takeBack_16 : decode cX6_takeBack 16 = .ok (.ifnonnull 5, 3) := by decide +kernel
theorem dX6_takeBack_19 : decode cX6_takeBack 19 = .ok (.iconst 0, 1) := by decide +kernel
theorem dX6_takeBack_20 : decode cX6_takeBack 20 = .ok (.ireturn, 1) := by decide +kernel
theorem dX6_takeBack_21 : decode cX6_takeBack 21 = .ok (.aload_n 3, 1) := by decide +kernel
theorem dX6_takeBack_22 : decode cX6_takeBack 22 = .ok (.iload_n 2, 1) := by decide +kernel
theorem dX6_takeBack_23 : decode cX6_takeBack 23 = .ok (.aconst_null, 1) := by decide +kernel
theorem dX6_takeBack_24 : decode cX6_takeBack 24 = .ok (.invokevirtual 97, 3) := by decide +kernel
theorem dX6_takeBack_27 : decode cX6_takeBack 27 = .ok (.aload_n 0, 1) := by decide +kernel
theorem dX6_takeBack_28 : decode cX6_takeBack 28 = .ok (.aload_n 3, 1) := by decide +kernel
theorem dX6_takeBack_29 : decode cX6_takeBack 29 = .ok (.iload_n 2, 1) := by decide +kernel
theorem dX6_takeBack_30 : decode cX6_takeBack 30 = .ok (.invokevirtual 74, 3) := by decide +kernel
theorem dX6_takeBack_33 : decode cX6_takeBack 33 = .ok (.ireturn, 1) := by decide +kernel
theorem dX6_seal_0 : decode cX6_seal 0 = .ok (.aload_n 0, 1) := by decide +kernel
theorem dX6_seal_1 : decode cX6_seal 1 = .ok (.iload_n 1, 1) := by decide +kernel
theorem dX6_seal_2 : decode cX6_seal 2 = .ok (.invokevirtual 60, 3) := by decide +kernel
theorem dX6_seal_5 : decode cX6_seal 5 = .ok (.astore_n 3, 1) := by decide +kernel
theorem dX6_seal_6 : decode cX6_seal 6 = .ok (.iload_n 2, 1) := by decide +kernel
theorem dX6_seal_7 : decode cX6_seal 7 = .ok (.iconst 0, 1) := by decide +kernel
theorem dX6_seal_8 : decode cX6_seal 8 = .ok (.sipush 5000, 3) := by decide +kernel
theorem dX6_seal_11 : decode cX6_seal 11 = .ok (.invokestatic 36, 3) := by decide +kernel
theorem dX6_seal_14 : decode cX6_seal 14 = .ok (.aload_n 3, 1) := by decide +kernel
theorem dX6_seal_15 : decode cX6_seal 15 = .ok (.iload_n 2, 1) := by decide +kernel
theorem dX6_seal_16 : decode cX6_seal 16 = .ok (.putfield 105, 3) := by decide +kernel
theorem dX6_seal_19 : decode cX6_seal 19 = .ok (.return_, 1) := by decide +kernel
theorem dX6_pass_0 : decode cX6_pass 0 = .ok (.iload_n 1, 1) := by decide +kernel
theorem dX6_pass_1 : decode cX6_pass 1 = .ok (.iconst 1, 1) := by decide +kernel
theorem dX6_pass_2 : decode cX6_pass 2 = .ok (.sipush 500, 3) := by decide +kernel
theorem dX6_pass_5 : decode cX6_pass 5 = .ok (.invokestatic 36, 3) := by decide +kernel
theorem dX6_pass_8 : decode cX6_pass 8 = .ok (.aload_n 0, 1) := by decide +kernel
theorem dX6_pass_9 : decode cX6_pass 9 = .ok (.getfield 108, 3) := by decide +kernel
theorem dX6_pass_12 : decode cX6_pass 12 = .ok (.iload_n 1, 1) := by decide +kernel
theorem dX6_pass_13 : decode cX6_pass 13 = .ok (.iadd, 1) := by decide +kernel
theorem dX6_pass_14 : decode cX6_pass 14 = .ok (.sipush 5000, 3) := by decide +kernel
theorem dX6_pass_17 : decode cX6_pass 17 = .ok (.if_icmp .le 13, 3) := by decide +kernel
theorem dX6_pass_20 : decode cX6_pass 20 = .ok (.new 44, 3) := by decide +kernel
theorem dX6_pass_23 : decode cX6_pass 23 = .ok (.dup, 1) := by decide +kernel
theorem dX6_pass_24 : decode cX6_pass 24 = .ok (.ldc 111, 2) := by decide +kernel
theorem dX6_pass_26 : decode cX6_pass 26 = .ok (.invokespecial 48, 3) := by decide +kernel
theorem dX6_pass_29 : decode cX6_pass 29 = .ok (.athrow, 1) := by decide +kernel
theorem dX6_pass_30 : decode cX6_pass 30 = .ok (.aload_n 0, 1) := by decide +kernel
theorem dX6_pass_31 : decode cX6_pass 31 = .ok (.dup, 1) := by decide +kernel
theorem dX6_pass_32 : decode cX6_pass 32 = .ok (.getfield 108, 3) := by decide +kernel
theorem dX6_pass_35 : decode cX6_pass 35 = .ok (.iload_n 1, 1) := by decide +kernel
theorem dX6_pass_36 : decode cX6_pass 36 = .ok (.iadd, 1) := by decide +kernel
theorem dX6_pass_37 : decode cX6_pass 37 = .ok (.putfield 108, 3) := by decide +kernel
theorem dX6_pass_40 : decode cX6_pass 40 = .ok (.aload_n 0, 1) := by decide +kernel
theorem dX6_pass_41 : decode cX6_pass 41 = .ok (.getfield 108, 3) := by decide +kernel
theorem dX6_pass_44 : decode cX6_pass 44 = .ok (.ireturn, 1) := by decide +kernel
theorem dX6_ask_0 : decode cX6_ask 0 = .ok (.aload_n 0, 1) := by decide +kernel
theorem dX6_ask_1 : decode cX6_ask 1 = .ok (.iload_n 1, 1) := by decide +kernel
theorem dX6_ask_2 : decode cX6_ask 2 = .ok (.invokevirtual 83, 3) := by decide +kernel
theorem dX6_ask_5 : decode cX6_ask 5 = .ok (.astore 4, 2) := by decide +kernel
theorem dX6_ask_7 : decode cX6_ask 7 = .ok (.aload_n 0, 1) := by decide +kernel
theorem dX6_ask_8 : decode cX6_ask 8 = .ok (.iload_n 2, 1) := by decide +kernel
theorem dX6_ask_9 : decode cX6_ask 9 = .ok (.iload_n 3, 1) := by decide +kernel
theorem dX6_ask_10 : decode cX6_ask 10 = .ok (.invokevirtual 113, 3) := by decide +kernel
theorem dX6_ask_13 : decode cX6_ask 13 = .ok (.aload_n 0, 1) := by decide +kernel
theorem dX6_ask_14 : decode cX6_ask 14 = .ok (.getfield 19, 3) := by decide +kernel
theorem dX6_ask_17 : decode cX6_ask 17 = .ok (.invokevirtual 40, 3) := by decide +kernel
theorem dX6_ask_20 : decode cX6_ask 20 = .ok (.sipush 150, 3) := by decide +kernel
theorem dX6_ask_23 : decode cX6_ask 23 = .ok (.if_icmp .lt 13, 3) := by decide +kernel
theorem dX6_ask_26 : decode cX6_ask 26 = .ok (.new 44, 3) := by decide +kernel
theorem dX6_ask_29 : decode cX6_ask 29 = .ok (.dup, 1) := by decide +kernel
theorem dX6_ask_30 : decode cX6_ask 30 = .ok (.ldc 116, 2) := by decide +kernel
theorem dX6_ask_32 : decode cX6_ask 32 = .ok (.invokespecial 48, 3) := by decide +kernel
theorem dX6_ask_35 : decode cX6_ask 35 = .ok (.athrow, 1) := by decide +kernel
theorem dX6_ask_36 : decode cX6_ask 36 = .ok (.aload_n 0, 1) := by decide +kernel
theorem dX6_ask_37 : decode cX6_ask 37 = .ok (.aload 4, 2) := by decide +kernel
theorem dX6_ask_39 : decode cX6_ask 39 = .ok (.iload_n 2, 1) := by decide +kernel
theorem dX6_ask_40 : decode cX6_ask 40 = .ok (.iload_n 3, 1) := by decide +kernel
theorem dX6_ask_41 : decode cX6_ask 41 = .ok (.invokevirtual 118, 3) := by decide +kernel
theorem dX6_ask_44 : decode cX6_ask 44 = .ok (.istore 5, 2) := by decide +kernel
theorem dX6_ask_46 : decode cX6_ask 46 = .ok (.aload 4, 2) := by decide +kernel
theorem dX6_ask_48 : decode cX6_ask 48 = .ok (.iload 5, 2) := by decide +kernel
theorem dX6_ask_50 : decode cX6_ask 50 = .ok (.invokevirtual 122, 3) := by decide +kernel
theorem dX6_ask_53 : decode cX6_ask 53 = .ok (.iload 5, 2) := by decide +kernel
theorem dX6_ask_55 : decode cX6_ask 55 = .ok (.ifCond .eq 6, 3) := by decide +kernel
theorem dX6_ask_58 : decode cX6_ask 58 = .ok (.iload 5, 2) := by decide +kernel
theorem dX6_ask_60 : decode cX6_ask 60 = .ok (.ireturn, 1) := by decide +kernel
theorem dX6_ask_61 : decode cX6_ask 61 = .ok (.aload_n 0, 1) := by decide +kernel
theorem dX6_ask_62 : decode cX6_ask 62 = .ok (.iload_n 2, 1) := by decide +kernel
theorem dX6_ask_63 : decode cX6_ask 63 = .ok (.iload_n 3, 1) := by decide +kernel
theorem dX6_ask_64 : decode cX6_ask 64 = .ok (.invokevirtual 125, 3) := by decide +kernel
theorem dX6_ask_67 : decode cX6_ask 67 = .ok (.istore 6, 2) := by decide +kernel
theorem dX6_ask_69 : decode cX6_ask 69 = .ok (.aload_n 0, 1) := by decide +kernel
theorem dX6_ask_70 : decode cX6_ask 70 = .ok (.getfield 19, 3) := by decide +kernel
theorem dX6_ask_73 : decode cX6_ask 73 = .ok (.new 129, 3) := by decide +kernel
theorem dX6_ask_76 : decode cX6_ask 76 = .ok (.dup, 1) := by decide +kernel
theorem dX6_ask_77 : decode cX6_ask 77 = .ok (.aload 4, 2) := by decide +kernel
theorem dX6_ask_79 : decode cX6_ask 79 = .ok (.getfield 131, 3) := by decide +kernel
theorem dX6_ask_82 : decode cX6_ask 82 = .ok (.iload_n 2, 1) := by decide +kernel
theorem dX6_ask_83 : decode cX6_ask 83 = .ok (.iload_n 3, 1) := by decide +kernel
theorem dX6_ask_84 : decode cX6_ask 84 = .ok (.iload 6, 2) := by decide +kernel
theorem dX6_ask_86 : decode cX6_ask 86 = .ok (.aload_n 0, 1) := by decide +kernel
theorem dX6_ask_87 : decode cX6_ask 87 = .ok (.getfield 108, 3) := by decide +kernel
theorem dX6_ask_90 : decode cX6_ask 90 = .ok (.invokespecial 134, 3) := by decide +kernel
theorem dX6_ask_93 : decode cX6_ask 93 = .ok (.invokevirtual 56, 3) := by decide +kernel
theorem dX6_ask_96 : decode cX6_ask 96 = .ok (.pop, 1) := by decide +kernel
theorem dX6_ask_97 : decode cX6_ask 97 = .ok (.aload 4, 2) := by decide +kernel
theorem dX6_ask_99 : decode cX6_ask 99 = .ok (.iload_n 2, 1) := by decide +kernel
theorem dX6_ask_100 : decode cX6_ask 100 = .ok (.iload_n 3, 1) := by decide +kernel
theorem dX6_ask_101 : decode cX6_ask 101 = .ok (.invokevirtual 137, 3) := by decide +kernel
theorem dX6_ask_104 : decode cX6_ask 104 = .ok (.iload 6, 2) := by decide +kernel
theorem dX6_ask_106 : decode cX6_ask 106 = .ok (.ireturn, 1) := by decide +kernel
theorem dX6_cost_0 : decode cX6_cost 0 = .ok (.aload_n 0, 1) := by decide +kernel
theorem dX6_cost_1 : decode cX6_cost 1 = .ok (.iload_n 1, 1) := by decide +kernel
theorem dX6_cost_2 : decode cX6_cost 2 = .ok (.invokevirtual 83, 3) := by decide +kernel
theorem dX6_cost_5 : decode cX6_cost 5 = .ok (.astore 4, 2) := by decide +kernel
theorem dX6_cost_7 : decode cX6_cost 7 = .ok (.aload_n 0, 1) := by decide +kernel
theorem dX6_cost_8 : decode cX6_cost 8 = .ok (.iload_n 2, 1) := by decide +kernel
theorem dX6_cost_9 : decode cX6_cost 9 = .ok (.iload_n 3, 1) := by decide +kernel
theorem dX6_cost_10 : decode cX6_cost 10 = .ok (.invokevirtual 113, 3) := by decide +kernel
theorem dX6_cost_13 : decode cX6_cost 13 = .ok (.aload 4, 2) := by decide +kernel
theorem dX6_cost_15 : decode cX6_cost 15 = .ok (.iload_n 2, 1) := by decide +kernel
theorem dX6_cost_16 : decode cX6_cost 16 = .ok (.iload_n 3, 1) := by decide +kernel
theorem dX6_cost_17 : decode cX6_cost 17 = .ok (.invokevirtual 140, 3) := by decide +kernel
theorem dX6_cost_20 : decode cX6_cost 20 = .ok (.ireturn, 1) := by decide +kernel
theorem dX6_answer_0 : decode cX6_answer 0 = .ok (.iload_n 1, 1) := by decide +kernel
theorem dX6_answer_1 : decode cX6_answer 1 = .ok (.ifCond .lt 14, 3) := by decide +kernel
theorem dX6_answer_4 : decode cX6_answer 4 = .ok (.iload_n 1, 1) := by decide +kernel
theorem dX6_answer_5 : decode cX6_answer 5 = .ok (.aload_n 0, 1) := by decide +kernel
theorem dX6_answer_6 : decode cX6_answer 6 = .ok (.getfield 19, 3) := by decide +kernel
theorem dX6_answer_9 : decode cX6_answer 9 = .ok (.invokevirtual 40, 3) := by decide +kernel
theorem dX6_answer_12 : decode cX6_answer 12 = .ok (.if_icmp .lt 13, 3) := by decide +kernel
theorem dX6_answer_15 : decode cX6_answer 15 = .ok (.new 143, 3) := by decide +kernel
theorem dX6_answer_18 : decode cX6_answer 18 = .ok (.dup, 1) := by decide +kernel
theorem dX6_answer_19 : decode cX6_answer 19 = .ok (.ldc 145, 2) := by decide +kernel
theorem dX6_answer_21 : decode cX6_answer 21 = .ok (.invokespecial 147, 3) := by decide +kernel
theorem dX6_answer_24 : decode cX6_answer 24 = .ok (.athrow, 1) := by decide +kernel
theorem dX6_answer_25 : decode cX6_answer 25 = .ok (.iload_n 2, 1) := by decide +kernel
theorem dX6_answer_26 : decode cX6_answer 26 = .ok (.iconst 0, 1) := by decide +kernel
theorem dX6_answer_27 : decode cX6_answer 27 = .ok (.iconst 5, 1) := by decide +kernel
theorem dX6_answer_28 : decode cX6_answer 28 = .ok (.invokestatic 36, 3) := by decide +kernel
theorem dX6_answer_31 : decode cX6_answer 31 = .ok (.aload_n 0, 1) := by decide +kernel
theorem dX6_answer_32 : decode cX6_answer 32 = .ok (.getfield 19, 3) := by decide +kernel
theorem dX6_answer_35 : decode cX6_answer 35 = .ok (.iload_n 1, 1) := by decide +kernel
theorem dX6_answer_36 : decode cX6_answer 36 = .ok (.invokevirtual 68, 3) := by decide +kernel
theorem dX6_answer_39 : decode cX6_answer 39 = .ok (.checkcast 129, 3) := by decide +kernel
theorem dX6_answer_42 : decode cX6_answer 42 = .ok (.iload_n 2, 1) := by decide +kernel
theorem dX6_answer_43 : decode cX6_answer 43 = .ok (.invokevirtual 148, 3) := by decide +kernel
theorem dX6_answer_46 : decode cX6_answer 46 = .ok (.ireturn, 1) := by decide +kernel
theorem dX6_spent_0 : decode cX6_spent 0 = .ok (.aload_n 0, 1) := by decide +kernel
theorem dX6_spent_1 : decode cX6_spent 1 = .ok (.iload_n 1, 1) := by decide +kernel
theorem dX6_spent_2 : decode cX6_spent 2 = .ok (.invokevirtual 83, 3) := by decide +kernel
theorem dX6_spent_5 : decode cX6_spent 5 = .ok (.invokevirtual 152, 3) := by decide +kernel
theorem dX6_spent_8 : decode cX6_spent 8 = .ok (.ireturn, 1) := by decide +kernel
theorem dX6_spentAnew_0 : decode cX6_spentAnew 0 = .ok (.aload_n 0, 1) := by decide +kernel
theorem dX6_spentAnew_1 : decode cX6_spentAnew 1 = .ok (.iload_n 1, 1) := by decide +kernel
theorem dX6_spentAnew_2 : decode cX6_spentAnew 2 = .ok (.invokevirtual 83, 3) := by decide +kernel
theorem dX6_spentAnew_5 : decode cX6_spentAnew 5 = .ok (.astore_n 2, 1) := by decide +kernel
theorem dX6_spentAnew_6 : decode cX6_spentAnew 6 = .ok (.iconst 0, 1) := by decide +kernel
theorem dX6_spentAnew_7 : decode cX6_spentAnew 7 = .ok (.istore_n 3, 1) := by decide +kernel
theorem dX6_spentAnew_8 : decode cX6_spentAnew 8 = .ok (.iconst 0, 1) := by decide +kernel
theorem dX6_spentAnew_9 : decode cX6_spentAnew 9 = .ok (.istore 4, 2) := by decide +kernel
theorem dX6_spentAnew_11 : decode cX6_spentAnew 11 = .ok (.iload 4, 2) := by decide +kernel
theorem dX6_spentAnew_13 : decode cX6_spentAnew 13 = .ok (.bipush 8, 2) := by decide +kernel
theorem dX6_spentAnew_15 : decode cX6_spentAnew 15 = .ok (.if_icmp .ge 22, 3) := by decide +kernel
theorem dX6_spentAnew_18 : decode cX6_spentAnew 18 = .ok (.iload_n 3, 1) := by decide +kernel
theorem dX6_spentAnew_19 : decode cX6_spentAnew 19 = .ok (.aload_n 0, 1) := by decide +kernel
theorem dX6_spentAnew_20 : decode cX6_spentAnew 20 = .ok (.aload_n 2, 1) := by decide +kernel
theorem dX6_spentAnew_21 : decode cX6_spentAnew 21 = .ok (.iload 4, 2) := by decide +kernel
theorem dX6_spentAnew_23 : decode cX6_spentAnew 23 = .ok (.invokevirtual 155, 3) := by decide +kernel
theorem dX6_spentAnew_26 : decode cX6_spentAnew 26 = .ok (.invokestatic 158, 3) := by decide +kernel
theorem dX6_spentAnew_29 : decode cX6_spentAnew 29 = .ok (.iadd, 1) := by decide +kernel
theorem dX6_spentAnew_30 : decode cX6_spentAnew 30 = .ok (.istore_n 3, 1) := by decide +kernel
theorem dX6_spentAnew_31 : decode cX6_spentAnew 31 = .ok (.iinc 4 1, 3) := by decide +kernel
theorem dX6_spentAnew_34 : decode cX6_spentAnew 34 = .ok (.goto (-23), 3) := by decide +kernel
theorem dX6_spentAnew_37 : decode cX6_spentAnew 37 = .ok (.iload_n 3, 1) := by decide +kernel
theorem dX6_spentAnew_38 : decode cX6_spentAnew 38 = .ok (.ireturn, 1) := by decide +kernel
theorem dX6_finds_0 : decode cX6_finds 0 = .ok (.aload_n 0, 1) := by decide +kernel
theorem dX6_finds_1 : decode cX6_finds 1 = .ok (.iload_n 1, 1) := by decide +kernel
theorem dX6_finds_2 : decode cX6_finds 2 = .ok (.invokevirtual 83, 3) := by decide +kernel
theorem dX6_finds_5 : decode cX6_finds 5 = .ok (.astore_n 3, 1) := by decide +kernel
theorem dX6_finds_6 : decode cX6_finds 6 = .ok (.aload_n 0, 1) := by decide +kernel
theorem dX6_finds_7 : decode cX6_finds 7 = .ok (.iload_n 2, 1) := by decide +kernel
theorem dX6_finds_8 : decode cX6_finds 8 = .ok (.invokevirtual 90, 3) := by decide +kernel
theorem dX6_finds_11 : decode cX6_finds 11 = .ok (.iconst 0, 1) := by decide +kernel
theorem dX6_finds_12 : decode cX6_finds 12 = .ok (.istore 4, 2) := by decide +kernel
theorem dX6_finds_14 : decode cX6_finds 14 = .ok (.iconst 0, 1) := by decide +kernel
theorem dX6_finds_15 : decode cX6_finds 15 = .ok (.istore 5, 2) := by decide +kernel
theorem dX6_finds_17 : decode cX6_finds 17 = .ok (.iload 5, 2) := by decide +kernel
theorem dX6_finds_19 : decode cX6_finds 19 = .ok (.aload_n 3, 1) := by decide +kernel
theorem dX6_finds_20 : decode cX6_finds 20 = .ok (.getfield 161, 3) := by decide +kernel
theorem dX6_finds_23 : decode cX6_finds 23 = .ok (.arraylength, 1) := by decide +kernel
theorem dX6_finds_24 : decode cX6_finds 24 = .ok (.if_icmp .ge 34, 3) := by decide +kernel
theorem dX6_finds_27 : decode cX6_finds 27 = .ok (.aload_n 3, 1) := by decide +kernel
theorem dX6_finds_28 : decode cX6_finds 28 = .ok (.getfield 161, 3) := by decide +kernel
theorem dX6_finds_31 : decode cX6_finds 31 = .ok (.iload 5, 2) := by decide +kernel
theorem dX6_finds_33 : decode cX6_finds 33 = .ok (.aaload, 1) := by decide +kernel
theorem dX6_finds_34 : decode cX6_finds 34 = .ok (.iconst 1, 1) := by decide +kernel
theorem dX6_finds_35 : decode cX6_finds 35 = .ok (.iload_n 2, 1) := by decide +kernel
theorem dX6_finds_36 : decode cX6_finds 36 = .ok (.ishl, 1) := by decide +kernel
theorem dX6_finds_37 : decode cX6_finds 37 = .ok (.invokevirtual 165, 3) := by decide +kernel
theorem dX6_finds_40 : decode cX6_finds 40 = .ok (.ifCond .eq 12, 3) := by decide +kernel
theorem dX6_finds_43 : decode cX6_finds 43 = .ok (.iload 4, 2) := by decide +kernel
theorem dX6_finds_45 : decode cX6_finds 45 = .ok (.iconst 1, 1) := by decide +kernel
theorem dX6_finds_46 : decode cX6_finds 46 = .ok (.iload 5, 2) := by decide +kernel
theorem dX6_finds_48 : decode cX6_finds 48 = .ok (.ishl, 1) := by decide +kernel
theorem dX6_finds_49 : decode cX6_finds 49 = .ok (.ior, 1) := by decide +kernel
theorem dX6_finds_50 : decode cX6_finds 50 = .ok (.istore 4, 2) := by decide +kernel
theorem dX6_finds_52 : decode cX6_finds 52 = .ok (.iinc 5 1, 3) := by decide +kernel
theorem dX6_finds_55 : decode cX6_finds 55 = .ok (.goto (-38), 3) := by decide +kernel
theorem dX6_finds_58 : decode cX6_finds 58 = .ok (.iload 4, 2) := by decide +kernel
theorem dX6_finds_60 : decode cX6_finds 60 = .ok (.ireturn, 1) := by decide +kernel
theorem dX6_together_0 : decode cX6_together 0 = .ok (.aload_n 0, 1) := by decide +kernel
theorem dX6_together_1 : decode cX6_together 1 = .ok (.iload_n 2, 1) := by decide +kernel
theorem dX6_together_2 : decode cX6_together 2 = .ok (.invokevirtual 90, 3) := by decide +kernel
theorem dX6_together_5 : decode cX6_together 5 = .ok (.iload_n 1, 1) := by decide +kernel
theorem dX6_together_6 : decode cX6_together 6 = .ok (.iconst 0, 1) := by decide +kernel
theorem dX6_together_7 : decode cX6_together 7 = .ok (.iconst 1, 1) := by decide +kernel
theorem dX6_together_8 : decode cX6_together 8 = .ok (.aload_n 0, 1) := by decide +kernel
theorem dX6_together_9 : decode cX6_together 9 = .ok (.getfield 16, 3) := by decide +kernel
theorem dX6_together_12 : decode cX6_together 12 = .ok (.invokevirtual 40, 3) := by decide +kernel
theorem dX6_together_15 : decode cX6_together 15 = .ok (.ishl, 1) := by decide +kernel
theorem dX6_together_16 : decode cX6_together 16 = .ok (.iconst 1, 1) := by decide +kernel
theorem dX6_together_17 : decode cX6_together 17 = .ok (.isub, 1) := by decide +kernel
theorem dX6_together_18 : decode cX6_together 18 = .ok (.invokestatic 36, 3) := by decide +kernel
theorem dX6_together_21 : decode cX6_together 21 = .ok (.iconst 0, 1) := by decide +kernel
theorem dX6_together_22 : decode cX6_together 22 = .ok (.istore_n 3, 1) := by decide +kernel
theorem dX6_together_23 : decode cX6_together 23 = .ok (.iconst 0, 1) := by decide +kernel
theorem dX6_together_24 : decode cX6_together 24 = .ok (.istore 4, 2) := by decide +kernel
theorem dX6_together_26 : decode cX6_together 26 = .ok (.iload 4, 2) := by decide +kernel
theorem dX6_together_28 : decode cX6_together 28 = .ok (.bipush 8, 2) := by decide +kernel
theorem dX6_together_30 : decode cX6_together 30 = .ok (.if_icmp .ge 36, 3) := by decide +kernel
theorem dX6_together_33 : decode cX6_together 33 = .ok (.aload_n 0, 1) := by decide +kernel
theorem dX6_together_34 : decode cX6_together 34 = .ok (.iload_n 1, 1) := by decide +kernel
theorem dX6_together_35 : decode cX6_together 35 = .ok (.iload 4, 2) := by decide +kernel
theorem dX6_together_37 : decode cX6_together 37 = .ok (.invokevirtual 169, 3) := by decide +kernel
theorem dX6_together_40 : decode cX6_together 40 = .ok (.aload_n 0, 1) := by decide +kernel
theorem dX6_together_41 : decode cX6_together 41 = .ok (.getfield 25, 3) := by decide +kernel
theorem dX6_together_44 : decode cX6_together 44 = .ok (.iconst 1, 1) := by decide +kernel
theorem dX6_together_45 : decode cX6_together 45 = .ok (.iload_n 2, 1) := by decide +kernel
theorem dX6_together_46 : decode cX6_together 46 = .ok (.ishl, 1) := by decide +kernel
theorem dX6_together_47 : decode cX6_together 47 = .ok (.invokevirtual 165, 3) := by decide +kernel
theorem dX6_together_50 : decode cX6_together 50 = .ok (.ifCond .eq 10, 3) := by decide +kernel
theorem dX6_together_53 : decode cX6_together 53 = .ok (.iload_n 3, 1) := by decide +kernel
theorem dX6_together_54 : decode cX6_together 54 = .ok (.iconst 1, 1) := by decide +kernel
theorem dX6_together_55 : decode cX6_together 55 = .ok (.iload 4, 2) := by decide +kernel
theorem dX6_together_57 : decode cX6_together 57 = .ok (.ishl, 1) := by decide +kernel
theorem dX6_together_58 : decode cX6_together 58 = .ok (.ior, 1) := by decide +kernel
theorem dX6_together_59 : decode cX6_together 59 = .ok (.istore_n 3, 1) := by decide +kernel
theorem dX6_together_60 : decode cX6_together 60 = .ok (.iinc 4 1, 3) := by decide +kernel
theorem dX6_together_63 : decode cX6_together 63 = .ok (.goto (-37), 3) := by decide +kernel
theorem dX6_together_66 : decode cX6_together 66 = .ok (.iload_n 3, 1) := by decide +kernel
theorem dX6_together_67 : decode cX6_together 67 = .ok (.ireturn, 1) := by decide +kernel
theorem dX6_rightTo_0 : decode cX6_rightTo 0 = .ok (.aload_n 0, 1) := by decide +kernel
theorem dX6_rightTo_1 : decode cX6_rightTo 1 = .ok (.iload_n 1, 1) := by decide +kernel
theorem dX6_rightTo_2 : decode cX6_rightTo 2 = .ok (.invokevirtual 83, 3) := by decide +kernel
theorem dX6_rightTo_5 : decode cX6_rightTo 5 = .ok (.astore_n 3, 1) := by decide +kernel
theorem dX6_rightTo_6 : decode cX6_rightTo 6 = .ok (.aload_n 0, 1) := by decide +kernel
theorem dX6_rightTo_7 : decode cX6_rightTo 7 = .ok (.iload_n 2, 1) := by decide +kernel
theorem dX6_rightTo_8 : decode cX6_rightTo 8 = .ok (.invokevirtual 90, 3) := by decide +kernel
theorem dX6_rightTo_11 : decode cX6_rightTo 11 = .ok (.aload_n 3, 1) := by decide +kernel
theorem dX6_rightTo_12 : decode cX6_rightTo 12 = .ok (.aload_n 0, 1) := by decide +kernel
theorem dX6_rightTo_13 : decode cX6_rightTo 13 = .ok (.getfield 108, 3) := by decide +kernel
theorem dX6_rightTo_16 : decode cX6_rightTo 16 = .ok (.iload_n 2, 1) := by decide +kernel
theorem dX6_rightTo_17 : decode cX6_rightTo 17 = .ok (.invokevirtual 172, 3) := by decide +kernel
theorem dX6_rightTo_20 : decode cX6_rightTo 20 = .ok (.ireturn, 1) := by decide +kernel
theorem dX6_isSealed_0 : decode cX6_isSealed 0 = .ok (.aload_n 0, 1) := by decide +kernel
theorem dX6_isSealed_1 : decode cX6_isSealed 1 = .ok (.iload_n 1, 1) := by decide +kernel
theorem dX6_isSealed_2 : decode cX6_isSealed 2 = .ok (.invokevirtual 60, 3) := by decide +kernel
theorem dX6_isSealed_5 : decode cX6_isSealed 5 = .ok (.aload_n 0, 1) := by decide +kernel
theorem dX6_isSealed_6 : decode cX6_isSealed 6 = .ok (.getfield 108, 3) := by decide +kernel
theorem dX6_isSealed_9 : decode cX6_isSealed 9 = .ok (.invokevirtual 175, 3) := by decide +kernel
theorem dX6_isSealed_12 : decode cX6_isSealed 12 = .ok (.ireturn, 1) := by decide +kernel
theorem dX6_count_0 : decode cX6_count 0 = .ok (.aload_n 0, 1) := by decide +kernel
theorem dX6_count_1 : decode cX6_count 1 = .ok (.iload_n 1, 1) := by decide +kernel
theorem dX6_count_2 : decode cX6_count 2 = .ok (.invokevirtual 83, 3) := by decide +kernel
theorem dX6_count_5 : decode cX6_count 5 = .ok (.astore_n 3, 1) := by decide +kernel
theorem dX6_count_6 : decode cX6_count 6 = .ok (.iload_n 2, 1) := by decide +kernel
theorem dX6_count_7 : decode cX6_count 7 = .ok (.iconst 0, 1) := by decide +kernel
theorem dX6_count_8 : decode cX6_count 8 = .ok (.iconst 5, 1) := by decide +kernel
theorem dX6_count_9 : decode cX6_count 9 = .ok (.invokestatic 36, 3) := by decide +kernel
theorem dX6_count_12 : decode cX6_count 12 = .ok (.iload_n 2, 1) := by decide +kernel
theorem dX6_count_13 : decode cX6_count 13 = .ok (.iconst 5, 1) := by decide +kernel
theorem dX6_count_14 : decode cX6_count 14 = .ok (.if_icmp .ne 11, 3) := by decide +kernel
theorem dX6_count_17 : decode cX6_count 17 = .ok (.aload_n 0, 1) := by decide +kernel
theorem dX6_count_18 : decode cX6_count 18 = .ok (.aload_n 3, 1) := by decide +kernel
theorem dX6_count_19 : decode cX6_count 19 = .ok (.invokevirtual 178, 3) := by decide +kernel
theorem dX6_count_22 : decode cX6_count 22 = .ok (.goto 8, 3) := by decide +kernel
theorem dX6_count_25 : decode cX6_count 25 = .ok (.aload_n 3, 1) := by decide +kernel
theorem dX6_count_26 : decode cX6_count 26 = .ok (.iload_n 2, 1) := by decide +kernel
theorem dX6_count_27 : decode cX6_count 27 = .ok (.invokevirtual 182, 3) := by decide +kernel
theorem dX6_count_30 : decode cX6_count 30 = .ok (.ireturn, 1) := by decide +kernel
theorem dX6_partyAt_0 : decode cX6_partyAt 0 = .ok (.iload_n 1, 1) := by decide +kernel
theorem dX6_partyAt_1 : decode cX6_partyAt 1 = .ok (.ifCond .lt 14, 3) := by decide +kernel
theorem dX6_partyAt_4 : decode cX6_partyAt 4 = .ok (.iload_n 1, 1) := by decide +kernel
theorem dX6_partyAt_5 : decode cX6_partyAt 5 = .ok (.aload_n 0, 1) := by decide +kernel
theorem dX6_partyAt_6 : decode cX6_partyAt 6 = .ok (.getfield 16, 3) := by decide +kernel
theorem dX6_partyAt_9 : decode cX6_partyAt 9 = .ok (.invokevirtual 40, 3) := by decide +kernel
theorem dX6_partyAt_12 : decode cX6_partyAt 12 = .ok (.if_icmp .lt 13, 3) := by decide +kernel
theorem dX6_partyAt_15 : decode cX6_partyAt 15 = .ok (.new 143, 3) := by decide +kernel
theorem dX6_partyAt_18 : decode cX6_partyAt 18 = .ok (.dup, 1) := by decide +kernel
theorem dX6_partyAt_19 : decode cX6_partyAt 19 = .ok (.ldc 185, 2) := by decide +kernel
theorem dX6_partyAt_21 : decode cX6_partyAt 21 = .ok (.invokespecial 147, 3) := by decide +kernel
theorem dX6_partyAt_24 : decode cX6_partyAt 24 = .ok (.athrow, 1) := by decide +kernel
theorem dX6_partyAt_25 : decode cX6_partyAt 25 = .ok (.aload_n 0, 1) := by decide +kernel
theorem dX6_partyAt_26 : decode cX6_partyAt 26 = .ok (.getfield 16, 3) := by decide +kernel
theorem dX6_partyAt_29 : decode cX6_partyAt 29 = .ok (.iload_n 1, 1) := by decide +kernel
theorem dX6_partyAt_30 : decode cX6_partyAt 30 = .ok (.invokevirtual 68, 3) := by decide +kernel
theorem dX6_partyAt_33 : decode cX6_partyAt 33 = .ok (.checkcast 72, 3) := by decide +kernel
theorem dX6_partyAt_36 : decode cX6_partyAt 36 = .ok (.areturn, 1) := by decide +kernel
theorem dX6_fileAt_0 : decode cX6_fileAt 0 = .ok (.aload_n 0, 1) := by decide +kernel
theorem dX6_fileAt_1 : decode cX6_fileAt 1 = .ok (.iload_n 1, 1) := by decide +kernel
theorem dX6_fileAt_2 : decode cX6_fileAt 2 = .ok (.invokevirtual 90, 3) := by decide +kernel
theorem dX6_fileAt_5 : decode cX6_fileAt 5 = .ok (.aload_n 0, 1) := by decide +kernel
theorem dX6_fileAt_6 : decode cX6_fileAt 6 = .ok (.getfield 10, 3) := by decide +kernel
theorem dX6_fileAt_9 : decode cX6_fileAt 9 = .ok (.iload_n 1, 1) := by decide +kernel
theorem dX6_fileAt_10 : decode cX6_fileAt 10 = .ok (.invokevirtual 68, 3) := by decide +kernel
theorem dX6_fileAt_13 : decode cX6_fileAt 13 = .ok (.checkcast 51, 3) := by decide +kernel
theorem dX6_fileAt_16 : decode cX6_fileAt 16 = .ok (.areturn, 1) := by decide +kernel
theorem dX6_requireFile_0 : decode cX6_requireFile 0 = .ok (.iload_n 1, 1) := by decide +kernel
theorem dX6_requireFile_1 : decode cX6_requireFile 1 = .ok (.ifCond .lt 14, 3) := by decide +kernel
theorem dX6_requireFile_4 : decode cX6_requireFile 4 = .ok (.iload_n 1, 1) := by decide +kernel
theorem dX6_requireFile_5 : decode cX6_requireFile 5 = .ok (.aload_n 0, 1) := by decide +kernel
theorem dX6_requireFile_6 : decode cX6_requireFile 6 = .ok (.getfield 10, 3) := by decide +kernel
theorem dX6_requireFile_9 : decode cX6_requireFile 9 = .ok (.invokevirtual 40, 3) := by decide +kernel
theorem dX6_requireFile_12 : decode cX6_requireFile 12 = .ok (.if_icmp .lt 13, 3) := by decide +kernel
theorem dX6_requireFile_15 : decode cX6_requireFile 15 = .ok (.new 143, 3) := by decide +kernel
theorem dX6_requireFile_18 : decode cX6_requireFile 18 = .ok (.dup, 1) := by decide +kernel
theorem dX6_requireFile_19 : decode cX6_requireFile 19 = .ok (.ldc 187, 2) := by decide +kernel
theorem dX6_requireFile_21 : decode cX6_requireFile 21 = .ok (.invokespecial 147, 3) := by decide +kernel
theorem dX6_requireFile_24 : decode cX6_requireFile 24 = .ok (.athrow, 1) := by decide +kernel
theorem dX6_requireFile_25 : decode cX6_requireFile 25 = .ok (.return_, 1) := by decide +kernel
theorem dX6_requireRange_0 : decode cX6_requireRange 0 = .ok (.iload_n 0, 1) := by decide +kernel
theorem dX6_requireRange_1 : decode cX6_requireRange 1 = .ok (.iload_n 1, 1) := by decide +kernel
theorem dX6_requireRange_2 : decode cX6_requireRange 2 = .ok (.if_icmp .lt 8, 3) := by decide +kernel
theorem dX6_requireRange_5 : decode cX6_requireRange 5 = .ok (.iload_n 0, 1) := by decide +kernel
theorem dX6_requireRange_6 : decode cX6_requireRange 6 = .ok (.iload_n 2, 1) := by decide +kernel
theorem dX6_requireRange_7 : decode cX6_requireRange 7 = .ok (.if_icmp .le 13, 3) := by decide +kernel
theorem dX6_requireRange_10 : decode cX6_requireRange 10 = .ok (.new 189, 3) := by decide +kernel
theorem dX6_requireRange_13 : decode cX6_requireRange 13 = .ok (.dup, 1) := by decide +kernel
theorem dX6_requireRange_14 : decode cX6_requireRange 14 = .ok (.ldc 191, 2) := by decide +kernel
theorem dX6_requireRange_16 : decode cX6_requireRange 16 = .ok (.invokespecial 193, 3) := by decide +kernel
theorem dX6_requireRange_19 : decode cX6_requireRange 19 = .ok (.athrow, 1) := by decide +kernel
theorem dX6_requireRange_20 : decode cX6_requireRange 20 = .ok (.return_, 1) := by decide +kernel
theorem dX6_requireQuestion_0 : decode cX6_requireQuestion 0 = .ok (.iload_n 1, 1) := by decide +kernel
theorem dX6_requireQuestion_1 : decode cX6_requireQuestion 1 = .ok (.iconst 1, 1) := by decide +kernel
theorem dX6_requireQuestion_2 : decode cX6_requireQuestion 2 = .ok (.iconst 1, 1) := by decide +kernel
theorem dX6_requireQuestion_3 : decode cX6_requireQuestion 3 = .ok (.aload_n 0, 1) := by decide +kernel
theorem dX6_requireQuestion_4 : decode cX6_requireQuestion 4 = .ok (.getfield 10, 3) := by decide +kernel
theorem dX6_requireQuestion_7 : decode cX6_requireQuestion 7 = .ok (.invokevirtual 40, 3) := by decide +kernel
theorem dX6_requireQuestion_10 : decode cX6_requireQuestion 10 = .ok (.ishl, 1) := by decide +kernel
theorem dX6_requireQuestion_11 : decode cX6_requireQuestion 11 = .ok (.iconst 1, 1) := by decide +kernel
theorem dX6_requireQuestion_12 : decode cX6_requireQuestion 12 = .ok (.isub, 1) := by decide +kernel
theorem dX6_requireQuestion_13 : decode cX6_requireQuestion 13 = .ok (.invokestatic 36, 3) := by decide +kernel
theorem dX6_requireQuestion_16 : decode cX6_requireQuestion 16 = .ok (.iload_n 2, 1) := by decide +kernel
theorem dX6_requireQuestion_17 : decode cX6_requireQuestion 17 = .ok (.iconst (-1), 1) := by decide +kernel
theorem dX6_requireQuestion_18 : decode cX6_requireQuestion 18 = .ok (.bipush 7, 2) := by decide +kernel
theorem dX6_requireQuestion_20 : decode cX6_requireQuestion 20 = .ok (.invokestatic 36, 3) := by decide +kernel
theorem dX6_requireQuestion_23 : decode cX6_requireQuestion 23 = .ok (.return_, 1) := by decide +kernel
theorem dX6_holds_0 : decode cX6_holds 0 = .ok (.iload_n 0, 1) := by decide +kernel
theorem dX6_holds_1 : decode cX6_holds 1 = .ok (.iload_n 1, 1) := by decide +kernel
theorem dX6_holds_2 : decode cX6_holds 2 = .ok (.ishr, 1) := by decide +kernel
theorem dX6_holds_3 : decode cX6_holds 3 = .ok (.iconst 1, 1) := by decide +kernel
theorem dX6_holds_4 : decode cX6_holds 4 = .ok (.iand, 1) := by decide +kernel
theorem dX6_holds_5 : decode cX6_holds 5 = .ok (.ifCond .eq 7, 3) := by decide +kernel
theorem dX6_holds_8 : decode cX6_holds 8 = .ok (.iconst 1, 1) := by decide +kernel
theorem dX6_holds_9 : decode cX6_holds 9 = .ok (.goto 4, 3) := by decide +kernel
theorem dX6_holds_12 : decode cX6_holds 12 = .ok (.iconst 0, 1) := by decide +kernel
theorem dX6_holds_13 : decode cX6_holds 13 = .ok (.ireturn, 1) := by decide +kernel
theorem dX6_covers_0 : decode cX6_covers 0 = .ok (.iload_n 0, 1) := by decide +kernel
theorem dX6_covers_1 : decode cX6_covers 1 = .ok (.iconst (-1), 1) := by decide +kernel
theorem dX6_covers_2 : decode cX6_covers 2 = .ok (.if_icmp .eq 8, 3) := by decide +kernel
theorem dX6_covers_5 : decode cX6_covers 5 = .ok (.iload_n 0, 1) := by decide +kernel
theorem dX6_covers_6 : decode cX6_covers 6 = .ok (.iload_n 1, 1) := by decide +kernel
theorem dX6_covers_7 : decode cX6_covers 7 = .ok (.if_icmp .ne 7, 3) := by decide +kernel
theorem dX6_covers_10 : decode cX6_covers 10 = .ok (.iconst 1, 1) := by decide +kernel
theorem dX6_covers_11 : decode cX6_covers 11 = .ok (.goto 4, 3) := by decide +kernel
theorem dX6_covers_14 : decode cX6_covers 14 = .ok (.iconst 0, 1) := by decide +kernel
theorem dX6_covers_15 : decode cX6_covers 15 = .ok (.ireturn, 1) := by decide +kernel
theorem dX6_refusalOf_0 : decode cX6_refusalOf 0 = .ok (.aload_n 0, 1) := by decide +kernel
theorem dX6_refusalOf_1 : decode cX6_refusalOf 1 = .ok (.aload_n 1, 1) := by decide +kernel
theorem dX6_refusalOf_2 : decode cX6_refusalOf 2 = .ok (.iload_n 2, 1) := by decide +kernel
theorem dX6_refusalOf_3 : decode cX6_refusalOf 3 = .ok (.invokevirtual 194, 3) := by decide +kernel
theorem dX6_refusalOf_6 : decode cX6_refusalOf 6 = .ok (.ifCond .eq 5, 3) := by decide +kernel
theorem dX6_refusalOf_9 : decode cX6_refusalOf 9 = .ok (.iconst (-1), 1) := by decide +kernel
theorem dX6_refusalOf_10 : decode cX6_refusalOf 10 = .ok (.ireturn, 1) := by decide +kernel
theorem dX6_refusalOf_11 : decode cX6_refusalOf 11 = .ok (.aload_n 0, 1) := by decide +kernel
theorem dX6_refusalOf_12 : decode cX6_refusalOf 12 = .ok (.iload_n 2, 1) := by decide +kernel
theorem dX6_refusalOf_13 : decode cX6_refusalOf 13 = .ok (.invokevirtual 198, 3) := by decide +kernel
theorem dX6_refusalOf_16 : decode cX6_refusalOf 16 = .ok (.ifCond .eq 6, 3) := by decide +kernel
theorem dX6_refusalOf_19 : decode cX6_refusalOf 19 = .ok (.bipush (-2), 2) := by decide +kernel
theorem dX6_refusalOf_21 : decode cX6_refusalOf 21 = .ok (.ireturn, 1) := by decide +kernel
theorem dX6_refusalOf_22 : decode cX6_refusalOf 22 = .ok (.aload_n 1, 1) := by decide +kernel
theorem dX6_refusalOf_23 : decode cX6_refusalOf 23 = .ok (.iload_n 2, 1) := by decide +kernel
theorem dX6_refusalOf_24 : decode cX6_refusalOf 24 = .ok (.iload_n 3, 1) := by decide +kernel
theorem dX6_refusalOf_25 : decode cX6_refusalOf 25 = .ok (.aload_n 0, 1) := by decide +kernel
theorem dX6_refusalOf_26 : decode cX6_refusalOf 26 = .ok (.getfield 108, 3) := by decide +kernel
theorem dX6_refusalOf_29 : decode cX6_refusalOf 29 = .ok (.invokevirtual 201, 3) := by decide +kernel
theorem dX6_refusalOf_32 : decode cX6_refusalOf 32 = .ok (.ifCond .eq 6, 3) := by decide +kernel
theorem dX6_refusalOf_35 : decode cX6_refusalOf 35 = .ok (.bipush (-3), 2) := by decide +kernel
theorem dX6_refusalOf_37 : decode cX6_refusalOf 37 = .ok (.ireturn, 1) := by decide +kernel
theorem dX6_refusalOf_38 : decode cX6_refusalOf 38 = .ok (.aload_n 1, 1) := by decide +kernel
theorem dX6_refusalOf_39 : decode cX6_refusalOf 39 = .ok (.invokevirtual 152, 3) := by decide +kernel
theorem dX6_refusalOf_42 : decode cX6_refusalOf 42 = .ok (.aload_n 1, 1) := by decide +kernel
theorem dX6_refusalOf_43 : decode cX6_refusalOf 43 = .ok (.iload_n 2, 1) := by decide +kernel
theorem dX6_refusalOf_44 : decode cX6_refusalOf 44 = .ok (.iload_n 3, 1) := by decide +kernel
theorem dX6_refusalOf_45 : decode cX6_refusalOf 45 = .ok (.invokevirtual 140, 3) := by decide +kernel
theorem dX6_refusalOf_48 : decode cX6_refusalOf 48 = .ok (.iadd, 1) := by decide +kernel
theorem dX6_refusalOf_49 : decode cX6_refusalOf 49 = .ok (.aload_n 1, 1) := by decide +kernel
theorem dX6_refusalOf_50 : decode cX6_refusalOf 50 = .ok (.getfield 87, 3) := by decide +kernel
theorem dX6_refusalOf_53 : decode cX6_refusalOf 53 = .ok (.if_icmp .le 6, 3) := by decide +kernel
theorem dX6_refusalOf_56 : decode cX6_refusalOf 56 = .ok (.bipush (-4), 2) := by decide +kernel
theorem dX6_refusalOf_58 : decode cX6_refusalOf 58 = .ok (.ireturn, 1) := by decide +kernel
theorem dX6_refusalOf_59 : decode cX6_refusalOf 59 = .ok (.iconst 0, 1) := by decide +kernel
theorem dX6_refusalOf_60 : decode cX6_refusalOf 60 = .ok (.ireturn, 1) := by decide +kernel
theorem dX6_lacksRight_0 : decode cX6_lacksRight 0 = .ok (.iconst 0, 1) := by decide +kernel
theorem dX6_lacksRight_1 : decode cX6_lacksRight 1 = .ok (.istore_n 3, 1) := by decide +kernel
theorem dX6_lacksRight_2 : decode cX6_lacksRight 2 = .ok (.iload_n 3, 1) := by decide +kernel
theorem dX6_lacksRight_3 : decode cX6_lacksRight 3 = .ok (.aload_n 0, 1) := by decide +kernel
theorem dX6_lacksRight_4 : decode cX6_lacksRight 4 = .ok (.getfield 10, 3) := by decide +kernel
theorem dX6_lacksRight_7 : decode cX6_lacksRight 7 = .ok (.invokevirtual 40, 3) := by decide +kernel
theorem dX6_lacksRight_10 : decode cX6_lacksRight 10 = .ok (.if_icmp .ge 31, 3) := by decide +kernel
theorem dX6_lacksRight_13 : decode cX6_lacksRight 13 = .ok (.iload_n 2, 1) := by decide +kernel
theorem dX6_lacksRight_14 : decode cX6_lacksRight 14 = .ok (.iload_n 3, 1) := by decide +kernel
theorem dX6_lacksRight_15 : decode cX6_lacksRight 15 = .ok (.invokestatic 205, 3) := by decide +kernel
theorem dX6_lacksRight_18 : decode cX6_lacksRight 18 = .ok (.ifCond .eq 17, 3) := by decide +kernel
theorem dX6_lacksRight_21 : decode cX6_lacksRight 21 = .ok (.aload_n 1, 1) := by decide +kernel
theorem dX6_lacksRight_22 : decode cX6_lacksRight 22 = .ok (.aload_n 0, 1) := by decide +kernel
theorem dX6_lacksRight_23 : decode cX6_lacksRight 23 = .ok (.getfield 108, 3) := by decide +kernel
theorem dX6_lacksRight_26 : decode cX6_lacksRight 26 = .ok (.iload_n 3, 1) := by decide +kernel
theorem dX6_lacksRight_27 : decode cX6_lacksRight 27 = .ok (.invokevirtual 172, 3) := by decide +kernel
theorem dX6_lacksRight_30 : decode cX6_lacksRight 30 = .ok (.ifCond .ne 5, 3) := by decide +kernel
theorem dX6_lacksRight_33 : decode cX6_lacksRight 33 = .ok (.iconst 1, 1) := by decide +kernel
theorem dX6_lacksRight_34 : decode cX6_lacksRight 34 = .ok (.ireturn, 1) := by decide +kernel
theorem dX6_lacksRight_35 : decode cX6_lacksRight 35 = .ok (.iinc 3 1, 3) := by decide +kernel
theorem dX6_lacksRight_38 : decode cX6_lacksRight 38 = .ok (.goto (-36), 3) := by decide +kernel
theorem dX6_lacksRight_41 : decode cX6_lacksRight 41 = .ok (.iconst 0, 1) := by decide +kernel
theorem dX6_lacksRight_42 : decode cX6_lacksRight 42 = .ok (.ireturn, 1) := by decide +kernel
theorem dX6_hasSealed_0 : decode cX6_hasSealed 0 = .ok (.iconst 0, 1) := by decide +kernel
theorem dX6_hasSealed_1 : decode cX6_hasSealed 1 = .ok (.istore_n 2, 1) := by decide +kernel
theorem dX6_hasSealed_2 : decode cX6_hasSealed 2 = .ok (.iload_n 2, 1) := by decide +kernel
theorem dX6_hasSealed_3 : decode cX6_hasSealed 3 = .ok (.aload_n 0, 1) := by decide +kernel
theorem dX6_hasSealed_4 : decode cX6_hasSealed 4 = .ok (.getfield 10, 3) := by decide +kernel
theorem dX6_hasSealed_7 : decode cX6_hasSealed 7 = .ok (.invokevirtual 40, 3) := by decide +kernel
theorem dX6_hasSealed_10 : decode cX6_hasSealed 10 = .ok (.if_icmp .ge 40, 3) := by decide +kernel
theorem dX6_hasSealed_13 : decode cX6_hasSealed 13 = .ok (.iload_n 1, 1) := by decide +kernel
theorem dX6_hasSealed_14 : decode cX6_hasSealed 14 = .ok (.iload_n 2, 1) := by decide +kernel
theorem dX6_hasSealed_15 : decode cX6_hasSealed 15 = .ok (.invokestatic 205, 3) := by decide +kernel
theorem dX6_hasSealed_18 : decode cX6_hasSealed 18 = .ok (.ifCond .eq 26, 3) := by decide +kernel
theorem dX6_hasSealed_21 : decode cX6_hasSealed 21 = .ok (.aload_n 0, 1) := by decide +kernel
theorem dX6_hasSealed_22 : decode cX6_hasSealed 22 = .ok (.getfield 10, 3) := by decide +kernel
theorem dX6_hasSealed_25 : decode cX6_hasSealed 25 = .ok (.iload_n 2, 1) := by decide +kernel
theorem dX6_hasSealed_26 : decode cX6_hasSealed 26 = .ok (.invokevirtual 68, 3) := by decide +kernel
theorem dX6_hasSealed_29 : decode cX6_hasSealed 29 = .ok (.checkcast 51, 3) := by decide +kernel
theorem dX6_hasSealed_32 : decode cX6_hasSealed 32 = .ok (.aload_n 0, 1) := by decide +kernel
theorem dX6_hasSealed_33 : decode cX6_hasSealed 33 = .ok (.getfield 108, 3) := by decide +kernel
theorem dX6_hasSealed_36 : decode cX6_hasSealed 36 = .ok (.invokevirtual 175, 3) := by decide +kernel
theorem dX6_hasSealed_39 : decode cX6_hasSealed 39 = .ok (.ifCond .eq 5, 3) := by decide +kernel
theorem dX6_hasSealed_42 : decode cX6_hasSealed 42 = .ok (.iconst 1, 1) := by decide +kernel
theorem dX6_hasSealed_43 : decode cX6_hasSealed 43 = .ok (.ireturn, 1) := by decide +kernel
theorem dX6_hasSealed_44 : decode cX6_hasSealed 44 = .ok (.iinc 2 1, 3) := by decide +kernel
theorem dX6_hasSealed_47 : decode cX6_hasSealed 47 = .ok (.goto (-45), 3) := by decide +kernel
theorem dX6_hasSealed_50 : decode cX6_hasSealed 50 = .ok (.iconst 0, 1) := by decide +kernel
theorem dX6_hasSealed_51 : decode cX6_hasSealed 51 = .ok (.ireturn, 1) := by decide +kernel
theorem dX6_sumOf_0 : decode cX6_sumOf 0 = .ok (.iconst 0, 1) := by decide +kernel
theorem dX6_sumOf_1 : decode cX6_sumOf 1 = .ok (.istore_n 3, 1) := by decide +kernel
theorem dX6_sumOf_2 : decode cX6_sumOf 2 = .ok (.iconst 0, 1) := by decide +kernel
theorem dX6_sumOf_3 : decode cX6_sumOf 3 = .ok (.istore 4, 2) := by decide +kernel
theorem dX6_sumOf_5 : decode cX6_sumOf 5 = .ok (.iload 4, 2) := by decide +kernel
theorem dX6_sumOf_7 : decode cX6_sumOf 7 = .ok (.aload_n 0, 1) := by decide +kernel
theorem dX6_sumOf_8 : decode cX6_sumOf 8 = .ok (.getfield 10, 3) := by decide +kernel
theorem dX6_sumOf_11 : decode cX6_sumOf 11 = .ok (.invokevirtual 40, 3) := by decide +kernel
theorem dX6_sumOf_14 : decode cX6_sumOf 14 = .ok (.if_icmp .ge 36, 3) := by decide +kernel
theorem dX6_sumOf_17 : decode cX6_sumOf 17 = .ok (.iload_n 1, 1) := by decide +kernel
theorem dX6_sumOf_18 : decode cX6_sumOf 18 = .ok (.iload 4, 2) := by decide +kernel
theorem dX6_sumOf_20 : decode cX6_sumOf 20 = .ok (.invokestatic 205, 3) := by decide +kernel
theorem dX6_sumOf_23 : decode cX6_sumOf 23 = .ok (.ifCond .eq 21, 3) := by decide +kernel
theorem dX6_sumOf_26 : decode cX6_sumOf 26 = .ok (.iload_n 3, 1) := by decide +kernel
theorem dX6_sumOf_27 : decode cX6_sumOf 27 = .ok (.aload_n 0, 1) := by decide +kernel
theorem dX6_sumOf_28 : decode cX6_sumOf 28 = .ok (.getfield 10, 3) := by decide +kernel
theorem dX6_sumOf_31 : decode cX6_sumOf 31 = .ok (.iload 4, 2) := by decide +kernel
theorem dX6_sumOf_33 : decode cX6_sumOf 33 = .ok (.invokevirtual 68, 3) := by decide +kernel
theorem dX6_sumOf_36 : decode cX6_sumOf 36 = .ok (.checkcast 51, 3) := by decide +kernel
theorem dX6_sumOf_39 : decode cX6_sumOf 39 = .ok (.getfield 64, 3) := by decide +kernel
theorem dX6_sumOf_42 : decode cX6_sumOf 42 = .ok (.ixor, 1) := by decide +kernel
theorem dX6_sumOf_43 : decode cX6_sumOf 43 = .ok (.istore_n 3, 1) := by decide +kernel
theorem dX6_sumOf_44 : decode cX6_sumOf 44 = .ok (.iinc 4 1, 3) := by decide +kernel
theorem dX6_sumOf_47 : decode cX6_sumOf 47 = .ok (.goto (-42), 3) := by decide +kernel
theorem dX6_sumOf_50 : decode cX6_sumOf 50 = .ok (.iload_n 2, 1) := by decide +kernel
theorem dX6_sumOf_51 : decode cX6_sumOf 51 = .ok (.iconst (-1), 1) := by decide +kernel
theorem dX6_sumOf_52 : decode cX6_sumOf 52 = .ok (.if_icmp .ne 7, 3) := by decide +kernel
theorem dX6_sumOf_55 : decode cX6_sumOf 55 = .ok (.iload_n 3, 1) := by decide +kernel
theorem dX6_sumOf_56 : decode cX6_sumOf 56 = .ok (.goto 8, 3) := by decide +kernel
theorem dX6_sumOf_59 : decode cX6_sumOf 59 = .ok (.iload_n 3, 1) := by decide +kernel
theorem dX6_sumOf_60 : decode cX6_sumOf 60 = .ok (.iload_n 2, 1) := by decide +kernel
theorem dX6_sumOf_61 : decode cX6_sumOf 61 = .ok (.ishr, 1) := by decide +kernel
theorem dX6_sumOf_62 : decode cX6_sumOf 62 = .ok (.iconst 1, 1) := by decide +kernel
theorem dX6_sumOf_63 : decode cX6_sumOf 63 = .ok (.iand, 1) := by decide +kernel
theorem dX6_sumOf_64 : decode cX6_sumOf 64 = .ok (.ireturn, 1) := by decide +kernel
theorem dX6_recall_0 : decode cX6_recall 0 = .ok (.iconst 0, 1) := by decide +kernel
theorem dX6_recall_1 : decode cX6_recall 1 = .ok (.istore_n 3, 1) := by decide +kernel
theorem dX6_recall_2 : decode cX6_recall 2 = .ok (.iconst 0, 1) := by decide +kernel
theorem dX6_recall_3 : decode cX6_recall 3 = .ok (.istore 4, 2) := by decide +kernel
theorem dX6_recall_5 : decode cX6_recall 5 = .ok (.iload 4, 2) := by decide +kernel
theorem dX6_recall_7 : decode cX6_recall 7 = .ok (.aload_n 0, 1) := by decide +kernel
theorem dX6_recall_8 : decode cX6_recall 8 = .ok (.getfield 19, 3) := by decide +kernel
theorem dX6_recall_11 : decode cX6_recall 11 = .ok (.invokevirtual 40, 3) := by decide +kernel
theorem dX6_recall_14 : decode cX6_recall 14 = .ok (.if_icmp .ge 53, 3) := by decide +kernel
theorem dX6_recall_17 : decode cX6_recall 17 = .ok (.aload_n 0, 1) := by decide +kernel
theorem dX6_recall_18 : decode cX6_recall 18 = .ok (.getfield 19, 3) := by decide +kernel
theorem dX6_recall_21 : decode cX6_recall 21 = .ok (.iload 4, 2) := by decide +kernel
theorem dX6_recall_23 : decode cX6_recall 23 = .ok (.invokevirtual 68, 3) := by decide +kernel
theorem dX6_recall_26 : decode cX6_recall 26 = .ok (.checkcast 129, 3) := by decide +kernel
theorem dX6_recall_29 : decode cX6_recall 29 = .ok (.astore 5, 2) := by decide +kernel
theorem dX6_recall_31 : decode cX6_recall 31 = .ok (.aload 5, 2) := by decide +kernel
theorem dX6_recall_33 : decode cX6_recall 33 = .ok (.aload_n 1, 1) := by decide +kernel
theorem dX6_recall_34 : decode cX6_recall 34 = .ok (.invokevirtual 209, 3) := by decide +kernel
theorem dX6_recall_37 : decode cX6_recall 37 = .ok (.ifCond .eq 24, 3) := by decide +kernel
theorem dX6_recall_40 : decode cX6_recall 40 = .ok (.aload 5, 2) := by decide +kernel
theorem dX6_recall_42 : decode cX6_recall 42 = .ok (.getfield 213, 3) := by decide +kernel
theorem dX6_recall_45 : decode cX6_recall 45 = .ok (.iload_n 2, 1) := by decide +kernel
theorem dX6_recall_46 : decode cX6_recall 46 = .ok (.invokestatic 205, 3) := by decide +kernel
theorem dX6_recall_49 : decode cX6_recall 49 = .ok (.ifCond .eq 12, 3) := by decide +kernel
theorem dX6_recall_52 : decode cX6_recall 52 = .ok (.aload 5, 2) := by decide +kernel
theorem dX6_recall_54 : decode cX6_recall 54 = .ok (.iconst 1, 1) := by decide +kernel
theorem dX6_recall_55 : decode cX6_recall 55 = .ok (.putfield 216, 3) := by decide +kernel
theorem dX6_recall_58 : decode cX6_recall 58 = .ok (.iinc 3 1, 3) := by decide +kernel
theorem dX6_recall_61 : decode cX6_recall 61 = .ok (.iinc 4 1, 3) := by decide +kernel
theorem dX6_recall_64 : decode cX6_recall 64 = .ok (.goto (-59), 3) := by decide +kernel
theorem dX6_recall_67 : decode cX6_recall 67 = .ok (.iload_n 3, 1) := by decide +kernel
theorem dX6_recall_68 : decode cX6_recall 68 = .ok (.ifCond .le 8, 3) := by decide +kernel
theorem dX6_recall_71 : decode cX6_recall 71 = .ok (.aload_n 0, 1) := by decide +kernel
theorem dX6_recall_72 : decode cX6_recall 72 = .ok (.aload_n 1, 1) := by decide +kernel
theorem dX6_recall_73 : decode cX6_recall 73 = .ok (.invokevirtual 220, 3) := by decide +kernel
theorem dX6_recall_76 : decode cX6_recall 76 = .ok (.iload_n 3, 1) := by decide +kernel
theorem dX6_recall_77 : decode cX6_recall 77 = .ok (.ireturn, 1) := by decide +kernel
theorem dX6_learnAnew_0 : decode cX6_learnAnew 0 = .ok (.aload_n 1, 1) := by decide +kernel
theorem dX6_learnAnew_1 : decode cX6_learnAnew 1 = .ok (.invokevirtual 224, 3) := by decide +kernel
theorem dX6_learnAnew_4 : decode cX6_learnAnew 4 = .ok (.iconst 0, 1) := by decide +kernel
theorem dX6_learnAnew_5 : decode cX6_learnAnew 5 = .ok (.istore_n 2, 1) := by decide +kernel
theorem dX6_learnAnew_6 : decode cX6_learnAnew 6 = .ok (.iload_n 2, 1) := by decide +kernel
theorem dX6_learnAnew_7 : decode cX6_learnAnew 7 = .ok (.aload_n 0, 1) := by decide +kernel
theorem dX6_learnAnew_8 : decode cX6_learnAnew 8 = .ok (.getfield 19, 3) := by decide +kernel
theorem dX6_learnAnew_11 : decode cX6_learnAnew 11 = .ok (.invokevirtual 40, 3) := by decide +kernel
theorem dX6_learnAnew_14 : decode cX6_learnAnew 14 = .ok (.if_icmp .ge 41, 3) := by decide +kernel
theorem dX6_learnAnew_17 : decode cX6_learnAnew 17 = .ok (.aload_n 0, 1) := by decide +kernel
theorem dX6_learnAnew_18 : decode cX6_learnAnew 18 = .ok (.getfield 19, 3) := by decide +kernel
theorem dX6_learnAnew_21 : decode cX6_learnAnew 21 = .ok (.iload_n 2, 1) := by decide +kernel
theorem dX6_learnAnew_22 : decode cX6_learnAnew 22 = .ok (.invokevirtual 68, 3) := by decide +kernel
theorem dX6_learnAnew_25 : decode cX6_learnAnew 25 = .ok (.checkcast 129, 3) := by decide +kernel
theorem dX6_learnAnew_28 : decode cX6_learnAnew 28 = .ok (.astore_n 3, 1) := by decide +kernel
theorem dX6_learnAnew_29 : decode cX6_learnAnew 29 = .ok (.aload_n 3, 1) := by decide +kernel
theorem dX6_learnAnew_30 : decode cX6_learnAnew 30 = .ok (.aload_n 1, 1) := by decide +kernel
theorem dX6_learnAnew_31 : decode cX6_learnAnew 31 = .ok (.invokevirtual 209, 3) := by decide +kernel
theorem dX6_learnAnew_34 : decode cX6_learnAnew 34 = .ok (.ifCond .eq 15, 3) := by decide +kernel
theorem dX6_learnAnew_37 : decode cX6_learnAnew 37 = .ok (.aload_n 1, 1) := by decide +kernel
theorem dX6_learnAnew_38 : decode cX6_learnAnew 38 = .ok (.aload_n 3, 1) := by decide +kernel
theorem dX6_learnAnew_39 : decode cX6_learnAnew 39 = .ok (.getfield 213, 3) := by decide +kernel
theorem dX6_learnAnew_42 : decode cX6_learnAnew 42 = .ok (.aload_n 3, 1) := by decide +kernel
theorem dX6_learnAnew_43 : decode cX6_learnAnew 43 = .ok (.getfield 227, 3) := by decide +kernel
theorem dX6_learnAnew_46 : decode cX6_learnAnew 46 = .ok (.invokevirtual 137, 3) := by decide +kernel
theorem dX6_learnAnew_49 : decode cX6_learnAnew 49 = .ok (.iinc 2 1, 3) := by decide +kernel
theorem dX6_learnAnew_52 : decode cX6_learnAnew 52 = .ok (.goto (-46), 3) := by decide +kernel
theorem dX6_learnAnew_55 : decode cX6_learnAnew 55 = .ok (.return_, 1) := by decide +kernel
theorem dX6_countStanding_0 : decode cX6_countStanding 0 = .ok (.iconst 0, 1) := by decide +kernel
theorem dX6_countStanding_1 : decode cX6_countStanding 1 = .ok (.istore_n 2, 1) := by decide +kernel
theorem dX6_countStanding_2 : decode cX6_countStanding 2 = .ok (.iconst 0, 1) := by decide +kernel
theorem dX6_countStanding_3 : decode cX6_countStanding 3 = .ok (.istore_n 3, 1) := by decide +kernel
theorem dX6_countStanding_4 : decode cX6_countStanding 4 = .ok (.iload_n 3, 1) := by decide +kernel
theorem dX6_countStanding_5 : decode cX6_countStanding 5 = .ok (.aload_n 0, 1) := by decide +kernel
theorem dX6_countStanding_6 : decode cX6_countStanding 6 = .ok (.getfield 19, 3) := by decide +kernel
theorem dX6_countStanding_9 : decode cX6_countStanding 9 = .ok (.invokevirtual 40, 3) := by decide +kernel
theorem dX6_countStanding_12 : decode cX6_countStanding 12 = .ok (.if_icmp .ge 30, 3) := by decide +kernel
theorem dX6_countStanding_15 : decode cX6_countStanding 15 = .ok (.aload_n 0, 1) := by decide +kernel
theorem dX6_countStanding_16 : decode cX6_countStanding 16 = .ok (.getfield 19, 3) := by decide +kernel
theorem dX6_countStanding_19 : decode cX6_countStanding 19 = .ok (.iload_n 3, 1) := by decide +kernel
theorem dX6_countStanding_20 : decode cX6_countStanding 20 = .ok (.invokevirtual 68, 3) := by decide +kernel
theorem dX6_countStanding_23 : decode cX6_countStanding 23 = .ok (.checkcast 129, 3) := by decide +kernel
theorem dX6_countStanding_26 : decode cX6_countStanding 26 = .ok (.aload_n 1, 1) := by decide +kernel
theorem dX6_countStanding_27 : decode cX6_countStanding 27 = .ok (.invokevirtual 209, 3) := by decide +kernel
theorem dX6_countStanding_30 : decode cX6_countStanding 30 = .ok (.ifCond .eq 6, 3) := by decide +kernel
theorem dX6_countStanding_33 : decode cX6_countStanding 33 = .ok (.iinc 2 1, 3) := by decide +kernel
theorem dX6_countStanding_36 : decode cX6_countStanding 36 = .ok (.iinc 3 1, 3) := by decide +kernel
theorem dX6_countStanding_39 : decode cX6_countStanding 39 = .ok (.goto (-35), 3) := by decide +kernel
theorem dX6_countStanding_42 : decode cX6_countStanding 42 = .ok (.iload_n 2, 1) := by decide +kernel
theorem dX6_countStanding_43 : decode cX6_countStanding 43 = .ok (.ireturn, 1) := by decide +kernel
theorem dX6_countKnownSets_0 : decode cX6_countKnownSets 0 = .ok (.aload_n 0, 1) := by decide +kernel
theorem dX6_countKnownSets_1 : decode cX6_countKnownSets 1 = .ok (.getfield 32, 3) := by decide +kernel
theorem dX6_countKnownSets_4 : decode cX6_countKnownSets 4 = .ok (.aload_n 0, 1) := by decide +kernel
theorem dX6_countKnownSets_5 : decode cX6_countKnownSets 5 = .ok (.getfield 10, 3) := by decide +kernel
theorem dX6_countKnownSets_8 : decode cX6_countKnownSets 8 = .ok (.invokevirtual 40, 3) := by decide +kernel
theorem dX6_countKnownSets_11 : decode cX6_countKnownSets 11 = .ok (.invokevirtual 230, 3) := by decide +kernel
theorem dX6_countKnownSets_14 : decode cX6_countKnownSets 14 = .ok (.iconst 0, 1) := by decide +kernel
theorem dX6_countKnownSets_15 : decode cX6_countKnownSets 15 = .ok (.istore_n 3, 1) := by decide +kernel
theorem dX6_countKnownSets_16 : decode cX6_countKnownSets 16 = .ok (.iload_n 3, 1) := by decide +kernel
theorem dX6_countKnownSets_17 : decode cX6_countKnownSets 17 = .ok (.aload_n 0, 1) := by decide +kernel
theorem dX6_countKnownSets_18 : decode cX6_countKnownSets 18 = .ok (.getfield 19, 3) := by decide +kernel
theorem dX6_countKnownSets_21 : decode cX6_countKnownSets 21 = .ok (.invokevirtual 40, 3) := by decide +kernel
theorem dX6_countKnownSets_24 : decode cX6_countKnownSets 24 = .ok (.if_icmp .ge 55, 3) := by decide +kernel
theorem dX6_countKnownSets_27 : decode cX6_countKnownSets 27 = .ok (.aload_n 0, 1) := by decide +kernel
theorem dX6_countKnownSets_28 : decode cX6_countKnownSets 28 = .ok (.getfield 19, 3) := by decide +kernel
theorem dX6_countKnownSets_31 : decode cX6_countKnownSets 31 = .ok (.iload_n 3, 1) := by decide +kernel
theorem dX6_countKnownSets_32 : decode cX6_countKnownSets 32 = .ok (.invokevirtual 68, 3) := by decide +kernel
theorem dX6_countKnownSets_35 : decode cX6_countKnownSets 35 = .ok (.checkcast 129, 3) := by decide +kernel
theorem dX6_countKnownSets_38 : decode cX6_countKnownSets 38 = .ok (.astore 4, 2) := by decide +kernel
theorem dX6_countKnownSets_40 : decode cX6_countKnownSets 40 = .ok (.aload 4, 2) := by decide +kernel
theorem dX6_countKnownSets_42 : decode cX6_countKnownSets 42 = .ok (.aload_n 1, 1) := by decide +kernel
theorem dX6_countKnownSets_43 : decode cX6_countKnownSets 43 = .ok (.invokevirtual 209, 3) := by decide +kernel
theorem dX6_countKnownSets_46 : decode cX6_countKnownSets 46 = .ok (.ifCond .eq 27, 3) := by decide +kernel
theorem dX6_countKnownSets_49 : decode cX6_countKnownSets 49 = .ok (.aload 4, 2) := by decide +kernel
theorem dX6_countKnownSets_51 : decode cX6_countKnownSets 51 = .ok (.getfield 227, 3) := by decide +kernel
theorem dX6_countKnownSets_54 : decode cX6_countKnownSets 54 = .ok (.iload_n 2, 1) := by decide +kernel
theorem dX6_countKnownSets_55 : decode cX6_countKnownSets 55 = .ok (.invokestatic 233, 3) := by decide +kernel
theorem dX6_countKnownSets_58 : decode cX6_countKnownSets 58 = .ok (.ifCond .eq 15, 3) := by decide +kernel
theorem dX6_countKnownSets_61 : decode cX6_countKnownSets 61 = .ok (.aload_n 0, 1) := by decide +kernel
theorem dX6_countKnownSets_62 : decode cX6_countKnownSets 62 = .ok (.getfield 32, 3) := by decide +kernel
theorem dX6_countKnownSets_65 : decode cX6_countKnownSets 65 = .ok (.aload 4, 2) := by decide +kernel
theorem dX6_countKnownSets_67 : decode cX6_countKnownSets 67 = .ok (.getfield 213, 3) := by decide +kernel
theorem dX6_countKnownSets_70 : decode cX6_countKnownSets 70 = .ok (.invokevirtual 236, 3) := by decide +kernel
theorem dX6_countKnownSets_73 : decode cX6_countKnownSets 73 = .ok (.iinc 3 1, 3) := by decide +kernel
theorem dX6_countKnownSets_76 : decode cX6_countKnownSets 76 = .ok (.goto (-60), 3) := by decide +kernel
theorem dX6_countKnownSets_79 : decode cX6_countKnownSets 79 = .ok (.aload_n 0, 1) := by decide +kernel
theorem dX6_countKnownSets_80 : decode cX6_countKnownSets 80 = .ok (.getfield 32, 3) := by decide +kernel
theorem dX6_countKnownSets_83 : decode cX6_countKnownSets 83 = .ok (.invokevirtual 238, 3) := by decide +kernel
theorem dX6_countKnownSets_86 : decode cX6_countKnownSets 86 = .ok (.ireturn, 1) := by decide +kernel
theorem dX6_generatorsOf_0 : decode cX6_generatorsOf 0 = .ok (.iconst 0, 1) := by decide +kernel
theorem dX6_generatorsOf_1 : decode cX6_generatorsOf 1 = .ok (.istore_n 1, 1) := by decide +kernel
theorem dX6_generatorsOf_2 : decode cX6_generatorsOf 2 = .ok (.iload_n 0, 1) := by decide +kernel
theorem dX6_generatorsOf_3 : decode cX6_generatorsOf 3 = .ok (.istore_n 2, 1) := by decide +kernel
theorem dX6_generatorsOf_4 : decode cX6_generatorsOf 4 = .ok (.iload_n 2, 1) := by decide +kernel
theorem dX6_generatorsOf_5 : decode cX6_generatorsOf 5 = .ok (.iconst 1, 1) := by decide +kernel
theorem dX6_generatorsOf_6 : decode cX6_generatorsOf 6 = .ok (.if_icmp .le 13, 3) := by decide +kernel
theorem dX6_generatorsOf_9 : decode cX6_generatorsOf 9 = .ok (.iinc 1 1, 3) := by decide +kernel
theorem dX6_generatorsOf_12 : decode cX6_generatorsOf 12 = .ok (.iload_n 2, 1) := by decide +kernel
theorem dX6_generatorsOf_13 : decode cX6_generatorsOf 13 = .ok (.iconst 1, 1) := by decide +kernel
theorem dX6_generatorsOf_14 : decode cX6_generatorsOf 14 = .ok (.ishr, 1) := by decide +kernel
theorem dX6_generatorsOf_15 : decode cX6_generatorsOf 15 = .ok (.istore_n 2, 1) := by decide +kernel
theorem dX6_generatorsOf_16 : decode cX6_generatorsOf 16 = .ok (.goto (-12), 3) := by decide +kernel
theorem dX6_generatorsOf_19 : decode cX6_generatorsOf 19 = .ok (.iload_n 1, 1) := by decide +kernel
theorem dX6_generatorsOf_20 : decode cX6_generatorsOf 20 = .ok (.ireturn, 1) := by decide +kernel
theorem dX6_shareKnowledge_0 : decode cX6_shareKnowledge 0 = .ok (.aload_n 0, 1) := by decide +kernel
theorem dX6_shareKnowledge_1 : decode cX6_shareKnowledge 1 = .ok (.getfield 25, 3) := by decide +kernel
theorem dX6_shareKnowledge_4 : decode cX6_shareKnowledge 4 = .ok (.invokevirtual 241, 3) := by decide +kernel
theorem dX6_shareKnowledge_7 : decode cX6_shareKnowledge 7 = .ok (.iconst 0, 1) := by decide +kernel
theorem dX6_shareKnowledge_8 : decode cX6_shareKnowledge 8 = .ok (.istore_n 3, 1) := by decide +kernel
theorem dX6_shareKnowledge_9 : decode cX6_shareKnowledge 9 = .ok (.iload_n 3, 1) := by decide +kernel
theorem dX6_shareKnowledge_10 : decode cX6_shareKnowledge 10 = .ok (.aload_n 0, 1) := by decide +kernel
theorem dX6_shareKnowledge_11 : decode cX6_shareKnowledge 11 = .ok (.getfield 16, 3) := by decide +kernel
theorem dX6_shareKnowledge_14 : decode cX6_shareKnowledge 14 = .ok (.invokevirtual 40, 3) := by decide +kernel
theorem dX6_shareKnowledge_17 : decode cX6_shareKnowledge 17 = .ok (.if_icmp .ge 54, 3) := by decide +kernel
theorem dX6_shareKnowledge_20 : decode cX6_shareKnowledge 20 = .ok (.aload_n 0, 1) := by decide +kernel
theorem dX6_shareKnowledge_21 : decode cX6_shareKnowledge 21 = .ok (.getfield 16, 3) := by decide +kernel
theorem dX6_shareKnowledge_24 : decode cX6_shareKnowledge 24 = .ok (.iload_n 3, 1) := by decide +kernel
theorem dX6_shareKnowledge_25 : decode cX6_shareKnowledge 25 = .ok (.invokevirtual 68, 3) := by decide +kernel
theorem dX6_shareKnowledge_28 : decode cX6_shareKnowledge 28 = .ok (.checkcast 72, 3) := by decide +kernel
theorem dX6_shareKnowledge_31 : decode cX6_shareKnowledge 31 = .ok (.astore 4, 2) := by decide +kernel
theorem dX6_shareKnowledge_33 : decode cX6_shareKnowledge 33 = .ok (.iload_n 1, 1) := by decide +kernel
theorem dX6_shareKnowledge_34 : decode cX6_shareKnowledge 34 = .ok (.iload_n 3, 1) := by decide +kernel
theorem dX6_shareKnowledge_35 : decode cX6_shareKnowledge 35 = .ok (.invokestatic 205, 3) := by decide +kernel
theorem dX6_shareKnowledge_38 : decode cX6_shareKnowledge 38 = .ok (.ifCond .eq 27, 3) := by decide +kernel
theorem dX6_shareKnowledge_41 : decode cX6_shareKnowledge 41 = .ok (.iload_n 2, 1) := by decide +kernel
theorem dX6_shareKnowledge_42 : decode cX6_shareKnowledge 42 = .ok (.aload 4, 2) := by decide +kernel
theorem dX6_shareKnowledge_44 : decode cX6_shareKnowledge 44 = .ok (.getfield 161, 3) := by decide +kernel
theorem dX6_shareKnowledge_47 : decode cX6_shareKnowledge 47 = .ok (.arraylength, 1) := by decide +kernel
theorem dX6_shareKnowledge_48 : decode cX6_shareKnowledge 48 = .ok (.if_icmp .ge 17, 3) := by decide +kernel
theorem dX6_shareKnowledge_51 : decode cX6_shareKnowledge 51 = .ok (.aload_n 0, 1) := by decide +kernel
theorem dX6_shareKnowledge_52 : decode cX6_shareKnowledge 52 = .ok (.getfield 25, 3) := by decide +kernel
theorem dX6_shareKnowledge_55 : decode cX6_shareKnowledge 55 = .ok (.aload 4, 2) := by decide +kernel
theorem dX6_shareKnowledge_57 : decode cX6_shareKnowledge 57 = .ok (.getfield 161, 3) := by decide +kernel
theorem dX6_shareKnowledge_60 : decode cX6_shareKnowledge 60 = .ok (.iload_n 2, 1) := by decide +kernel
theorem dX6_shareKnowledge_61 : decode cX6_shareKnowledge 61 = .ok (.aaload, 1) := by decide +kernel
theorem dX6_shareKnowledge_62 : decode cX6_shareKnowledge 62 = .ok (.invokevirtual 242, 3) := by decide +kernel
theorem dX6_shareKnowledge_65 : decode cX6_shareKnowledge 65 = .ok (.iinc 3 1, 3) := by decide +kernel
theorem dX6_shareKnowledge_68 : decode cX6_shareKnowledge 68 = .ok (.goto (-59), 3) := by decide +kernel
theorem dX6_shareKnowledge_71 : decode cX6_shareKnowledge 71 = .ok (.return_, 1) := by decide +kernel
theorem dJ13_bitCount_95d88_0 : decode cJ13_bitCount_95d88 0 = .ok (.lload_n 0, 1) := by decide +kernel
theorem dJ13_bitCount_95d88_1 : decode cJ13_bitCount_95d88 1 = .ok (.lload_n 0, 1) := by decide +kernel
theorem dJ13_bitCount_95d88_2 : decode cJ13_bitCount_95d88 2 = .ok (.iconst 1, 1) := by decide +kernel
theorem dJ13_bitCount_95d88_3 : decode cJ13_bitCount_95d88 3 = .ok (.lushr, 1) := by decide +kernel
theorem dJ13_bitCount_95d88_4 : decode cJ13_bitCount_95d88 4 = .ok (.ldc2_w 314, 3) := by decide +kernel
theorem dJ13_bitCount_95d88_7 : decode cJ13_bitCount_95d88 7 = .ok (.land, 1) := by decide +kernel
theorem dJ13_bitCount_95d88_8 : decode cJ13_bitCount_95d88 8 = .ok (.lsub, 1) := by decide +kernel
theorem dJ13_bitCount_95d88_9 : decode cJ13_bitCount_95d88 9 = .ok (.lstore_n 0, 1) := by decide +kernel
theorem dJ13_bitCount_95d88_10 : decode cJ13_bitCount_95d88 10 = .ok (.lload_n 0, 1) := by decide +kernel
theorem dJ13_bitCount_95d88_11 : decode cJ13_bitCount_95d88 11 = .ok (.ldc2_w 316, 3) := by decide +kernel
theorem dJ13_bitCount_95d88_14 : decode cJ13_bitCount_95d88 14 = .ok (.land, 1) := by decide +kernel
theorem dJ13_bitCount_95d88_15 : decode cJ13_bitCount_95d88 15 = .ok (.lload_n 0, 1) := by decide +kernel
theorem dJ13_bitCount_95d88_16 : decode cJ13_bitCount_95d88 16 = .ok (.iconst 2, 1) := by decide +kernel
theorem dJ13_bitCount_95d88_17 : decode cJ13_bitCount_95d88 17 = .ok (.lushr, 1) := by decide +kernel
theorem dJ13_bitCount_95d88_18 : decode cJ13_bitCount_95d88 18 = .ok (.ldc2_w 316, 3) := by decide +kernel
theorem dJ13_bitCount_95d88_21 : decode cJ13_bitCount_95d88 21 = .ok (.land, 1) := by decide +kernel
theorem dJ13_bitCount_95d88_22 : decode cJ13_bitCount_95d88 22 = .ok (.ladd, 1) := by decide +kernel
theorem dJ13_bitCount_95d88_23 : decode cJ13_bitCount_95d88 23 = .ok (.lstore_n 0, 1) := by decide +kernel
theorem dJ13_bitCount_95d88_24 : decode cJ13_bitCount_95d88 24 = .ok (.lload_n 0, 1) := by decide +kernel
theorem dJ13_bitCount_95d88_25 : decode cJ13_bitCount_95d88 25 = .ok (.lload_n 0, 1) := by decide +kernel
theorem dJ13_bitCount_95d88_26 : decode cJ13_bitCount_95d88 26 = .ok (.iconst 4, 1) := by decide +kernel
theorem dJ13_bitCount_95d88_27 : decode cJ13_bitCount_95d88 27 = .ok (.lushr, 1) := by decide +kernel
theorem dJ13_bitCount_95d88_28 : decode cJ13_bitCount_95d88 28 = .ok (.ladd, 1) := by decide +kernel
theorem dJ13_bitCount_95d88_29 : decode cJ13_bitCount_95d88 29 = .ok (.ldc2_w 318, 3) := by decide +kernel
theorem dJ13_bitCount_95d88_32 : decode cJ13_bitCount_95d88 32 = .ok (.land, 1) := by decide +kernel
theorem dJ13_bitCount_95d88_33 : decode cJ13_bitCount_95d88 33 = .ok (.lstore_n 0, 1) := by decide +kernel
theorem dJ13_bitCount_95d88_34 : decode cJ13_bitCount_95d88 34 = .ok (.lload_n 0, 1) := by decide +kernel
theorem dJ13_bitCount_95d88_35 : decode cJ13_bitCount_95d88 35 = .ok (.lload_n 0, 1) := by decide +kernel
theorem dJ13_bitCount_95d88_36 : decode cJ13_bitCount_95d88 36 = .ok (.bipush 8, 2) := by decide +kernel
theorem dJ13_bitCount_95d88_38 : decode cJ13_bitCount_95d88 38 = .ok (.lushr, 1) := by decide +kernel
theorem dJ13_bitCount_95d88_39 : decode cJ13_bitCount_95d88 39 = .ok (.ladd, 1) := by decide +kernel
theorem dJ13_bitCount_95d88_40 : decode cJ13_bitCount_95d88 40 = .ok (.lstore_n 0, 1) := by decide +kernel
theorem dJ13_bitCount_95d88_41 : decode cJ13_bitCount_95d88 41 = .ok (.lload_n 0, 1) := by decide +kernel
theorem dJ13_bitCount_95d88_42 : decode cJ13_bitCount_95d88 42 = .ok (.lload_n 0, 1) := by decide +kernel
theorem dJ13_bitCount_95d88_43 : decode cJ13_bitCount_95d88 43 = .ok (.bipush 16, 2) := by decide +kernel
theorem dJ13_bitCount_95d88_45 : decode cJ13_bitCount_95d88 45 = .ok (.lushr, 1) := by decide +kernel
theorem dJ13_bitCount_95d88_46 : decode cJ13_bitCount_95d88 46 = .ok (.ladd, 1) := by decide +kernel
theorem dJ13_bitCount_95d88_47 : decode cJ13_bitCount_95d88 47 = .ok (.lstore_n 0, 1) := by decide +kernel
theorem dJ13_bitCount_95d88_48 : decode cJ13_bitCount_95d88 48 = .ok (.lload_n 0, 1) := by decide +kernel
theorem dJ13_bitCount_95d88_49 : decode cJ13_bitCount_95d88 49 = .ok (.lload_n 0, 1) := by decide +kernel
theorem dJ13_bitCount_95d88_50 : decode cJ13_bitCount_95d88 50 = .ok (.bipush 32, 2) := by decide +kernel
theorem dJ13_bitCount_95d88_52 : decode cJ13_bitCount_95d88 52 = .ok (.lushr, 1) := by decide +kernel
theorem dJ13_bitCount_95d88_53 : decode cJ13_bitCount_95d88 53 = .ok (.ladd, 1) := by decide +kernel
theorem dJ13_bitCount_95d88_54 : decode cJ13_bitCount_95d88 54 = .ok (.lstore_n 0, 1) := by decide +kernel
theorem dJ13_bitCount_95d88_55 : decode cJ13_bitCount_95d88 55 = .ok (.lload_n 0, 1) := by decide +kernel
theorem dJ13_bitCount_95d88_56 : decode cJ13_bitCount_95d88 56 = .ok (.l2i, 1) := by decide +kernel
theorem dJ13_bitCount_95d88_57 : decode cJ13_bitCount_95d88 57 = .ok (.bipush 127, 2) := by decide +kernel
theorem dJ13_bitCount_95d88_59 : decode cJ13_bitCount_95d88 59 = .ok (.iand, 1) := by decide +kernel
theorem dJ13_bitCount_95d88_60 : decode cJ13_bitCount_95d88 60 = .ok (.ireturn, 1) := by decide +kernel
theorem dJ9_max_7cf53_0 : decode cJ9_max_7cf53 0 = .ok (.iload_n 0, 1) := by decide +kernel
theorem dJ9_max_7cf53_1 : decode cJ9_max_7cf53 1 = .ok (.iload_n 1, 1) := by decide +kernel
theorem dJ9_max_7cf53_2 : decode cJ9_max_7cf53 2 = .ok (.if_icmp .lt 7, 3) := by decide +kernel
theorem dJ9_max_7cf53_5 : decode cJ9_max_7cf53 5 = .ok (.iload_n 0, 1) := by decide +kernel
theorem dJ9_max_7cf53_6 : decode cJ9_max_7cf53 6 = .ok (.goto 4, 3) := by decide +kernel
theorem dJ9_max_7cf53_9 : decode cJ9_max_7cf53 9 = .ok (.iload_n 1, 1) := by decide +kernel
theorem dJ9_max_7cf53_10 : decode cJ9_max_7cf53 10 = .ok (.ireturn, 1) := by decide +kernel
theorem dJ9_min_7cf53_0 : decode cJ9_min_7cf53 0 = .ok (.iload_n 0, 1) := by decide +kernel
theorem dJ9_min_7cf53_1 : decode cJ9_min_7cf53 1 = .ok (.iload_n 1, 1) := by decide +kernel
theorem dJ9_min_7cf53_2 : decode cJ9_min_7cf53 2 = .ok (.if_icmp .gt 7, 3) := by decide +kernel
theorem dJ9_min_7cf53_5 : decode cJ9_min_7cf53 5 = .ok (.iload_n 0, 1) := by decide +kernel
theorem dJ9_min_7cf53_6 : decode cJ9_min_7cf53 6 = .ok (.goto 4, 3) := by decide +kernel
theorem dJ9_min_7cf53_9 : decode cJ9_min_7cf53 9 = .ok (.iload_n 1, 1) := by decide +kernel
theorem dJ9_min_7cf53_10 : decode cJ9_min_7cf53 10 = .ok (.ireturn, 1) := by decide +kernel
theorem dJxa1e45_init_da8c8_0 : decode cJxa1e45_init_da8c8 0 = .ok (.aload_n 0, 1) := by decide +kernel
theorem dJxa1e45_init_da8c8_1 : decode cJxa1e45_init_da8c8 1 = .ok (.invokespecial 1, 3) := by decide +kernel
theorem dJxa1e45_init_da8c8_4 : decode cJxa1e45_init_da8c8 4 = .ok (.return_, 1) := by decide +kernel
theorem dJxc12de_init_da8c8_0 : decode cJxc12de_init_da8c8 0 = .ok (.aload_n 0, 1) := by decide +kernel
theorem dJxc12de_init_da8c8_1 : decode cJxc12de_init_da8c8 1 = .ok (.invokespecial 1, 3) := by decide +kernel
theorem dJxc12de_init_da8c8_4 : decode cJxc12de_init_da8c8 4 = .ok (.aload_n 0, 1) := by decide +kernel
theorem dJxc12de_init_da8c8_5 : decode cJxc12de_init_da8c8 5 = .ok (.iconst 0, 1) := by decide +kernel
theorem dJxc12de_init_da8c8_6 : decode cJxc12de_init_da8c8 6 = .ok (.putfield 7, 3) := by decide +kernel
theorem dJxc12de_init_da8c8_9 : decode cJxc12de_init_da8c8 9 = .ok (.return_, 1) := by decide +kernel
theorem dJx4a65c_init_da8c8_0 : decode cJx4a65c_init_da8c8 0 = .ok (.aload_n 0, 1) := by decide +kernel
theorem dJx4a65c_init_da8c8_1 : decode cJx4a65c_init_da8c8 1 = .ok (.invokespecial 1, 3) := by decide +kernel
theorem dJx4a65c_init_da8c8_4 : decode cJx4a65c_init_da8c8 4 = .ok (.aload_n 0, 1) := by decide +kernel
theorem dJx4a65c_init_da8c8_5 : decode cJx4a65c_init_da8c8 5 = .ok (.getstatic 39, 3) := by decide +kernel
theorem dJx4a65c_init_da8c8_8 : decode cJx4a65c_init_da8c8 8 = .ok (.putfield 9, 3) := by decide +kernel
theorem dJx4a65c_init_da8c8_11 : decode cJx4a65c_init_da8c8 11 = .ok (.return_, 1) := by decide +kernel
theorem dJx4a65c_grow_92f84_0 : decode cJx4a65c_grow_92f84 0 = .ok (.aload_n 0, 1) := by decide +kernel
theorem dJx4a65c_grow_92f84_1 : decode cJx4a65c_grow_92f84 1 = .ok (.getfield 9, 3) := by decide +kernel
theorem dJx4a65c_grow_92f84_4 : decode cJx4a65c_grow_92f84 4 = .ok (.arraylength, 1) := by decide +kernel
theorem dJx4a65c_grow_92f84_5 : decode cJx4a65c_grow_92f84 5 = .ok (.istore_n 2, 1) := by decide +kernel
theorem dJx4a65c_grow_92f84_6 : decode cJx4a65c_grow_92f84 6 = .ok (.iload_n 2, 1) := by decide +kernel
theorem dJx4a65c_grow_92f84_7 : decode cJx4a65c_grow_92f84 7 = .ok (.ifCond .gt 13, 3) := by decide +kernel
theorem dJx4a65c_grow_92f84_10 : decode cJx4a65c_grow_92f84 10 = .ok (.aload_n 0, 1) := by decide +kernel
theorem dJx4a65c_grow_92f84_11 : decode cJx4a65c_grow_92f84 11 = .ok (.getfield 9, 3) := by decide +kernel
theorem dJx4a65c_grow_92f84_14 : decode cJx4a65c_grow_92f84 14 = .ok (.getstatic 39, 3) := by decide +kernel
theorem dJx4a65c_grow_92f84_17 : decode cJx4a65c_grow_92f84 17 = .ok (.if_acmp .eq 28, 3) := by decide +kernel
theorem dJx4a65c_grow_92f84_20 : decode cJx4a65c_grow_92f84 20 = .ok (.iload_n 2, 1) := by decide +kernel
theorem dJx4a65c_grow_92f84_21 : decode cJx4a65c_grow_92f84 21 = .ok (.iload_n 1, 1) := by decide +kernel
theorem dJx4a65c_grow_92f84_22 : decode cJx4a65c_grow_92f84 22 = .ok (.iload_n 2, 1) := by decide +kernel
theorem dJx4a65c_grow_92f84_23 : decode cJx4a65c_grow_92f84 23 = .ok (.isub, 1) := by decide +kernel
theorem dJx4a65c_grow_92f84_24 : decode cJx4a65c_grow_92f84 24 = .ok (.iload_n 2, 1) := by decide +kernel
theorem dJx4a65c_grow_92f84_25 : decode cJx4a65c_grow_92f84 25 = .ok (.iconst 1, 1) := by decide +kernel
theorem dJx4a65c_grow_92f84_26 : decode cJx4a65c_grow_92f84 26 = .ok (.ishr, 1) := by decide +kernel
theorem dJx4a65c_grow_92f84_27 : decode cJx4a65c_grow_92f84 27 = .ok (.invokestatic 73, 3) := by decide +kernel
theorem dJx4a65c_grow_92f84_30 : decode cJx4a65c_grow_92f84 30 = .ok (.istore_n 3, 1) := by decide +kernel
theorem dJx4a65c_grow_92f84_31 : decode cJx4a65c_grow_92f84 31 = .ok (.aload_n 0, 1) := by decide +kernel
theorem dJx4a65c_grow_92f84_32 : decode cJx4a65c_grow_92f84 32 = .ok (.aload_n 0, 1) := by decide +kernel
theorem dJx4a65c_grow_92f84_33 : decode cJx4a65c_grow_92f84 33 = .ok (.getfield 9, 3) := by decide +kernel
theorem dJx4a65c_grow_92f84_36 : decode cJx4a65c_grow_92f84 36 = .ok (.iload_n 3, 1) := by decide +kernel
theorem dJx4a65c_grow_92f84_37 : decode cJx4a65c_grow_92f84 37 = .ok (.invokestatic 66, 3) := by decide +kernel
theorem dJx4a65c_grow_92f84_40 : decode cJx4a65c_grow_92f84 40 = .ok (.dup_x1, 1) := by decide +kernel
theorem dJx4a65c_grow_92f84_41 : decode cJx4a65c_grow_92f84 41 = .ok (.putfield 9, 3) := by decide +kernel
theorem dJx4a65c_grow_92f84_44 : decode cJx4a65c_grow_92f84 44 = .ok (.areturn, 1) := by decide +kernel
theorem dJx4a65c_grow_92f84_45 : decode cJx4a65c_grow_92f84 45 = .ok (.aload_n 0, 1) := by decide +kernel
theorem dJx4a65c_grow_92f84_46 : decode cJx4a65c_grow_92f84 46 = .ok (.bipush 10, 2) := by decide +kernel
theorem dJx4a65c_grow_92f84_48 : decode cJx4a65c_grow_92f84 48 = .ok (.iload_n 1, 1) := by decide +kernel
theorem dJx4a65c_grow_92f84_49 : decode cJx4a65c_grow_92f84 49 = .ok (.invokestatic 79, 3) := by decide +kernel
theorem dJx4a65c_grow_92f84_52 : decode cJx4a65c_grow_92f84 52 = .ok (.anewarray 7, 3) := by decide +kernel
theorem dJx4a65c_grow_92f84_55 : decode cJx4a65c_grow_92f84 55 = .ok (.dup_x1, 1) := by decide +kernel
theorem dJx4a65c_grow_92f84_56 : decode cJx4a65c_grow_92f84 56 = .ok (.putfield 9, 3) := by decide +kernel
theorem dJx4a65c_grow_92f84_59 : decode cJx4a65c_grow_92f84 59 = .ok (.areturn, 1) := by decide +kernel
theorem dJx4a65c_grow_d5877_0 : decode cJx4a65c_grow_d5877 0 = .ok (.aload_n 0, 1) := by decide +kernel
theorem dJx4a65c_grow_d5877_1 : decode cJx4a65c_grow_d5877 1 = .ok (.aload_n 0, 1) := by decide +kernel
theorem dJx4a65c_grow_d5877_2 : decode cJx4a65c_grow_d5877 2 = .ok (.getfield 48, 3) := by decide +kernel
theorem dJx4a65c_grow_d5877_5 : decode cJx4a65c_grow_d5877 5 = .ok (.iconst 1, 1) := by decide +kernel
theorem dJx4a65c_grow_d5877_6 : decode cJx4a65c_grow_d5877 6 = .ok (.iadd, 1) := by decide +kernel
theorem dJx4a65c_grow_d5877_7 : decode cJx4a65c_grow_d5877 7 = .ok (.invokevirtual 69, 3) := by decide +kernel
theorem dJx4a65c_grow_d5877_10 : decode cJx4a65c_grow_d5877 10 = .ok (.areturn, 1) := by decide +kernel
theorem dJx4a65c_size_8abf5_0 : decode cJx4a65c_size_8abf5 0 = .ok (.aload_n 0, 1) := by decide +kernel
theorem dJx4a65c_size_8abf5_1 : decode cJx4a65c_size_8abf5 1 = .ok (.getfield 48, 3) := by decide +kernel
theorem dJx4a65c_size_8abf5_4 : decode cJx4a65c_size_8abf5 4 = .ok (.ireturn, 1) := by decide +kernel
theorem dJx4a65c_elementData_915e3_0 : decode cJx4a65c_elementData_915e3 0 = .ok (.aload_n 0, 1) := by decide +kernel
theorem dJx4a65c_elementData_915e3_1 : decode cJx4a65c_elementData_915e3 1 = .ok (.getfield 9, 3) := by decide +kernel
theorem dJx4a65c_elementData_915e3_4 : decode cJx4a65c_elementData_915e3 4 = .ok (.iload_n 1, 1) := by decide +kernel
theorem dJx4a65c_elementData_915e3_5 : decode cJx4a65c_elementData_915e3 5 = .ok (.aaload, 1) := by decide +kernel
theorem dJx4a65c_elementData_915e3_6 : decode cJx4a65c_elementData_915e3 6 = .ok (.areturn, 1) := by decide +kernel
theorem dJx4a65c_get_915e3_0 : decode cJx4a65c_get_915e3 0 = .ok (.iload_n 1, 1) := by decide +kernel
theorem dJx4a65c_get_915e3_1 : decode cJx4a65c_get_915e3 1 = .ok (.aload_n 0, 1) := by decide +kernel
theorem dJx4a65c_get_915e3_2 : decode cJx4a65c_get_915e3 2 = .ok (.getfield 48, 3) := by decide +kernel
theorem dJx4a65c_get_915e3_5 : decode cJx4a65c_get_915e3 5 = .ok (.invokestatic 118, 3) := by decide +kernel
theorem dJx4a65c_get_915e3_8 : decode cJx4a65c_get_915e3 8 = .ok (.pop, 1) := by decide +kernel
theorem dJx4a65c_get_915e3_9 : decode cJx4a65c_get_915e3 9 = .ok (.aload_n 0, 1) := by decide +kernel
theorem dJx4a65c_get_915e3_10 : decode cJx4a65c_get_915e3 10 = .ok (.iload_n 1, 1) := by decide +kernel
theorem dJx4a65c_get_915e3_11 : decode cJx4a65c_get_915e3 11 = .ok (.invokevirtual 123, 3) := by decide +kernel
theorem dJx4a65c_get_915e3_14 : decode cJx4a65c_get_915e3 14 = .ok (.areturn, 1) := by decide +kernel
theorem dJx4a65c_add_72be8_0 : decode cJx4a65c_add_72be8 0 = .ok (.iload_n 3, 1) := by decide +kernel
theorem dJx4a65c_add_72be8_1 : decode cJx4a65c_add_72be8 1 = .ok (.aload_n 2, 1) := by decide +kernel
theorem dJx4a65c_add_72be8_2 : decode cJx4a65c_add_72be8 2 = .ok (.arraylength, 1) := by decide +kernel
theorem dJx4a65c_add_72be8_3 : decode cJx4a65c_add_72be8 3 = .ok (.if_icmp .ne 8, 3) := by decide +kernel
theorem dJx4a65c_add_72be8_6 : decode cJx4a65c_add_72be8 6 = .ok (.aload_n 0, 1) := by decide +kernel
theorem dJx4a65c_add_72be8_7 : decode cJx4a65c_add_72be8 7 = .ok (.invokevirtual 129, 3) := by decide +kernel
theorem dJx4a65c_add_72be8_10 : decode cJx4a65c_add_72be8 10 = .ok (.astore_n 2, 1) := by decide +kernel
theorem dJx4a65c_add_72be8_11 : decode cJx4a65c_add_72be8 11 = .ok (.aload_n 2, 1) := by decide +kernel
theorem dJx4a65c_add_72be8_12 : decode cJx4a65c_add_72be8 12 = .ok (.iload_n 3, 1) := by decide +kernel
theorem dJx4a65c_add_72be8_13 : decode cJx4a65c_add_72be8 13 = .ok (.aload_n 1, 1) := by decide +kernel
theorem dJx4a65c_add_72be8_14 : decode cJx4a65c_add_72be8 14 = .ok (.aastore, 1) := by decide +kernel
theorem dJx4a65c_add_72be8_15 : decode cJx4a65c_add_72be8 15 = .ok (.aload_n 0, 1) := by decide +kernel
theorem dJx4a65c_add_72be8_16 : decode cJx4a65c_add_72be8 16 = .ok (.iload_n 3, 1) := by decide +kernel
theorem dJx4a65c_add_72be8_17 : decode cJx4a65c_add_72be8 17 = .ok (.iconst 1, 1) := by decide +kernel
theorem dJx4a65c_add_72be8_18 : decode cJx4a65c_add_72be8 18 = .ok (.iadd, 1) := by decide +kernel
theorem dJx4a65c_add_72be8_19 : decode cJx4a65c_add_72be8 19 = .ok (.putfield 48, 3) := by decide +kernel
theorem dJx4a65c_add_72be8_22 : decode cJx4a65c_add_72be8 22 = .ok (.return_, 1) := by decide +kernel
theorem dJx4a65c_add_9ea2d_0 : decode cJx4a65c_add_9ea2d 0 = .ok (.aload_n 0, 1) := by decide +kernel
theorem dJx4a65c_add_9ea2d_1 : decode cJx4a65c_add_9ea2d 1 = .ok (.dup, 1) := by decide +kernel
theorem dJx4a65c_add_9ea2d_2 : decode cJx4a65c_add_9ea2d 2 = .ok (.getfield 63, 3) := by decide +kernel
theorem dJx4a65c_add_9ea2d_5 : decode cJx4a65c_add_9ea2d 5 = .ok (.iconst 1, 1) := by decide +kernel
theorem dJx4a65c_add_9ea2d_6 : decode cJx4a65c_add_9ea2d 6 = .ok (.iadd, 1) := by decide +kernel
theorem dJx4a65c_add_9ea2d_7 : decode cJx4a65c_add_9ea2d 7 = .ok (.putfield 63, 3) := by decide +kernel
theorem dJx4a65c_add_9ea2d_10 : decode cJx4a65c_add_9ea2d 10 = .ok (.aload_n 0, 1) := by decide +kernel
theorem dJx4a65c_add_9ea2d_11 : decode cJx4a65c_add_9ea2d 11 = .ok (.aload_n 1, 1) := by decide +kernel
theorem dJx4a65c_add_9ea2d_12 : decode cJx4a65c_add_9ea2d 12 = .ok (.aload_n 0, 1) := by decide +kernel
theorem dJx4a65c_add_9ea2d_13 : decode cJx4a65c_add_9ea2d 13 = .ok (.getfield 9, 3) := by decide +kernel
theorem dJx4a65c_add_9ea2d_16 : decode cJx4a65c_add_9ea2d 16 = .ok (.aload_n 0, 1) := by decide +kernel
theorem dJx4a65c_add_9ea2d_17 : decode cJx4a65c_add_9ea2d 17 = .ok (.getfield 48, 3) := by decide +kernel
theorem dJx4a65c_add_9ea2d_20 : decode cJx4a65c_add_9ea2d 20 = .ok (.invokevirtual 131, 3) := by decide +kernel
theorem dJx4a65c_add_9ea2d_23 : decode cJx4a65c_add_9ea2d 23 = .ok (.iconst 1, 1) := by decide +kernel
theorem dJx4a65c_add_9ea2d_24 : decode cJx4a65c_add_9ea2d 24 = .ok (.ireturn, 1) := by decide +kernel
theorem dJ7_copyOf_1904c_0 : decode cJ7_copyOf_1904c 0 = .ok (.aload_n 0, 1) := by decide +kernel
theorem dJ7_copyOf_1904c_1 : decode cJ7_copyOf_1904c 1 = .ok (.iload_n 1, 1) := by decide +kernel
theorem dJ7_copyOf_1904c_2 : decode cJ7_copyOf_1904c 2 = .ok (.aload_n 0, 1) := by decide +kernel
theorem dJ7_copyOf_1904c_3 : decode cJ7_copyOf_1904c 3 = .ok (.invokevirtual 86, 3) := by decide +kernel
theorem dJ7_copyOf_1904c_6 : decode cJ7_copyOf_1904c 6 = .ok (.invokestatic 300, 3) := by decide +kernel
theorem dJ7_copyOf_1904c_9 : decode cJ7_copyOf_1904c 9 = .ok (.areturn, 1) := by decide +kernel
theorem dJ7_copyOf_6403c_0 : decode cJ7_copyOf_6403c 0 = .ok (.aload_n 2, 1) := by decide +kernel
theorem dJ7_copyOf_6403c_1 : decode cJ7_copyOf_6403c 1 = .ok (.ldc 110, 2) := by decide +kernel
theorem dJ7_copyOf_6403c_3 : decode cJ7_copyOf_6403c 3 = .ok (.if_acmp .ne 10, 3) := by decide +kernel
theorem dJ7_copyOf_6403c_6 : decode cJ7_copyOf_6403c 6 = .ok (.iload_n 1, 1) := by decide +kernel
theorem dJ7_copyOf_6403c_7 : decode cJ7_copyOf_6403c 7 = .ok (.anewarray 2, 3) := by decide +kernel
theorem dJ7_copyOf_6403c_10 : decode cJ7_copyOf_6403c 10 = .ok (.goto 14, 3) := by decide +kernel
theorem dJ7_copyOf_6403c_13 : decode cJ7_copyOf_6403c 13 = .ok (.aload_n 2, 1) := by decide +kernel
theorem dJ7_copyOf_6403c_14 : decode cJ7_copyOf_6403c 14 = .ok (.invokevirtual 90, 3) := by decide +kernel
theorem dJ7_copyOf_6403c_17 : decode cJ7_copyOf_6403c 17 = .ok (.iload_n 1, 1) := by decide +kernel
theorem dJ7_copyOf_6403c_18 : decode cJ7_copyOf_6403c 18 = .ok (.invokestatic 95, 3) := by decide +kernel
theorem dJ7_copyOf_6403c_21 : decode cJ7_copyOf_6403c 21 = .ok (.checkcast 110, 3) := by decide +kernel
theorem dJ7_copyOf_6403c_24 : decode cJ7_copyOf_6403c 24 = .ok (.astore_n 3, 1) := by decide +kernel
theorem dJ7_copyOf_6403c_25 : decode cJ7_copyOf_6403c 25 = .ok (.aload_n 0, 1) := by decide +kernel
theorem dJ7_copyOf_6403c_26 : decode cJ7_copyOf_6403c 26 = .ok (.iconst 0, 1) := by decide +kernel
theorem dJ7_copyOf_6403c_27 : decode cJ7_copyOf_6403c 27 = .ok (.aload_n 3, 1) := by decide +kernel
theorem dJ7_copyOf_6403c_28 : decode cJ7_copyOf_6403c 28 = .ok (.iconst 0, 1) := by decide +kernel
theorem dJ7_copyOf_6403c_29 : decode cJ7_copyOf_6403c 29 = .ok (.aload_n 0, 1) := by decide +kernel
theorem dJ7_copyOf_6403c_30 : decode cJ7_copyOf_6403c 30 = .ok (.arraylength, 1) := by decide +kernel
theorem dJ7_copyOf_6403c_31 : decode cJ7_copyOf_6403c 31 = .ok (.iload_n 1, 1) := by decide +kernel
theorem dJ7_copyOf_6403c_32 : decode cJ7_copyOf_6403c 32 = .ok (.invokestatic 304, 3) := by decide +kernel
theorem dJ7_copyOf_6403c_35 : decode cJ7_copyOf_6403c 35 = .ok (.invokestatic 150, 3) := by decide +kernel
theorem dJ7_copyOf_6403c_38 : decode cJ7_copyOf_6403c 38 = .ok (.aload_n 3, 1) := by decide +kernel
theorem dJ7_copyOf_6403c_39 : decode cJ7_copyOf_6403c 39 = .ok (.areturn, 1) := by decide +kernel
theorem dJ15_checkIndex_7cf53_0 : decode cJ15_checkIndex_7cf53 0 = .ok (.iload_n 0, 1) := by decide +kernel
theorem dJ15_checkIndex_7cf53_1 : decode cJ15_checkIndex_7cf53 1 = .ok (.iload_n 1, 1) := by decide +kernel
theorem dJ15_checkIndex_7cf53_2 : decode cJ15_checkIndex_7cf53 2 = .ok (.aconst_null, 1) := by decide +kernel
theorem dJ15_checkIndex_7cf53_3 : decode cJ15_checkIndex_7cf53 3 = .ok (.invokestatic 105, 3) := by decide +kernel
theorem dJ15_checkIndex_7cf53_6 : decode cJ15_checkIndex_7cf53 6 = .ok (.ireturn, 1) := by decide +kernel
theorem dJ8_newLength_cabcc_0 : decode cJ8_newLength_cabcc 0 = .ok (.iload_n 0, 1) := by decide +kernel
theorem dJ8_newLength_cabcc_1 : decode cJ8_newLength_cabcc 1 = .ok (.iload_n 1, 1) := by decide +kernel
theorem dJ8_newLength_cabcc_2 : decode cJ8_newLength_cabcc 2 = .ok (.iload_n 2, 1) := by decide +kernel
theorem dJ8_newLength_cabcc_3 : decode cJ8_newLength_cabcc 3 = .ok (.invokestatic 194, 3) := by decide +kernel
theorem dJ8_newLength_cabcc_6 : decode cJ8_newLength_cabcc 6 = .ok (.iadd, 1) := by decide +kernel
theorem dJ8_newLength_cabcc_7 : decode cJ8_newLength_cabcc 7 = .ok (.istore_n 3, 1) := by decide +kernel
theorem dJ8_newLength_cabcc_8 : decode cJ8_newLength_cabcc 8 = .ok (.iconst 0, 1) := by decide +kernel
theorem dJ8_newLength_cabcc_9 : decode cJ8_newLength_cabcc 9 = .ok (.iload_n 3, 1) := by decide +kernel
theorem dJ8_newLength_cabcc_10 : decode cJ8_newLength_cabcc 10 = .ok (.if_icmp .ge 11, 3) := by decide +kernel
theorem dJ8_newLength_cabcc_13 : decode cJ8_newLength_cabcc 13 = .ok (.iload_n 3, 1) := by decide +kernel
theorem dJ8_newLength_cabcc_14 : decode cJ8_newLength_cabcc 14 = .ok (.ldc 200, 2) := by decide +kernel
theorem dJ8_newLength_cabcc_16 : decode cJ8_newLength_cabcc 16 = .ok (.if_icmp .gt 5, 3) := by decide +kernel
theorem dJ8_newLength_cabcc_19 : decode cJ8_newLength_cabcc 19 = .ok (.iload_n 3, 1) := by decide +kernel
theorem dJ8_newLength_cabcc_20 : decode cJ8_newLength_cabcc 20 = .ok (.ireturn, 1) := by decide +kernel
theorem dJ8_newLength_cabcc_21 : decode cJ8_newLength_cabcc 21 = .ok (.iload_n 0, 1) := by decide +kernel
theorem dJ8_newLength_cabcc_22 : decode cJ8_newLength_cabcc 22 = .ok (.iload_n 1, 1) := by decide +kernel
theorem dJ8_newLength_cabcc_23 : decode cJ8_newLength_cabcc 23 = .ok (.invokestatic 201, 3) := by decide +kernel
theorem dJ8_newLength_cabcc_26 : decode cJ8_newLength_cabcc 26 = .ok (.ireturn, 1) := by decide +kernel
theorem dJ8_hugeLength_7cf53_0 : decode cJ8_hugeLength_7cf53 0 = .ok (.iload_n 0, 1) := by decide +kernel
theorem dJ8_hugeLength_7cf53_1 : decode cJ8_hugeLength_7cf53 1 = .ok (.iload_n 1, 1) := by decide +kernel
theorem dJ8_hugeLength_7cf53_2 : decode cJ8_hugeLength_7cf53 2 = .ok (.iadd, 1) := by decide +kernel
theorem dJ8_hugeLength_7cf53_3 : decode cJ8_hugeLength_7cf53 3 = .ok (.istore_n 2, 1) := by decide +kernel
theorem dJ8_hugeLength_7cf53_4 : decode cJ8_hugeLength_7cf53 4 = .ok (.iload_n 2, 1) := by decide +kernel
theorem dJ8_hugeLength_7cf53_5 : decode cJ8_hugeLength_7cf53 5 = .ok (.ifCond .ge 44, 3) := by decide +kernel
theorem dJ8_hugeLength_7cf53_8 : decode cJ8_hugeLength_7cf53 8 = .ok (.new 204, 3) := by decide +kernel
theorem dJ8_hugeLength_7cf53_11 : decode cJ8_hugeLength_7cf53 11 = .ok (.dup, 1) := by decide +kernel
theorem dJ8_hugeLength_7cf53_12 : decode cJ8_hugeLength_7cf53 12 = .ok (.new 89, 3) := by decide +kernel
theorem dJ8_hugeLength_7cf53_15 : decode cJ8_hugeLength_7cf53 15 = .ok (.dup, 1) := by decide +kernel
theorem dJ8_hugeLength_7cf53_16 : decode cJ8_hugeLength_7cf53 16 = .ok (.invokespecial 91, 3) := by decide +kernel
theorem dJ8_hugeLength_7cf53_19 : decode cJ8_hugeLength_7cf53 19 = .ok (.ldc 206, 2) := by decide +kernel
theorem dJ8_hugeLength_7cf53_21 : decode cJ8_hugeLength_7cf53 21 = .ok (.invokevirtual 94, 3) := by decide +kernel
theorem dJ8_hugeLength_7cf53_24 : decode cJ8_hugeLength_7cf53 24 = .ok (.iload_n 0, 1) := by decide +kernel
theorem dJ8_hugeLength_7cf53_25 : decode cJ8_hugeLength_7cf53 25 = .ok (.invokevirtual 98, 3) := by decide +kernel
theorem dJ8_hugeLength_7cf53_28 : decode cJ8_hugeLength_7cf53 28 = .ok (.ldc 208, 2) := by decide +kernel
theorem dJ8_hugeLength_7cf53_30 : decode cJ8_hugeLength_7cf53 30 = .ok (.invokevirtual 94, 3) := by decide +kernel
theorem dJ8_hugeLength_7cf53_33 : decode cJ8_hugeLength_7cf53 33 = .ok (.iload_n 1, 1) := by decide +kernel
theorem dJ8_hugeLength_7cf53_34 : decode cJ8_hugeLength_7cf53 34 = .ok (.invokevirtual 98, 3) := by decide +kernel
theorem dJ8_hugeLength_7cf53_37 : decode cJ8_hugeLength_7cf53 37 = .ok (.ldc 210, 2) := by decide +kernel
theorem dJ8_hugeLength_7cf53_39 : decode cJ8_hugeLength_7cf53 39 = .ok (.invokevirtual 94, 3) := by decide +kernel
theorem dJ8_hugeLength_7cf53_42 : decode cJ8_hugeLength_7cf53 42 = .ok (.invokevirtual 101, 3) := by decide +kernel
theorem dJ8_hugeLength_7cf53_45 : decode cJ8_hugeLength_7cf53 45 = .ok (.invokespecial 212, 3) := by decide +kernel
theorem dJ8_hugeLength_7cf53_48 : decode cJ8_hugeLength_7cf53 48 = .ok (.athrow, 1) := by decide +kernel
theorem dJ8_hugeLength_7cf53_49 : decode cJ8_hugeLength_7cf53 49 = .ok (.iload_n 2, 1) := by decide +kernel
theorem dJ8_hugeLength_7cf53_50 : decode cJ8_hugeLength_7cf53 50 = .ok (.ldc 200, 2) := by decide +kernel
theorem dJ8_hugeLength_7cf53_52 : decode cJ8_hugeLength_7cf53 52 = .ok (.if_icmp .gt 6, 3) := by decide +kernel
theorem dJ8_hugeLength_7cf53_55 : decode cJ8_hugeLength_7cf53 55 = .ok (.ldc 200, 2) := by decide +kernel
theorem dJ8_hugeLength_7cf53_57 : decode cJ8_hugeLength_7cf53 57 = .ok (.ireturn, 1) := by decide +kernel
theorem dJ8_hugeLength_7cf53_58 : decode cJ8_hugeLength_7cf53 58 = .ok (.iload_n 2, 1) := by decide +kernel
theorem dJ8_hugeLength_7cf53_59 : decode cJ8_hugeLength_7cf53 59 = .ok (.ireturn, 1) := by decide +kernel
theorem dJ3_checkIndex_8e157_0 : decode cJ3_checkIndex_8e157 0 = .ok (.iload_n 0, 1) := by decide +kernel
theorem dJ3_checkIndex_8e157_1 : decode cJ3_checkIndex_8e157 1 = .ok (.ifCond .lt 8, 3) := by decide +kernel
theorem dJ3_checkIndex_8e157_4 : decode cJ3_checkIndex_8e157 4 = .ok (.iload_n 0, 1) := by decide +kernel
theorem dJ3_checkIndex_8e157_5 : decode cJ3_checkIndex_8e157 5 = .ok (.iload_n 1, 1) := by decide +kernel
theorem dJ3_checkIndex_8e157_6 : decode cJ3_checkIndex_8e157 6 = .ok (.if_icmp .lt 10, 3) := by decide +kernel
theorem dJ3_checkIndex_8e157_9 : decode cJ3_checkIndex_8e157 9 = .ok (.aload_n 2, 1) := by decide +kernel
theorem dJ3_checkIndex_8e157_10 : decode cJ3_checkIndex_8e157 10 = .ok (.iload_n 0, 1) := by decide +kernel
theorem dJ3_checkIndex_8e157_11 : decode cJ3_checkIndex_8e157 11 = .ok (.iload_n 1, 1) := by decide +kernel
theorem dJ3_checkIndex_8e157_12 : decode cJ3_checkIndex_8e157 12 = .ok (.invokestatic 95, 3) := by decide +kernel
theorem dJ3_checkIndex_8e157_15 : decode cJ3_checkIndex_8e157 15 = .ok (.athrow, 1) := by decide +kernel
theorem dJ3_checkIndex_8e157_16 : decode cJ3_checkIndex_8e157 16 = .ok (.iload_n 0, 1) := by decide +kernel
theorem dJ3_checkIndex_8e157_17 : decode cJ3_checkIndex_8e157 17 = .ok (.ireturn, 1) := by decide +kernel
