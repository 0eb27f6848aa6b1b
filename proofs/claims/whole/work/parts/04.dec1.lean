theorem dX0_init_0 : decode cX0_init 0 = .ok (.aload_n 0, 1) := by decide +kernel
theorem dX0_init_1 : decode cX0_init 1 = .ok (.invokespecial 1, 3) := by decide +kernel
theorem dX0_init_4 : decode cX0_init 4 = .ok (.aload_n 0, 1) := by decide +kernel
theorem dX0_init_5 : decode cX0_init 5 = .ok (.iload_n 1, 1) := by decide +kernel
theorem dX0_init_6 : decode cX0_init 6 = .ok (.putfield 7, 3) := by decide +kernel
theorem dX0_init_9 : decode cX0_init 9 = .ok (.aload_n 0, 1) := by decide +kernel
theorem dX0_init_10 : decode cX0_init 10 = .ok (.iload_n 2, 1) := by decide +kernel
theorem dX0_init_11 : decode cX0_init 11 = .ok (.putfield 13, 3) := by decide +kernel
theorem dX0_init_14 : decode cX0_init 14 = .ok (.aload_n 0, 1) := by decide +kernel
theorem dX0_init_15 : decode cX0_init 15 = .ok (.iload_n 3, 1) := by decide +kernel
theorem dX0_init_16 : decode cX0_init 16 = .ok (.putfield 16, 3) := by decide +kernel
theorem dX0_init_19 : decode cX0_init 19 = .ok (.aload_n 0, 1) := by decide +kernel
theorem dX0_init_20 : decode cX0_init 20 = .ok (.iload 4, 2) := by decide +kernel
theorem dX0_init_22 : decode cX0_init 22 = .ok (.putfield 19, 3) := by decide +kernel
theorem dX0_init_25 : decode cX0_init 25 = .ok (.aload_n 0, 1) := by decide +kernel
theorem dX0_init_26 : decode cX0_init 26 = .ok (.iload 5, 2) := by decide +kernel
theorem dX0_init_28 : decode cX0_init 28 = .ok (.putfield 22, 3) := by decide +kernel
theorem dX0_init_31 : decode cX0_init 31 = .ok (.return_, 1) := by decide +kernel
theorem dX0_standsFor_0 : decode cX0_standsFor 0 = .ok (.aload_n 0, 1) := by decide +kernel
theorem dX0_standsFor_1 : decode cX0_standsFor 1 = .ok (.getfield 25, 3) := by decide +kernel
theorem dX0_standsFor_4 : decode cX0_standsFor 4 = .ok (.ifCond .ne 18, 3) := by decide +kernel
theorem dX0_standsFor_7 : decode cX0_standsFor 7 = .ok (.aload_n 0, 1) := by decide +kernel
theorem dX0_standsFor_8 : decode cX0_standsFor 8 = .ok (.getfield 7, 3) := by decide +kernel
theorem dX0_standsFor_11 : decode cX0_standsFor 11 = .ok (.aload_n 1, 1) := by decide +kernel
theorem dX0_standsFor_12 : decode cX0_standsFor 12 = .ok (.getfield 29, 3) := by decide +kernel
theorem dX0_standsFor_15 : decode cX0_standsFor 15 = .ok (.if_icmp .ne 7, 3) := by decide +kernel
theorem dX0_standsFor_18 : decode cX0_standsFor 18 = .ok (.iconst 1, 1) := by decide +kernel
theorem dX0_standsFor_19 : decode cX0_standsFor 19 = .ok (.goto 4, 3) := by decide +kernel
theorem dX0_standsFor_22 : decode cX0_standsFor 22 = .ok (.iconst 0, 1) := by decide +kernel
theorem dX0_standsFor_23 : decode cX0_standsFor 23 = .ok (.ireturn, 1) := by decide +kernel
theorem dX0_tell_0 : decode cX0_tell 0 = .ok (.iload_n 1, 1) := by decide +kernel
theorem dX0_tell_1 : decode cX0_tell 1 = .ok (.tableswitch 68 0 4 #[35, 40, 45, 50, 55], 35) := by decide +kernel
theorem dX0_tell_36 : decode cX0_tell 36 = .ok (.aload_n 0, 1) := by decide +kernel
theorem dX0_tell_37 : decode cX0_tell 37 = .ok (.getfield 7, 3) := by decide +kernel
theorem dX0_tell_40 : decode cX0_tell 40 = .ok (.ireturn, 1) := by decide +kernel
theorem dX0_tell_41 : decode cX0_tell 41 = .ok (.aload_n 0, 1) := by decide +kernel
theorem dX0_tell_42 : decode cX0_tell 42 = .ok (.getfield 13, 3) := by decide +kernel
theorem dX0_tell_45 : decode cX0_tell 45 = .ok (.ireturn, 1) := by decide +kernel
theorem dX0_tell_46 : decode cX0_tell 46 = .ok (.aload_n 0, 1) := by decide +kernel
theorem dX0_tell_47 : decode cX0_tell 47 = .ok (.getfield 16, 3) := by decide +kernel
theorem dX0_tell_50 : decode cX0_tell 50 = .ok (.ireturn, 1) := by decide +kernel
theorem dX0_tell_51 : decode cX0_tell 51 = .ok (.aload_n 0, 1) := by decide +kernel
theorem dX0_tell_52 : decode cX0_tell 52 = .ok (.getfield 19, 3) := by decide +kernel
theorem dX0_tell_55 : decode cX0_tell 55 = .ok (.ireturn, 1) := by decide +kernel
theorem dX0_tell_56 : decode cX0_tell 56 = .ok (.aload_n 0, 1) := by decide +kernel
theorem dX0_tell_57 : decode cX0_tell 57 = .ok (.getfield 25, 3) := by decide +kernel
theorem dX0_tell_60 : decode cX0_tell 60 = .ok (.ifCond .eq 7, 3) := by decide +kernel
theorem dX0_tell_63 : decode cX0_tell 63 = .ok (.iconst 1, 1) := by decide +kernel
theorem dX0_tell_64 : decode cX0_tell 64 = .ok (.goto 4, 3) := by decide +kernel
theorem dX0_tell_67 : decode cX0_tell 67 = .ok (.iconst 0, 1) := by decide +kernel
theorem dX0_tell_68 : decode cX0_tell 68 = .ok (.ireturn, 1) := by decide +kernel
theorem dX0_tell_69 : decode cX0_tell 69 = .ok (.aload_n 0, 1) := by decide +kernel
theorem dX0_tell_70 : decode cX0_tell 70 = .ok (.getfield 22, 3) := by decide +kernel
theorem dX0_tell_73 : decode cX0_tell 73 = .ok (.ireturn, 1) := by decide +kernel
theorem dX1_init_0 : decode cX1_init 0 = .ok (.aload_n 0, 1) := by decide +kernel
theorem dX1_init_1 : decode cX1_init 1 = .ok (.invokespecial 3, 3) := by decide +kernel
theorem dX1_init_4 : decode cX1_init 4 = .ok (.aload_n 0, 1) := by decide +kernel
theorem dX1_init_5 : decode cX1_init 5 = .ok (.iconst (-1), 1) := by decide +kernel
theorem dX1_init_6 : decode cX1_init 6 = .ok (.putfield 9, 3) := by decide +kernel
theorem dX1_init_9 : decode cX1_init 9 = .ok (.aload_n 0, 1) := by decide +kernel
theorem dX1_init_10 : decode cX1_init 10 = .ok (.iload_n 1, 1) := by decide +kernel
theorem dX1_init_11 : decode cX1_init 11 = .ok (.putfield 15, 3) := by decide +kernel
theorem dX1_init_14 : decode cX1_init 14 = .ok (.return_, 1) := by decide +kernel
theorem dX1_isClosedIn_0 : decode cX1_isClosedIn 0 = .ok (.iload_n 1, 1) := by decide +kernel
theorem dX1_isClosedIn_1 : decode cX1_isClosedIn 1 = .ok (.aload_n 0, 1) := by decide +kernel
theorem dX1_isClosedIn_2 : decode cX1_isClosedIn 2 = .ok (.getfield 9, 3) := by decide +kernel
theorem dX1_isClosedIn_5 : decode cX1_isClosedIn 5 = .ok (.if_icmp .gt 7, 3) := by decide +kernel
theorem dX1_isClosedIn_8 : decode cX1_isClosedIn 8 = .ok (.iconst 1, 1) := by decide +kernel
theorem dX1_isClosedIn_9 : decode cX1_isClosedIn 9 = .ok (.goto 4, 3) := by decide +kernel
theorem dX1_isClosedIn_12 : decode cX1_isClosedIn 12 = .ok (.iconst 0, 1) := by decide +kernel
theorem dX1_isClosedIn_13 : decode cX1_isClosedIn 13 = .ok (.ireturn, 1) := by decide +kernel
theorem dX2_init_0 : decode cX2_init 0 = .ok (.aload_n 0, 1) := by decide +kernel
theorem dX2_init_1 : decode cX2_init 1 = .ok (.invokespecial 3, 3) := by decide +kernel
theorem dX2_init_4 : decode cX2_init 4 = .ok (.aload_n 0, 1) := by decide +kernel
theorem dX2_init_5 : decode cX2_init 5 = .ok (.bipush 16, 2) := by decide +kernel
theorem dX2_init_7 : decode cX2_init 7 = .ok (.newarray .int, 2) := by decide +kernel
theorem dX2_init_9 : decode cX2_init 9 = .ok (.putfield 9, 3) := by decide +kernel
theorem dX2_init_12 : decode cX2_init 12 = .ok (.return_, 1) := by decide +kernel
theorem dX2_forget_0 : decode cX2_forget 0 = .ok (.iconst 0, 1) := by decide +kernel
theorem dX2_forget_1 : decode cX2_forget 1 = .ok (.istore_n 1, 1) := by decide +kernel
theorem dX2_forget_2 : decode cX2_forget 2 = .ok (.iload_n 1, 1) := by decide +kernel
theorem dX2_forget_3 : decode cX2_forget 3 = .ok (.aload_n 0, 1) := by decide +kernel
theorem dX2_forget_4 : decode cX2_forget 4 = .ok (.getfield 9, 3) := by decide +kernel
theorem dX2_forget_7 : decode cX2_forget 7 = .ok (.arraylength, 1) := by decide +kernel
theorem dX2_forget_8 : decode cX2_forget 8 = .ok (.if_icmp .ge 16, 3) := by decide +kernel
theorem dX2_forget_11 : decode cX2_forget 11 = .ok (.aload_n 0, 1) := by decide +kernel
theorem dX2_forget_12 : decode cX2_forget 12 = .ok (.getfield 9, 3) := by decide +kernel
theorem dX2_forget_15 : decode cX2_forget 15 = .ok (.iload_n 1, 1) := by decide +kernel
theorem dX2_forget_16 : decode cX2_forget 16 = .ok (.iconst 0, 1) := by decide +kernel
theorem dX2_forget_17 : decode cX2_forget 17 = .ok (.iastore, 1) := by decide +kernel
theorem dX2_forget_18 : decode cX2_forget 18 = .ok (.iinc 1 1, 3) := by decide +kernel
theorem dX2_forget_21 : decode cX2_forget 21 = .ok (.goto (-19), 3) := by decide +kernel
theorem dX2_forget_24 : decode cX2_forget 24 = .ok (.aload_n 0, 1) := by decide +kernel
theorem dX2_forget_25 : decode cX2_forget 25 = .ok (.iconst 0, 1) := by decide +kernel
theorem dX2_forget_26 : decode cX2_forget 26 = .ok (.putfield 15, 3) := by decide +kernel
theorem dX2_forget_29 : decode cX2_forget 29 = .ok (.return_, 1) := by decide +kernel
set_option maxRecDepth 20000 in
theorem ggX2_learn_X6_holds : GoodIn wsX2_learn wsX6_holds := goodIn_r _ [5] (by decide +kernel) (by decide +kernel)
set_option maxRecDepth 20000 in
theorem gX2_learn_X6_holds_n19 : GoodIn wsX2_learn (wsX6_holds) := ggX2_learn_X6_holds
theorem dX2_learn_0 : decode cX2_learn 0 = .ok (.iload_n 1, 1) := by decide +kernel
theorem dX2_learn_1 : decode cX2_learn 1 = .ok (.istore_n 2, 1) := by decide +kernel
theorem dX2_learn_2 : decode cX2_learn 2 = .ok (.aload_n 0, 1) := by decide +kernel
theorem dX2_learn_3 : decode cX2_learn 3 = .ok (.getfield 9, 3) := by decide +kernel
theorem dX2_learn_6 : decode cX2_learn 6 = .ok (.arraylength, 1) := by decide +kernel
theorem dX2_learn_7 : decode cX2_learn 7 = .ok (.iconst 1, 1) := by decide +kernel
theorem dX2_learn_8 : decode cX2_learn 8 = .ok (.isub, 1) := by decide +kernel
theorem dX2_learn_9 : decode cX2_learn 9 = .ok (.istore_n 3, 1) := by decide +kernel
theorem dX2_learn_10 : decode cX2_learn 10 = .ok (.iload_n 3, 1) := by decide +kernel
theorem dX2_learn_11 : decode cX2_learn 11 = .ok (.ifCond .lt 56, 3) := by decide +kernel
theorem dX2_learn_14 : decode cX2_learn 14 = .ok (.iload_n 2, 1) := by decide +kernel
theorem dX2_learn_15 : decode cX2_learn 15 = .ok (.iload_n 3, 1) := by decide +kernel
theorem dX2_learn_16 : decode cX2_learn 16 = .ok (.invokestatic 19, 3) := by decide +kernel
theorem dX2_learn_19 : decode cX2_learn 19 = .ok (.ifCond .ne 6, 3) := by decide +kernel
theorem dX2_learn_22 : decode cX2_learn 22 = .ok (.goto 39, 3) := by decide +kernel
theorem dX2_learn_25 : decode cX2_learn 25 = .ok (.aload_n 0, 1) := by decide +kernel
theorem dX2_learn_26 : decode cX2_learn 26 = .ok (.getfield 9, 3) := by decide +kernel
theorem dX2_learn_29 : decode cX2_learn 29 = .ok (.iload_n 3, 1) := by decide +kernel
theorem dX2_learn_30 : decode cX2_learn 30 = .ok (.iaload, 1) := by decide +kernel
theorem dX2_learn_31 : decode cX2_learn 31 = .ok (.ifCond .ne 21, 3) := by decide +kernel
theorem dX2_learn_34 : decode cX2_learn 34 = .ok (.aload_n 0, 1) := by decide +kernel
theorem dX2_learn_35 : decode cX2_learn 35 = .ok (.getfield 9, 3) := by decide +kernel
theorem dX2_learn_38 : decode cX2_learn 38 = .ok (.iload_n 3, 1) := by decide +kernel
theorem dX2_learn_39 : decode cX2_learn 39 = .ok (.iload_n 2, 1) := by decide +kernel
theorem dX2_learn_40 : decode cX2_learn 40 = .ok (.iastore, 1) := by decide +kernel
theorem dX2_learn_41 : decode cX2_learn 41 = .ok (.aload_n 0, 1) := by decide +kernel
theorem dX2_learn_42 : decode cX2_learn 42 = .ok (.dup, 1) := by decide +kernel
theorem dX2_learn_43 : decode cX2_learn 43 = .ok (.getfield 15, 3) := by decide +kernel
theorem dX2_learn_46 : decode cX2_learn 46 = .ok (.iconst 1, 1) := by decide +kernel
theorem dX2_learn_47 : decode cX2_learn 47 = .ok (.iadd, 1) := by decide +kernel
theorem dX2_learn_48 : decode cX2_learn 48 = .ok (.putfield 15, 3) := by decide +kernel
theorem dX2_learn_51 : decode cX2_learn 51 = .ok (.return_, 1) := by decide +kernel
theorem dX2_learn_52 : decode cX2_learn 52 = .ok (.iload_n 2, 1) := by decide +kernel
theorem dX2_learn_53 : decode cX2_learn 53 = .ok (.aload_n 0, 1) := by decide +kernel
theorem dX2_learn_54 : decode cX2_learn 54 = .ok (.getfield 9, 3) := by decide +kernel
theorem dX2_learn_57 : decode cX2_learn 57 = .ok (.iload_n 3, 1) := by decide +kernel
theorem dX2_learn_58 : decode cX2_learn 58 = .ok (.iaload, 1) := by decide +kernel
theorem dX2_learn_59 : decode cX2_learn 59 = .ok (.ixor, 1) := by decide +kernel
theorem dX2_learn_60 : decode cX2_learn 60 = .ok (.istore_n 2, 1) := by decide +kernel
theorem dX2_learn_61 : decode cX2_learn 61 = .ok (.iinc 3 (-1), 3) := by decide +kernel
theorem dX2_learn_64 : decode cX2_learn 64 = .ok (.goto (-54), 3) := by decide +kernel
theorem dX2_learn_67 : decode cX2_learn 67 = .ok (.return_, 1) := by decide +kernel
set_option maxRecDepth 20000 in
theorem ggX2_learnFrom_X2_learn : GoodIn wsX2_learnFrom wsX2_learn := goodIn_r _ [6, 1, 7, 8, 9, 10, 11, 12] (by decide +kernel) (by decide +kernel)
set_option maxRecDepth 20000 in
theorem gX2_learnFrom_X2_learn : GoodIn wsX2_learnFrom (wsV RX2 23 RX2 yX2_learn wsX2_learn) := goodIn_app (goodIn_of _ (by decide +kernel)) ggX2_learnFrom_X2_learn
theorem dX2_learnFrom_0 : decode cX2_learnFrom 0 = .ok (.iconst 0, 1) := by decide +kernel
theorem dX2_learnFrom_1 : decode cX2_learnFrom 1 = .ok (.istore_n 2, 1) := by decide +kernel
theorem dX2_learnFrom_2 : decode cX2_learnFrom 2 = .ok (.iload_n 2, 1) := by decide +kernel
theorem dX2_learnFrom_3 : decode cX2_learnFrom 3 = .ok (.aload_n 1, 1) := by decide +kernel
theorem dX2_learnFrom_4 : decode cX2_learnFrom 4 = .ok (.getfield 9, 3) := by decide +kernel
theorem dX2_learnFrom_7 : decode cX2_learnFrom 7 = .ok (.arraylength, 1) := by decide +kernel
theorem dX2_learnFrom_8 : decode cX2_learnFrom 8 = .ok (.if_icmp .ge 19, 3) := by decide +kernel
theorem dX2_learnFrom_11 : decode cX2_learnFrom 11 = .ok (.aload_n 0, 1) := by decide +kernel
theorem dX2_learnFrom_12 : decode cX2_learnFrom 12 = .ok (.aload_n 1, 1) := by decide +kernel
theorem dX2_learnFrom_13 : decode cX2_learnFrom 13 = .ok (.getfield 9, 3) := by decide +kernel
theorem dX2_learnFrom_16 : decode cX2_learnFrom 16 = .ok (.iload_n 2, 1) := by decide +kernel
theorem dX2_learnFrom_17 : decode cX2_learnFrom 17 = .ok (.iaload, 1) := by decide +kernel
theorem dX2_learnFrom_18 : decode cX2_learnFrom 18 = .ok (.invokevirtual 23, 3) := by decide +kernel
theorem dX2_learnFrom_21 : decode cX2_learnFrom 21 = .ok (.iinc 2 1, 3) := by decide +kernel
theorem dX2_learnFrom_24 : decode cX2_learnFrom 24 = .ok (.goto (-22), 3) := by decide +kernel
theorem dX2_learnFrom_27 : decode cX2_learnFrom 27 = .ok (.return_, 1) := by decide +kernel
set_option maxRecDepth 20000 in
theorem ggX2_knows_X6_holds : GoodIn wsX2_knows wsX6_holds := goodIn_r _ [4] (by decide +kernel) (by decide +kernel)
set_option maxRecDepth 20000 in
theorem gX2_knows_X6_holds_n19 : GoodIn wsX2_knows (wsX6_holds) := ggX2_knows_X6_holds
theorem dX2_knows_0 : decode cX2_knows 0 = .ok (.iload_n 1, 1) := by decide +kernel
theorem dX2_knows_1 : decode cX2_knows 1 = .ok (.istore_n 2, 1) := by decide +kernel
theorem dX2_knows_2 : decode cX2_knows 2 = .ok (.aload_n 0, 1) := by decide +kernel
theorem dX2_knows_3 : decode cX2_knows 3 = .ok (.getfield 9, 3) := by decide +kernel
theorem dX2_knows_6 : decode cX2_knows 6 = .ok (.arraylength, 1) := by decide +kernel
theorem dX2_knows_7 : decode cX2_knows 7 = .ok (.iconst 1, 1) := by decide +kernel
theorem dX2_knows_8 : decode cX2_knows 8 = .ok (.isub, 1) := by decide +kernel
theorem dX2_knows_9 : decode cX2_knows 9 = .ok (.istore_n 3, 1) := by decide +kernel
theorem dX2_knows_10 : decode cX2_knows 10 = .ok (.iload_n 3, 1) := by decide +kernel
theorem dX2_knows_11 : decode cX2_knows 11 = .ok (.ifCond .lt 26, 3) := by decide +kernel
theorem dX2_knows_14 : decode cX2_knows 14 = .ok (.iload_n 2, 1) := by decide +kernel
theorem dX2_knows_15 : decode cX2_knows 15 = .ok (.iload_n 3, 1) := by decide +kernel
theorem dX2_knows_16 : decode cX2_knows 16 = .ok (.invokestatic 19, 3) := by decide +kernel
theorem dX2_knows_19 : decode cX2_knows 19 = .ok (.ifCond .eq 12, 3) := by decide +kernel
theorem dX2_knows_22 : decode cX2_knows 22 = .ok (.iload_n 2, 1) := by decide +kernel
theorem dX2_knows_23 : decode cX2_knows 23 = .ok (.aload_n 0, 1) := by decide +kernel
theorem dX2_knows_24 : decode cX2_knows 24 = .ok (.getfield 9, 3) := by decide +kernel
theorem dX2_knows_27 : decode cX2_knows 27 = .ok (.iload_n 3, 1) := by decide +kernel
theorem dX2_knows_28 : decode cX2_knows 28 = .ok (.iaload, 1) := by decide +kernel
theorem dX2_knows_29 : decode cX2_knows 29 = .ok (.ixor, 1) := by decide +kernel
theorem dX2_knows_30 : decode cX2_knows 30 = .ok (.istore_n 2, 1) := by decide +kernel
theorem dX2_knows_31 : decode cX2_knows 31 = .ok (.iinc 3 (-1), 3) := by decide +kernel
theorem dX2_knows_34 : decode cX2_knows 34 = .ok (.goto (-24), 3) := by decide +kernel
theorem dX2_knows_37 : decode cX2_knows 37 = .ok (.iload_n 2, 1) := by decide +kernel
theorem dX2_knows_38 : decode cX2_knows 38 = .ok (.ifCond .ne 7, 3) := by decide +kernel
theorem dX2_knows_41 : decode cX2_knows 41 = .ok (.iconst 1, 1) := by decide +kernel
theorem dX2_knows_42 : decode cX2_knows 42 = .ok (.goto 4, 3) := by decide +kernel
theorem dX2_knows_45 : decode cX2_knows 45 = .ok (.iconst 0, 1) := by decide +kernel
theorem dX2_knows_46 : decode cX2_knows 46 = .ok (.ireturn, 1) := by decide +kernel
set_option maxRecDepth 20000 in
theorem ggX2_wouldReach_X2_knows : GoodIn wsX2_wouldReach wsX2_knows := goodIn_r _ [5, 6, 7, 8, 9, 10, 11] (by decide +kernel) (by decide +kernel)
set_option maxRecDepth 20000 in
theorem gX2_wouldReach_X2_knows : GoodIn wsX2_wouldReach (wsV RX2 27 RX2 yX2_knows wsX2_knows) := goodIn_app (goodIn_of _ (by decide +kernel)) ggX2_wouldReach_X2_knows
theorem dX2_wouldReach_0 : decode cX2_wouldReach 0 = .ok (.aload_n 0, 1) := by decide +kernel
theorem dX2_wouldReach_1 : decode cX2_wouldReach 1 = .ok (.iload_n 1, 1) := by decide +kernel
theorem dX2_wouldReach_2 : decode cX2_wouldReach 2 = .ok (.iload_n 2, 1) := by decide +kernel
theorem dX2_wouldReach_3 : decode cX2_wouldReach 3 = .ok (.ixor, 1) := by decide +kernel
theorem dX2_wouldReach_4 : decode cX2_wouldReach 4 = .ok (.invokevirtual 27, 3) := by decide +kernel
theorem dX2_wouldReach_7 : decode cX2_wouldReach 7 = .ok (.ifCond .eq 15, 3) := by decide +kernel
theorem dX2_wouldReach_10 : decode cX2_wouldReach 10 = .ok (.aload_n 0, 1) := by decide +kernel
theorem dX2_wouldReach_11 : decode cX2_wouldReach 11 = .ok (.iload_n 1, 1) := by decide +kernel
theorem dX2_wouldReach_12 : decode cX2_wouldReach 12 = .ok (.invokevirtual 27, 3) := by decide +kernel
theorem dX2_wouldReach_15 : decode cX2_wouldReach 15 = .ok (.ifCond .ne 7, 3) := by decide +kernel
theorem dX2_wouldReach_18 : decode cX2_wouldReach 18 = .ok (.iconst 1, 1) := by decide +kernel
theorem dX2_wouldReach_19 : decode cX2_wouldReach 19 = .ok (.goto 4, 3) := by decide +kernel
theorem dX2_wouldReach_22 : decode cX2_wouldReach 22 = .ok (.iconst 0, 1) := by decide +kernel
theorem dX2_wouldReach_23 : decode cX2_wouldReach 23 = .ok (.ireturn, 1) := by decide +kernel
theorem dX3_init_0 : decode cX3_init 0 = .ok (.aload_n 0, 1) := by decide +kernel
theorem dX3_init_1 : decode cX3_init 1 = .ok (.invokespecial 3, 3) := by decide +kernel
theorem dX3_init_4 : decode cX3_init 4 = .ok (.aload_n 0, 1) := by decide +kernel
theorem dX3_init_5 : decode cX3_init 5 = .ok (.sipush 1024, 3) := by decide +kernel
theorem dX3_init_8 : decode cX3_init 8 = .ok (.newarray .long, 2) := by decide +kernel
theorem dX3_init_10 : decode cX3_init 10 = .ok (.putfield 11, 3) := by decide +kernel
theorem dX3_init_13 : decode cX3_init 13 = .ok (.return_, 1) := by decide +kernel
theorem dX3_begin_0 : decode cX3_begin 0 = .ok (.aload_n 0, 1) := by decide +kernel
theorem dX3_begin_1 : decode cX3_begin 1 = .ok (.aload_n 0, 1) := by decide +kernel
theorem dX3_begin_2 : decode cX3_begin 2 = .ok (.getfield 11, 3) := by decide +kernel
theorem dX3_begin_5 : decode cX3_begin 5 = .ok (.arraylength, 1) := by decide +kernel
theorem dX3_begin_6 : decode cX3_begin 6 = .ok (.iconst 1, 1) := by decide +kernel
theorem dX3_begin_7 : decode cX3_begin 7 = .ok (.iconst 0, 1) := by decide +kernel
theorem dX3_begin_8 : decode cX3_begin 8 = .ok (.iload_n 1, 1) := by decide +kernel
theorem dX3_begin_9 : decode cX3_begin 9 = .ok (.bipush 6, 2) := by decide +kernel
theorem dX3_begin_11 : decode cX3_begin 11 = .ok (.isub, 1) := by decide +kernel
theorem dX3_begin_12 : decode cX3_begin 12 = .ok (.invokestatic 15, 3) := by decide +kernel
theorem dX3_begin_15 : decode cX3_begin 15 = .ok (.ishl, 1) := by decide +kernel
theorem dX3_begin_16 : decode cX3_begin 16 = .ok (.invokestatic 21, 3) := by decide +kernel
theorem dX3_begin_19 : decode cX3_begin 19 = .ok (.putfield 24, 3) := by decide +kernel
theorem dX3_begin_22 : decode cX3_begin 22 = .ok (.iconst 0, 1) := by decide +kernel
theorem dX3_begin_23 : decode cX3_begin 23 = .ok (.istore_n 2, 1) := by decide +kernel
theorem dX3_begin_24 : decode cX3_begin 24 = .ok (.iload_n 2, 1) := by decide +kernel
theorem dX3_begin_25 : decode cX3_begin 25 = .ok (.aload_n 0, 1) := by decide +kernel
theorem dX3_begin_26 : decode cX3_begin 26 = .ok (.getfield 24, 3) := by decide +kernel
theorem dX3_begin_29 : decode cX3_begin 29 = .ok (.if_icmp .ge 16, 3) := by decide +kernel
theorem dX3_begin_32 : decode cX3_begin 32 = .ok (.aload_n 0, 1) := by decide +kernel
theorem dX3_begin_33 : decode cX3_begin 33 = .ok (.getfield 11, 3) := by decide +kernel
theorem dX3_begin_36 : decode cX3_begin 36 = .ok (.iload_n 2, 1) := by decide +kernel
theorem dX3_begin_37 : decode cX3_begin 37 = .ok (.lconst 0, 1) := by decide +kernel
theorem dX3_begin_38 : decode cX3_begin 38 = .ok (.lastore, 1) := by decide +kernel
theorem dX3_begin_39 : decode cX3_begin 39 = .ok (.iinc 2 1, 3) := by decide +kernel
theorem dX3_begin_42 : decode cX3_begin 42 = .ok (.goto (-18), 3) := by decide +kernel
theorem dX3_begin_45 : decode cX3_begin 45 = .ok (.aload_n 0, 1) := by decide +kernel
theorem dX3_begin_46 : decode cX3_begin 46 = .ok (.getfield 11, 3) := by decide +kernel
theorem dX3_begin_49 : decode cX3_begin 49 = .ok (.iconst 0, 1) := by decide +kernel
theorem dX3_begin_50 : decode cX3_begin 50 = .ok (.lconst 1, 1) := by decide +kernel
theorem dX3_begin_51 : decode cX3_begin 51 = .ok (.lastore, 1) := by decide +kernel
theorem dX3_begin_52 : decode cX3_begin 52 = .ok (.return_, 1) := by decide +kernel
set_option maxRecDepth 20000 in
theorem ggX3_add_X3_isMarked : GoodIn wsX3_add wsX3_isMarked := goodIn_r _ [7, 1, 2, 15, 16] (by decide +kernel) (by decide +kernel)
set_option maxRecDepth 20000 in
theorem gX3_add_X3_isMarked : GoodIn wsX3_add (wsV RX3 28 RX3 yX3_isMarked wsX3_isMarked) := goodIn_app (goodIn_of _ (by decide +kernel)) ggX3_add_X3_isMarked
set_option maxRecDepth 20000 in
theorem ggX3_add_X3_crossed : GoodIn wsX3_add wsX3_crossed := goodIn_r _ [10, 11, 12, 13, 14] (by decide +kernel) (by decide +kernel)
set_option maxRecDepth 20000 in
theorem gX3_add_X3_crossed : GoodIn wsX3_add (va_wsS RX3 32 yX3_crossed wsX3_crossed) := goodIn_app (goodIn_of _ (by decide +kernel)) ggX3_add_X3_crossed
theorem dX3_add_0 : decode cX3_add 0 = .ok (.aload_n 0, 1) := by decide +kernel
theorem dX3_add_1 : decode cX3_add 1 = .ok (.iload_n 1, 1) := by decide +kernel
theorem dX3_add_2 : decode cX3_add 2 = .ok (.invokevirtual 28, 3) := by decide +kernel
theorem dX3_add_5 : decode cX3_add 5 = .ok (.ifCond .eq 4, 3) := by decide +kernel
theorem dX3_add_8 : decode cX3_add 8 = .ok (.return_, 1) := by decide +kernel
theorem dX3_add_9 : decode cX3_add 9 = .ok (.iconst 0, 1) := by decide +kernel
theorem dX3_add_10 : decode cX3_add 10 = .ok (.istore_n 2, 1) := by decide +kernel
theorem dX3_add_11 : decode cX3_add 11 = .ok (.iload_n 2, 1) := by decide +kernel
theorem dX3_add_12 : decode cX3_add 12 = .ok (.aload_n 0, 1) := by decide +kernel
theorem dX3_add_13 : decode cX3_add 13 = .ok (.getfield 24, 3) := by decide +kernel
theorem dX3_add_16 : decode cX3_add 16 = .ok (.if_icmp .ge 54, 3) := by decide +kernel
theorem dX3_add_19 : decode cX3_add 19 = .ok (.iload_n 2, 1) := by decide +kernel
theorem dX3_add_20 : decode cX3_add 20 = .ok (.iload_n 1, 1) := by decide +kernel
theorem dX3_add_21 : decode cX3_add 21 = .ok (.bipush 6, 2) := by decide +kernel
theorem dX3_add_23 : decode cX3_add 23 = .ok (.iushr, 1) := by decide +kernel
theorem dX3_add_24 : decode cX3_add 24 = .ok (.ixor, 1) := by decide +kernel
theorem dX3_add_25 : decode cX3_add 25 = .ok (.istore_n 3, 1) := by decide +kernel
theorem dX3_add_26 : decode cX3_add 26 = .ok (.aload_n 0, 1) := by decide +kernel
theorem dX3_add_27 : decode cX3_add 27 = .ok (.getfield 11, 3) := by decide +kernel
theorem dX3_add_30 : decode cX3_add 30 = .ok (.iload_n 2, 1) := by decide +kernel
theorem dX3_add_31 : decode cX3_add 31 = .ok (.laload, 1) := by decide +kernel
theorem dX3_add_32 : decode cX3_add 32 = .ok (.lconst 0, 1) := by decide +kernel
theorem dX3_add_33 : decode cX3_add 33 = .ok (.lcmp, 1) := by decide +kernel
theorem dX3_add_34 : decode cX3_add 34 = .ok (.ifCond .eq 30, 3) := by decide +kernel
theorem dX3_add_37 : decode cX3_add 37 = .ok (.iload_n 3, 1) := by decide +kernel
theorem dX3_add_38 : decode cX3_add 38 = .ok (.aload_n 0, 1) := by decide +kernel
theorem dX3_add_39 : decode cX3_add 39 = .ok (.getfield 24, 3) := by decide +kernel
theorem dX3_add_42 : decode cX3_add 42 = .ok (.if_icmp .ge 22, 3) := by decide +kernel
theorem dX3_add_45 : decode cX3_add 45 = .ok (.aload_n 0, 1) := by decide +kernel
theorem dX3_add_46 : decode cX3_add 46 = .ok (.getfield 11, 3) := by decide +kernel
theorem dX3_add_49 : decode cX3_add 49 = .ok (.iload_n 3, 1) := by decide +kernel
theorem dX3_add_50 : decode cX3_add 50 = .ok (.dup2, 1) := by decide +kernel
theorem dX3_add_51 : decode cX3_add 51 = .ok (.laload, 1) := by decide +kernel
theorem dX3_add_52 : decode cX3_add 52 = .ok (.aload_n 0, 1) := by decide +kernel
theorem dX3_add_53 : decode cX3_add 53 = .ok (.getfield 11, 3) := by decide +kernel
theorem dX3_add_56 : decode cX3_add 56 = .ok (.iload_n 2, 1) := by decide +kernel
theorem dX3_add_57 : decode cX3_add 57 = .ok (.laload, 1) := by decide +kernel
theorem dX3_add_58 : decode cX3_add 58 = .ok (.iload_n 1, 1) := by decide +kernel
theorem dX3_add_59 : decode cX3_add 59 = .ok (.invokestatic 32, 3) := by decide +kernel
theorem dX3_add_62 : decode cX3_add 62 = .ok (.lor, 1) := by decide +kernel
theorem dX3_add_63 : decode cX3_add 63 = .ok (.lastore, 1) := by decide +kernel
theorem dX3_add_64 : decode cX3_add 64 = .ok (.iinc 2 1, 3) := by decide +kernel
theorem dX3_add_67 : decode cX3_add 67 = .ok (.goto (-56), 3) := by decide +kernel
theorem dX3_add_70 : decode cX3_add 70 = .ok (.return_, 1) := by decide +kernel
set_option maxRecDepth 20000 in
theorem ggX3_sets_J13_bitCount_95d88 : GoodIn wsX3_sets wsJ13_bitCount_95d88 := goodIn_r _ [6, 7, 8, 9] (by decide +kernel) (by decide +kernel)
set_option maxRecDepth 20000 in
theorem gX3_sets_J13_bitCount_95d88 : GoodIn wsX3_sets (va_wsS RX3 36 yJ13_bitCount_95d88 wsJ13_bitCount_95d88) := goodIn_app (goodIn_of _ (by decide +kernel)) ggX3_sets_J13_bitCount_95d88
theorem dX3_sets_0 : decode cX3_sets 0 = .ok (.iconst 0, 1) := by decide +kernel
theorem dX3_sets_1 : decode cX3_sets 1 = .ok (.istore_n 1, 1) := by decide +kernel
theorem dX3_sets_2 : decode cX3_sets 2 = .ok (.iconst 0, 1) := by decide +kernel
theorem dX3_sets_3 : decode cX3_sets 3 = .ok (.istore_n 2, 1) := by decide +kernel
theorem dX3_sets_4 : decode cX3_sets 4 = .ok (.iload_n 2, 1) := by decide +kernel
theorem dX3_sets_5 : decode cX3_sets 5 = .ok (.aload_n 0, 1) := by decide +kernel
theorem dX3_sets_6 : decode cX3_sets 6 = .ok (.getfield 24, 3) := by decide +kernel
theorem dX3_sets_9 : decode cX3_sets 9 = .ok (.if_icmp .ge 21, 3) := by decide +kernel
theorem dX3_sets_12 : decode cX3_sets 12 = .ok (.iload_n 1, 1) := by decide +kernel
theorem dX3_sets_13 : decode cX3_sets 13 = .ok (.aload_n 0, 1) := by decide +kernel
theorem dX3_sets_14 : decode cX3_sets 14 = .ok (.getfield 11, 3) := by decide +kernel
theorem dX3_sets_17 : decode cX3_sets 17 = .ok (.iload_n 2, 1) := by decide +kernel
theorem dX3_sets_18 : decode cX3_sets 18 = .ok (.laload, 1) := by decide +kernel
theorem dX3_sets_19 : decode cX3_sets 19 = .ok (.invokestatic 36, 3) := by decide +kernel
theorem dX3_sets_22 : decode cX3_sets 22 = .ok (.iadd, 1) := by decide +kernel
theorem dX3_sets_23 : decode cX3_sets 23 = .ok (.istore_n 1, 1) := by decide +kernel
theorem dX3_sets_24 : decode cX3_sets 24 = .ok (.iinc 2 1, 3) := by decide +kernel
theorem dX3_sets_27 : decode cX3_sets 27 = .ok (.goto (-23), 3) := by decide +kernel
theorem dX3_sets_30 : decode cX3_sets 30 = .ok (.iload_n 1, 1) := by decide +kernel
theorem dX3_sets_31 : decode cX3_sets 31 = .ok (.ireturn, 1) := by decide +kernel
theorem dX3_isMarked_0 : decode cX3_isMarked 0 = .ok (.iload_n 1, 1) := by decide +kernel
theorem dX3_isMarked_1 : decode cX3_isMarked 1 = .ok (.bipush 6, 2) := by decide +kernel
theorem dX3_isMarked_3 : decode cX3_isMarked 3 = .ok (.iushr, 1) := by decide +kernel
theorem dX3_isMarked_4 : decode cX3_isMarked 4 = .ok (.istore_n 2, 1) := by decide +kernel
theorem dX3_isMarked_5 : decode cX3_isMarked 5 = .ok (.iload_n 2, 1) := by decide +kernel
theorem dX3_isMarked_6 : decode cX3_isMarked 6 = .ok (.aload_n 0, 1) := by decide +kernel
theorem dX3_isMarked_7 : decode cX3_isMarked 7 = .ok (.getfield 24, 3) := by decide +kernel
theorem dX3_isMarked_10 : decode cX3_isMarked 10 = .ok (.if_icmp .ge 25, 3) := by decide +kernel
theorem dX3_isMarked_13 : decode cX3_isMarked 13 = .ok (.aload_n 0, 1) := by decide +kernel
theorem dX3_isMarked_14 : decode cX3_isMarked 14 = .ok (.getfield 11, 3) := by decide +kernel
theorem dX3_isMarked_17 : decode cX3_isMarked 17 = .ok (.iload_n 2, 1) := by decide +kernel
theorem dX3_isMarked_18 : decode cX3_isMarked 18 = .ok (.laload, 1) := by decide +kernel
theorem dX3_isMarked_19 : decode cX3_isMarked 19 = .ok (.iload_n 1, 1) := by decide +kernel
theorem dX3_isMarked_20 : decode cX3_isMarked 20 = .ok (.bipush 63, 2) := by decide +kernel
theorem dX3_isMarked_22 : decode cX3_isMarked 22 = .ok (.iand, 1) := by decide +kernel
theorem dX3_isMarked_23 : decode cX3_isMarked 23 = .ok (.lushr, 1) := by decide +kernel
theorem dX3_isMarked_24 : decode cX3_isMarked 24 = .ok (.lconst 1, 1) := by decide +kernel
theorem dX3_isMarked_25 : decode cX3_isMarked 25 = .ok (.land, 1) := by decide +kernel
theorem dX3_isMarked_26 : decode cX3_isMarked 26 = .ok (.lconst 0, 1) := by decide +kernel
theorem dX3_isMarked_27 : decode cX3_isMarked 27 = .ok (.lcmp, 1) := by decide +kernel
theorem dX3_isMarked_28 : decode cX3_isMarked 28 = .ok (.ifCond .eq 7, 3) := by decide +kernel
theorem dX3_isMarked_31 : decode cX3_isMarked 31 = .ok (.iconst 1, 1) := by decide +kernel
theorem dX3_isMarked_32 : decode cX3_isMarked 32 = .ok (.goto 4, 3) := by decide +kernel
theorem dX3_isMarked_35 : decode cX3_isMarked 35 = .ok (.iconst 0, 1) := by decide +kernel
theorem dX3_isMarked_36 : decode cX3_isMarked 36 = .ok (.ireturn, 1) := by decide +kernel
set_option maxRecDepth 20000 in
theorem ggX3_crossed_X6_holds : GoodIn wsX3_crossed wsX6_holds := goodIn_r _ [4] (by decide +kernel) (by decide +kernel)
set_option maxRecDepth 20000 in
theorem gX3_crossed_X6_holds_n45 : GoodIn wsX3_crossed (wsX6_holds) := ggX3_crossed_X6_holds
theorem dX3_crossed_0 : decode cX3_crossed 0 = .ok (.lload_n 0, 1) := by decide +kernel
theorem dX3_crossed_1 : decode cX3_crossed 1 = .ok (.lstore_n 3, 1) := by decide +kernel
theorem dX3_crossed_2 : decode cX3_crossed 2 = .ok (.iconst 0, 1) := by decide +kernel
theorem dX3_crossed_3 : decode cX3_crossed 3 = .ok (.istore 5, 2) := by decide +kernel
theorem dX3_crossed_5 : decode cX3_crossed 5 = .ok (.iload 5, 2) := by decide +kernel
theorem dX3_crossed_7 : decode cX3_crossed 7 = .ok (.getstatic 42, 3) := by decide +kernel
theorem dX3_crossed_10 : decode cX3_crossed 10 = .ok (.arraylength, 1) := by decide +kernel
theorem dX3_crossed_11 : decode cX3_crossed 11 = .ok (.if_icmp .ge 48, 3) := by decide +kernel
theorem dX3_crossed_14 : decode cX3_crossed 14 = .ok (.iload_n 2, 1) := by decide +kernel
theorem dX3_crossed_15 : decode cX3_crossed 15 = .ok (.iload 5, 2) := by decide +kernel
theorem dX3_crossed_17 : decode cX3_crossed 17 = .ok (.invokestatic 45, 3) := by decide +kernel
theorem dX3_crossed_20 : decode cX3_crossed 20 = .ok (.ifCond .eq 33, 3) := by decide +kernel
theorem dX3_crossed_23 : decode cX3_crossed 23 = .ok (.iconst 1, 1) := by decide +kernel
theorem dX3_crossed_24 : decode cX3_crossed 24 = .ok (.iload 5, 2) := by decide +kernel
theorem dX3_crossed_26 : decode cX3_crossed 26 = .ok (.ishl, 1) := by decide +kernel
theorem dX3_crossed_27 : decode cX3_crossed 27 = .ok (.istore 6, 2) := by decide +kernel
theorem dX3_crossed_29 : decode cX3_crossed 29 = .ok (.lload_n 3, 1) := by decide +kernel
theorem dX3_crossed_30 : decode cX3_crossed 30 = .ok (.getstatic 42, 3) := by decide +kernel
theorem dX3_crossed_33 : decode cX3_crossed 33 = .ok (.iload 5, 2) := by decide +kernel
theorem dX3_crossed_35 : decode cX3_crossed 35 = .ok (.laload, 1) := by decide +kernel
theorem dX3_crossed_36 : decode cX3_crossed 36 = .ok (.land, 1) := by decide +kernel
theorem dX3_crossed_37 : decode cX3_crossed 37 = .ok (.iload 6, 2) := by decide +kernel
theorem dX3_crossed_39 : decode cX3_crossed 39 = .ok (.lshl, 1) := by decide +kernel
theorem dX3_crossed_40 : decode cX3_crossed 40 = .ok (.lload_n 3, 1) := by decide +kernel
theorem dX3_crossed_41 : decode cX3_crossed 41 = .ok (.iload 6, 2) := by decide +kernel
theorem dX3_crossed_43 : decode cX3_crossed 43 = .ok (.lushr, 1) := by decide +kernel
theorem dX3_crossed_44 : decode cX3_crossed 44 = .ok (.getstatic 42, 3) := by decide +kernel
theorem dX3_crossed_47 : decode cX3_crossed 47 = .ok (.iload 5, 2) := by decide +kernel
theorem dX3_crossed_49 : decode cX3_crossed 49 = .ok (.laload, 1) := by decide +kernel
theorem dX3_crossed_50 : decode cX3_crossed 50 = .ok (.land, 1) := by decide +kernel
theorem dX3_crossed_51 : decode cX3_crossed 51 = .ok (.lor, 1) := by decide +kernel
theorem dX3_crossed_52 : decode cX3_crossed 52 = .ok (.lstore_n 3, 1) := by decide +kernel
theorem dX3_crossed_53 : decode cX3_crossed 53 = .ok (.iinc 5 1, 3) := by decide +kernel
theorem dX3_crossed_56 : decode cX3_crossed 56 = .ok (.goto (-51), 3) := by decide +kernel
theorem dX3_crossed_59 : decode cX3_crossed 59 = .ok (.lload_n 3, 1) := by decide +kernel
theorem dX3_crossed_60 : decode cX3_crossed 60 = .ok (.lreturn, 1) := by decide +kernel
set_option maxRecDepth 20000 in
theorem ggX4_init_X2_init : GoodIn wsX4_init wsX2_init := goodIn_r _ [15, 16, 2, 3, 8, 17, 23, 24] (by decide +kernel) (by decide +kernel)
set_option maxRecDepth 20000 in
theorem gX4_init_X2_init_n34 : GoodIn wsX4_init (wsX2_init) := ggX4_init_X2_init
theorem dX4_init_0 : decode cX4_init 0 = .ok (.aload_n 0, 1) := by decide +kernel
theorem dX4_init_1 : decode cX4_init 1 = .ok (.invokespecial 3, 3) := by decide +kernel
theorem dX4_init_4 : decode cX4_init 4 = .ok (.aload_n 0, 1) := by decide +kernel
theorem dX4_init_5 : decode cX4_init 5 = .ok (.bipush 16, 2) := by decide +kernel
theorem dX4_init_7 : decode cX4_init 7 = .ok (.anewarray 9, 3) := by decide +kernel
theorem dX4_init_10 : decode cX4_init 10 = .ok (.putfield 11, 3) := by decide +kernel
theorem dX4_init_13 : decode cX4_init 13 = .ok (.aload_n 0, 1) := by decide +kernel
theorem dX4_init_14 : decode cX4_init 14 = .ok (.bipush 8, 2) := by decide +kernel
theorem dX4_init_16 : decode cX4_init 16 = .ok (.anewarray 17, 3) := by decide +kernel
theorem dX4_init_19 : decode cX4_init 19 = .ok (.putfield 19, 3) := by decide +kernel
theorem dX4_init_22 : decode cX4_init 22 = .ok (.aload_n 0, 1) := by decide +kernel
theorem dX4_init_23 : decode cX4_init 23 = .ok (.iconst 5, 1) := by decide +kernel
theorem dX4_init_24 : decode cX4_init 24 = .ok (.newarray .int, 2) := by decide +kernel
theorem dX4_init_26 : decode cX4_init 26 = .ok (.putfield 23, 3) := by decide +kernel
theorem dX4_init_29 : decode cX4_init 29 = .ok (.aload_n 0, 1) := by decide +kernel
theorem dX4_init_30 : decode cX4_init 30 = .ok (.iload_n 1, 1) := by decide +kernel
theorem dX4_init_31 : decode cX4_init 31 = .ok (.putfield 27, 3) := by decide +kernel
theorem dX4_init_34 : decode cX4_init 34 = .ok (.aload_n 0, 1) := by decide +kernel
theorem dX4_init_35 : decode cX4_init 35 = .ok (.iload_n 2, 1) := by decide +kernel
theorem dX4_init_36 : decode cX4_init 36 = .ok (.putfield 31, 3) := by decide +kernel
theorem dX4_init_39 : decode cX4_init 39 = .ok (.iconst 0, 1) := by decide +kernel
theorem dX4_init_40 : decode cX4_init 40 = .ok (.istore_n 3, 1) := by decide +kernel
theorem dX4_init_41 : decode cX4_init 41 = .ok (.iload_n 3, 1) := by decide +kernel
theorem dX4_init_42 : decode cX4_init 42 = .ok (.aload_n 0, 1) := by decide +kernel
theorem dX4_init_43 : decode cX4_init 43 = .ok (.getfield 19, 3) := by decide +kernel
theorem dX4_init_46 : decode cX4_init 46 = .ok (.arraylength, 1) := by decide +kernel
theorem dX4_init_47 : decode cX4_init 47 = .ok (.if_icmp .ge 22, 3) := by decide +kernel
theorem dX4_init_50 : decode cX4_init 50 = .ok (.aload_n 0, 1) := by decide +kernel
theorem dX4_init_51 : decode cX4_init 51 = .ok (.getfield 19, 3) := by decide +kernel
theorem dX4_init_54 : decode cX4_init 54 = .ok (.iload_n 3, 1) := by decide +kernel
theorem dX4_init_55 : decode cX4_init 55 = .ok (.new 17, 3) := by decide +kernel
theorem dX4_init_58 : decode cX4_init 58 = .ok (.dup, 1) := by decide +kernel
theorem dX4_init_59 : decode cX4_init 59 = .ok (.invokespecial 34, 3) := by decide +kernel
theorem dX4_init_62 : decode cX4_init 62 = .ok (.aastore, 1) := by decide +kernel
theorem dX4_init_63 : decode cX4_init 63 = .ok (.iinc 3 1, 3) := by decide +kernel
theorem dX4_init_66 : decode cX4_init 66 = .ok (.goto (-25), 3) := by decide +kernel
theorem dX4_init_69 : decode cX4_init 69 = .ok (.return_, 1) := by decide +kernel
theorem dX4_rightFor_0 : decode cX4_rightFor 0 = .ok (.iload_n 1, 1) := by decide +kernel
theorem dX4_rightFor_1 : decode cX4_rightFor 1 = .ok (.ifCond .lt 21, 3) := by decide +kernel
theorem dX4_rightFor_4 : decode cX4_rightFor 4 = .ok (.iload_n 1, 1) := by decide +kernel
theorem dX4_rightFor_5 : decode cX4_rightFor 5 = .ok (.aload_n 0, 1) := by decide +kernel
theorem dX4_rightFor_6 : decode cX4_rightFor 6 = .ok (.getfield 11, 3) := by decide +kernel
theorem dX4_rightFor_9 : decode cX4_rightFor 9 = .ok (.arraylength, 1) := by decide +kernel
theorem dX4_rightFor_10 : decode cX4_rightFor 10 = .ok (.if_icmp .ge 12, 3) := by decide +kernel
theorem dX4_rightFor_13 : decode cX4_rightFor 13 = .ok (.aload_n 0, 1) := by decide +kernel
theorem dX4_rightFor_14 : decode cX4_rightFor 14 = .ok (.getfield 11, 3) := by decide +kernel
theorem dX4_rightFor_17 : decode cX4_rightFor 17 = .ok (.iload_n 1, 1) := by decide +kernel
theorem dX4_rightFor_18 : decode cX4_rightFor 18 = .ok (.aaload, 1) := by decide +kernel
theorem dX4_rightFor_19 : decode cX4_rightFor 19 = .ok (.goto 4, 3) := by decide +kernel
theorem dX4_rightFor_22 : decode cX4_rightFor 22 = .ok (.aconst_null, 1) := by decide +kernel
theorem dX4_rightFor_23 : decode cX4_rightFor 23 = .ok (.areturn, 1) := by decide +kernel
theorem dX4_setRight_0 : decode cX4_setRight 0 = .ok (.iload_n 1, 1) := by decide +kernel
theorem dX4_setRight_1 : decode cX4_setRight 1 = .ok (.ifCond .lt 19, 3) := by decide +kernel
theorem dX4_setRight_4 : decode cX4_setRight 4 = .ok (.iload_n 1, 1) := by decide +kernel
theorem dX4_setRight_5 : decode cX4_setRight 5 = .ok (.aload_n 0, 1) := by decide +kernel
theorem dX4_setRight_6 : decode cX4_setRight 6 = .ok (.getfield 11, 3) := by decide +kernel
theorem dX4_setRight_9 : decode cX4_setRight 9 = .ok (.arraylength, 1) := by decide +kernel
theorem dX4_setRight_10 : decode cX4_setRight 10 = .ok (.if_icmp .ge 10, 3) := by decide +kernel
theorem dX4_setRight_13 : decode cX4_setRight 13 = .ok (.aload_n 0, 1) := by decide +kernel
theorem dX4_setRight_14 : decode cX4_setRight 14 = .ok (.getfield 11, 3) := by decide +kernel
theorem dX4_setRight_17 : decode cX4_setRight 17 = .ok (.iload_n 1, 1) := by decide +kernel
theorem dX4_setRight_18 : decode cX4_setRight 18 = .ok (.aload_n 2, 1) := by decide +kernel
theorem dX4_setRight_19 : decode cX4_setRight 19 = .ok (.aastore, 1) := by decide +kernel
theorem dX4_setRight_20 : decode cX4_setRight 20 = .ok (.return_, 1) := by decide +kernel
set_option maxRecDepth 20000 in
theorem ggX4_rightIn_X4_rightFor : GoodIn wsX4_rightIn wsX4_rightFor := goodIn_r _ [5, 6, 15, 16, 17, 18, 19] (by decide +kernel) (by decide +kernel)
set_option maxRecDepth 20000 in
theorem gX4_rightIn_X4_rightFor : GoodIn wsX4_rightIn (wsV RX4 35 RX4 yX4_rightFor wsX4_rightFor) := goodIn_app (goodIn_of _ (by decide +kernel)) ggX4_rightIn_X4_rightFor
set_option maxRecDepth 20000 in
theorem ggX4_rightIn_X5_in : GoodIn wsX4_rightIn wsX5_in := goodIn_r _ [11, 12, 13, 14, 20, 21, 22] (by decide +kernel) (by decide +kernel)
set_option maxRecDepth 20000 in
theorem gX4_rightIn_X5_in : GoodIn wsX4_rightIn (wsV RX4 39 RX5 yX5_in wsX5_in) := goodIn_app (goodIn_of _ (by decide +kernel)) ggX4_rightIn_X5_in
theorem dX4_rightIn_0 : decode cX4_rightIn 0 = .ok (.aload_n 0, 1) := by decide +kernel
theorem dX4_rightIn_1 : decode cX4_rightIn 1 = .ok (.iload_n 2, 1) := by decide +kernel
theorem dX4_rightIn_2 : decode cX4_rightIn 2 = .ok (.invokevirtual 35, 3) := by decide +kernel
theorem dX4_rightIn_5 : decode cX4_rightIn 5 = .ok (.astore_n 3, 1) := by decide +kernel
theorem dX4_rightIn_6 : decode cX4_rightIn 6 = .ok (.aload_n 3, 1) := by decide +kernel
theorem dX4_rightIn_7 : decode cX4_rightIn 7 = .ok (.ifnonnull 7, 3) := by decide +kernel
theorem dX4_rightIn_10 : decode cX4_rightIn 10 = .ok (.iconst 0, 1) := by decide +kernel
theorem dX4_rightIn_11 : decode cX4_rightIn 11 = .ok (.goto 8, 3) := by decide +kernel
theorem dX4_rightIn_14 : decode cX4_rightIn 14 = .ok (.aload_n 3, 1) := by decide +kernel
theorem dX4_rightIn_15 : decode cX4_rightIn 15 = .ok (.iload_n 1, 1) := by decide +kernel
theorem dX4_rightIn_16 : decode cX4_rightIn 16 = .ok (.invokevirtual 39, 3) := by decide +kernel
theorem dX4_rightIn_19 : decode cX4_rightIn 19 = .ok (.ireturn, 1) := by decide +kernel
theorem dX4_countQuestion_0 : decode cX4_countQuestion 0 = .ok (.iload_n 1, 1) := by decide +kernel
theorem dX4_countQuestion_1 : decode cX4_countQuestion 1 = .ok (.ineg, 1) := by decide +kernel
theorem dX4_countQuestion_2 : decode cX4_countQuestion 2 = .ok (.istore_n 2, 1) := by decide +kernel
theorem dX4_countQuestion_3 : decode cX4_countQuestion 3 = .ok (.iload_n 2, 1) := by decide +kernel
theorem dX4_countQuestion_4 : decode cX4_countQuestion 4 = .ok (.ifCond .lt 22, 3) := by decide +kernel
theorem dX4_countQuestion_7 : decode cX4_countQuestion 7 = .ok (.iload_n 2, 1) := by decide +kernel
theorem dX4_countQuestion_8 : decode cX4_countQuestion 8 = .ok (.aload_n 0, 1) := by decide +kernel
theorem dX4_countQuestion_9 : decode cX4_countQuestion 9 = .ok (.getfield 23, 3) := by decide +kernel
theorem dX4_countQuestion_12 : decode cX4_countQuestion 12 = .ok (.arraylength, 1) := by decide +kernel
theorem dX4_countQuestion_13 : decode cX4_countQuestion 13 = .ok (.if_icmp .ge 13, 3) := by decide +kernel
theorem dX4_countQuestion_16 : decode cX4_countQuestion 16 = .ok (.aload_n 0, 1) := by decide +kernel
theorem dX4_countQuestion_17 : decode cX4_countQuestion 17 = .ok (.getfield 23, 3) := by decide +kernel
theorem dX4_countQuestion_20 : decode cX4_countQuestion 20 = .ok (.iload_n 2, 1) := by decide +kernel
theorem dX4_countQuestion_21 : decode cX4_countQuestion 21 = .ok (.dup2, 1) := by decide +kernel
theorem dX4_countQuestion_22 : decode cX4_countQuestion 22 = .ok (.iaload, 1) := by decide +kernel
theorem dX4_countQuestion_23 : decode cX4_countQuestion 23 = .ok (.iconst 1, 1) := by decide +kernel
theorem dX4_countQuestion_24 : decode cX4_countQuestion 24 = .ok (.iadd, 1) := by decide +kernel
theorem dX4_countQuestion_25 : decode cX4_countQuestion 25 = .ok (.iastore, 1) := by decide +kernel
theorem dX4_countQuestion_26 : decode cX4_countQuestion 26 = .ok (.return_, 1) := by decide +kernel
theorem dX4_questions_0 : decode cX4_questions 0 = .ok (.iload_n 1, 1) := by decide +kernel
theorem dX4_questions_1 : decode cX4_questions 1 = .ok (.ifCond .lt 21, 3) := by decide +kernel
theorem dX4_questions_4 : decode cX4_questions 4 = .ok (.iload_n 1, 1) := by decide +kernel
theorem dX4_questions_5 : decode cX4_questions 5 = .ok (.aload_n 0, 1) := by decide +kernel
theorem dX4_questions_6 : decode cX4_questions 6 = .ok (.getfield 23, 3) := by decide +kernel
theorem dX4_questions_9 : decode cX4_questions 9 = .ok (.arraylength, 1) := by decide +kernel
theorem dX4_questions_10 : decode cX4_questions 10 = .ok (.if_icmp .ge 12, 3) := by decide +kernel
theorem dX4_questions_13 : decode cX4_questions 13 = .ok (.aload_n 0, 1) := by decide +kernel
theorem dX4_questions_14 : decode cX4_questions 14 = .ok (.getfield 23, 3) := by decide +kernel
theorem dX4_questions_17 : decode cX4_questions 17 = .ok (.iload_n 1, 1) := by decide +kernel
theorem dX4_questions_18 : decode cX4_questions 18 = .ok (.iaload, 1) := by decide +kernel
theorem dX4_questions_19 : decode cX4_questions 19 = .ok (.goto 4, 3) := by decide +kernel
theorem dX4_questions_22 : decode cX4_questions 22 = .ok (.iconst 0, 1) := by decide +kernel
theorem dX4_questions_23 : decode cX4_questions 23 = .ok (.ireturn, 1) := by decide +kernel
set_option maxRecDepth 20000 in
theorem ggX4_learn_X6_covers : GoodIn wsX4_learn wsX6_covers := goodIn_r _ [4] (by decide +kernel) (by decide +kernel)
set_option maxRecDepth 20000 in
theorem gX4_learn_X6_covers_n43 : GoodIn wsX4_learn (wsX6_covers) := ggX4_learn_X6_covers
set_option maxRecDepth 20000 in
theorem ggX4_learn_X2_learn : GoodIn wsX4_learn wsX2_learn := goodIn_r _ [9, 10, 11, 12, 3, 13, 19, 20] (by decide +kernel) (by decide +kernel)
set_option maxRecDepth 20000 in
theorem gX4_learn_X2_learn : GoodIn wsX4_learn (wsV RX4 47 RX2 yX2_learn wsX2_learn) := goodIn_app (goodIn_of _ (by decide +kernel)) ggX4_learn_X2_learn
theorem dX4_learn_0 : decode cX4_learn 0 = .ok (.iconst 0, 1) := by decide +kernel
theorem dX4_learn_1 : decode cX4_learn 1 = .ok (.istore_n 3, 1) := by decide +kernel
theorem dX4_learn_2 : decode cX4_learn 2 = .ok (.iload_n 3, 1) := by decide +kernel
theorem dX4_learn_3 : decode cX4_learn 3 = .ok (.aload_n 0, 1) := by decide +kernel
theorem dX4_learn_4 : decode cX4_learn 4 = .ok (.getfield 19, 3) := by decide +kernel
theorem dX4_learn_7 : decode cX4_learn 7 = .ok (.arraylength, 1) := by decide +kernel
theorem dX4_learn_8 : decode cX4_learn 8 = .ok (.if_icmp .ge 27, 3) := by decide +kernel
theorem dX4_learn_11 : decode cX4_learn 11 = .ok (.iload_n 2, 1) := by decide +kernel
theorem dX4_learn_12 : decode cX4_learn 12 = .ok (.iload_n 3, 1) := by decide +kernel
theorem dX4_learn_13 : decode cX4_learn 13 = .ok (.invokestatic 43, 3) := by decide +kernel
theorem dX4_learn_16 : decode cX4_learn 16 = .ok (.ifCond .eq 13, 3) := by decide +kernel
theorem dX4_learn_19 : decode cX4_learn 19 = .ok (.aload_n 0, 1) := by decide +kernel
theorem dX4_learn_20 : decode cX4_learn 20 = .ok (.getfield 19, 3) := by decide +kernel
theorem dX4_learn_23 : decode cX4_learn 23 = .ok (.iload_n 3, 1) := by decide +kernel
theorem dX4_learn_24 : decode cX4_learn 24 = .ok (.aaload, 1) := by decide +kernel
theorem dX4_learn_25 : decode cX4_learn 25 = .ok (.iload_n 1, 1) := by decide +kernel
theorem dX4_learn_26 : decode cX4_learn 26 = .ok (.invokevirtual 47, 3) := by decide +kernel
theorem dX4_learn_29 : decode cX4_learn 29 = .ok (.iinc 3 1, 3) := by decide +kernel
theorem dX4_learn_32 : decode cX4_learn 32 = .ok (.goto (-30), 3) := by decide +kernel
theorem dX4_learn_35 : decode cX4_learn 35 = .ok (.return_, 1) := by decide +kernel
set_option maxRecDepth 20000 in
theorem ggX4_forget_X2_forget : GoodIn wsX4_forget wsX2_forget := goodIn_r _ [6, 7, 8, 14, 15] (by decide +kernel) (by decide +kernel)
set_option maxRecDepth 20000 in
theorem gX4_forget_X2_forget : GoodIn wsX4_forget (wsV RX4 51 RX2 yX2_forget wsX2_forget) := goodIn_app (goodIn_of _ (by decide +kernel)) ggX4_forget_X2_forget
theorem dX4_forget_0 : decode cX4_forget 0 = .ok (.iconst 0, 1) := by decide +kernel
theorem dX4_forget_1 : decode cX4_forget 1 = .ok (.istore_n 1, 1) := by decide +kernel
theorem dX4_forget_2 : decode cX4_forget 2 = .ok (.iload_n 1, 1) := by decide +kernel
theorem dX4_forget_3 : decode cX4_forget 3 = .ok (.aload_n 0, 1) := by decide +kernel
theorem dX4_forget_4 : decode cX4_forget 4 = .ok (.getfield 19, 3) := by decide +kernel
theorem dX4_forget_7 : decode cX4_forget 7 = .ok (.arraylength, 1) := by decide +kernel
theorem dX4_forget_8 : decode cX4_forget 8 = .ok (.if_icmp .ge 18, 3) := by decide +kernel
theorem dX4_forget_11 : decode cX4_forget 11 = .ok (.aload_n 0, 1) := by decide +kernel
theorem dX4_forget_12 : decode cX4_forget 12 = .ok (.getfield 19, 3) := by decide +kernel
theorem dX4_forget_15 : decode cX4_forget 15 = .ok (.iload_n 1, 1) := by decide +kernel
theorem dX4_forget_16 : decode cX4_forget 16 = .ok (.aaload, 1) := by decide +kernel
theorem dX4_forget_17 : decode cX4_forget 17 = .ok (.invokevirtual 51, 3) := by decide +kernel
theorem dX4_forget_20 : decode cX4_forget 20 = .ok (.iinc 1 1, 3) := by decide +kernel
theorem dX4_forget_23 : decode cX4_forget 23 = .ok (.goto (-21), 3) := by decide +kernel
theorem dX4_forget_26 : decode cX4_forget 26 = .ok (.return_, 1) := by decide +kernel
theorem dX4_learnedInAll_0 : decode cX4_learnedInAll 0 = .ok (.iconst 0, 1) := by decide +kernel
theorem dX4_learnedInAll_1 : decode cX4_learnedInAll 1 = .ok (.istore_n 1, 1) := by decide +kernel
theorem dX4_learnedInAll_2 : decode cX4_learnedInAll 2 = .ok (.iconst 0, 1) := by decide +kernel
theorem dX4_learnedInAll_3 : decode cX4_learnedInAll 3 = .ok (.istore_n 2, 1) := by decide +kernel
theorem dX4_learnedInAll_4 : decode cX4_learnedInAll 4 = .ok (.iload_n 2, 1) := by decide +kernel
theorem dX4_learnedInAll_5 : decode cX4_learnedInAll 5 = .ok (.aload_n 0, 1) := by decide +kernel
theorem dX4_learnedInAll_6 : decode cX4_learnedInAll 6 = .ok (.getfield 19, 3) := by decide +kernel
theorem dX4_learnedInAll_9 : decode cX4_learnedInAll 9 = .ok (.arraylength, 1) := by decide +kernel
theorem dX4_learnedInAll_10 : decode cX4_learnedInAll 10 = .ok (.if_icmp .ge 21, 3) := by decide +kernel
theorem dX4_learnedInAll_13 : decode cX4_learnedInAll 13 = .ok (.iload_n 1, 1) := by decide +kernel
theorem dX4_learnedInAll_14 : decode cX4_learnedInAll 14 = .ok (.aload_n 0, 1) := by decide +kernel
theorem dX4_learnedInAll_15 : decode cX4_learnedInAll 15 = .ok (.getfield 19, 3) := by decide +kernel
theorem dX4_learnedInAll_18 : decode cX4_learnedInAll 18 = .ok (.iload_n 2, 1) := by decide +kernel
theorem dX4_learnedInAll_19 : decode cX4_learnedInAll 19 = .ok (.aaload, 1) := by decide +kernel
theorem dX4_learnedInAll_20 : decode cX4_learnedInAll 20 = .ok (.getfield 54, 3) := by decide +kernel
theorem dX4_learnedInAll_23 : decode cX4_learnedInAll 23 = .ok (.iadd, 1) := by decide +kernel
theorem dX4_learnedInAll_24 : decode cX4_learnedInAll 24 = .ok (.istore_n 1, 1) := by decide +kernel
theorem dX4_learnedInAll_25 : decode cX4_learnedInAll 25 = .ok (.iinc 2 1, 3) := by decide +kernel
theorem dX4_learnedInAll_28 : decode cX4_learnedInAll 28 = .ok (.goto (-24), 3) := by decide +kernel
theorem dX4_learnedInAll_31 : decode cX4_learnedInAll 31 = .ok (.iload_n 1, 1) := by decide +kernel
theorem dX4_learnedInAll_32 : decode cX4_learnedInAll 32 = .ok (.ireturn, 1) := by decide +kernel
set_option maxRecDepth 20000 in
theorem ggX4_costOf_X6_covers : GoodIn wsX4_costOf wsX6_covers := goodIn_r _ [4] (by decide +kernel) (by decide +kernel)
set_option maxRecDepth 20000 in
theorem gX4_costOf_X6_covers_n43 : GoodIn wsX4_costOf (wsX6_covers) := ggX4_costOf_X6_covers
set_option maxRecDepth 20000 in
theorem ggX4_costOf_X2_knows : GoodIn wsX4_costOf wsX2_knows := goodIn_r _ [9, 10, 11, 3, 12, 18, 19] (by decide +kernel) (by decide +kernel)
set_option maxRecDepth 20000 in
theorem gX4_costOf_X2_knows : GoodIn wsX4_costOf (wsV RX4 57 RX2 yX2_knows wsX2_knows) := goodIn_app (goodIn_of _ (by decide +kernel)) ggX4_costOf_X2_knows
theorem dX4_costOf_0 : decode cX4_costOf 0 = .ok (.iconst 0, 1) := by decide +kernel
theorem dX4_costOf_1 : decode cX4_costOf 1 = .ok (.istore_n 3, 1) := by decide +kernel
theorem dX4_costOf_2 : decode cX4_costOf 2 = .ok (.iconst 0, 1) := by decide +kernel
theorem dX4_costOf_3 : decode cX4_costOf 3 = .ok (.istore 4, 2) := by decide +kernel
theorem dX4_costOf_5 : decode cX4_costOf 5 = .ok (.iload 4, 2) := by decide +kernel
theorem dX4_costOf_7 : decode cX4_costOf 7 = .ok (.aload_n 0, 1) := by decide +kernel
theorem dX4_costOf_8 : decode cX4_costOf 8 = .ok (.getfield 19, 3) := by decide +kernel
theorem dX4_costOf_11 : decode cX4_costOf 11 = .ok (.arraylength, 1) := by decide +kernel
theorem dX4_costOf_12 : decode cX4_costOf 12 = .ok (.if_icmp .ge 35, 3) := by decide +kernel
theorem dX4_costOf_15 : decode cX4_costOf 15 = .ok (.iload_n 2, 1) := by decide +kernel
theorem dX4_costOf_16 : decode cX4_costOf 16 = .ok (.iload 4, 2) := by decide +kernel
theorem dX4_costOf_18 : decode cX4_costOf 18 = .ok (.invokestatic 43, 3) := by decide +kernel
theorem dX4_costOf_21 : decode cX4_costOf 21 = .ok (.ifCond .eq 20, 3) := by decide +kernel
theorem dX4_costOf_24 : decode cX4_costOf 24 = .ok (.aload_n 0, 1) := by decide +kernel
theorem dX4_costOf_25 : decode cX4_costOf 25 = .ok (.getfield 19, 3) := by decide +kernel
theorem dX4_costOf_28 : decode cX4_costOf 28 = .ok (.iload 4, 2) := by decide +kernel
theorem dX4_costOf_30 : decode cX4_costOf 30 = .ok (.aaload, 1) := by decide +kernel
theorem dX4_costOf_31 : decode cX4_costOf 31 = .ok (.iload_n 1, 1) := by decide +kernel
theorem dX4_costOf_32 : decode cX4_costOf 32 = .ok (.invokevirtual 57, 3) := by decide +kernel
theorem dX4_costOf_35 : decode cX4_costOf 35 = .ok (.ifCond .ne 6, 3) := by decide +kernel
theorem dX4_costOf_38 : decode cX4_costOf 38 = .ok (.iinc 3 1, 3) := by decide +kernel
theorem dX4_costOf_41 : decode cX4_costOf 41 = .ok (.iinc 4 1, 3) := by decide +kernel
theorem dX4_costOf_44 : decode cX4_costOf 44 = .ok (.goto (-39), 3) := by decide +kernel
theorem dX4_costOf_47 : decode cX4_costOf 47 = .ok (.iload_n 3, 1) := by decide +kernel
theorem dX4_costOf_48 : decode cX4_costOf 48 = .ok (.ireturn, 1) := by decide +kernel
set_option maxRecDepth 20000 in
theorem ggX4_wouldFindUnread_X4_rightIn : GoodIn wsX4_wouldFindUnread wsX4_rightIn := goodIn_r _ [6, 7, 8, 9, 5, 10, 1, 11, 12, 13, 14, 15, 16, 17, 18, 39, 40, 41, 42, 43, 44, 45, 46] (by decide +kernel) (by decide +kernel)
set_option maxRecDepth 20000 in
theorem gX4_wouldFindUnread_X4_rightIn : GoodIn wsX4_wouldFindUnread (wsV RX4 61 RX4 yX4_rightIn wsX4_rightIn) := goodIn_app (goodIn_of _ (by decide +kernel)) ggX4_wouldFindUnread_X4_rightIn
set_option maxRecDepth 20000 in
theorem ggX4_wouldFindUnread_X4_wouldFind : GoodIn wsX4_wouldFindUnread wsX4_wouldFind := goodIn_r _ [22, 23, 24, 25, 26, 27, 28, 29, 30, 31, 32, 33, 34, 35, 36, 37, 38, 39, 40, 41, 42, 43, 47, 48] (by decide +kernel) (by decide +kernel)
set_option maxRecDepth 20000 in
theorem gX4_wouldFindUnread_X4_wouldFind : GoodIn wsX4_wouldFindUnread (wsV RX4 65 RX4 yX4_wouldFind wsX4_wouldFind) := goodIn_app (goodIn_of _ (by decide +kernel)) ggX4_wouldFindUnread_X4_wouldFind
theorem dX4_wouldFindUnread_0 : decode cX4_wouldFindUnread 0 = .ok (.iconst 0, 1) := by decide +kernel
theorem dX4_wouldFindUnread_1 : decode cX4_wouldFindUnread 1 = .ok (.istore 4, 2) := by decide +kernel
theorem dX4_wouldFindUnread_3 : decode cX4_wouldFindUnread 3 = .ok (.iload 4, 2) := by decide +kernel
theorem dX4_wouldFindUnread_5 : decode cX4_wouldFindUnread 5 = .ok (.aload_n 0, 1) := by decide +kernel
theorem dX4_wouldFindUnread_6 : decode cX4_wouldFindUnread 6 = .ok (.getfield 11, 3) := by decide +kernel
theorem dX4_wouldFindUnread_9 : decode cX4_wouldFindUnread 9 = .ok (.arraylength, 1) := by decide +kernel
theorem dX4_wouldFindUnread_10 : decode cX4_wouldFindUnread 10 = .ok (.if_icmp .ge 33, 3) := by decide +kernel
theorem dX4_wouldFindUnread_13 : decode cX4_wouldFindUnread 13 = .ok (.aload_n 0, 1) := by decide +kernel
theorem dX4_wouldFindUnread_14 : decode cX4_wouldFindUnread 14 = .ok (.iload_n 3, 1) := by decide +kernel
theorem dX4_wouldFindUnread_15 : decode cX4_wouldFindUnread 15 = .ok (.iload 4, 2) := by decide +kernel
theorem dX4_wouldFindUnread_17 : decode cX4_wouldFindUnread 17 = .ok (.invokevirtual 61, 3) := by decide +kernel
theorem dX4_wouldFindUnread_20 : decode cX4_wouldFindUnread 20 = .ok (.iconst 2, 1) := by decide +kernel
theorem dX4_wouldFindUnread_21 : decode cX4_wouldFindUnread 21 = .ok (.if_icmp .eq 16, 3) := by decide +kernel
theorem dX4_wouldFindUnread_24 : decode cX4_wouldFindUnread 24 = .ok (.aload_n 0, 1) := by decide +kernel
theorem dX4_wouldFindUnread_25 : decode cX4_wouldFindUnread 25 = .ok (.iload 4, 2) := by decide +kernel
theorem dX4_wouldFindUnread_27 : decode cX4_wouldFindUnread 27 = .ok (.iload_n 1, 1) := by decide +kernel
theorem dX4_wouldFindUnread_28 : decode cX4_wouldFindUnread 28 = .ok (.iload_n 2, 1) := by decide +kernel
theorem dX4_wouldFindUnread_29 : decode cX4_wouldFindUnread 29 = .ok (.invokevirtual 65, 3) := by decide +kernel
theorem dX4_wouldFindUnread_32 : decode cX4_wouldFindUnread 32 = .ok (.ifCond .eq 5, 3) := by decide +kernel
theorem dX4_wouldFindUnread_35 : decode cX4_wouldFindUnread 35 = .ok (.iconst 1, 1) := by decide +kernel
theorem dX4_wouldFindUnread_36 : decode cX4_wouldFindUnread 36 = .ok (.ireturn, 1) := by decide +kernel
theorem dX4_wouldFindUnread_37 : decode cX4_wouldFindUnread 37 = .ok (.iinc 4 1, 3) := by decide +kernel
theorem dX4_wouldFindUnread_40 : decode cX4_wouldFindUnread 40 = .ok (.goto (-37), 3) := by decide +kernel
theorem dX4_wouldFindUnread_43 : decode cX4_wouldFindUnread 43 = .ok (.iconst 0, 1) := by decide +kernel
theorem dX4_wouldFindUnread_44 : decode cX4_wouldFindUnread 44 = .ok (.ireturn, 1) := by decide +kernel
set_option maxRecDepth 20000 in
theorem ggX4_wouldFind_X6_covers : GoodIn wsX4_wouldFind wsX6_covers := goodIn_r _ [4] (by decide +kernel) (by decide +kernel)
set_option maxRecDepth 20000 in
theorem gX4_wouldFind_X6_covers_n43 : GoodIn wsX4_wouldFind (wsX6_covers) := ggX4_wouldFind_X6_covers
set_option maxRecDepth 20000 in
theorem ggX4_wouldFind_X2_wouldReach : GoodIn wsX4_wouldFind wsX2_wouldReach := goodIn_r _ [9, 10, 11, 12, 8, 13, 14, 15, 3, 16, 22, 23] (by decide +kernel) (by decide +kernel)
set_option maxRecDepth 20000 in
theorem gX4_wouldFind_X2_wouldReach : GoodIn wsX4_wouldFind (wsV RX4 69 RX2 yX2_wouldReach wsX2_wouldReach) := goodIn_app (goodIn_of _ (by decide +kernel)) ggX4_wouldFind_X2_wouldReach
theorem dX4_wouldFind_0 : decode cX4_wouldFind 0 = .ok (.iconst 0, 1) := by decide +kernel
theorem dX4_wouldFind_1 : decode cX4_wouldFind 1 = .ok (.istore 4, 2) := by decide +kernel
theorem dX4_wouldFind_3 : decode cX4_wouldFind 3 = .ok (.iload 4, 2) := by decide +kernel
theorem dX4_wouldFind_5 : decode cX4_wouldFind 5 = .ok (.aload_n 0, 1) := by decide +kernel
theorem dX4_wouldFind_6 : decode cX4_wouldFind 6 = .ok (.getfield 19, 3) := by decide +kernel
theorem dX4_wouldFind_9 : decode cX4_wouldFind 9 = .ok (.arraylength, 1) := by decide +kernel
theorem dX4_wouldFind_10 : decode cX4_wouldFind 10 = .ok (.if_icmp .ge 37, 3) := by decide +kernel
theorem dX4_wouldFind_13 : decode cX4_wouldFind 13 = .ok (.iload_n 3, 1) := by decide +kernel
theorem dX4_wouldFind_14 : decode cX4_wouldFind 14 = .ok (.iload 4, 2) := by decide +kernel
theorem dX4_wouldFind_16 : decode cX4_wouldFind 16 = .ok (.invokestatic 43, 3) := by decide +kernel
theorem dX4_wouldFind_19 : decode cX4_wouldFind 19 = .ok (.ifCond .eq 22, 3) := by decide +kernel
theorem dX4_wouldFind_22 : decode cX4_wouldFind 22 = .ok (.aload_n 0, 1) := by decide +kernel
theorem dX4_wouldFind_23 : decode cX4_wouldFind 23 = .ok (.getfield 19, 3) := by decide +kernel
theorem dX4_wouldFind_26 : decode cX4_wouldFind 26 = .ok (.iload 4, 2) := by decide +kernel
theorem dX4_wouldFind_28 : decode cX4_wouldFind 28 = .ok (.aaload, 1) := by decide +kernel
theorem dX4_wouldFind_29 : decode cX4_wouldFind 29 = .ok (.iconst 1, 1) := by decide +kernel
theorem dX4_wouldFind_30 : decode cX4_wouldFind 30 = .ok (.iload_n 1, 1) := by decide +kernel
theorem dX4_wouldFind_31 : decode cX4_wouldFind 31 = .ok (.ishl, 1) := by decide +kernel
theorem dX4_wouldFind_32 : decode cX4_wouldFind 32 = .ok (.iload_n 2, 1) := by decide +kernel
theorem dX4_wouldFind_33 : decode cX4_wouldFind 33 = .ok (.invokevirtual 69, 3) := by decide +kernel
theorem dX4_wouldFind_36 : decode cX4_wouldFind 36 = .ok (.ifCond .eq 5, 3) := by decide +kernel
theorem dX4_wouldFind_39 : decode cX4_wouldFind 39 = .ok (.iconst 1, 1) := by decide +kernel
theorem dX4_wouldFind_40 : decode cX4_wouldFind 40 = .ok (.ireturn, 1) := by decide +kernel
theorem dX4_wouldFind_41 : decode cX4_wouldFind 41 = .ok (.iinc 4 1, 3) := by decide +kernel
theorem dX4_wouldFind_44 : decode cX4_wouldFind 44 = .ok (.goto (-41), 3) := by decide +kernel
theorem dX4_wouldFind_47 : decode cX4_wouldFind 47 = .ok (.iconst 0, 1) := by decide +kernel
theorem dX4_wouldFind_48 : decode cX4_wouldFind 48 = .ok (.ireturn, 1) := by decide +kernel
theorem dX5_init_0 : decode cX5_init 0 = .ok (.aload_n 0, 1) := by decide +kernel
theorem dX5_init_1 : decode cX5_init 1 = .ok (.invokespecial 3, 3) := by decide +kernel
theorem dX5_init_4 : decode cX5_init 4 = .ok (.aload_n 0, 1) := by decide +kernel
theorem dX5_init_5 : decode cX5_init 5 = .ok (.iload_n 1, 1) := by decide +kernel
theorem dX5_init_6 : decode cX5_init 6 = .ok (.putfield 9, 3) := by decide +kernel
theorem dX5_init_9 : decode cX5_init 9 = .ok (.aload_n 0, 1) := by decide +kernel
theorem dX5_init_10 : decode cX5_init 10 = .ok (.iload_n 2, 1) := by decide +kernel
theorem dX5_init_11 : decode cX5_init 11 = .ok (.putfield 15, 3) := by decide +kernel
theorem dX5_init_14 : decode cX5_init 14 = .ok (.aload_n 0, 1) := by decide +kernel
theorem dX5_init_15 : decode cX5_init 15 = .ok (.iload_n 3, 1) := by decide +kernel
theorem dX5_init_16 : decode cX5_init 16 = .ok (.putfield 18, 3) := by decide +kernel
theorem dX5_init_19 : decode cX5_init 19 = .ok (.return_, 1) := by decide +kernel
theorem dX5_in_0 : decode cX5_in 0 = .ok (.aload_n 0, 1) := by decide +kernel
theorem dX5_in_1 : decode cX5_in 1 = .ok (.getfield 15, 3) := by decide +kernel
theorem dX5_in_4 : decode cX5_in 4 = .ok (.iload_n 1, 1) := by decide +kernel
theorem dX5_in_5 : decode cX5_in 5 = .ok (.if_icmp .gt 18, 3) := by decide +kernel
theorem dX5_in_8 : decode cX5_in 8 = .ok (.iload_n 1, 1) := by decide +kernel
theorem dX5_in_9 : decode cX5_in 9 = .ok (.aload_n 0, 1) := by decide +kernel
theorem dX5_in_10 : decode cX5_in 10 = .ok (.getfield 18, 3) := by decide +kernel
theorem dX5_in_13 : decode cX5_in 13 = .ok (.if_icmp .gt 10, 3) := by decide +kernel
theorem dX5_in_16 : decode cX5_in 16 = .ok (.aload_n 0, 1) := by decide +kernel
theorem dX5_in_17 : decode cX5_in 17 = .ok (.getfield 9, 3) := by decide +kernel
theorem dX5_in_20 : decode cX5_in 20 = .ok (.goto 4, 3) := by decide +kernel
theorem dX5_in_23 : decode cX5_in 23 = .ok (.iconst 0, 1) := by decide +kernel
theorem dX5_in_24 : decode cX5_in 24 = .ok (.ireturn, 1) := by decide +kernel
set_option maxRecDepth 20000 in
theorem ggX6_init_Jx4a65c_init_da8c8 : GoodIn wsX6_init wsJx4a65c_init_da8c8 := goodIn_r _ [20, 21, 22, 23, 24, 25, 26, 27, 28, 29, 30, 31, 32, 2, 3, 43, 44, 45] (by decide +kernel) (by decide +kernel)
set_option maxRecDepth 20000 in
theorem gX6_init_Jx4a65c_init_da8c8 : GoodIn wsX6_init (wsJx4a65c_init_da8c8) := ggX6_init_Jx4a65c_init_da8c8
set_option maxRecDepth 20000 in
theorem ggX6_init_X2_init : GoodIn wsX6_init wsX2_init := goodIn_r _ [34, 35, 2, 3, 36, 37, 52, 53] (by decide +kernel) (by decide +kernel)
set_option maxRecDepth 20000 in
theorem gX6_init_X2_init_n24 : GoodIn wsX6_init (wsX2_init) := ggX6_init_X2_init
set_option maxRecDepth 20000 in
theorem ggX6_init_X3_init : GoodIn wsX6_init wsX3_init := goodIn_r _ [39, 40, 2, 3, 41, 42, 54, 55] (by decide +kernel) (by decide +kernel)
set_option maxRecDepth 20000 in
theorem gX6_init_X3_init_n31 : GoodIn wsX6_init (wsX3_init) := ggX6_init_X3_init
theorem dX6_init_0 : decode cX6_init 0 = .ok (.aload_n 0, 1) := by decide +kernel
theorem dX6_init_1 : decode cX6_init 1 = .ok (.invokespecial 1, 3) := by decide +kernel
theorem dX6_init_4 : decode cX6_init 4 = .ok (.aload_n 0, 1) := by decide +kernel
theorem dX6_init_5 : decode cX6_init 5 = .ok (.new 7, 3) := by decide +kernel
theorem dX6_init_8 : decode cX6_init 8 = .ok (.dup, 1) := by decide +kernel
theorem dX6_init_9 : decode cX6_init 9 = .ok (.invokespecial 9, 3) := by decide +kernel
theorem dX6_init_12 : decode cX6_init 12 = .ok (.putfield 10, 3) := by decide +kernel
theorem dX6_init_15 : decode cX6_init 15 = .ok (.aload_n 0, 1) := by decide +kernel
theorem dX6_init_16 : decode cX6_init 16 = .ok (.new 7, 3) := by decide +kernel
theorem dX6_init_19 : decode cX6_init 19 = .ok (.dup, 1) := by decide +kernel
theorem dX6_init_20 : decode cX6_init 20 = .ok (.invokespecial 9, 3) := by decide +kernel
theorem dX6_init_23 : decode cX6_init 23 = .ok (.putfield 16, 3) := by decide +kernel
theorem dX6_init_26 : decode cX6_init 26 = .ok (.aload_n 0, 1) := by decide +kernel
theorem dX6_init_27 : decode cX6_init 27 = .ok (.new 7, 3) := by decide +kernel
theorem dX6_init_30 : decode cX6_init 30 = .ok (.dup, 1) := by decide +kernel
theorem dX6_init_31 : decode cX6_init 31 = .ok (.invokespecial 9, 3) := by decide +kernel
theorem dX6_init_34 : decode cX6_init 34 = .ok (.putfield 19, 3) := by decide +kernel
theorem dX6_init_37 : decode cX6_init 37 = .ok (.aload_n 0, 1) := by decide +kernel
theorem dX6_init_38 : decode cX6_init 38 = .ok (.new 22, 3) := by decide +kernel
theorem dX6_init_41 : decode cX6_init 41 = .ok (.dup, 1) := by decide +kernel
theorem dX6_init_42 : decode cX6_init 42 = .ok (.invokespecial 24, 3) := by decide +kernel
theorem dX6_init_45 : decode cX6_init 45 = .ok (.putfield 25, 3) := by decide +kernel
theorem dX6_init_48 : decode cX6_init 48 = .ok (.aload_n 0, 1) := by decide +kernel
theorem dX6_init_49 : decode cX6_init 49 = .ok (.new 29, 3) := by decide +kernel
theorem dX6_init_52 : decode cX6_init 52 = .ok (.dup, 1) := by decide +kernel
theorem dX6_init_53 : decode cX6_init 53 = .ok (.invokespecial 31, 3) := by decide +kernel
theorem dX6_init_56 : decode cX6_init 56 = .ok (.putfield 32, 3) := by decide +kernel
theorem dX6_init_59 : decode cX6_init 59 = .ok (.return_, 1) := by decide +kernel
set_option maxRecDepth 20000 in
theorem ggX6_file_X6_requireRange : GoodIn wsX6_file wsX6_requireRange := goodIn_ca (goodIn_r _ [10, 11, 12] (by decide +kernel) (by decide +kernel)) (goodIn_sub (fun _ h => List.mem_cons_of_mem _ (List.mem_append_right _ h)) (by decide +kernel))
set_option maxRecDepth 20000 in
theorem gX6_file_X6_requireRange : GoodIn wsX6_file (va_wsS RX6 36 yX6_requireRange wsX6_requireRange) := goodIn_app (goodIn_of _ (by decide +kernel)) ggX6_file_X6_requireRange
set_option maxRecDepth 20000 in
theorem ggX6_file_Jx4a65c_size_8abf5 : GoodIn wsX6_file wsJx4a65c_size_8abf5 := goodIn_r _ [17, 18, 89, 90, 91] (by decide +kernel) (by decide +kernel)
set_option maxRecDepth 20000 in
theorem gX6_file_Jx4a65c_size_8abf5 : GoodIn wsX6_file (wsV RX6 40 RJx4a65c yJx4a65c_size_8abf5 wsJx4a65c_size_8abf5) := goodIn_app (goodIn_of _ (by decide +kernel)) ggX6_file_Jx4a65c_size_8abf5
set_option maxRecDepth 20000 in
theorem ggX6_file_X1_init : GoodIn wsX6_file wsX1_init := goodIn_r _ [21, 22, 23, 24, 25, 26, 87, 88] (by decide +kernel) (by decide +kernel)
set_option maxRecDepth 20000 in
theorem gX6_file_X1_init : GoodIn wsX6_file (wsX1_init) := ggX6_file_X1_init
set_option maxRecDepth 20000 in
theorem ggX6_file_Jx4a65c_add_9ea2d : GoodIn wsX6_file wsJx4a65c_add_9ea2d := goodIn_r _ [30, 31, 32, 33, 18, 34, 35, 36, 16, 37, 38, 39, 40, 41, 42, 43, 44, 45, 46, 47, 48, 49, 50, 51, 52, 53, 54, 55, 56, 57, 58, 59, 60, 61, 62, 63, 64, 65, 66, 67, 68, 69, 70, 71, 72, 73, 74, 75, 76, 77, 78, 79, 80, 89, 90, 91] (by decide +kernel) (by decide +kernel)
set_option maxRecDepth 20000 in
theorem gX6_file_Jx4a65c_add_9ea2d : GoodIn wsX6_file (wsV RX6 56 RJx4a65c yJx4a65c_add_9ea2d wsJx4a65c_add_9ea2d) := goodIn_app (goodIn_of _ (by decide +kernel)) ggX6_file_Jx4a65c_add_9ea2d
theorem dX6_file_0 : decode cX6_file 0 = .ok (.iload_n 1, 1) := by decide +kernel
theorem dX6_file_1 : decode cX6_file 1 = .ok (.iconst 0, 1) := by decide +kernel
theorem dX6_file_2 : decode cX6_file 2 = .ok (.sipush 255, 3) := by decide +kernel
theorem dX6_file_5 : decode cX6_file 5 = .ok (.invokestatic 36, 3) := by decide +kernel
theorem dX6_file_8 : decode cX6_file 8 = .ok (.aload_n 0, 1) := by decide +kernel
theorem dX6_file_9 : decode cX6_file 9 = .ok (.getfield 10, 3) := by decide +kernel
theorem dX6_file_12 : decode cX6_file 12 = .ok (.invokevirtual 40, 3) := by decide +kernel
theorem dX6_file_15 : decode cX6_file 15 = .ok (.bipush 16, 2) := by decide +kernel
theorem dX6_file_17 : decode cX6_file 17 = .ok (.if_icmp .lt 13, 3) := by decide +kernel
theorem dX6_file_20 : decode cX6_file 20 = .ok (.new 44, 3) := by decide +kernel
theorem dX6_file_23 : decode cX6_file 23 = .ok (.dup, 1) := by decide +kernel
theorem dX6_file_24 : decode cX6_file 24 = .ok (.ldc 46, 2) := by decide +kernel
theorem dX6_file_26 : decode cX6_file 26 = .ok (.invokespecial 48, 3) := by decide +kernel
theorem dX6_file_29 : decode cX6_file 29 = .ok (.athrow, 1) := by decide +kernel
theorem dX6_file_30 : decode cX6_file 30 = .ok (.aload_n 0, 1) := by decide +kernel
theorem dX6_file_31 : decode cX6_file 31 = .ok (.getfield 10, 3) := by decide +kernel
theorem dX6_file_34 : decode cX6_file 34 = .ok (.new 51, 3) := by decide +kernel
theorem dX6_file_37 : decode cX6_file 37 = .ok (.dup, 1) := by decide +kernel
theorem dX6_file_38 : decode cX6_file 38 = .ok (.iload_n 1, 1) := by decide +kernel
theorem dX6_file_39 : decode cX6_file 39 = .ok (.invokespecial 53, 3) := by decide +kernel
theorem dX6_file_42 : decode cX6_file 42 = .ok (.invokevirtual 56, 3) := by decide +kernel
theorem dX6_file_45 : decode cX6_file 45 = .ok (.pop, 1) := by decide +kernel
theorem dX6_file_46 : decode cX6_file 46 = .ok (.aload_n 0, 1) := by decide +kernel
theorem dX6_file_47 : decode cX6_file 47 = .ok (.getfield 10, 3) := by decide +kernel
theorem dX6_file_50 : decode cX6_file 50 = .ok (.invokevirtual 40, 3) := by decide +kernel
theorem dX6_file_53 : decode cX6_file 53 = .ok (.iconst 1, 1) := by decide +kernel
theorem dX6_file_54 : decode cX6_file 54 = .ok (.isub, 1) := by decide +kernel
theorem dX6_file_55 : decode cX6_file 55 = .ok (.ireturn, 1) := by decide +kernel
set_option maxRecDepth 20000 in
theorem ggX6_change_X6_fileAt : GoodIn wsX6_change wsX6_fileAt := goodIn_ca (goodIn_r _ [7, 8, 9, 10, 11, 12, 6, 13, 14, 15, 16, 17, 18, 19, 20, 21, 22, 23, 24, 25, 26, 27, 28, 29, 30, 31, 32, 33, 34, 35, 36, 37, 38, 89, 90, 91, 92, 93, 94, 95, 96, 97] (by decide +kernel) (by decide +kernel)) (goodIn_sub (fun _ h => List.mem_cons_of_mem _ (List.mem_append_left _ (List.mem_append_right _ h))) (by decide +kernel))
set_option maxRecDepth 20000 in
theorem gX6_change_X6_fileAt : GoodIn wsX6_change (wsV RX6 60 RX6 yX6_fileAt wsX6_fileAt) := goodIn_app (goodIn_of _ (by decide +kernel)) ggX6_change_X6_fileAt
set_option maxRecDepth 20000 in
theorem ggX6_change_X6_requireRange : GoodIn wsX6_change wsX6_requireRange := goodIn_ca (goodIn_r _ [41, 42, 43] (by decide +kernel) (by decide +kernel)) (goodIn_sub (fun _ h => List.mem_cons_of_mem _ (List.mem_append_right _ h)) (by decide +kernel))
set_option maxRecDepth 20000 in
theorem gX6_change_X6_requireRange : GoodIn wsX6_change (va_wsS RX6 36 yX6_requireRange wsX6_requireRange) := goodIn_app (goodIn_of _ (by decide +kernel)) ggX6_change_X6_requireRange
set_option maxRecDepth 20000 in
theorem ggX6_change_Jx4a65c_size_8abf5 : GoodIn wsX6_change wsJx4a65c_size_8abf5 := goodIn_r _ [20, 21, 95, 96, 97] (by decide +kernel) (by decide +kernel)
set_option maxRecDepth 20000 in
theorem gX6_change_Jx4a65c_size_8abf5 : GoodIn wsX6_change (wsV RX6 40 RJx4a65c yJx4a65c_size_8abf5 wsJx4a65c_size_8abf5) := goodIn_app (goodIn_of _ (by decide +kernel)) ggX6_change_Jx4a65c_size_8abf5
set_option maxRecDepth 20000 in
theorem ggX6_change_Jx4a65c_get_915e3 : GoodIn wsX6_change wsJx4a65c_get_915e3 := goodIn_r _ [25, 21, 26, 27, 28, 29, 30, 31, 32, 33, 34, 35, 36, 19, 37, 38, 95, 96, 97] (by decide +kernel) (by decide +kernel)
set_option maxRecDepth 20000 in
theorem gX6_change_Jx4a65c_get_915e3 : GoodIn wsX6_change (wsV RX6 68 RJx4a65c yJx4a65c_get_915e3 wsJx4a65c_get_915e3) := goodIn_app (goodIn_of _ (by decide +kernel)) ggX6_change_Jx4a65c_get_915e3
set_option maxRecDepth 20000 in
theorem ggX6_change_X6_recall : GoodIn wsX6_change wsX6_recall := goodIn_r _ [47, 48, 49, 16, 17, 18, 19, 20, 21, 22, 23, 24, 25, 26, 27, 28, 29, 30, 31, 32, 33, 34, 35, 36, 37, 38, 50, 51, 52, 53, 54, 55, 56, 57, 58, 6, 59, 60, 61, 62, 63, 64, 65, 66, 67, 68, 69, 70, 71, 72, 73, 74, 75, 76, 77, 78, 79, 80, 81, 82, 83, 84, 85, 86, 89, 90, 91, 92, 93, 94, 98, 99, 100, 101, 102, 103, 95, 96, 97, 104, 105, 106, 107, 108, 109, 110] (by decide +kernel) (by decide +kernel)
set_option maxRecDepth 20000 in
theorem gX6_change_X6_recall : GoodIn wsX6_change (wsV RX6 74 RX6 yX6_recall wsX6_recall) := goodIn_app (goodIn_of _ (by decide +kernel)) ggX6_change_X6_recall
theorem dX6_change_0 : decode cX6_change 0 = .ok (.aload_n 0, 1) := by decide +kernel
theorem dX6_change_1 : decode cX6_change 1 = .ok (.iload_n 1, 1) := by decide +kernel
theorem dX6_change_2 : decode cX6_change 2 = .ok (.invokevirtual 60, 3) := by decide +kernel
theorem dX6_change_5 : decode cX6_change 5 = .ok (.astore_n 3, 1) := by decide +kernel
theorem dX6_change_6 : decode cX6_change 6 = .ok (.iload_n 2, 1) := by decide +kernel
theorem dX6_change_7 : decode cX6_change 7 = .ok (.iconst 0, 1) := by decide +kernel
theorem dX6_change_8 : decode cX6_change 8 = .ok (.sipush 255, 3) := by decide +kernel
theorem dX6_change_11 : decode cX6_change 11 = .ok (.invokestatic 36, 3) := by decide +kernel
theorem dX6_change_14 : decode cX6_change 14 = .ok (.aload_n 3, 1) := by decide +kernel
theorem dX6_change_15 : decode cX6_change 15 = .ok (.iload_n 2, 1) := by decide +kernel
theorem dX6_change_16 : decode cX6_change 16 = .ok (.putfield 64, 3) := by decide +kernel
theorem dX6_change_19 : decode cX6_change 19 = .ok (.iconst 0, 1) := by decide +kernel
theorem dX6_change_20 : decode cX6_change 20 = .ok (.istore 4, 2) := by decide +kernel
theorem dX6_change_22 : decode cX6_change 22 = .ok (.iconst 0, 1) := by decide +kernel
theorem dX6_change_23 : decode cX6_change 23 = .ok (.istore 5, 2) := by decide +kernel
theorem dX6_change_25 : decode cX6_change 25 = .ok (.iload 5, 2) := by decide +kernel
theorem dX6_change_27 : decode cX6_change 27 = .ok (.aload_n 0, 1) := by decide +kernel
theorem dX6_change_28 : decode cX6_change 28 = .ok (.getfield 16, 3) := by decide +kernel
theorem dX6_change_31 : decode cX6_change 31 = .ok (.invokevirtual 40, 3) := by decide +kernel
theorem dX6_change_34 : decode cX6_change 34 = .ok (.if_icmp .ge 31, 3) := by decide +kernel
theorem dX6_change_37 : decode cX6_change 37 = .ok (.iload 4, 2) := by decide +kernel
theorem dX6_change_39 : decode cX6_change 39 = .ok (.aload_n 0, 1) := by decide +kernel
theorem dX6_change_40 : decode cX6_change 40 = .ok (.aload_n 0, 1) := by decide +kernel
theorem dX6_change_41 : decode cX6_change 41 = .ok (.getfield 16, 3) := by decide +kernel
theorem dX6_change_44 : decode cX6_change 44 = .ok (.iload 5, 2) := by decide +kernel
theorem dX6_change_46 : decode cX6_change 46 = .ok (.invokevirtual 68, 3) := by decide +kernel
theorem dX6_change_49 : decode cX6_change 49 = .ok (.checkcast 72, 3) := by decide +kernel
theorem dX6_change_52 : decode cX6_change 52 = .ok (.iload_n 1, 1) := by decide +kernel
theorem dX6_change_53 : decode cX6_change 53 = .ok (.invokevirtual 74, 3) := by decide +kernel
theorem dX6_change_56 : decode cX6_change 56 = .ok (.iadd, 1) := by decide +kernel
theorem dX6_change_57 : decode cX6_change 57 = .ok (.istore 4, 2) := by decide +kernel
theorem dX6_change_59 : decode cX6_change 59 = .ok (.iinc 5 1, 3) := by decide +kernel
theorem dX6_change_62 : decode cX6_change 62 = .ok (.goto (-37), 3) := by decide +kernel
theorem dX6_change_65 : decode cX6_change 65 = .ok (.iload 4, 2) := by decide +kernel
theorem dX6_change_67 : decode cX6_change 67 = .ok (.ireturn, 1) := by decide +kernel
set_option maxRecDepth 20000 in
theorem ggX6_party_X6_requireRange : GoodIn wsX6_party wsX6_requireRange := goodIn_ca (goodIn_r _ [10, 11, 12] (by decide +kernel) (by decide +kernel)) (goodIn_sub (fun _ h => List.mem_cons_of_mem _ (List.mem_append_right _ h)) (by decide +kernel))
set_option maxRecDepth 20000 in
theorem gX6_party_X6_requireRange : GoodIn wsX6_party (va_wsS RX6 36 yX6_requireRange wsX6_requireRange) := goodIn_app (goodIn_of _ (by decide +kernel)) ggX6_party_X6_requireRange
set_option maxRecDepth 20000 in
theorem ggX6_party_Jx4a65c_size_8abf5 : GoodIn wsX6_party wsJx4a65c_size_8abf5 := goodIn_r _ [17, 18, 104, 105, 106] (by decide +kernel) (by decide +kernel)
set_option maxRecDepth 20000 in
theorem gX6_party_Jx4a65c_size_8abf5 : GoodIn wsX6_party (wsV RX6 40 RJx4a65c yJx4a65c_size_8abf5 wsJx4a65c_size_8abf5) := goodIn_app (goodIn_of _ (by decide +kernel)) ggX6_party_Jx4a65c_size_8abf5
set_option maxRecDepth 20000 in
theorem ggX6_party_X4_init : GoodIn wsX6_party wsX4_init := goodIn_r _ [21, 22, 23, 24, 25, 26, 27, 28, 29, 30, 31, 32, 33, 34, 35, 36, 37, 38, 99, 100, 101, 102, 103, 107, 108] (by decide +kernel) (by decide +kernel)
set_option maxRecDepth 20000 in
theorem gX6_party_X4_init : GoodIn wsX6_party (wsX4_init) := ggX6_party_X4_init
set_option maxRecDepth 20000 in
theorem ggX6_party_Jx4a65c_add_9ea2d : GoodIn wsX6_party wsJx4a65c_add_9ea2d := goodIn_r _ [42, 43, 44, 45, 18, 46, 47, 48, 16, 49, 50, 51, 52, 53, 54, 55, 56, 57, 58, 59, 60, 61, 62, 63, 64, 65, 66, 67, 68, 69, 70, 71, 72, 73, 74, 75, 76, 77, 78, 79, 80, 81, 82, 83, 84, 85, 86, 87, 88, 89, 90, 91, 92, 104, 105, 106] (by decide +kernel) (by decide +kernel)
set_option maxRecDepth 20000 in
theorem gX6_party_Jx4a65c_add_9ea2d : GoodIn wsX6_party (wsV RX6 56 RJx4a65c yJx4a65c_add_9ea2d wsJx4a65c_add_9ea2d) := goodIn_app (goodIn_of _ (by decide +kernel)) ggX6_party_Jx4a65c_add_9ea2d
theorem dX6_party_0 : decode cX6_party 0 = .ok (.iload_n 1, 1) := by decide +kernel
theorem dX6_party_1 : decode cX6_party 1 = .ok (.iconst 0, 1) := by decide +kernel
theorem dX6_party_2 : decode cX6_party 2 = .ok (.sipush 128, 3) := by decide +kernel
theorem dX6_party_5 : decode cX6_party 5 = .ok (.invokestatic 36, 3) := by decide +kernel
theorem dX6_party_8 : decode cX6_party 8 = .ok (.aload_n 0, 1) := by decide +kernel
theorem dX6_party_9 : decode cX6_party 9 = .ok (.getfield 16, 3) := by decide +kernel
theorem dX6_party_12 : decode cX6_party 12 = .ok (.invokevirtual 40, 3) := by decide +kernel
theorem dX6_party_15 : decode cX6_party 15 = .ok (.bipush 6, 2) := by decide +kernel
theorem dX6_party_17 : decode cX6_party 17 = .ok (.if_icmp .lt 13, 3) := by decide +kernel
theorem dX6_party_20 : decode cX6_party 20 = .ok (.new 44, 3) := by decide +kernel
theorem dX6_party_23 : decode cX6_party 23 = .ok (.dup, 1) := by decide +kernel
theorem dX6_party_24 : decode cX6_party 24 = .ok (.ldc 78, 2) := by decide +kernel
theorem dX6_party_26 : decode cX6_party 26 = .ok (.invokespecial 48, 3) := by decide +kernel
theorem dX6_party_29 : decode cX6_party 29 = .ok (.athrow, 1) := by decide +kernel
theorem dX6_party_30 : decode cX6_party 30 = .ok (.aload_n 0, 1) := by decide +kernel
theorem dX6_party_31 : decode cX6_party 31 = .ok (.getfield 16, 3) := by decide +kernel
theorem dX6_party_34 : decode cX6_party 34 = .ok (.invokevirtual 40, 3) := by decide +kernel
theorem dX6_party_37 : decode cX6_party 37 = .ok (.istore_n 2, 1) := by decide +kernel
theorem dX6_party_38 : decode cX6_party 38 = .ok (.aload_n 0, 1) := by decide +kernel
theorem dX6_party_39 : decode cX6_party 39 = .ok (.getfield 16, 3) := by decide +kernel
theorem dX6_party_42 : decode cX6_party 42 = .ok (.new 72, 3) := by decide +kernel
theorem dX6_party_45 : decode cX6_party 45 = .ok (.dup, 1) := by decide +kernel
theorem dX6_party_46 : decode cX6_party 46 = .ok (.iload_n 2, 1) := by decide +kernel
theorem dX6_party_47 : decode cX6_party 47 = .ok (.iload_n 1, 1) := by decide +kernel
theorem dX6_party_48 : decode cX6_party 48 = .ok (.invokespecial 80, 3) := by decide +kernel
theorem dX6_party_51 : decode cX6_party 51 = .ok (.invokevirtual 56, 3) := by decide +kernel
theorem dX6_party_54 : decode cX6_party 54 = .ok (.pop, 1) := by decide +kernel
theorem dX6_party_55 : decode cX6_party 55 = .ok (.iload_n 2, 1) := by decide +kernel
theorem dX6_party_56 : decode cX6_party 56 = .ok (.ireturn, 1) := by decide +kernel
set_option maxRecDepth 20000 in
theorem ggX6_budget_X6_partyAt : GoodIn wsX6_budget wsX6_partyAt := goodIn_ca (goodIn_r _ [5, 6, 7, 8, 9, 10, 11, 12, 13, 14, 15, 16, 17, 18, 19, 20, 21, 22, 23, 24, 25, 26, 27, 28, 29, 30, 31, 32, 43, 44, 45, 46, 47, 48, 49, 50, 51] (by decide +kernel) (by decide +kernel)) (goodIn_sub (fun _ h => List.mem_cons_of_mem _ (List.mem_append_left _ (List.mem_append_right _ h))) (by decide +kernel))
set_option maxRecDepth 20000 in
theorem gX6_budget_X6_partyAt : GoodIn wsX6_budget (wsV RX6 83 RX6 yX6_partyAt wsX6_partyAt) := goodIn_app (goodIn_of _ (by decide +kernel)) ggX6_budget_X6_partyAt
set_option maxRecDepth 20000 in
theorem ggX6_budget_X6_requireRange : GoodIn wsX6_budget wsX6_requireRange := goodIn_ca (goodIn_r _ [35, 36, 37] (by decide +kernel) (by decide +kernel)) (goodIn_sub (fun _ h => List.mem_cons_of_mem _ (List.mem_append_right _ h)) (by decide +kernel))
set_option maxRecDepth 20000 in
theorem gX6_budget_X6_requireRange : GoodIn wsX6_budget (va_wsS RX6 36 yX6_requireRange wsX6_requireRange) := goodIn_app (goodIn_of _ (by decide +kernel)) ggX6_budget_X6_requireRange
theorem dX6_budget_0 : decode cX6_budget 0 = .ok (.aload_n 0, 1) := by decide +kernel
theorem dX6_budget_1 : decode cX6_budget 1 = .ok (.iload_n 1, 1) := by decide +kernel
theorem dX6_budget_2 : decode cX6_budget 2 = .ok (.invokevirtual 83, 3) := by decide +kernel
theorem dX6_budget_5 : decode cX6_budget 5 = .ok (.astore_n 3, 1) := by decide +kernel
theorem dX6_budget_6 : decode cX6_budget 6 = .ok (.iload_n 2, 1) := by decide +kernel
theorem dX6_budget_7 : decode cX6_budget 7 = .ok (.iconst 0, 1) := by decide +kernel
theorem dX6_budget_8 : decode cX6_budget 8 = .ok (.sipush 128, 3) := by decide +kernel
theorem dX6_budget_11 : decode cX6_budget 11 = .ok (.invokestatic 36, 3) := by decide +kernel
theorem dX6_budget_14 : decode cX6_budget 14 = .ok (.aload_n 3, 1) := by decide +kernel
theorem dX6_budget_15 : decode cX6_budget 15 = .ok (.getfield 87, 3) := by decide +kernel
theorem dX6_budget_18 : decode cX6_budget 18 = .ok (.istore 4, 2) := by decide +kernel
theorem dX6_budget_20 : decode cX6_budget 20 = .ok (.aload_n 3, 1) := by decide +kernel
theorem dX6_budget_21 : decode cX6_budget 21 = .ok (.iload_n 2, 1) := by decide +kernel
theorem dX6_budget_22 : decode cX6_budget 22 = .ok (.putfield 87, 3) := by decide +kernel
theorem dX6_budget_25 : decode cX6_budget 25 = .ok (.iload 4, 2) := by decide +kernel
theorem dX6_budget_27 : decode cX6_budget 27 = .ok (.ireturn, 1) := by decide +kernel
set_option maxRecDepth 20000 in
theorem ggX6_right_X6_partyAt : GoodIn wsX6_right wsX6_partyAt := goodIn_ca (goodIn_r _ [8, 9, 10, 11, 12, 13, 14, 15, 16, 17, 18, 19, 20, 21, 22, 23, 24, 25, 26, 27, 28, 29, 30, 31, 32, 33, 34, 35, 64, 65, 66, 67, 68, 69, 70, 71, 72] (by decide +kernel) (by decide +kernel)) (goodIn_sub (fun _ h => List.mem_cons_of_mem _ (List.mem_append_left _ (List.mem_append_right _ h))) (by decide +kernel))
set_option maxRecDepth 20000 in
theorem gX6_right_X6_partyAt : GoodIn wsX6_right (wsV RX6 83 RX6 yX6_partyAt wsX6_partyAt) := goodIn_app (goodIn_of _ (by decide +kernel)) ggX6_right_X6_partyAt
set_option maxRecDepth 20000 in
theorem ggX6_right_X6_requireFile : GoodIn wsX6_right wsX6_requireFile := goodIn_ca (goodIn_r _ [39, 9, 10, 40, 13, 14, 15, 16, 17, 18, 64, 65, 66, 67, 68, 69, 70, 71, 72] (by decide +kernel) (by decide +kernel)) (goodIn_sub (fun _ h => List.mem_cons_of_mem _ (List.mem_append_left _ (List.mem_append_right _ h))) (by decide +kernel))
set_option maxRecDepth 20000 in
theorem gX6_right_X6_requireFile : GoodIn wsX6_right (wsV RX6 90 RX6 yX6_requireFile wsX6_requireFile) := goodIn_app (goodIn_of _ (by decide +kernel)) ggX6_right_X6_requireFile
set_option maxRecDepth 20000 in
theorem ggX6_right_X6_requireRange : GoodIn wsX6_right wsX6_requireRange := goodIn_ca (goodIn_r _ [43, 44, 45] (by decide +kernel) (by decide +kernel)) (goodIn_sub (fun _ h => List.mem_cons_of_mem _ (List.mem_append_right _ h)) (by decide +kernel))
set_option maxRecDepth 20000 in
theorem gX6_right_X6_requireRange : GoodIn wsX6_right (va_wsS RX6 36 yX6_requireRange wsX6_requireRange) := goodIn_app (goodIn_of _ (by decide +kernel)) ggX6_right_X6_requireRange
set_option maxRecDepth 20000 in
theorem ggX6_right_X5_init : GoodIn wsX6_right wsX5_init := goodIn_r _ [48, 49, 50, 51, 52, 53, 54, 61, 62, 63] (by decide +kernel) (by decide +kernel)
set_option maxRecDepth 20000 in
theorem gX6_right_X5_init : GoodIn wsX6_right (wsX5_init) := ggX6_right_X5_init
set_option maxRecDepth 20000 in
theorem ggX6_right_X4_setRight : GoodIn wsX6_right wsX4_setRight := goodIn_r _ [59, 60, 73, 74, 75, 76, 77] (by decide +kernel) (by decide +kernel)
set_option maxRecDepth 20000 in
theorem gX6_right_X4_setRight : GoodIn wsX6_right (wsV RX6 97 RX4 yX4_setRight wsX4_setRight) := goodIn_app (goodIn_of _ (by decide +kernel)) ggX6_right_X4_setRight
theorem dX6_right_0 : decode cX6_right 0 = .ok (.aload_n 0, 1) := by decide +kernel
theorem dX6_right_1 : decode cX6_right 1 = .ok (.iload_n 1, 1) := by decide +kernel
theorem dX6_right_2 : decode cX6_right 2 = .ok (.invokevirtual 83, 3) := by decide +kernel
theorem dX6_right_5 : decode cX6_right 5 = .ok (.astore 6, 2) := by decide +kernel
theorem dX6_right_7 : decode cX6_right 7 = .ok (.aload_n 0, 1) := by decide +kernel
theorem dX6_right_8 : decode cX6_right 8 = .ok (.iload_n 2, 1) := by decide +kernel
theorem dX6_right_9 : decode cX6_right 9 = .ok (.invokevirtual 90, 3) := by decide +kernel
theorem dX6_right_12 : decode cX6_right 12 = .ok (.iload_n 3, 1) := by decide +kernel
theorem dX6_right_13 : decode cX6_right 13 = .ok (.iconst 1, 1) := by decide +kernel
theorem dX6_right_14 : decode cX6_right 14 = .ok (.iconst 2, 1) := by decide +kernel
theorem dX6_right_15 : decode cX6_right 15 = .ok (.invokestatic 36, 3) := by decide +kernel
theorem dX6_right_18 : decode cX6_right 18 = .ok (.iload 4, 2) := by decide +kernel
theorem dX6_right_20 : decode cX6_right 20 = .ok (.iconst 0, 1) := by decide +kernel
theorem dX6_right_21 : decode cX6_right 21 = .ok (.sipush 5000, 3) := by decide +kernel
theorem dX6_right_24 : decode cX6_right 24 = .ok (.invokestatic 36, 3) := by decide +kernel
theorem dX6_right_27 : decode cX6_right 27 = .ok (.iload 5, 2) := by decide +kernel
theorem dX6_right_29 : decode cX6_right 29 = .ok (.iload 4, 2) := by decide +kernel
theorem dX6_right_31 : decode cX6_right 31 = .ok (.sipush 5000, 3) := by decide +kernel
theorem dX6_right_34 : decode cX6_right 34 = .ok (.invokestatic 36, 3) := by decide +kernel
theorem dX6_right_37 : decode cX6_right 37 = .ok (.aload 6, 2) := by decide +kernel
theorem dX6_right_39 : decode cX6_right 39 = .ok (.iload_n 2, 1) := by decide +kernel
theorem dX6_right_40 : decode cX6_right 40 = .ok (.new 93, 3) := by decide +kernel
theorem dX6_right_43 : decode cX6_right 43 = .ok (.dup, 1) := by decide +kernel
theorem dX6_right_44 : decode cX6_right 44 = .ok (.iload_n 3, 1) := by decide +kernel
theorem dX6_right_45 : decode cX6_right 45 = .ok (.iload 4, 2) := by decide +kernel
theorem dX6_right_47 : decode cX6_right 47 = .ok (.iload 5, 2) := by decide +kernel
theorem dX6_right_49 : decode cX6_right 49 = .ok (.invokespecial 95, 3) := by decide +kernel
theorem dX6_right_52 : decode cX6_right 52 = .ok (.invokevirtual 97, 3) := by decide +kernel
theorem dX6_right_55 : decode cX6_right 55 = .ok (.return_, 1) := by decide +kernel
set_option maxRecDepth 20000 in
theorem ggX6_takeBack_X6_partyAt : GoodIn wsX6_takeBack wsX6_partyAt := goodIn_ca (goodIn_r _ [5, 6, 7, 8, 9, 10, 11, 12, 13, 14, 15, 16, 17, 18, 19, 20, 21, 22, 23, 24, 25, 26, 27, 28, 29, 30, 31, 32, 90, 91, 92, 93, 94, 95, 96, 97, 98] (by decide +kernel) (by decide +kernel)) (goodIn_sub (fun _ h => List.mem_cons_of_mem _ (List.mem_append_right _ h)) (by decide +kernel))
set_option maxRecDepth 20000 in
theorem gX6_takeBack_X6_partyAt : GoodIn wsX6_takeBack (wsV RX6 83 RX6 yX6_partyAt wsX6_partyAt) := goodIn_app (goodIn_of _ (by decide +kernel)) ggX6_takeBack_X6_partyAt
set_option maxRecDepth 20000 in
theorem ggX6_takeBack_X6_requireFile : GoodIn wsX6_takeBack wsX6_requireFile := goodIn_ca (goodIn_r _ [36, 6, 7, 37, 10, 11, 12, 13, 14, 15, 90, 91, 92, 93, 94, 95, 96, 97, 98] (by decide +kernel) (by decide +kernel)) (goodIn_sub (fun _ h => List.mem_cons_of_mem _ (List.mem_append_right _ h)) (by decide +kernel))
set_option maxRecDepth 20000 in
theorem gX6_takeBack_X6_requireFile : GoodIn wsX6_takeBack (wsV RX6 90 RX6 yX6_requireFile wsX6_requireFile) := goodIn_app (goodIn_of _ (by decide +kernel)) ggX6_takeBack_X6_requireFile
set_option maxRecDepth 20000 in
theorem ggX6_takeBack_X4_rightFor : GoodIn wsX6_takeBack wsX4_rightFor := goodIn_r _ [42, 43, 99, 100, 101, 102, 103] (by decide +kernel) (by decide +kernel)
set_option maxRecDepth 20000 in
theorem gX6_takeBack_X4_rightFor : GoodIn wsX6_takeBack (wsV RX6 101 RX4 yX4_rightFor wsX4_rightFor) := goodIn_app (goodIn_of _ (by decide +kernel)) ggX6_takeBack_X4_rightFor
set_option maxRecDepth 20000 in
theorem ggX6_takeBack_X4_setRight : GoodIn wsX6_takeBack wsX4_setRight := goodIn_r _ [47, 43, 99, 100, 101, 102, 103] (by decide +kernel) (by decide +kernel)
set_option maxRecDepth 20000 in
theorem gX6_takeBack_X4_setRight : GoodIn wsX6_takeBack (wsV RX6 97 RX4 yX4_setRight wsX4_setRight) := goodIn_app (goodIn_of _ (by decide +kernel)) ggX6_takeBack_X4_setRight
set_option maxRecDepth 20000 in
theorem ggX6_takeBack_X6_recall : GoodIn wsX6_takeBack wsX6_recall := goodIn_r _ [51, 52, 53, 10, 11, 12, 13, 14, 15, 16, 17, 18, 19, 20, 21, 22, 23, 24, 25, 26, 27, 28, 29, 30, 31, 32, 54, 55, 56, 57, 58, 59, 60, 61, 62, 4, 63, 64, 65, 66, 67, 68, 69, 70, 41, 71, 72, 73, 74, 75, 76, 77, 78, 79, 80, 81, 82, 83, 84, 85, 86, 87, 88, 89, 90, 91, 92, 93, 94, 95, 104, 105, 106, 107, 108, 109, 96, 97, 98, 99, 100, 101, 102, 103, 110, 111] (by decide +kernel) (by decide +kernel)
set_option maxRecDepth 20000 in
theorem gX6_takeBack_X6_recall : GoodIn wsX6_takeBack (wsV RX6 74 RX6 yX6_recall wsX6_recall) := goodIn_app (goodIn_of _ (by decide +kernel)) ggX6_takeBack_X6_recall
theorem dX6_takeBack_0 : decode cX6_takeBack 0 = .ok (.aload_n 0, 1) := by decide +kernel
theorem dX6_takeBack_1 : decode cX6_takeBack 1 = .ok (.iload_n 1, 1) := by decide +kernel
theorem dX6_takeBack_2 : decode cX6_takeBack 2 = .ok (.invokevirtual 83, 3) := by decide +kernel
theorem dX6_takeBack_5 : decode cX6_takeBack 5 = .ok (.astore_n 3, 1) := by decide +kernel
theorem dX6_takeBack_6 : decode cX6_takeBack 6 = .ok (.aload_n 0, 1) := by decide +kernel
theorem dX6_takeBack_7 : decode cX6_takeBack 7 = .ok (.iload_n 2, 1) := by decide +kernel
theorem dX6_takeBack_8 : decode cX6_takeBack 8 = .ok (.invokevirtual 90, 3) := by decide +kernel
theorem dX6_takeBack_11 : decode cX6_takeBack 11 = .ok (.aload_n 3, 1) := by decide +kernel
theorem dX6_takeBack_12 : decode cX6_takeBack 12 = .ok (.iload_n 2, 1) := by decide +kernel
theorem dX6_takeBack_13 : decode cX6_takeBack 13 = .ok (.invokevirtual 101, 3) := by decide +kernel
theorem dX6_takeBack_16 : decode cX6_takeBack 16 = .ok (.ifnonnull 5, 3) := by decide +kernel
theorem dX6_takeBack_19 : decode cX6_takeBack 19 = .ok (.iconst 0, 1) := by decide +kernel
theorem dX6_takeBack_20 : decode cX6_takeBack 20 = .ok (.ireturn, 1) := by decide +kernel
theorem dX6_takeBack_21 : decode cX6_takeBack 21 = .ok (.aload_n 3, 1) := by decide +kernel
theorem dX6_takeBack_22 : decode cX6_takeBack 22 = .ok (.iload_n 2, 1) := by decide +kernel
theorem dX6_takeBack_23 : decode cX6_takeBack 23 = .ok (.aconst_null, 1) := by decide +kernel
theorem dX6_takeBack_24 : decode cX6_takeBack 24 = .ok (.invokevirtual 97, 3) := by decide +kernel
theorem dX6_takeBack_27 : decode cX6_takeBack 27 = .ok (.aload_n 0, 1) := by decide +kernel
theorem dX6_takeBack_28 : decode cX6_takeBack 28 = .ok (.aload_n 3, 1) := by decide +kernel
theorem dX6_takeBack_29 : decode cX6_takeBack 29 = .ok (.iload_n 2, 1) := by decide +kernel
theorem dX6_takeBack_30 : decode cX6_takeBack 30 = .ok (.invokevirtual 74, 3) := by decide +kernel
theorem dX6_takeBack_33 : decode cX6_takeBack 33 = .ok (.ireturn, 1) := by decide +kernel
set_option maxRecDepth 20000 in
theorem ggX6_seal_X6_fileAt : GoodIn wsX6_seal wsX6_fileAt := goodIn_ca (goodIn_r _ [5, 6, 7, 8, 9, 10, 4, 11, 12, 13, 14, 15, 16, 17, 18, 19, 20, 21, 22, 23, 24, 25, 26, 27, 28, 29, 30, 31, 32, 33, 34, 35, 36, 44, 45, 46, 47, 48, 49, 50, 51, 52] (by decide +kernel) (by decide +kernel)) (goodIn_sub (fun _ h => List.mem_cons_of_mem _ (List.mem_append_left _ (List.mem_append_right _ h))) (by decide +kernel))
set_option maxRecDepth 20000 in
theorem gX6_seal_X6_fileAt : GoodIn wsX6_seal (wsV RX6 60 RX6 yX6_fileAt wsX6_fileAt) := goodIn_app (goodIn_of _ (by decide +kernel)) ggX6_seal_X6_fileAt
set_option maxRecDepth 20000 in
theorem ggX6_seal_X6_requireRange : GoodIn wsX6_seal wsX6_requireRange := goodIn_ca (goodIn_r _ [39, 40, 41] (by decide +kernel) (by decide +kernel)) (goodIn_sub (fun _ h => List.mem_cons_of_mem _ (List.mem_append_right _ h)) (by decide +kernel))
set_option maxRecDepth 20000 in
theorem gX6_seal_X6_requireRange : GoodIn wsX6_seal (va_wsS RX6 36 yX6_requireRange wsX6_requireRange) := goodIn_app (goodIn_of _ (by decide +kernel)) ggX6_seal_X6_requireRange
theorem dX6_seal_0 : decode cX6_seal 0 = .ok (.aload_n 0, 1) := by decide +kernel
theorem dX6_seal_1 : decode cX6_seal 1 = .ok (.iload_n 1, 1) := by decide +kernel
theorem dX6_seal_2 : decode cX6_seal 2 = .ok (.invokevirtual 60, 3) := by decide +kernel
theorem dX6_seal_5 : decode cX6_seal 5 = .ok (.astore_n 3, 1) := by decide +kernel
theorem dX6_seal_6 : decode cX6_seal 6 = .ok (.iload_n 2, 1) := by decide +kernel
theorem dX6_seal_7 : decode cX6_seal 7 = .ok (.iconst 0, 1) := by decide +kernel
theorem dX6_seal_8 : decode cX6_seal 8 = .ok (.sipush 5000, 3) := by decide +kernel
theorem dX6_seal_11 : decode cX6_seal 11 = .ok (.invokestatic 36, 3) := by decide +kernel
theorem dX6_seal_14 : decode cX6_seal 14 = .ok (.aload_n 3, 1) := by decide +kernel
theorem dX6_seal_15 : decode cX6_seal 15 = .ok (.iload_n 2, 1) := by decide +kernel
theorem dX6_seal_16 : decode cX6_seal 16 = .ok (.putfield 105, 3) := by decide +kernel
theorem dX6_seal_19 : decode cX6_seal 19 = .ok (.return_, 1) := by decide +kernel
set_option maxRecDepth 20000 in
theorem ggX6_pass_X6_requireRange : GoodIn wsX6_pass wsX6_requireRange := goodIn_ca (goodIn_r _ [7, 8, 9] (by decide +kernel) (by decide +kernel)) (goodIn_sub (fun _ h => List.mem_cons_of_mem _ (List.mem_append_right _ h)) (by decide +kernel))
set_option maxRecDepth 20000 in
theorem gX6_pass_X6_requireRange : GoodIn wsX6_pass (va_wsS RX6 36 yX6_requireRange wsX6_requireRange) := goodIn_app (goodIn_of _ (by decide +kernel)) ggX6_pass_X6_requireRange
theorem dX6_pass_0 : decode cX6_pass 0 = .ok (.iload_n 1, 1) := by decide +kernel
theorem dX6_pass_1 : decode cX6_pass 1 = .ok (.iconst 1, 1) := by decide +kernel
theorem dX6_pass_2 : decode cX6_pass 2 = .ok (.sipush 500, 3) := by decide +kernel
theorem dX6_pass_5 : decode cX6_pass 5 = .ok (.invokestatic 36, 3) := by decide +kernel
theorem dX6_pass_8 : decode cX6_pass 8 = .ok (.aload_n 0, 1) := by decide +kernel
theorem dX6_pass_9 : decode cX6_pass 9 = .ok (.getfield 108, 3) := by decide +kernel
theorem dX6_pass_12 : decode cX6_pass 12 = .ok (.iload_n 1, 1) := by decide +kernel
theorem dX6_pass_13 : decode cX6_pass 13 = .ok (.iadd, 1) := by decide +kernel
theorem dX6_pass_14 : decode cX6_pass 14 = .ok (.sipush 5000, 3) := by decide +kernel
theorem dX6_pass_17 : decode cX6_pass 17 = .ok (.if_icmp .le 13, 3) := by decide +kernel
theorem dX6_pass_20 : decode cX6_pass 20 = .ok (.new 44, 3) := by decide +kernel
theorem dX6_pass_23 : decode cX6_pass 23 = .ok (.dup, 1) := by decide +kernel
theorem dX6_pass_24 : decode cX6_pass 24 = .ok (.ldc 111, 2) := by decide +kernel
theorem dX6_pass_26 : decode cX6_pass 26 = .ok (.invokespecial 48, 3) := by decide +kernel
theorem dX6_pass_29 : decode cX6_pass 29 = .ok (.athrow, 1) := by decide +kernel
theorem dX6_pass_30 : decode cX6_pass 30 = .ok (.aload_n 0, 1) := by decide +kernel
theorem dX6_pass_31 : decode cX6_pass 31 = .ok (.dup, 1) := by decide +kernel
theorem dX6_pass_32 : decode cX6_pass 32 = .ok (.getfield 108, 3) := by decide +kernel
theorem dX6_pass_35 : decode cX6_pass 35 = .ok (.iload_n 1, 1) := by decide +kernel
theorem dX6_pass_36 : decode cX6_pass 36 = .ok (.iadd, 1) := by decide +kernel
theorem dX6_pass_37 : decode cX6_pass 37 = .ok (.putfield 108, 3) := by decide +kernel
theorem dX6_pass_40 : decode cX6_pass 40 = .ok (.aload_n 0, 1) := by decide +kernel
theorem dX6_pass_41 : decode cX6_pass 41 = .ok (.getfield 108, 3) := by decide +kernel
theorem dX6_pass_44 : decode cX6_pass 44 = .ok (.ireturn, 1) := by decide +kernel
set_option maxRecDepth 20000 in
theorem ggX6_ask_X6_partyAt : GoodIn wsX6_ask wsX6_partyAt := goodIn_ca (goodIn_r _ [12, 13, 14, 15, 16, 17, 18, 19, 20, 21, 22, 23, 24, 25, 26, 27, 28, 29, 30, 31, 32, 33, 34, 35, 36, 37, 38, 39, 203, 204, 205, 206, 207, 208, 220, 221, 222] (by decide +kernel) (by decide +kernel)) (goodIn_sub (fun _ h => List.mem_cons_of_mem _ (List.mem_append_left _ (List.mem_append_right _ h))) (by decide +kernel))
set_option maxRecDepth 20000 in
theorem gX6_ask_X6_partyAt : GoodIn wsX6_ask (wsV RX6 83 RX6 yX6_partyAt wsX6_partyAt) := goodIn_app (goodIn_of _ (by decide +kernel)) ggX6_ask_X6_partyAt
set_option maxRecDepth 20000 in
theorem ggX6_ask_X6_requireQuestion : GoodIn wsX6_ask wsX6_requireQuestion := goodIn_ca (goodIn_r _ [43, 44, 17, 18, 19, 20, 21, 22, 45, 46, 11, 47, 48, 49, 203, 204, 205, 206, 207, 208, 220, 221, 222] (by decide +kernel) (by decide +kernel)) (goodIn_sub (fun _ h => List.mem_cons_of_mem _ (List.mem_append_right _ h)) (by decide +kernel))
set_option maxRecDepth 20000 in
theorem gX6_ask_X6_requireQuestion : GoodIn wsX6_ask (wsV RX6 113 RX6 yX6_requireQuestion wsX6_requireQuestion) := goodIn_app (goodIn_of _ (by decide +kernel)) ggX6_ask_X6_requireQuestion
set_option maxRecDepth 20000 in
theorem ggX6_ask_Jx4a65c_size_8abf5 : GoodIn wsX6_ask wsJx4a65c_size_8abf5 := goodIn_r _ [21, 22, 220, 221, 222] (by decide +kernel) (by decide +kernel)
set_option maxRecDepth 20000 in
theorem gX6_ask_Jx4a65c_size_8abf5 : GoodIn wsX6_ask (wsV RX6 40 RJx4a65c yJx4a65c_size_8abf5 wsJx4a65c_size_8abf5) := goodIn_app (goodIn_of _ (by decide +kernel)) ggX6_ask_Jx4a65c_size_8abf5
set_option maxRecDepth 20000 in
theorem ggX6_ask_X6_refusalOf : GoodIn wsX6_ask wsX6_refusalOf := goodIn_r _ [53, 7, 54, 55, 56, 11, 57, 44, 17, 18, 19, 20, 21, 22, 58, 59, 60, 61, 62, 63, 64, 65, 66, 67, 68, 69, 70, 71, 72, 73, 74, 75, 76, 77, 78, 79, 80, 81, 82, 83, 23, 24, 25, 26, 27, 28, 29, 30, 31, 32, 33, 34, 35, 36, 37, 38, 39, 84, 85, 86, 87, 88, 89, 90, 91, 92, 93, 94, 95, 96, 97, 98, 99, 100, 101, 102, 103, 104, 105, 106, 107, 108, 109, 110, 111, 112, 113, 114, 115, 116, 117, 118, 119, 120, 203, 204, 205, 206, 207, 208, 215, 216, 217, 218, 219, 220, 221, 222, 223, 224, 225, 226, 227, 228, 229] (by decide +kernel) (by decide +kernel)
set_option maxRecDepth 20000 in
theorem gX6_ask_X6_refusalOf : GoodIn wsX6_ask (wsV RX6 118 RX6 yX6_refusalOf wsX6_refusalOf) := goodIn_app (goodIn_of _ (by decide +kernel)) ggX6_ask_X6_refusalOf
set_option maxRecDepth 20000 in
theorem ggX6_ask_X4_countQuestion : GoodIn wsX6_ask wsX4_countQuestion := goodIn_r _ [124, 125, 215, 216, 217, 218, 219] (by decide +kernel) (by decide +kernel)
set_option maxRecDepth 20000 in
theorem gX6_ask_X4_countQuestion : GoodIn wsX6_ask (wsV RX6 122 RX4 yX4_countQuestion wsX4_countQuestion) := goodIn_app (goodIn_of _ (by decide +kernel)) ggX6_ask_X4_countQuestion
set_option maxRecDepth 20000 in
theorem ggX6_ask_X6_sumOf : GoodIn wsX6_ask wsX6_sumOf := goodIn_r _ [129, 44, 83, 17, 18, 19, 20, 21, 22, 58, 59, 11, 60, 23, 24, 25, 26, 27, 28, 29, 30, 31, 32, 33, 34, 35, 36, 37, 38, 39, 203, 204, 205, 206, 207, 208, 226, 227, 220, 221, 222] (by decide +kernel) (by decide +kernel)
set_option maxRecDepth 20000 in
theorem gX6_ask_X6_sumOf : GoodIn wsX6_ask (wsV RX6 125 RX6 yX6_sumOf wsX6_sumOf) := goodIn_app (goodIn_of _ (by decide +kernel)) ggX6_ask_X6_sumOf
set_option maxRecDepth 20000 in
theorem ggX6_ask_X0_init : GoodIn wsX6_ask wsX0_init := goodIn_r _ [132, 133, 134, 135, 136, 137, 138, 139, 140, 209, 210, 211, 212, 213, 214] (by decide +kernel) (by decide +kernel)
set_option maxRecDepth 20000 in
theorem gX6_ask_X0_init : GoodIn wsX6_ask (wsX0_init) := ggX6_ask_X0_init
set_option maxRecDepth 20000 in
theorem ggX6_ask_Jx4a65c_add_9ea2d : GoodIn wsX6_ask wsJx4a65c_add_9ea2d := goodIn_r _ [144, 145, 146, 39, 22, 147, 148, 149, 20, 150, 151, 152, 153, 154, 155, 156, 157, 158, 159, 160, 161, 162, 163, 164, 165, 166, 167, 168, 169, 170, 171, 172, 173, 174, 175, 176, 177, 178, 179, 180, 181, 182, 183, 184, 185, 186, 187, 188, 189, 190, 191, 192, 193, 220, 221, 222] (by decide +kernel) (by decide +kernel)
set_option maxRecDepth 20000 in
theorem gX6_ask_Jx4a65c_add_9ea2d : GoodIn wsX6_ask (wsV RX6 56 RJx4a65c yJx4a65c_add_9ea2d wsJx4a65c_add_9ea2d) := goodIn_app (goodIn_of _ (by decide +kernel)) ggX6_ask_Jx4a65c_add_9ea2d
set_option maxRecDepth 20000 in
theorem ggX6_ask_X4_learn : GoodIn wsX6_ask wsX4_learn := goodIn_r _ [197, 99, 100, 11, 101, 198, 199, 200, 105, 201, 111, 202, 59, 60, 215, 216, 217, 218, 219, 228, 229] (by decide +kernel) (by decide +kernel)
set_option maxRecDepth 20000 in
theorem gX6_ask_X4_learn : GoodIn wsX6_ask (wsV RX6 137 RX4 yX4_learn wsX4_learn) := goodIn_app (goodIn_of _ (by decide +kernel)) ggX6_ask_X4_learn
theorem dX6_ask_0 : decode cX6_ask 0 = .ok (.aload_n 0, 1) := by decide +kernel
theorem dX6_ask_1 : decode cX6_ask 1 = .ok (.iload_n 1, 1) := by decide +kernel
theorem dX6_ask_2 : decode cX6_ask 2 = .ok (.invokevirtual 83, 3) := by decide +kernel
theorem dX6_ask_5 : decode cX6_ask 5 = .ok (.astore 4, 2) := by decide +kernel
theorem dX6_ask_7 : decode cX6_ask 7 = .ok (.aload_n 0, 1) := by decide +kernel
theorem dX6_ask_8 : decode cX6_ask 8 = .ok (.iload_n 2, 1) := by decide +kernel
theorem dX6_ask_9 : decode cX6_ask 9 = .ok (.iload_n 3, 1) := by decide +kernel
theorem dX6_ask_10 : decode cX6_ask 10 = .ok (.invokevirtual 113, 3) := by decide +kernel
theorem dX6_ask_13 : decode cX6_ask 13 = .ok (.aload_n 0, 1) := by decide +kernel
theorem dX6_ask_14 : decode cX6_ask 14 = .ok (.getfield 19, 3) := by decide +kernel
theorem dX6_ask_17 : decode cX6_ask 17 = .ok (.invokevirtual 40, 3) := by decide +kernel
theorem dX6_ask_20 : decode cX6_ask 20 = .ok (.sipush 150, 3) := by decide +kernel
theorem dX6_ask_23 : decode cX6_ask 23 = .ok (.if_icmp .lt 13, 3) := by decide +kernel
theorem dX6_ask_26 : decode cX6_ask 26 = .ok (.new 44, 3) := by decide +kernel
theorem dX6_ask_29 : decode cX6_ask 29 = .ok (.dup, 1) := by decide +kernel
theorem dX6_ask_30 : decode cX6_ask 30 = .ok (.ldc 116, 2) := by decide +kernel
theorem dX6_ask_32 : decode cX6_ask 32 = .ok (.invokespecial 48, 3) := by decide +kernel
theorem dX6_ask_35 : decode cX6_ask 35 = .ok (.athrow, 1) := by decide +kernel
theorem dX6_ask_36 : decode cX6_ask 36 = .ok (.aload_n 0, 1) := by decide +kernel
theorem dX6_ask_37 : decode cX6_ask 37 = .ok (.aload 4, 2) := by decide +kernel
theorem dX6_ask_39 : decode cX6_ask 39 = .ok (.iload_n 2, 1) := by decide +kernel
theorem dX6_ask_40 : decode cX6_ask 40 = .ok (.iload_n 3, 1) := by decide +kernel
theorem dX6_ask_41 : decode cX6_ask 41 = .ok (.invokevirtual 118, 3) := by decide +kernel
theorem dX6_ask_44 : decode cX6_ask 44 = .ok (.istore 5, 2) := by decide +kernel
theorem dX6_ask_46 : decode cX6_ask 46 = .ok (.aload 4, 2) := by decide +kernel
theorem dX6_ask_48 : decode cX6_ask 48 = .ok (.iload 5, 2) := by decide +kernel
theorem dX6_ask_50 : decode cX6_ask 50 = .ok (.invokevirtual 122, 3) := by decide +kernel
theorem dX6_ask_53 : decode cX6_ask 53 = .ok (.iload 5, 2) := by decide +kernel
theorem dX6_ask_55 : decode cX6_ask 55 = .ok (.ifCond .eq 6, 3) := by decide +kernel
theorem dX6_ask_58 : decode cX6_ask 58 = .ok (.iload 5, 2) := by decide +kernel
theorem dX6_ask_60 : decode cX6_ask 60 = .ok (.ireturn, 1) := by decide +kernel
theorem dX6_ask_61 : decode cX6_ask 61 = .ok (.aload_n 0, 1) := by decide +kernel
theorem dX6_ask_62 : decode cX6_ask 62 = .ok (.iload_n 2, 1) := by decide +kernel
theorem dX6_ask_63 : decode cX6_ask 63 = .ok (.iload_n 3, 1) := by decide +kernel
theorem dX6_ask_64 : decode cX6_ask 64 = .ok (.invokevirtual 125, 3) := by decide +kernel
theorem dX6_ask_67 : decode cX6_ask 67 = .ok (.istore 6, 2) := by decide +kernel
theorem dX6_ask_69 : decode cX6_ask 69 = .ok (.aload_n 0, 1) := by decide +kernel
theorem dX6_ask_70 : decode cX6_ask 70 = .ok (.getfield 19, 3) := by decide +kernel
theorem dX6_ask_73 : decode cX6_ask 73 = .ok (.new 129, 3) := by decide +kernel
theorem dX6_ask_76 : decode cX6_ask 76 = .ok (.dup, 1) := by decide +kernel
theorem dX6_ask_77 : decode cX6_ask 77 = .ok (.aload 4, 2) := by decide +kernel
theorem dX6_ask_79 : decode cX6_ask 79 = .ok (.getfield 131, 3) := by decide +kernel
theorem dX6_ask_82 : decode cX6_ask 82 = .ok (.iload_n 2, 1) := by decide +kernel
theorem dX6_ask_83 : decode cX6_ask 83 = .ok (.iload_n 3, 1) := by decide +kernel
theorem dX6_ask_84 : decode cX6_ask 84 = .ok (.iload 6, 2) := by decide +kernel
theorem dX6_ask_86 : decode cX6_ask 86 = .ok (.aload_n 0, 1) := by decide +kernel
theorem dX6_ask_87 : decode cX6_ask 87 = .ok (.getfield 108, 3) := by decide +kernel
theorem dX6_ask_90 : decode cX6_ask 90 = .ok (.invokespecial 134, 3) := by decide +kernel
theorem dX6_ask_93 : decode cX6_ask 93 = .ok (.invokevirtual 56, 3) := by decide +kernel
theorem dX6_ask_96 : decode cX6_ask 96 = .ok (.pop, 1) := by decide +kernel
theorem dX6_ask_97 : decode cX6_ask 97 = .ok (.aload 4, 2) := by decide +kernel
theorem dX6_ask_99 : decode cX6_ask 99 = .ok (.iload_n 2, 1) := by decide +kernel
theorem dX6_ask_100 : decode cX6_ask 100 = .ok (.iload_n 3, 1) := by decide +kernel
theorem dX6_ask_101 : decode cX6_ask 101 = .ok (.invokevirtual 137, 3) := by decide +kernel
theorem dX6_ask_104 : decode cX6_ask 104 = .ok (.iload 6, 2) := by decide +kernel
theorem dX6_ask_106 : decode cX6_ask 106 = .ok (.ireturn, 1) := by decide +kernel
set_option maxRecDepth 20000 in
theorem ggX6_cost_X6_partyAt : GoodIn wsX6_cost wsX6_partyAt := goodIn_ca (goodIn_r _ [5, 6, 7, 8, 9, 10, 11, 12, 13, 14, 15, 16, 17, 18, 19, 20, 21, 22, 23, 24, 25, 26, 27, 28, 29, 30, 31, 32, 59, 60, 61, 62, 63, 64, 65, 66, 67] (by decide +kernel) (by decide +kernel)) (goodIn_sub (fun _ h => List.mem_cons_of_mem _ (List.mem_append_left _ (List.mem_append_right _ h))) (by decide +kernel))
set_option maxRecDepth 20000 in
theorem gX6_cost_X6_partyAt : GoodIn wsX6_cost (wsV RX6 83 RX6 yX6_partyAt wsX6_partyAt) := goodIn_app (goodIn_of _ (by decide +kernel)) ggX6_cost_X6_partyAt
set_option maxRecDepth 20000 in
theorem ggX6_cost_X6_requireQuestion : GoodIn wsX6_cost wsX6_requireQuestion := goodIn_ca (goodIn_r _ [36, 37, 10, 11, 12, 13, 14, 15, 38, 39, 4, 40, 41, 42, 59, 60, 61, 62, 63, 64, 65, 66, 67] (by decide +kernel) (by decide +kernel)) (goodIn_sub (fun _ h => List.mem_cons_of_mem _ (List.mem_append_right _ h)) (by decide +kernel))
set_option maxRecDepth 20000 in
theorem gX6_cost_X6_requireQuestion : GoodIn wsX6_cost (wsV RX6 113 RX6 yX6_requireQuestion wsX6_requireQuestion) := goodIn_app (goodIn_of _ (by decide +kernel)) ggX6_cost_X6_requireQuestion
set_option maxRecDepth 20000 in
theorem ggX6_cost_X4_costOf : GoodIn wsX6_cost wsX4_costOf := goodIn_r _ [47, 48, 49, 4, 50, 51, 52, 53, 54, 55, 56, 57, 58, 68, 69, 70, 71, 72, 73, 74] (by decide +kernel) (by decide +kernel)
set_option maxRecDepth 20000 in
theorem gX6_cost_X4_costOf : GoodIn wsX6_cost (wsV RX6 140 RX4 yX4_costOf wsX4_costOf) := goodIn_app (goodIn_of _ (by decide +kernel)) ggX6_cost_X4_costOf
theorem dX6_cost_0 : decode cX6_cost 0 = .ok (.aload_n 0, 1) := by decide +kernel
theorem dX6_cost_1 : decode cX6_cost 1 = .ok (.iload_n 1, 1) := by decide +kernel
theorem dX6_cost_2 : decode cX6_cost 2 = .ok (.invokevirtual 83, 3) := by decide +kernel
theorem dX6_cost_5 : decode cX6_cost 5 = .ok (.astore 4, 2) := by decide +kernel
theorem dX6_cost_7 : decode cX6_cost 7 = .ok (.aload_n 0, 1) := by decide +kernel
theorem dX6_cost_8 : decode cX6_cost 8 = .ok (.iload_n 2, 1) := by decide +kernel
theorem dX6_cost_9 : decode cX6_cost 9 = .ok (.iload_n 3, 1) := by decide +kernel
theorem dX6_cost_10 : decode cX6_cost 10 = .ok (.invokevirtual 113, 3) := by decide +kernel
theorem dX6_cost_13 : decode cX6_cost 13 = .ok (.aload 4, 2) := by decide +kernel
theorem dX6_cost_15 : decode cX6_cost 15 = .ok (.iload_n 2, 1) := by decide +kernel
theorem dX6_cost_16 : decode cX6_cost 16 = .ok (.iload_n 3, 1) := by decide +kernel
theorem dX6_cost_17 : decode cX6_cost 17 = .ok (.invokevirtual 140, 3) := by decide +kernel
theorem dX6_cost_20 : decode cX6_cost 20 = .ok (.ireturn, 1) := by decide +kernel
set_option maxRecDepth 20000 in
theorem ggX6_answer_Jx4a65c_size_8abf5 : GoodIn wsX6_answer wsJx4a65c_size_8abf5 := goodIn_r _ [9, 10, 51, 52, 53] (by decide +kernel) (by decide +kernel)
set_option maxRecDepth 20000 in
theorem gX6_answer_Jx4a65c_size_8abf5 : GoodIn wsX6_answer (wsV RX6 40 RJx4a65c yJx4a65c_size_8abf5 wsJx4a65c_size_8abf5) := goodIn_app (goodIn_of _ (by decide +kernel)) ggX6_answer_Jx4a65c_size_8abf5
set_option maxRecDepth 20000 in
theorem ggX6_answer_X6_requireRange : GoodIn wsX6_answer wsX6_requireRange := goodIn_ca (goodIn_r _ [14, 15, 16] (by decide +kernel) (by decide +kernel)) (goodIn_sub (fun _ h => List.mem_cons_of_mem _ (List.mem_append_right _ h)) (by decide +kernel))
set_option maxRecDepth 20000 in
theorem gX6_answer_X6_requireRange : GoodIn wsX6_answer (va_wsS RX6 36 yX6_requireRange wsX6_requireRange) := goodIn_app (goodIn_of _ (by decide +kernel)) ggX6_answer_X6_requireRange
set_option maxRecDepth 20000 in
theorem ggX6_answer_Jx4a65c_get_915e3 : GoodIn wsX6_answer wsJx4a65c_get_915e3 := goodIn_r _ [20, 10, 21, 22, 23, 24, 25, 26, 27, 28, 29, 30, 31, 8, 32, 33, 51, 52, 53] (by decide +kernel) (by decide +kernel)
set_option maxRecDepth 20000 in
theorem gX6_answer_Jx4a65c_get_915e3 : GoodIn wsX6_answer (wsV RX6 68 RJx4a65c yJx4a65c_get_915e3 wsJx4a65c_get_915e3) := goodIn_app (goodIn_of _ (by decide +kernel)) ggX6_answer_Jx4a65c_get_915e3
set_option maxRecDepth 20000 in
theorem ggX6_answer_X0_tell : GoodIn wsX6_answer wsX0_tell := goodIn_r _ [38, 39, 40, 41, 42, 43, 44, 54, 55, 56, 57, 58, 59] (by decide +kernel) (by decide +kernel)
set_option maxRecDepth 20000 in
theorem gX6_answer_X0_tell : GoodIn wsX6_answer (wsV RX6 148 RX0 yX0_tell wsX0_tell) := goodIn_app (goodIn_of _ (by decide +kernel)) ggX6_answer_X0_tell
theorem dX6_answer_0 : decode cX6_answer 0 = .ok (.iload_n 1, 1) := by decide +kernel
theorem dX6_answer_1 : decode cX6_answer 1 = .ok (.ifCond .lt 14, 3) := by decide +kernel
theorem dX6_answer_4 : decode cX6_answer 4 = .ok (.iload_n 1, 1) := by decide +kernel
theorem dX6_answer_5 : decode cX6_answer 5 = .ok (.aload_n 0, 1) := by decide +kernel
theorem dX6_answer_6 : decode cX6_answer 6 = .ok (.getfield 19, 3) := by decide +kernel
theorem dX6_answer_9 : decode cX6_answer 9 = .ok (.invokevirtual 40, 3) := by decide +kernel
theorem dX6_answer_12 : decode cX6_answer 12 = .ok (.if_icmp .lt 13, 3) := by decide +kernel
theorem dX6_answer_15 : decode cX6_answer 15 = .ok (.new 143, 3) := by decide +kernel
theorem dX6_answer_18 : decode cX6_answer 18 = .ok (.dup, 1) := by decide +kernel
theorem dX6_answer_19 : decode cX6_answer 19 = .ok (.ldc 145, 2) := by decide +kernel
theorem dX6_answer_21 : decode cX6_answer 21 = .ok (.invokespecial 147, 3) := by decide +kernel
theorem dX6_answer_24 : decode cX6_answer 24 = .ok (.athrow, 1) := by decide +kernel
theorem dX6_answer_25 : decode cX6_answer 25 = .ok (.iload_n 2, 1) := by decide +kernel
theorem dX6_answer_26 : decode cX6_answer 26 = .ok (.iconst 0, 1) := by decide +kernel
theorem dX6_answer_27 : decode cX6_answer 27 = .ok (.iconst 5, 1) := by decide +kernel
theorem dX6_answer_28 : decode cX6_answer 28 = .ok (.invokestatic 36, 3) := by decide +kernel
theorem dX6_answer_31 : decode cX6_answer 31 = .ok (.aload_n 0, 1) := by decide +kernel
theorem dX6_answer_32 : decode cX6_answer 32 = .ok (.getfield 19, 3) := by decide +kernel
theorem dX6_answer_35 : decode cX6_answer 35 = .ok (.iload_n 1, 1) := by decide +kernel
theorem dX6_answer_36 : decode cX6_answer 36 = .ok (.invokevirtual 68, 3) := by decide +kernel
theorem dX6_answer_39 : decode cX6_answer 39 = .ok (.checkcast 129, 3) := by decide +kernel
theorem dX6_answer_42 : decode cX6_answer 42 = .ok (.iload_n 2, 1) := by decide +kernel
theorem dX6_answer_43 : decode cX6_answer 43 = .ok (.invokevirtual 148, 3) := by decide +kernel
theorem dX6_answer_46 : decode cX6_answer 46 = .ok (.ireturn, 1) := by decide +kernel
set_option maxRecDepth 20000 in
theorem ggX6_spent_X6_partyAt : GoodIn wsX6_spent wsX6_partyAt := goodIn_ca (goodIn_r _ [5, 6, 7, 8, 9, 10, 11, 12, 13, 14, 15, 16, 17, 18, 19, 20, 21, 22, 23, 24, 25, 26, 27, 28, 29, 30, 31, 32, 39, 40, 41, 42, 43, 44, 45, 46, 47] (by decide +kernel) (by decide +kernel)) (goodIn_sub (fun _ h => List.mem_cons_of_mem _ (List.mem_append_right _ h)) (by decide +kernel))
set_option maxRecDepth 20000 in
theorem gX6_spent_X6_partyAt : GoodIn wsX6_spent (wsV RX6 83 RX6 yX6_partyAt wsX6_partyAt) := goodIn_app (goodIn_of _ (by decide +kernel)) ggX6_spent_X6_partyAt
set_option maxRecDepth 20000 in
theorem ggX6_spent_X4_learnedInAll : GoodIn wsX6_spent wsX4_learnedInAll := goodIn_r _ [37, 38, 48, 49, 50, 51, 52, 53, 54] (by decide +kernel) (by decide +kernel)
set_option maxRecDepth 20000 in
theorem gX6_spent_X4_learnedInAll : GoodIn wsX6_spent (wsV RX6 152 RX4 yX4_learnedInAll wsX4_learnedInAll) := goodIn_app (goodIn_of _ (by decide +kernel)) ggX6_spent_X4_learnedInAll
theorem dX6_spent_0 : decode cX6_spent 0 = .ok (.aload_n 0, 1) := by decide +kernel
theorem dX6_spent_1 : decode cX6_spent 1 = .ok (.iload_n 1, 1) := by decide +kernel
theorem dX6_spent_2 : decode cX6_spent 2 = .ok (.invokevirtual 83, 3) := by decide +kernel
theorem dX6_spent_5 : decode cX6_spent 5 = .ok (.invokevirtual 152, 3) := by decide +kernel
theorem dX6_spent_8 : decode cX6_spent 8 = .ok (.ireturn, 1) := by decide +kernel
set_option maxRecDepth 20000 in
theorem ggX6_spentAnew_X6_partyAt : GoodIn wsX6_spentAnew wsX6_partyAt := goodIn_ca (goodIn_r _ [5, 6, 7, 8, 9, 10, 11, 12, 13, 14, 15, 16, 17, 18, 19, 20, 21, 22, 23, 24, 25, 26, 27, 28, 29, 30, 31, 32, 93, 94, 95, 96, 97, 98, 99, 100, 101] (by decide +kernel) (by decide +kernel)) (goodIn_sub (fun _ h => List.mem_cons_of_mem _ (List.mem_append_right _ h)) (by decide +kernel))
set_option maxRecDepth 20000 in
theorem gX6_spentAnew_X6_partyAt : GoodIn wsX6_spentAnew (wsV RX6 83 RX6 yX6_partyAt wsX6_partyAt) := goodIn_app (goodIn_of _ (by decide +kernel)) ggX6_spentAnew_X6_partyAt
set_option maxRecDepth 20000 in
theorem ggX6_spentAnew_X6_countKnownSets : GoodIn wsX6_spentAnew wsX6_countKnownSets := goodIn_r _ [36, 37, 38, 39, 40, 10, 11, 12, 13, 14, 15, 41, 42, 43, 44, 45, 46, 47, 48, 49, 50, 51, 52, 53, 54, 16, 17, 18, 19, 20, 21, 22, 23, 24, 25, 26, 27, 28, 29, 30, 31, 32, 55, 56, 57, 58, 59, 60, 61, 62, 63, 4, 64, 65, 66, 67, 68, 69, 70, 71, 72, 73, 74, 75, 76, 77, 78, 79, 80, 81, 82, 83, 84, 85, 86, 87, 88, 89, 93, 94, 95, 96, 97, 98, 102, 103, 104, 105, 106, 107, 99, 100, 101, 108, 109, 110, 111, 112, 113, 114] (by decide +kernel) (by decide +kernel)
set_option maxRecDepth 20000 in
theorem gX6_spentAnew_X6_countKnownSets : GoodIn wsX6_spentAnew (wsV RX6 155 RX6 yX6_countKnownSets wsX6_countKnownSets) := goodIn_app (goodIn_of _ (by decide +kernel)) ggX6_spentAnew_X6_countKnownSets
set_option maxRecDepth 20000 in
theorem ggX6_spentAnew_X6_generatorsOf : GoodIn wsX6_spentAnew wsX6_generatorsOf := goodIn_r _ [92] (by decide +kernel) (by decide +kernel)
set_option maxRecDepth 20000 in
theorem gX6_spentAnew_X6_generatorsOf : GoodIn wsX6_spentAnew (va_wsS RX6 158 yX6_generatorsOf wsX6_generatorsOf) := goodIn_app (goodIn_of _ (by decide +kernel)) ggX6_spentAnew_X6_generatorsOf
theorem dX6_spentAnew_0 : decode cX6_spentAnew 0 = .ok (.aload_n 0, 1) := by decide +kernel
theorem dX6_spentAnew_1 : decode cX6_spentAnew 1 = .ok (.iload_n 1, 1) := by decide +kernel
theorem dX6_spentAnew_2 : decode cX6_spentAnew 2 = .ok (.invokevirtual 83, 3) := by decide +kernel
theorem dX6_spentAnew_5 : decode cX6_spentAnew 5 = .ok (.astore_n 2, 1) := by decide +kernel
theorem dX6_spentAnew_6 : decode cX6_spentAnew 6 = .ok (.iconst 0, 1) := by decide +kernel
theorem dX6_spentAnew_7 : decode cX6_spentAnew 7 = .ok (.istore_n 3, 1) := by decide +kernel
theorem dX6_spentAnew_8 : decode cX6_spentAnew 8 = .ok (.iconst 0, 1) := by decide +kernel
theorem dX6_spentAnew_9 : decode cX6_spentAnew 9 = .ok (.istore 4, 2) := by decide +kernel
theorem dX6_spentAnew_11 : decode cX6_spentAnew 11 = .ok (.iload 4, 2) := by decide +kernel
theorem dX6_spentAnew_13 : decode cX6_spentAnew 13 = .ok (.bipush 8, 2) := by decide +kernel
theorem dX6_spentAnew_15 : decode cX6_spentAnew 15 = .ok (.if_icmp .ge 22, 3) := by decide +kernel
theorem dX6_spentAnew_18 : decode cX6_spentAnew 18 = .ok (.iload_n 3, 1) := by decide +kernel
theorem dX6_spentAnew_19 : decode cX6_spentAnew 19 = .ok (.aload_n 0, 1) := by decide +kernel
theorem dX6_spentAnew_20 : decode cX6_spentAnew 20 = .ok (.aload_n 2, 1) := by decide +kernel
theorem dX6_spentAnew_21 : decode cX6_spentAnew 21 = .ok (.iload 4, 2) := by decide +kernel
theorem dX6_spentAnew_23 : decode cX6_spentAnew 23 = .ok (.invokevirtual 155, 3) := by decide +kernel
theorem dX6_spentAnew_26 : decode cX6_spentAnew 26 = .ok (.invokestatic 158, 3) := by decide +kernel
theorem dX6_spentAnew_29 : decode cX6_spentAnew 29 = .ok (.iadd, 1) := by decide +kernel
theorem dX6_spentAnew_30 : decode cX6_spentAnew 30 = .ok (.istore_n 3, 1) := by decide +kernel
theorem dX6_spentAnew_31 : decode cX6_spentAnew 31 = .ok (.iinc 4 1, 3) := by decide +kernel
theorem dX6_spentAnew_34 : decode cX6_spentAnew 34 = .ok (.goto (-23), 3) := by decide +kernel
theorem dX6_spentAnew_37 : decode cX6_spentAnew 37 = .ok (.iload_n 3, 1) := by decide +kernel
theorem dX6_spentAnew_38 : decode cX6_spentAnew 38 = .ok (.ireturn, 1) := by decide +kernel
set_option maxRecDepth 20000 in
theorem ggX6_finds_X6_partyAt : GoodIn wsX6_finds wsX6_partyAt := goodIn_ca (goodIn_r _ [5, 6, 7, 8, 9, 10, 11, 12, 13, 14, 15, 16, 17, 18, 19, 20, 21, 22, 23, 24, 25, 26, 27, 28, 29, 30, 31, 32, 51, 52, 53, 54, 55, 56, 57, 58, 59] (by decide +kernel) (by decide +kernel)) (goodIn_sub (fun _ h => List.mem_cons_of_mem _ (List.mem_append_right _ h)) (by decide +kernel))
set_option maxRecDepth 20000 in
theorem gX6_finds_X6_partyAt : GoodIn wsX6_finds (wsV RX6 83 RX6 yX6_partyAt wsX6_partyAt) := goodIn_app (goodIn_of _ (by decide +kernel)) ggX6_finds_X6_partyAt
set_option maxRecDepth 20000 in
theorem ggX6_finds_X6_requireFile : GoodIn wsX6_finds wsX6_requireFile := goodIn_ca (goodIn_r _ [36, 6, 7, 37, 10, 11, 12, 13, 14, 15, 51, 52, 53, 54, 55, 56, 57, 58, 59] (by decide +kernel) (by decide +kernel)) (goodIn_sub (fun _ h => List.mem_cons_of_mem _ (List.mem_append_right _ h)) (by decide +kernel))
set_option maxRecDepth 20000 in
theorem gX6_finds_X6_requireFile : GoodIn wsX6_finds (wsV RX6 90 RX6 yX6_requireFile wsX6_requireFile) := goodIn_app (goodIn_of _ (by decide +kernel)) ggX6_finds_X6_requireFile
set_option maxRecDepth 20000 in
theorem ggX6_finds_X2_knows : GoodIn wsX6_finds wsX2_knows := goodIn_r _ [42, 43, 44, 4, 45, 60, 61] (by decide +kernel) (by decide +kernel)
set_option maxRecDepth 20000 in
theorem gX6_finds_X2_knows : GoodIn wsX6_finds (wsV RX6 165 RX2 yX2_knows wsX2_knows) := goodIn_app (goodIn_of _ (by decide +kernel)) ggX6_finds_X2_knows
theorem dX6_finds_0 : decode cX6_finds 0 = .ok (.aload_n 0, 1) := by decide +kernel
theorem dX6_finds_1 : decode cX6_finds 1 = .ok (.iload_n 1, 1) := by decide +kernel
theorem dX6_finds_2 : decode cX6_finds 2 = .ok (.invokevirtual 83, 3) := by decide +kernel
theorem dX6_finds_5 : decode cX6_finds 5 = .ok (.astore_n 3, 1) := by decide +kernel
theorem dX6_finds_6 : decode cX6_finds 6 = .ok (.aload_n 0, 1) := by decide +kernel
theorem dX6_finds_7 : decode cX6_finds 7 = .ok (.iload_n 2, 1) := by decide +kernel
theorem dX6_finds_8 : decode cX6_finds 8 = .ok (.invokevirtual 90, 3) := by decide +kernel
theorem dX6_finds_11 : decode cX6_finds 11 = .ok (.iconst 0, 1) := by decide +kernel
theorem dX6_finds_12 : decode cX6_finds 12 = .ok (.istore 4, 2) := by decide +kernel
theorem dX6_finds_14 : decode cX6_finds 14 = .ok (.iconst 0, 1) := by decide +kernel
theorem dX6_finds_15 : decode cX6_finds 15 = .ok (.istore 5, 2) := by decide +kernel
theorem dX6_finds_17 : decode cX6_finds 17 = .ok (.iload 5, 2) := by decide +kernel
theorem dX6_finds_19 : decode cX6_finds 19 = .ok (.aload_n 3, 1) := by decide +kernel
theorem dX6_finds_20 : decode cX6_finds 20 = .ok (.getfield 161, 3) := by decide +kernel
theorem dX6_finds_23 : decode cX6_finds 23 = .ok (.arraylength, 1) := by decide +kernel
theorem dX6_finds_24 : decode cX6_finds 24 = .ok (.if_icmp .ge 34, 3) := by decide +kernel
theorem dX6_finds_27 : decode cX6_finds 27 = .ok (.aload_n 3, 1) := by decide +kernel
theorem dX6_finds_28 : decode cX6_finds 28 = .ok (.getfield 161, 3) := by decide +kernel
theorem dX6_finds_31 : decode cX6_finds 31 = .ok (.iload 5, 2) := by decide +kernel
theorem dX6_finds_33 : decode cX6_finds 33 = .ok (.aaload, 1) := by decide +kernel
theorem dX6_finds_34 : decode cX6_finds 34 = .ok (.iconst 1, 1) := by decide +kernel
theorem dX6_finds_35 : decode cX6_finds 35 = .ok (.iload_n 2, 1) := by decide +kernel
theorem dX6_finds_36 : decode cX6_finds 36 = .ok (.ishl, 1) := by decide +kernel
theorem dX6_finds_37 : decode cX6_finds 37 = .ok (.invokevirtual 165, 3) := by decide +kernel
theorem dX6_finds_40 : decode cX6_finds 40 = .ok (.ifCond .eq 12, 3) := by decide +kernel
theorem dX6_finds_43 : decode cX6_finds 43 = .ok (.iload 4, 2) := by decide +kernel
theorem dX6_finds_45 : decode cX6_finds 45 = .ok (.iconst 1, 1) := by decide +kernel
theorem dX6_finds_46 : decode cX6_finds 46 = .ok (.iload 5, 2) := by decide +kernel
theorem dX6_finds_48 : decode cX6_finds 48 = .ok (.ishl, 1) := by decide +kernel
theorem dX6_finds_49 : decode cX6_finds 49 = .ok (.ior, 1) := by decide +kernel
theorem dX6_finds_50 : decode cX6_finds 50 = .ok (.istore 4, 2) := by decide +kernel
theorem dX6_finds_52 : decode cX6_finds 52 = .ok (.iinc 5 1, 3) := by decide +kernel
theorem dX6_finds_55 : decode cX6_finds 55 = .ok (.goto (-38), 3) := by decide +kernel
theorem dX6_finds_58 : decode cX6_finds 58 = .ok (.iload 4, 2) := by decide +kernel
theorem dX6_finds_60 : decode cX6_finds 60 = .ok (.ireturn, 1) := by decide +kernel
set_option maxRecDepth 20000 in
theorem ggX6_together_X6_requireFile : GoodIn wsX6_together wsX6_requireFile := goodIn_ca (goodIn_r _ [7, 8, 9, 10, 11, 12, 13, 14, 15, 16, 66, 67, 68, 69, 70, 71, 72, 73, 74] (by decide +kernel) (by decide +kernel)) (goodIn_sub (fun _ h => List.mem_cons_of_mem _ (List.mem_append_left _ (List.mem_append_right _ h))) (by decide +kernel))
set_option maxRecDepth 20000 in
theorem gX6_together_X6_requireFile : GoodIn wsX6_together (wsV RX6 90 RX6 yX6_requireFile wsX6_requireFile) := goodIn_app (goodIn_of _ (by decide +kernel)) ggX6_together_X6_requireFile
set_option maxRecDepth 20000 in
theorem ggX6_together_Jx4a65c_size_8abf5 : GoodIn wsX6_together wsJx4a65c_size_8abf5 := goodIn_r _ [15, 16, 72, 73, 74] (by decide +kernel) (by decide +kernel)
set_option maxRecDepth 20000 in
theorem gX6_together_Jx4a65c_size_8abf5 : GoodIn wsX6_together (wsV RX6 40 RJx4a65c yJx4a65c_size_8abf5 wsJx4a65c_size_8abf5) := goodIn_app (goodIn_of _ (by decide +kernel)) ggX6_together_Jx4a65c_size_8abf5
set_option maxRecDepth 20000 in
theorem ggX6_together_X6_requireRange : GoodIn wsX6_together wsX6_requireRange := goodIn_ca (goodIn_r _ [19, 20, 21] (by decide +kernel) (by decide +kernel)) (goodIn_sub (fun _ h => List.mem_cons_of_mem _ (List.mem_append_right _ h)) (by decide +kernel))
set_option maxRecDepth 20000 in
theorem gX6_together_X6_requireRange : GoodIn wsX6_together (va_wsS RX6 36 yX6_requireRange wsX6_requireRange) := goodIn_app (goodIn_of _ (by decide +kernel)) ggX6_together_X6_requireRange
set_option maxRecDepth 20000 in
theorem ggX6_together_X6_shareKnowledge : GoodIn wsX6_together wsX6_shareKnowledge := goodIn_r _ [25, 2, 1, 26, 27, 28, 29, 30, 31, 32, 33, 11, 12, 13, 14, 15, 16, 34, 35, 36, 37, 38, 39, 40, 41, 42, 43, 44, 45, 46, 47, 48, 49, 50, 51, 52, 6, 53, 54, 55, 56, 57, 58, 59, 60, 61, 66, 67, 68, 69, 70, 71, 75, 76, 77, 78, 79, 80, 81, 72, 73, 74] (by decide +kernel) (by decide +kernel)
set_option maxRecDepth 20000 in
theorem gX6_together_X6_shareKnowledge : GoodIn wsX6_together (wsV RX6 169 RX6 yX6_shareKnowledge wsX6_shareKnowledge) := goodIn_app (goodIn_of _ (by decide +kernel)) ggX6_together_X6_shareKnowledge
set_option maxRecDepth 20000 in
theorem ggX6_together_X2_knows : GoodIn wsX6_together wsX2_knows := goodIn_r _ [65, 32, 52, 6, 53, 80, 81] (by decide +kernel) (by decide +kernel)
set_option maxRecDepth 20000 in
theorem gX6_together_X2_knows : GoodIn wsX6_together (wsV RX6 165 RX2 yX2_knows wsX2_knows) := goodIn_app (goodIn_of _ (by decide +kernel)) ggX6_together_X2_knows
theorem dX6_together_0 : decode cX6_together 0 = .ok (.aload_n 0, 1) := by decide +kernel
theorem dX6_together_1 : decode cX6_together 1 = .ok (.iload_n 2, 1) := by decide +kernel
theorem dX6_together_2 : decode cX6_together 2 = .ok (.invokevirtual 90, 3) := by decide +kernel
theorem dX6_together_5 : decode cX6_together 5 = .ok (.iload_n 1, 1) := by decide +kernel
theorem dX6_together_6 : decode cX6_together 6 = .ok (.iconst 0, 1) := by decide +kernel
theorem dX6_together_7 : decode cX6_together 7 = .ok (.iconst 1, 1) := by decide +kernel
theorem dX6_together_8 : decode cX6_together 8 = .ok (.aload_n 0, 1) := by decide +kernel
theorem dX6_together_9 : decode cX6_together 9 = .ok (.getfield 16, 3) := by decide +kernel
theorem dX6_together_12 : decode cX6_together 12 = .ok (.invokevirtual 40, 3) := by decide +kernel
theorem dX6_together_15 : decode cX6_together 15 = .ok (.ishl, 1) := by decide +kernel
theorem dX6_together_16 : decode cX6_together 16 = .ok (.iconst 1, 1) := by decide +kernel
theorem dX6_together_17 : decode cX6_together 17 = .ok (.isub, 1) := by decide +kernel
theorem dX6_together_18 : decode cX6_together 18 = .ok (.invokestatic 36, 3) := by decide +kernel
theorem dX6_together_21 : decode cX6_together 21 = .ok (.iconst 0, 1) := by decide +kernel
theorem dX6_together_22 : decode cX6_together 22 = .ok (.istore_n 3, 1) := by decide +kernel
theorem dX6_together_23 : decode cX6_together 23 = .ok (.iconst 0, 1) := by decide +kernel
theorem dX6_together_24 : decode cX6_together 24 = .ok (.istore 4, 2) := by decide +kernel
theorem dX6_together_26 : decode cX6_together 26 = .ok (.iload 4, 2) := by decide +kernel
theorem dX6_together_28 : decode cX6_together 28 = .ok (.bipush 8, 2) := by decide +kernel
theorem dX6_together_30 : decode cX6_together 30 = .ok (.if_icmp .ge 36, 3) := by decide +kernel
theorem dX6_together_33 : decode cX6_together 33 = .ok (.aload_n 0, 1) := by decide +kernel
theorem dX6_together_34 : decode cX6_together 34 = .ok (.iload_n 1, 1) := by decide +kernel
theorem dX6_together_35 : decode cX6_together 35 = .ok (.iload 4, 2) := by decide +kernel
theorem dX6_together_37 : decode cX6_together 37 = .ok (.invokevirtual 169, 3) := by decide +kernel
theorem dX6_together_40 : decode cX6_together 40 = .ok (.aload_n 0, 1) := by decide +kernel
theorem dX6_together_41 : decode cX6_together 41 = .ok (.getfield 25, 3) := by decide +kernel
theorem dX6_together_44 : decode cX6_together 44 = .ok (.iconst 1, 1) := by decide +kernel
theorem dX6_together_45 : decode cX6_together 45 = .ok (.iload_n 2, 1) := by decide +kernel
theorem dX6_together_46 : decode cX6_together 46 = .ok (.ishl, 1) := by decide +kernel
theorem dX6_together_47 : decode cX6_together 47 = .ok (.invokevirtual 165, 3) := by decide +kernel
theorem dX6_together_50 : decode cX6_together 50 = .ok (.ifCond .eq 10, 3) := by decide +kernel
theorem dX6_together_53 : decode cX6_together 53 = .ok (.iload_n 3, 1) := by decide +kernel
theorem dX6_together_54 : decode cX6_together 54 = .ok (.iconst 1, 1) := by decide +kernel
theorem dX6_together_55 : decode cX6_together 55 = .ok (.iload 4, 2) := by decide +kernel
theorem dX6_together_57 : decode cX6_together 57 = .ok (.ishl, 1) := by decide +kernel
theorem dX6_together_58 : decode cX6_together 58 = .ok (.ior, 1) := by decide +kernel
theorem dX6_together_59 : decode cX6_together 59 = .ok (.istore_n 3, 1) := by decide +kernel
theorem dX6_together_60 : decode cX6_together 60 = .ok (.iinc 4 1, 3) := by decide +kernel
theorem dX6_together_63 : decode cX6_together 63 = .ok (.goto (-37), 3) := by decide +kernel
theorem dX6_together_66 : decode cX6_together 66 = .ok (.iload_n 3, 1) := by decide +kernel
theorem dX6_together_67 : decode cX6_together 67 = .ok (.ireturn, 1) := by decide +kernel
set_option maxRecDepth 20000 in
theorem ggX6_rightTo_X6_partyAt : GoodIn wsX6_rightTo wsX6_partyAt := goodIn_ca (goodIn_r _ [6, 7, 8, 9, 10, 11, 12, 13, 14, 15, 16, 17, 18, 19, 20, 21, 22, 23, 24, 25, 26, 27, 28, 29, 30, 31, 32, 33, 57, 58, 59, 60, 61, 62, 63, 64, 65] (by decide +kernel) (by decide +kernel)) (goodIn_sub (fun _ h => List.mem_cons_of_mem _ (List.mem_append_right _ h)) (by decide +kernel))
set_option maxRecDepth 20000 in
theorem gX6_rightTo_X6_partyAt : GoodIn wsX6_rightTo (wsV RX6 83 RX6 yX6_partyAt wsX6_partyAt) := goodIn_app (goodIn_of _ (by decide +kernel)) ggX6_rightTo_X6_partyAt
set_option maxRecDepth 20000 in
theorem ggX6_rightTo_X6_requireFile : GoodIn wsX6_rightTo wsX6_requireFile := goodIn_ca (goodIn_r _ [37, 7, 8, 38, 11, 12, 13, 14, 15, 16, 57, 58, 59, 60, 61, 62, 63, 64, 65] (by decide +kernel) (by decide +kernel)) (goodIn_sub (fun _ h => List.mem_cons_of_mem _ (List.mem_append_right _ h)) (by decide +kernel))
set_option maxRecDepth 20000 in
theorem gX6_rightTo_X6_requireFile : GoodIn wsX6_rightTo (wsV RX6 90 RX6 yX6_requireFile wsX6_requireFile) := goodIn_app (goodIn_of _ (by decide +kernel)) ggX6_rightTo_X6_requireFile
set_option maxRecDepth 20000 in
theorem ggX6_rightTo_X4_rightIn : GoodIn wsX6_rightTo wsX4_rightIn := goodIn_r _ [43, 44, 45, 46, 42, 47, 48, 49, 50, 51, 52, 53, 54, 55, 56, 66, 67, 68, 69, 70, 71, 72, 73] (by decide +kernel) (by decide +kernel)
set_option maxRecDepth 20000 in
theorem gX6_rightTo_X4_rightIn : GoodIn wsX6_rightTo (wsV RX6 172 RX4 yX4_rightIn wsX4_rightIn) := goodIn_app (goodIn_of _ (by decide +kernel)) ggX6_rightTo_X4_rightIn
theorem dX6_rightTo_0 : decode cX6_rightTo 0 = .ok (.aload_n 0, 1) := by decide +kernel
theorem dX6_rightTo_1 : decode cX6_rightTo 1 = .ok (.iload_n 1, 1) := by decide +kernel
theorem dX6_rightTo_2 : decode cX6_rightTo 2 = .ok (.invokevirtual 83, 3) := by decide +kernel
theorem dX6_rightTo_5 : decode cX6_rightTo 5 = .ok (.astore_n 3, 1) := by decide +kernel
theorem dX6_rightTo_6 : decode cX6_rightTo 6 = .ok (.aload_n 0, 1) := by decide +kernel
theorem dX6_rightTo_7 : decode cX6_rightTo 7 = .ok (.iload_n 2, 1) := by decide +kernel
theorem dX6_rightTo_8 : decode cX6_rightTo 8 = .ok (.invokevirtual 90, 3) := by decide +kernel
theorem dX6_rightTo_11 : decode cX6_rightTo 11 = .ok (.aload_n 3, 1) := by decide +kernel
theorem dX6_rightTo_12 : decode cX6_rightTo 12 = .ok (.aload_n 0, 1) := by decide +kernel
theorem dX6_rightTo_13 : decode cX6_rightTo 13 = .ok (.getfield 108, 3) := by decide +kernel
theorem dX6_rightTo_16 : decode cX6_rightTo 16 = .ok (.iload_n 2, 1) := by decide +kernel
theorem dX6_rightTo_17 : decode cX6_rightTo 17 = .ok (.invokevirtual 172, 3) := by decide +kernel
theorem dX6_rightTo_20 : decode cX6_rightTo 20 = .ok (.ireturn, 1) := by decide +kernel
set_option maxRecDepth 20000 in
theorem ggX6_isSealed_X6_fileAt : GoodIn wsX6_isSealed wsX6_fileAt := goodIn_ca (goodIn_r _ [6, 7, 8, 9, 10, 11, 5, 12, 13, 14, 15, 16, 17, 18, 19, 20, 21, 22, 23, 24, 25, 26, 27, 28, 29, 30, 31, 32, 33, 34, 35, 36, 37, 44, 45, 46, 47, 48, 49, 50, 51, 52] (by decide +kernel) (by decide +kernel)) (goodIn_sub (fun _ h => List.mem_cons_of_mem _ (List.mem_append_right _ h)) (by decide +kernel))
set_option maxRecDepth 20000 in
theorem gX6_isSealed_X6_fileAt : GoodIn wsX6_isSealed (wsV RX6 60 RX6 yX6_fileAt wsX6_fileAt) := goodIn_app (goodIn_of _ (by decide +kernel)) ggX6_isSealed_X6_fileAt
set_option maxRecDepth 20000 in
theorem ggX6_isSealed_X1_isClosedIn : GoodIn wsX6_isSealed wsX1_isClosedIn := goodIn_r _ [42, 43, 53, 54] (by decide +kernel) (by decide +kernel)
set_option maxRecDepth 20000 in
theorem gX6_isSealed_X1_isClosedIn : GoodIn wsX6_isSealed (wsV RX6 175 RX1 yX1_isClosedIn wsX1_isClosedIn) := goodIn_app (goodIn_of _ (by decide +kernel)) ggX6_isSealed_X1_isClosedIn
theorem dX6_isSealed_0 : decode cX6_isSealed 0 = .ok (.aload_n 0, 1) := by decide +kernel
theorem dX6_isSealed_1 : decode cX6_isSealed 1 = .ok (.iload_n 1, 1) := by decide +kernel
theorem dX6_isSealed_2 : decode cX6_isSealed 2 = .ok (.invokevirtual 60, 3) := by decide +kernel
theorem dX6_isSealed_5 : decode cX6_isSealed 5 = .ok (.aload_n 0, 1) := by decide +kernel
theorem dX6_isSealed_6 : decode cX6_isSealed 6 = .ok (.getfield 108, 3) := by decide +kernel
theorem dX6_isSealed_9 : decode cX6_isSealed 9 = .ok (.invokevirtual 175, 3) := by decide +kernel
theorem dX6_isSealed_12 : decode cX6_isSealed 12 = .ok (.ireturn, 1) := by decide +kernel
set_option maxRecDepth 20000 in
theorem ggX6_count_X6_partyAt : GoodIn wsX6_count wsX6_partyAt := goodIn_ca (goodIn_r _ [5, 6, 7, 8, 9, 10, 11, 12, 13, 14, 15, 16, 17, 18, 19, 20, 21, 22, 23, 24, 25, 26, 27, 28, 29, 30, 31, 32, 57, 58, 59, 60, 61, 62, 63, 64, 65] (by decide +kernel) (by decide +kernel)) (goodIn_sub (fun _ h => List.mem_cons_of_mem _ (List.mem_append_left _ (List.mem_append_right _ h))) (by decide +kernel))
set_option maxRecDepth 20000 in
theorem gX6_count_X6_partyAt : GoodIn wsX6_count (wsV RX6 83 RX6 yX6_partyAt wsX6_partyAt) := goodIn_app (goodIn_of _ (by decide +kernel)) ggX6_count_X6_partyAt
set_option maxRecDepth 20000 in
theorem ggX6_count_X6_requireRange : GoodIn wsX6_count wsX6_requireRange := goodIn_ca (goodIn_r _ [35, 36, 37] (by decide +kernel) (by decide +kernel)) (goodIn_sub (fun _ h => List.mem_cons_of_mem _ (List.mem_append_right _ h)) (by decide +kernel))
set_option maxRecDepth 20000 in
theorem gX6_count_X6_requireRange : GoodIn wsX6_count (va_wsS RX6 36 yX6_requireRange wsX6_requireRange) := goodIn_app (goodIn_of _ (by decide +kernel)) ggX6_count_X6_requireRange
set_option maxRecDepth 20000 in
theorem ggX6_count_X6_countStanding : GoodIn wsX6_count wsX6_countStanding := goodIn_r _ [41, 42, 43, 10, 11, 12, 13, 14, 15, 16, 17, 18, 19, 20, 21, 22, 23, 24, 25, 26, 27, 28, 29, 30, 31, 32, 44, 45, 46, 47, 48, 49, 50, 57, 58, 59, 60, 61, 62, 63, 64, 65, 66, 67, 68, 69, 70, 71, 72, 73, 74, 75, 76] (by decide +kernel) (by decide +kernel)
set_option maxRecDepth 20000 in
theorem gX6_count_X6_countStanding : GoodIn wsX6_count (wsV RX6 178 RX6 yX6_countStanding wsX6_countStanding) := goodIn_app (goodIn_of _ (by decide +kernel)) ggX6_count_X6_countStanding
set_option maxRecDepth 20000 in
theorem ggX6_count_X4_questions : GoodIn wsX6_count wsX4_questions := goodIn_r _ [55, 56, 72, 73, 74, 75, 76] (by decide +kernel) (by decide +kernel)
set_option maxRecDepth 20000 in
theorem gX6_count_X4_questions : GoodIn wsX6_count (wsV RX6 182 RX4 yX4_questions wsX4_questions) := goodIn_app (goodIn_of _ (by decide +kernel)) ggX6_count_X4_questions
theorem dX6_count_0 : decode cX6_count 0 = .ok (.aload_n 0, 1) := by decide +kernel
theorem dX6_count_1 : decode cX6_count 1 = .ok (.iload_n 1, 1) := by decide +kernel
theorem dX6_count_2 : decode cX6_count 2 = .ok (.invokevirtual 83, 3) := by decide +kernel
theorem dX6_count_5 : decode cX6_count 5 = .ok (.astore_n 3, 1) := by decide +kernel
theorem dX6_count_6 : decode cX6_count 6 = .ok (.iload_n 2, 1) := by decide +kernel
theorem dX6_count_7 : decode cX6_count 7 = .ok (.iconst 0, 1) := by decide +kernel
theorem dX6_count_8 : decode cX6_count 8 = .ok (.iconst 5, 1) := by decide +kernel
theorem dX6_count_9 : decode cX6_count 9 = .ok (.invokestatic 36, 3) := by decide +kernel
theorem dX6_count_12 : decode cX6_count 12 = .ok (.iload_n 2, 1) := by decide +kernel
theorem dX6_count_13 : decode cX6_count 13 = .ok (.iconst 5, 1) := by decide +kernel
theorem dX6_count_14 : decode cX6_count 14 = .ok (.if_icmp .ne 11, 3) := by decide +kernel
theorem dX6_count_17 : decode cX6_count 17 = .ok (.aload_n 0, 1) := by decide +kernel
theorem dX6_count_18 : decode cX6_count 18 = .ok (.aload_n 3, 1) := by decide +kernel
theorem dX6_count_19 : decode cX6_count 19 = .ok (.invokevirtual 178, 3) := by decide +kernel
theorem dX6_count_22 : decode cX6_count 22 = .ok (.goto 8, 3) := by decide +kernel
theorem dX6_count_25 : decode cX6_count 25 = .ok (.aload_n 3, 1) := by decide +kernel
theorem dX6_count_26 : decode cX6_count 26 = .ok (.iload_n 2, 1) := by decide +kernel
theorem dX6_count_27 : decode cX6_count 27 = .ok (.invokevirtual 182, 3) := by decide +kernel
theorem dX6_count_30 : decode cX6_count 30 = .ok (.ireturn, 1) := by decide +kernel
set_option maxRecDepth 20000 in
theorem ggX6_partyAt_Jx4a65c_size_8abf5 : GoodIn wsX6_partyAt wsJx4a65c_size_8abf5 := goodIn_r _ [9, 10, 34, 35, 36] (by decide +kernel) (by decide +kernel)
set_option maxRecDepth 20000 in
theorem gX6_partyAt_Jx4a65c_size_8abf5 : GoodIn wsX6_partyAt (wsV RX6 40 RJx4a65c yJx4a65c_size_8abf5 wsJx4a65c_size_8abf5) := goodIn_app (goodIn_of _ (by decide +kernel)) ggX6_partyAt_Jx4a65c_size_8abf5
set_option maxRecDepth 20000 in
theorem ggX6_partyAt_Jx4a65c_get_915e3 : GoodIn wsX6_partyAt wsJx4a65c_get_915e3 := goodIn_r _ [14, 10, 15, 16, 17, 18, 19, 20, 21, 22, 23, 24, 25, 8, 26, 27, 34, 35, 36] (by decide +kernel) (by decide +kernel)
set_option maxRecDepth 20000 in
theorem gX6_partyAt_Jx4a65c_get_915e3 : GoodIn wsX6_partyAt (wsV RX6 68 RJx4a65c yJx4a65c_get_915e3 wsJx4a65c_get_915e3) := goodIn_app (goodIn_of _ (by decide +kernel)) ggX6_partyAt_Jx4a65c_get_915e3
theorem dX6_partyAt_0 : decode cX6_partyAt 0 = .ok (.iload_n 1, 1) := by decide +kernel
theorem dX6_partyAt_1 : decode cX6_partyAt 1 = .ok (.ifCond .lt 14, 3) := by decide +kernel
theorem dX6_partyAt_4 : decode cX6_partyAt 4 = .ok (.iload_n 1, 1) := by decide +kernel
theorem dX6_partyAt_5 : decode cX6_partyAt 5 = .ok (.aload_n 0, 1) := by decide +kernel
theorem dX6_partyAt_6 : decode cX6_partyAt 6 = .ok (.getfield 16, 3) := by decide +kernel
theorem dX6_partyAt_9 : decode cX6_partyAt 9 = .ok (.invokevirtual 40, 3) := by decide +kernel
theorem dX6_partyAt_12 : decode cX6_partyAt 12 = .ok (.if_icmp .lt 13, 3) := by decide +kernel
theorem dX6_partyAt_15 : decode cX6_partyAt 15 = .ok (.new 143, 3) := by decide +kernel
theorem dX6_partyAt_18 : decode cX6_partyAt 18 = .ok (.dup, 1) := by decide +kernel
theorem dX6_partyAt_19 : decode cX6_partyAt 19 = .ok (.ldc 185, 2) := by decide +kernel
theorem dX6_partyAt_21 : decode cX6_partyAt 21 = .ok (.invokespecial 147, 3) := by decide +kernel
theorem dX6_partyAt_24 : decode cX6_partyAt 24 = .ok (.athrow, 1) := by decide +kernel
theorem dX6_partyAt_25 : decode cX6_partyAt 25 = .ok (.aload_n 0, 1) := by decide +kernel
theorem dX6_partyAt_26 : decode cX6_partyAt 26 = .ok (.getfield 16, 3) := by decide +kernel
theorem dX6_partyAt_29 : decode cX6_partyAt 29 = .ok (.iload_n 1, 1) := by decide +kernel
theorem dX6_partyAt_30 : decode cX6_partyAt 30 = .ok (.invokevirtual 68, 3) := by decide +kernel
theorem dX6_partyAt_33 : decode cX6_partyAt 33 = .ok (.checkcast 72, 3) := by decide +kernel
theorem dX6_partyAt_36 : decode cX6_partyAt 36 = .ok (.areturn, 1) := by decide +kernel
set_option maxRecDepth 20000 in
theorem ggX6_fileAt_X6_requireFile : GoodIn wsX6_fileAt wsX6_requireFile := goodIn_ca (goodIn_r _ [7, 8, 9, 1, 10, 11, 12, 13, 14, 15, 33, 34, 35, 36, 37, 38, 39, 40, 41] (by decide +kernel) (by decide +kernel)) (goodIn_sub (fun _ h => List.mem_cons_of_mem _ (List.mem_append_right _ h)) (by decide +kernel))
set_option maxRecDepth 20000 in
theorem gX6_fileAt_X6_requireFile : GoodIn wsX6_fileAt (wsV RX6 90 RX6 yX6_requireFile wsX6_requireFile) := goodIn_app (goodIn_of _ (by decide +kernel)) ggX6_fileAt_X6_requireFile
set_option maxRecDepth 20000 in
theorem ggX6_fileAt_Jx4a65c_get_915e3 : GoodIn wsX6_fileAt wsJx4a65c_get_915e3 := goodIn_r _ [19, 15, 20, 21, 22, 23, 24, 25, 26, 27, 28, 29, 30, 13, 31, 32, 39, 40, 41] (by decide +kernel) (by decide +kernel)
set_option maxRecDepth 20000 in
theorem gX6_fileAt_Jx4a65c_get_915e3 : GoodIn wsX6_fileAt (wsV RX6 68 RJx4a65c yJx4a65c_get_915e3 wsJx4a65c_get_915e3) := goodIn_app (goodIn_of _ (by decide +kernel)) ggX6_fileAt_Jx4a65c_get_915e3
theorem dX6_fileAt_0 : decode cX6_fileAt 0 = .ok (.aload_n 0, 1) := by decide +kernel
theorem dX6_fileAt_1 : decode cX6_fileAt 1 = .ok (.iload_n 1, 1) := by decide +kernel
theorem dX6_fileAt_2 : decode cX6_fileAt 2 = .ok (.invokevirtual 90, 3) := by decide +kernel
theorem dX6_fileAt_5 : decode cX6_fileAt 5 = .ok (.aload_n 0, 1) := by decide +kernel
theorem dX6_fileAt_6 : decode cX6_fileAt 6 = .ok (.getfield 10, 3) := by decide +kernel
theorem dX6_fileAt_9 : decode cX6_fileAt 9 = .ok (.iload_n 1, 1) := by decide +kernel
theorem dX6_fileAt_10 : decode cX6_fileAt 10 = .ok (.invokevirtual 68, 3) := by decide +kernel
theorem dX6_fileAt_13 : decode cX6_fileAt 13 = .ok (.checkcast 51, 3) := by decide +kernel
theorem dX6_fileAt_16 : decode cX6_fileAt 16 = .ok (.areturn, 1) := by decide +kernel
set_option maxRecDepth 20000 in
theorem ggX6_requireFile_Jx4a65c_size_8abf5 : GoodIn wsX6_requireFile wsJx4a65c_size_8abf5 := goodIn_r _ [8, 9, 16, 17, 18] (by decide +kernel) (by decide +kernel)
set_option maxRecDepth 20000 in
theorem gX6_requireFile_Jx4a65c_size_8abf5 : GoodIn wsX6_requireFile (wsV RX6 40 RJx4a65c yJx4a65c_size_8abf5 wsJx4a65c_size_8abf5) := goodIn_app (goodIn_of _ (by decide +kernel)) ggX6_requireFile_Jx4a65c_size_8abf5
theorem dX6_requireFile_0 : decode cX6_requireFile 0 = .ok (.iload_n 1, 1) := by decide +kernel
theorem dX6_requireFile_1 : decode cX6_requireFile 1 = .ok (.ifCond .lt 14, 3) := by decide +kernel
theorem dX6_requireFile_4 : decode cX6_requireFile 4 = .ok (.iload_n 1, 1) := by decide +kernel
theorem dX6_requireFile_5 : decode cX6_requireFile 5 = .ok (.aload_n 0, 1) := by decide +kernel
theorem dX6_requireFile_6 : decode cX6_requireFile 6 = .ok (.getfield 10, 3) := by decide +kernel
theorem dX6_requireFile_9 : decode cX6_requireFile 9 = .ok (.invokevirtual 40, 3) := by decide +kernel
theorem dX6_requireFile_12 : decode cX6_requireFile 12 = .ok (.if_icmp .lt 13, 3) := by decide +kernel
theorem dX6_requireFile_15 : decode cX6_requireFile 15 = .ok (.new 143, 3) := by decide +kernel
theorem dX6_requireFile_18 : decode cX6_requireFile 18 = .ok (.dup, 1) := by decide +kernel
theorem dX6_requireFile_19 : decode cX6_requireFile 19 = .ok (.ldc 187, 2) := by decide +kernel
theorem dX6_requireFile_21 : decode cX6_requireFile 21 = .ok (.invokespecial 147, 3) := by decide +kernel
theorem dX6_requireFile_24 : decode cX6_requireFile 24 = .ok (.athrow, 1) := by decide +kernel
theorem dX6_requireFile_25 : decode cX6_requireFile 25 = .ok (.return_, 1) := by decide +kernel
theorem dX6_requireRange_0 : decode cX6_requireRange 0 = .ok (.iload_n 0, 1) := by decide +kernel
theorem dX6_requireRange_1 : decode cX6_requireRange 1 = .ok (.iload_n 1, 1) := by decide +kernel
theorem dX6_requireRange_2 : decode cX6_requireRange 2 = .ok (.if_icmp .lt 8, 3) := by decide +kernel
theorem dX6_requireRange_5 : decode cX6_requireRange 5 = .ok (.iload_n 0, 1) := by decide +kernel
theorem dX6_requireRange_6 : decode cX6_requireRange 6 = .ok (.iload_n 2, 1) := by decide +kernel
theorem dX6_requireRange_7 : decode cX6_requireRange 7 = .ok (.if_icmp .le 13, 3) := by decide +kernel
theorem dX6_requireRange_10 : decode cX6_requireRange 10 = .ok (.new 189, 3) := by decide +kernel
theorem dX6_requireRange_13 : decode cX6_requireRange 13 = .ok (.dup, 1) := by decide +kernel
theorem dX6_requireRange_14 : decode cX6_requireRange 14 = .ok (.ldc 191, 2) := by decide +kernel
theorem dX6_requireRange_16 : decode cX6_requireRange 16 = .ok (.invokespecial 193, 3) := by decide +kernel
theorem dX6_requireRange_19 : decode cX6_requireRange 19 = .ok (.athrow, 1) := by decide +kernel
theorem dX6_requireRange_20 : decode cX6_requireRange 20 = .ok (.return_, 1) := by decide +kernel
set_option maxRecDepth 20000 in
theorem ggX6_requireQuestion_Jx4a65c_size_8abf5 : GoodIn wsX6_requireQuestion wsJx4a65c_size_8abf5 := goodIn_r _ [6, 7, 20, 21, 22] (by decide +kernel) (by decide +kernel)
set_option maxRecDepth 20000 in
theorem gX6_requireQuestion_Jx4a65c_size_8abf5 : GoodIn wsX6_requireQuestion (wsV RX6 40 RJx4a65c yJx4a65c_size_8abf5 wsJx4a65c_size_8abf5) := goodIn_app (goodIn_of _ (by decide +kernel)) ggX6_requireQuestion_Jx4a65c_size_8abf5
set_option maxRecDepth 20000 in
theorem ggX6_requireQuestion_X6_requireRange : GoodIn wsX6_requireQuestion wsX6_requireRange := goodIn_ca (goodIn_r _ [11, 12, 13] (by decide +kernel) (by decide +kernel)) (goodIn_sub (fun _ h => List.mem_cons_of_mem _ (List.mem_append_right _ h)) (by decide +kernel))
set_option maxRecDepth 20000 in
theorem gX6_requireQuestion_X6_requireRange : GoodIn wsX6_requireQuestion (va_wsS RX6 36 yX6_requireRange wsX6_requireRange) := goodIn_app (goodIn_of _ (by decide +kernel)) ggX6_requireQuestion_X6_requireRange
theorem dX6_requireQuestion_0 : decode cX6_requireQuestion 0 = .ok (.iload_n 1, 1) := by decide +kernel
theorem dX6_requireQuestion_1 : decode cX6_requireQuestion 1 = .ok (.iconst 1, 1) := by decide +kernel
theorem dX6_requireQuestion_2 : decode cX6_requireQuestion 2 = .ok (.iconst 1, 1) := by decide +kernel
theorem dX6_requireQuestion_3 : decode cX6_requireQuestion 3 = .ok (.aload_n 0, 1) := by decide +kernel
theorem dX6_requireQuestion_4 : decode cX6_requireQuestion 4 = .ok (.getfield 10, 3) := by decide +kernel
theorem dX6_requireQuestion_7 : decode cX6_requireQuestion 7 = .ok (.invokevirtual 40, 3) := by decide +kernel
theorem dX6_requireQuestion_10 : decode cX6_requireQuestion 10 = .ok (.ishl, 1) := by decide +kernel
theorem dX6_requireQuestion_11 : decode cX6_requireQuestion 11 = .ok (.iconst 1, 1) := by decide +kernel
theorem dX6_requireQuestion_12 : decode cX6_requireQuestion 12 = .ok (.isub, 1) := by decide +kernel
theorem dX6_requireQuestion_13 : decode cX6_requireQuestion 13 = .ok (.invokestatic 36, 3) := by decide +kernel
theorem dX6_requireQuestion_16 : decode cX6_requireQuestion 16 = .ok (.iload_n 2, 1) := by decide +kernel
theorem dX6_requireQuestion_17 : decode cX6_requireQuestion 17 = .ok (.iconst (-1), 1) := by decide +kernel
theorem dX6_requireQuestion_18 : decode cX6_requireQuestion 18 = .ok (.bipush 7, 2) := by decide +kernel
theorem dX6_requireQuestion_20 : decode cX6_requireQuestion 20 = .ok (.invokestatic 36, 3) := by decide +kernel
theorem dX6_requireQuestion_23 : decode cX6_requireQuestion 23 = .ok (.return_, 1) := by decide +kernel
theorem dX6_holds_0 : decode cX6_holds 0 = .ok (.iload_n 0, 1) := by decide +kernel
theorem dX6_holds_1 : decode cX6_holds 1 = .ok (.iload_n 1, 1) := by decide +kernel
theorem dX6_holds_2 : decode cX6_holds 2 = .ok (.ishr, 1) := by decide +kernel
theorem dX6_holds_3 : decode cX6_holds 3 = .ok (.iconst 1, 1) := by decide +kernel
theorem dX6_holds_4 : decode cX6_holds 4 = .ok (.iand, 1) := by decide +kernel
theorem dX6_holds_5 : decode cX6_holds 5 = .ok (.ifCond .eq 7, 3) := by decide +kernel
theorem dX6_holds_8 : decode cX6_holds 8 = .ok (.iconst 1, 1) := by decide +kernel
theorem dX6_holds_9 : decode cX6_holds 9 = .ok (.goto 4, 3) := by decide +kernel
theorem dX6_holds_12 : decode cX6_holds 12 = .ok (.iconst 0, 1) := by decide +kernel
theorem dX6_holds_13 : decode cX6_holds 13 = .ok (.ireturn, 1) := by decide +kernel
theorem dX6_covers_0 : decode cX6_covers 0 = .ok (.iload_n 0, 1) := by decide +kernel
theorem dX6_covers_1 : decode cX6_covers 1 = .ok (.iconst (-1), 1) := by decide +kernel
theorem dX6_covers_2 : decode cX6_covers 2 = .ok (.if_icmp .eq 8, 3) := by decide +kernel
theorem dX6_covers_5 : decode cX6_covers 5 = .ok (.iload_n 0, 1) := by decide +kernel
theorem dX6_covers_6 : decode cX6_covers 6 = .ok (.iload_n 1, 1) := by decide +kernel
theorem dX6_covers_7 : decode cX6_covers 7 = .ok (.if_icmp .ne 7, 3) := by decide +kernel
theorem dX6_covers_10 : decode cX6_covers 10 = .ok (.iconst 1, 1) := by decide +kernel
theorem dX6_covers_11 : decode cX6_covers 11 = .ok (.goto 4, 3) := by decide +kernel
theorem dX6_covers_14 : decode cX6_covers 14 = .ok (.iconst 0, 1) := by decide +kernel
theorem dX6_covers_15 : decode cX6_covers 15 = .ok (.ireturn, 1) := by decide +kernel
set_option maxRecDepth 20000 in
theorem ggX6_refusalOf_X6_lacksRight : GoodIn wsX6_refusalOf wsX6_lacksRight := goodIn_r _ [6, 7, 1, 8, 9, 10, 11, 12, 13, 14, 15, 5, 16, 17, 18, 19, 20, 21, 22, 23, 24, 25, 26, 27, 28, 29, 30, 31, 32, 33, 34, 94, 95, 96, 97, 98, 99, 105, 106, 107, 100, 101, 102, 103, 104, 108, 109, 110] (by decide +kernel) (by decide +kernel)
set_option maxRecDepth 20000 in
theorem gX6_refusalOf_X6_lacksRight : GoodIn wsX6_refusalOf (wsV RX6 194 RX6 yX6_lacksRight wsX6_lacksRight) := goodIn_app (goodIn_of _ (by decide +kernel)) ggX6_refusalOf_X6_lacksRight
set_option maxRecDepth 20000 in
theorem ggX6_refusalOf_X6_hasSealed : GoodIn wsX6_refusalOf wsX6_hasSealed := goodIn_r _ [38, 7, 39, 1, 8, 9, 10, 11, 12, 13, 14, 15, 5, 16, 40, 41, 42, 43, 44, 45, 46, 47, 48, 49, 50, 51, 52, 53, 54, 55, 56, 57, 58, 59, 60, 61, 62, 94, 95, 96, 97, 98, 99, 105, 106, 107, 111, 112] (by decide +kernel) (by decide +kernel)
set_option maxRecDepth 20000 in
theorem gX6_refusalOf_X6_hasSealed : GoodIn wsX6_refusalOf (wsV RX6 198 RX6 yX6_hasSealed wsX6_hasSealed) := goodIn_app (goodIn_of _ (by decide +kernel)) ggX6_refusalOf_X6_hasSealed
set_option maxRecDepth 20000 in
theorem ggX6_refusalOf_X4_wouldFindUnread : GoodIn wsX6_refusalOf wsX4_wouldFindUnread := goodIn_r _ [66, 26, 67, 18, 19, 20, 21, 22, 23, 24, 25, 27, 28, 29, 30, 31, 32, 33, 34, 68, 69, 70, 71, 72, 73, 5, 74, 75, 76, 77, 78, 79, 80, 81, 82, 83, 84, 15, 16, 100, 101, 102, 103, 104, 108, 109, 110, 113, 114] (by decide +kernel) (by decide +kernel)
set_option maxRecDepth 20000 in
theorem gX6_refusalOf_X4_wouldFindUnread : GoodIn wsX6_refusalOf (wsV RX6 201 RX4 yX4_wouldFindUnread wsX4_wouldFindUnread) := goodIn_app (goodIn_of _ (by decide +kernel)) ggX6_refusalOf_X4_wouldFindUnread
set_option maxRecDepth 20000 in
theorem ggX6_refusalOf_X4_learnedInAll : GoodIn wsX6_refusalOf wsX4_learnedInAll := goodIn_r _ [88, 72, 100, 101, 102, 103, 104, 113, 114] (by decide +kernel) (by decide +kernel)
set_option maxRecDepth 20000 in
theorem gX6_refusalOf_X4_learnedInAll : GoodIn wsX6_refusalOf (wsV RX6 152 RX4 yX4_learnedInAll wsX4_learnedInAll) := goodIn_app (goodIn_of _ (by decide +kernel)) ggX6_refusalOf_X4_learnedInAll
set_option maxRecDepth 20000 in
theorem ggX6_refusalOf_X4_costOf : GoodIn wsX6_refusalOf wsX4_costOf := goodIn_r _ [92, 72, 73, 5, 74, 93, 81, 82, 78, 83, 84, 15, 16, 100, 101, 102, 103, 104, 113, 114] (by decide +kernel) (by decide +kernel)
set_option maxRecDepth 20000 in
theorem gX6_refusalOf_X4_costOf : GoodIn wsX6_refusalOf (wsV RX6 140 RX4 yX4_costOf wsX4_costOf) := goodIn_app (goodIn_of _ (by decide +kernel)) ggX6_refusalOf_X4_costOf
theorem dX6_refusalOf_0 : decode cX6_refusalOf 0 = .ok (.aload_n 0, 1) := by decide +kernel
theorem dX6_refusalOf_1 : decode cX6_refusalOf 1 = .ok (.aload_n 1, 1) := by decide +kernel
theorem dX6_refusalOf_2 : decode cX6_refusalOf 2 = .ok (.iload_n 2, 1) := by decide +kernel
theorem dX6_refusalOf_3 : decode cX6_refusalOf 3 = .ok (.invokevirtual 194, 3) := by decide +kernel
theorem dX6_refusalOf_6 : decode cX6_refusalOf 6 = .ok (.ifCond .eq 5, 3) := by decide +kernel
theorem dX6_refusalOf_9 : decode cX6_refusalOf 9 = .ok (.iconst (-1), 1) := by decide +kernel
theorem dX6_refusalOf_10 : decode cX6_refusalOf 10 = .ok (.ireturn, 1) := by decide +kernel
theorem dX6_refusalOf_11 : decode cX6_refusalOf 11 = .ok (.aload_n 0, 1) := by decide +kernel
theorem dX6_refusalOf_12 : decode cX6_refusalOf 12 = .ok (.iload_n 2, 1) := by decide +kernel
theorem dX6_refusalOf_13 : decode cX6_refusalOf 13 = .ok (.invokevirtual 198, 3) := by decide +kernel
theorem dX6_refusalOf_16 : decode cX6_refusalOf 16 = .ok (.ifCond .eq 6, 3) := by decide +kernel
theorem dX6_refusalOf_19 : decode cX6_refusalOf 19 = .ok (.bipush (-2), 2) := by decide +kernel
theorem dX6_refusalOf_21 : decode cX6_refusalOf 21 = .ok (.ireturn, 1) := by decide +kernel
theorem dX6_refusalOf_22 : decode cX6_refusalOf 22 = .ok (.aload_n 1, 1) := by decide +kernel
theorem dX6_refusalOf_23 : decode cX6_refusalOf 23 = .ok (.iload_n 2, 1) := by decide +kernel
theorem dX6_refusalOf_24 : decode cX6_refusalOf 24 = .ok (.iload_n 3, 1) := by decide +kernel
theorem dX6_refusalOf_25 : decode cX6_refusalOf 25 = .ok (.aload_n 0, 1) := by decide +kernel
theorem dX6_refusalOf_26 : decode cX6_refusalOf 26 = .ok (.getfield 108, 3) := by decide +kernel
theorem dX6_refusalOf_29 : decode cX6_refusalOf 29 = .ok (.invokevirtual 201, 3) := by decide +kernel
theorem dX6_refusalOf_32 : decode cX6_refusalOf 32 = .ok (.ifCond .eq 6, 3) := by decide +kernel
theorem dX6_refusalOf_35 : decode cX6_refusalOf 35 = .ok (.bipush (-3), 2) := by decide +kernel
theorem dX6_refusalOf_37 : decode cX6_refusalOf 37 = .ok (.ireturn, 1) := by decide +kernel
theorem dX6_refusalOf_38 : decode cX6_refusalOf 38 = .ok (.aload_n 1, 1) := by decide +kernel
theorem dX6_refusalOf_39 : decode cX6_refusalOf 39 = .ok (.invokevirtual 152, 3) := by decide +kernel
theorem dX6_refusalOf_42 : decode cX6_refusalOf 42 = .ok (.aload_n 1, 1) := by decide +kernel
theorem dX6_refusalOf_43 : decode cX6_refusalOf 43 = .ok (.iload_n 2, 1) := by decide +kernel
theorem dX6_refusalOf_44 : decode cX6_refusalOf 44 = .ok (.iload_n 3, 1) := by decide +kernel
theorem dX6_refusalOf_45 : decode cX6_refusalOf 45 = .ok (.invokevirtual 140, 3) := by decide +kernel
theorem dX6_refusalOf_48 : decode cX6_refusalOf 48 = .ok (.iadd, 1) := by decide +kernel
theorem dX6_refusalOf_49 : decode cX6_refusalOf 49 = .ok (.aload_n 1, 1) := by decide +kernel
theorem dX6_refusalOf_50 : decode cX6_refusalOf 50 = .ok (.getfield 87, 3) := by decide +kernel
theorem dX6_refusalOf_53 : decode cX6_refusalOf 53 = .ok (.if_icmp .le 6, 3) := by decide +kernel
theorem dX6_refusalOf_56 : decode cX6_refusalOf 56 = .ok (.bipush (-4), 2) := by decide +kernel
theorem dX6_refusalOf_58 : decode cX6_refusalOf 58 = .ok (.ireturn, 1) := by decide +kernel
theorem dX6_refusalOf_59 : decode cX6_refusalOf 59 = .ok (.iconst 0, 1) := by decide +kernel
theorem dX6_refusalOf_60 : decode cX6_refusalOf 60 = .ok (.ireturn, 1) := by decide +kernel
set_option maxRecDepth 20000 in
theorem ggX6_lacksRight_Jx4a65c_size_8abf5 : GoodIn wsX6_lacksRight wsJx4a65c_size_8abf5 := goodIn_r _ [7, 8, 37, 38, 39] (by decide +kernel) (by decide +kernel)
set_option maxRecDepth 20000 in
theorem gX6_lacksRight_Jx4a65c_size_8abf5 : GoodIn wsX6_lacksRight (wsV RX6 40 RJx4a65c yJx4a65c_size_8abf5 wsJx4a65c_size_8abf5) := goodIn_app (goodIn_of _ (by decide +kernel)) ggX6_lacksRight_Jx4a65c_size_8abf5
set_option maxRecDepth 20000 in
theorem ggX6_lacksRight_X6_holds : GoodIn wsX6_lacksRight wsX6_holds := goodIn_r _ [12] (by decide +kernel) (by decide +kernel)
set_option maxRecDepth 20000 in
theorem gX6_lacksRight_X6_holds : GoodIn wsX6_lacksRight (va_wsS RX6 205 yX6_holds wsX6_holds) := goodIn_app (goodIn_of _ (by decide +kernel)) ggX6_lacksRight_X6_holds
set_option maxRecDepth 20000 in
theorem ggX6_lacksRight_X4_rightIn : GoodIn wsX6_lacksRight wsX4_rightIn := goodIn_r _ [17, 18, 19, 20, 16, 21, 22, 23, 24, 25, 26, 27, 28, 29, 30, 40, 41, 42, 43, 44, 45, 46, 47] (by decide +kernel) (by decide +kernel)
set_option maxRecDepth 20000 in
theorem gX6_lacksRight_X4_rightIn : GoodIn wsX6_lacksRight (wsV RX6 172 RX4 yX4_rightIn wsX4_rightIn) := goodIn_app (goodIn_of _ (by decide +kernel)) ggX6_lacksRight_X4_rightIn
theorem dX6_lacksRight_0 : decode cX6_lacksRight 0 = .ok (.iconst 0, 1) := by decide +kernel
theorem dX6_lacksRight_1 : decode cX6_lacksRight 1 = .ok (.istore_n 3, 1) := by decide +kernel
theorem dX6_lacksRight_2 : decode cX6_lacksRight 2 = .ok (.iload_n 3, 1) := by decide +kernel
theorem dX6_lacksRight_3 : decode cX6_lacksRight 3 = .ok (.aload_n 0, 1) := by decide +kernel
theorem dX6_lacksRight_4 : decode cX6_lacksRight 4 = .ok (.getfield 10, 3) := by decide +kernel
theorem dX6_lacksRight_7 : decode cX6_lacksRight 7 = .ok (.invokevirtual 40, 3) := by decide +kernel
theorem dX6_lacksRight_10 : decode cX6_lacksRight 10 = .ok (.if_icmp .ge 31, 3) := by decide +kernel
theorem dX6_lacksRight_13 : decode cX6_lacksRight 13 = .ok (.iload_n 2, 1) := by decide +kernel
theorem dX6_lacksRight_14 : decode cX6_lacksRight 14 = .ok (.iload_n 3, 1) := by decide +kernel
theorem dX6_lacksRight_15 : decode cX6_lacksRight 15 = .ok (.invokestatic 205, 3) := by decide +kernel
theorem dX6_lacksRight_18 : decode cX6_lacksRight 18 = .ok (.ifCond .eq 17, 3) := by decide +kernel
theorem dX6_lacksRight_21 : decode cX6_lacksRight 21 = .ok (.aload_n 1, 1) := by decide +kernel
theorem dX6_lacksRight_22 : decode cX6_lacksRight 22 = .ok (.aload_n 0, 1) := by decide +kernel
theorem dX6_lacksRight_23 : decode cX6_lacksRight 23 = .ok (.getfield 108, 3) := by decide +kernel
theorem dX6_lacksRight_26 : decode cX6_lacksRight 26 = .ok (.iload_n 3, 1) := by decide +kernel
theorem dX6_lacksRight_27 : decode cX6_lacksRight 27 = .ok (.invokevirtual 172, 3) := by decide +kernel
theorem dX6_lacksRight_30 : decode cX6_lacksRight 30 = .ok (.ifCond .ne 5, 3) := by decide +kernel
theorem dX6_lacksRight_33 : decode cX6_lacksRight 33 = .ok (.iconst 1, 1) := by decide +kernel
theorem dX6_lacksRight_34 : decode cX6_lacksRight 34 = .ok (.ireturn, 1) := by decide +kernel
theorem dX6_lacksRight_35 : decode cX6_lacksRight 35 = .ok (.iinc 3 1, 3) := by decide +kernel
theorem dX6_lacksRight_38 : decode cX6_lacksRight 38 = .ok (.goto (-36), 3) := by decide +kernel
theorem dX6_lacksRight_41 : decode cX6_lacksRight 41 = .ok (.iconst 0, 1) := by decide +kernel
theorem dX6_lacksRight_42 : decode cX6_lacksRight 42 = .ok (.ireturn, 1) := by decide +kernel
set_option maxRecDepth 20000 in
theorem ggX6_hasSealed_Jx4a65c_size_8abf5 : GoodIn wsX6_hasSealed wsJx4a65c_size_8abf5 := goodIn_r _ [8, 9, 43, 44, 45] (by decide +kernel) (by decide +kernel)
set_option maxRecDepth 20000 in
theorem gX6_hasSealed_Jx4a65c_size_8abf5 : GoodIn wsX6_hasSealed (wsV RX6 40 RJx4a65c yJx4a65c_size_8abf5 wsJx4a65c_size_8abf5) := goodIn_app (goodIn_of _ (by decide +kernel)) ggX6_hasSealed_Jx4a65c_size_8abf5
set_option maxRecDepth 20000 in
theorem ggX6_hasSealed_X6_holds : GoodIn wsX6_hasSealed wsX6_holds := goodIn_r _ [13] (by decide +kernel) (by decide +kernel)
set_option maxRecDepth 20000 in
theorem gX6_hasSealed_X6_holds : GoodIn wsX6_hasSealed (va_wsS RX6 205 yX6_holds wsX6_holds) := goodIn_app (goodIn_of _ (by decide +kernel)) ggX6_hasSealed_X6_holds
set_option maxRecDepth 20000 in
theorem ggX6_hasSealed_Jx4a65c_get_915e3 : GoodIn wsX6_hasSealed wsJx4a65c_get_915e3 := goodIn_r _ [17, 9, 18, 19, 20, 21, 22, 23, 24, 25, 26, 27, 28, 7, 29, 30, 43, 44, 45] (by decide +kernel) (by decide +kernel)
set_option maxRecDepth 20000 in
theorem gX6_hasSealed_Jx4a65c_get_915e3 : GoodIn wsX6_hasSealed (wsV RX6 68 RJx4a65c yJx4a65c_get_915e3 wsJx4a65c_get_915e3) := goodIn_app (goodIn_of _ (by decide +kernel)) ggX6_hasSealed_Jx4a65c_get_915e3
set_option maxRecDepth 20000 in
theorem ggX6_hasSealed_X1_isClosedIn : GoodIn wsX6_hasSealed wsX1_isClosedIn := goodIn_r _ [35, 36, 46, 47] (by decide +kernel) (by decide +kernel)
set_option maxRecDepth 20000 in
theorem gX6_hasSealed_X1_isClosedIn : GoodIn wsX6_hasSealed (wsV RX6 175 RX1 yX1_isClosedIn wsX1_isClosedIn) := goodIn_app (goodIn_of _ (by decide +kernel)) ggX6_hasSealed_X1_isClosedIn
theorem dX6_hasSealed_0 : decode cX6_hasSealed 0 = .ok (.iconst 0, 1) := by decide +kernel
theorem dX6_hasSealed_1 : decode cX6_hasSealed 1 = .ok (.istore_n 2, 1) := by decide +kernel
theorem dX6_hasSealed_2 : decode cX6_hasSealed 2 = .ok (.iload_n 2, 1) := by decide +kernel
theorem dX6_hasSealed_3 : decode cX6_hasSealed 3 = .ok (.aload_n 0, 1) := by decide +kernel
theorem dX6_hasSealed_4 : decode cX6_hasSealed 4 = .ok (.getfield 10, 3) := by decide +kernel
theorem dX6_hasSealed_7 : decode cX6_hasSealed 7 = .ok (.invokevirtual 40, 3) := by decide +kernel
theorem dX6_hasSealed_10 : decode cX6_hasSealed 10 = .ok (.if_icmp .ge 40, 3) := by decide +kernel
theorem dX6_hasSealed_13 : decode cX6_hasSealed 13 = .ok (.iload_n 1, 1) := by decide +kernel
theorem dX6_hasSealed_14 : decode cX6_hasSealed 14 = .ok (.iload_n 2, 1) := by decide +kernel
theorem dX6_hasSealed_15 : decode cX6_hasSealed 15 = .ok (.invokestatic 205, 3) := by decide +kernel
theorem dX6_hasSealed_18 : decode cX6_hasSealed 18 = .ok (.ifCond .eq 26, 3) := by decide +kernel
theorem dX6_hasSealed_21 : decode cX6_hasSealed 21 = .ok (.aload_n 0, 1) := by decide +kernel
theorem dX6_hasSealed_22 : decode cX6_hasSealed 22 = .ok (.getfield 10, 3) := by decide +kernel
theorem dX6_hasSealed_25 : decode cX6_hasSealed 25 = .ok (.iload_n 2, 1) := by decide +kernel
theorem dX6_hasSealed_26 : decode cX6_hasSealed 26 = .ok (.invokevirtual 68, 3) := by decide +kernel
theorem dX6_hasSealed_29 : decode cX6_hasSealed 29 = .ok (.checkcast 51, 3) := by decide +kernel
theorem dX6_hasSealed_32 : decode cX6_hasSealed 32 = .ok (.aload_n 0, 1) := by decide +kernel
theorem dX6_hasSealed_33 : decode cX6_hasSealed 33 = .ok (.getfield 108, 3) := by decide +kernel
theorem dX6_hasSealed_36 : decode cX6_hasSealed 36 = .ok (.invokevirtual 175, 3) := by decide +kernel
theorem dX6_hasSealed_39 : decode cX6_hasSealed 39 = .ok (.ifCond .eq 5, 3) := by decide +kernel
theorem dX6_hasSealed_42 : decode cX6_hasSealed 42 = .ok (.iconst 1, 1) := by decide +kernel
theorem dX6_hasSealed_43 : decode cX6_hasSealed 43 = .ok (.ireturn, 1) := by decide +kernel
theorem dX6_hasSealed_44 : decode cX6_hasSealed 44 = .ok (.iinc 2 1, 3) := by decide +kernel
theorem dX6_hasSealed_47 : decode cX6_hasSealed 47 = .ok (.goto (-45), 3) := by decide +kernel
theorem dX6_hasSealed_50 : decode cX6_hasSealed 50 = .ok (.iconst 0, 1) := by decide +kernel
theorem dX6_hasSealed_51 : decode cX6_hasSealed 51 = .ok (.ireturn, 1) := by decide +kernel
set_option maxRecDepth 20000 in
theorem ggX6_sumOf_Jx4a65c_size_8abf5 : GoodIn wsX6_sumOf wsJx4a65c_size_8abf5 := goodIn_r _ [7, 8, 38, 39, 40] (by decide +kernel) (by decide +kernel)
set_option maxRecDepth 20000 in
theorem gX6_sumOf_Jx4a65c_size_8abf5 : GoodIn wsX6_sumOf (wsV RX6 40 RJx4a65c yJx4a65c_size_8abf5 wsJx4a65c_size_8abf5) := goodIn_app (goodIn_of _ (by decide +kernel)) ggX6_sumOf_Jx4a65c_size_8abf5
set_option maxRecDepth 20000 in
theorem ggX6_sumOf_X6_holds : GoodIn wsX6_sumOf wsX6_holds := goodIn_r _ [12] (by decide +kernel) (by decide +kernel)
set_option maxRecDepth 20000 in
theorem gX6_sumOf_X6_holds : GoodIn wsX6_sumOf (va_wsS RX6 205 yX6_holds wsX6_holds) := goodIn_app (goodIn_of _ (by decide +kernel)) ggX6_sumOf_X6_holds
set_option maxRecDepth 20000 in
theorem ggX6_sumOf_Jx4a65c_get_915e3 : GoodIn wsX6_sumOf wsJx4a65c_get_915e3 := goodIn_r _ [16, 8, 17, 18, 19, 20, 21, 22, 23, 24, 25, 26, 27, 6, 28, 29, 38, 39, 40] (by decide +kernel) (by decide +kernel)
set_option maxRecDepth 20000 in
theorem gX6_sumOf_Jx4a65c_get_915e3 : GoodIn wsX6_sumOf (wsV RX6 68 RJx4a65c yJx4a65c_get_915e3 wsJx4a65c_get_915e3) := goodIn_app (goodIn_of _ (by decide +kernel)) ggX6_sumOf_Jx4a65c_get_915e3
theorem dX6_sumOf_0 : decode cX6_sumOf 0 = .ok (.iconst 0, 1) := by decide +kernel
theorem dX6_sumOf_1 : decode cX6_sumOf 1 = .ok (.istore_n 3, 1) := by decide +kernel
theorem dX6_sumOf_2 : decode cX6_sumOf 2 = .ok (.iconst 0, 1) := by decide +kernel
theorem dX6_sumOf_3 : decode cX6_sumOf 3 = .ok (.istore 4, 2) := by decide +kernel
theorem dX6_sumOf_5 : decode cX6_sumOf 5 = .ok (.iload 4, 2) := by decide +kernel
theorem dX6_sumOf_7 : decode cX6_sumOf 7 = .ok (.aload_n 0, 1) := by decide +kernel
theorem dX6_sumOf_8 : decode cX6_sumOf 8 = .ok (.getfield 10, 3) := by decide +kernel
theorem dX6_sumOf_11 : decode cX6_sumOf 11 = .ok (.invokevirtual 40, 3) := by decide +kernel
theorem dX6_sumOf_14 : decode cX6_sumOf 14 = .ok (.if_icmp .ge 36, 3) := by decide +kernel
theorem dX6_sumOf_17 : decode cX6_sumOf 17 = .ok (.iload_n 1, 1) := by decide +kernel
theorem dX6_sumOf_18 : decode cX6_sumOf 18 = .ok (.iload 4, 2) := by decide +kernel
theorem dX6_sumOf_20 : decode cX6_sumOf 20 = .ok (.invokestatic 205, 3) := by decide +kernel
theorem dX6_sumOf_23 : decode cX6_sumOf 23 = .ok (.ifCond .eq 21, 3) := by decide +kernel
theorem dX6_sumOf_26 : decode cX6_sumOf 26 = .ok (.iload_n 3, 1) := by decide +kernel
theorem dX6_sumOf_27 : decode cX6_sumOf 27 = .ok (.aload_n 0, 1) := by decide +kernel
theorem dX6_sumOf_28 : decode cX6_sumOf 28 = .ok (.getfield 10, 3) := by decide +kernel
theorem dX6_sumOf_31 : decode cX6_sumOf 31 = .ok (.iload 4, 2) := by decide +kernel
theorem dX6_sumOf_33 : decode cX6_sumOf 33 = .ok (.invokevirtual 68, 3) := by decide +kernel
theorem dX6_sumOf_36 : decode cX6_sumOf 36 = .ok (.checkcast 51, 3) := by decide +kernel
theorem dX6_sumOf_39 : decode cX6_sumOf 39 = .ok (.getfield 64, 3) := by decide +kernel
theorem dX6_sumOf_42 : decode cX6_sumOf 42 = .ok (.ixor, 1) := by decide +kernel
theorem dX6_sumOf_43 : decode cX6_sumOf 43 = .ok (.istore_n 3, 1) := by decide +kernel
theorem dX6_sumOf_44 : decode cX6_sumOf 44 = .ok (.iinc 4 1, 3) := by decide +kernel
theorem dX6_sumOf_47 : decode cX6_sumOf 47 = .ok (.goto (-42), 3) := by decide +kernel
theorem dX6_sumOf_50 : decode cX6_sumOf 50 = .ok (.iload_n 2, 1) := by decide +kernel
theorem dX6_sumOf_51 : decode cX6_sumOf 51 = .ok (.iconst (-1), 1) := by decide +kernel
theorem dX6_sumOf_52 : decode cX6_sumOf 52 = .ok (.if_icmp .ne 7, 3) := by decide +kernel
theorem dX6_sumOf_55 : decode cX6_sumOf 55 = .ok (.iload_n 3, 1) := by decide +kernel
theorem dX6_sumOf_56 : decode cX6_sumOf 56 = .ok (.goto 8, 3) := by decide +kernel
theorem dX6_sumOf_59 : decode cX6_sumOf 59 = .ok (.iload_n 3, 1) := by decide +kernel
theorem dX6_sumOf_60 : decode cX6_sumOf 60 = .ok (.iload_n 2, 1) := by decide +kernel
theorem dX6_sumOf_61 : decode cX6_sumOf 61 = .ok (.ishr, 1) := by decide +kernel
theorem dX6_sumOf_62 : decode cX6_sumOf 62 = .ok (.iconst 1, 1) := by decide +kernel
theorem dX6_sumOf_63 : decode cX6_sumOf 63 = .ok (.iand, 1) := by decide +kernel
theorem dX6_sumOf_64 : decode cX6_sumOf 64 = .ok (.ireturn, 1) := by decide +kernel
set_option maxRecDepth 20000 in
theorem ggX6_recall_Jx4a65c_size_8abf5 : GoodIn wsX6_recall wsJx4a65c_size_8abf5 := goodIn_r _ [7, 8, 76, 77, 78] (by decide +kernel) (by decide +kernel)
set_option maxRecDepth 20000 in
theorem gX6_recall_Jx4a65c_size_8abf5 : GoodIn wsX6_recall (wsV RX6 40 RJx4a65c yJx4a65c_size_8abf5 wsJx4a65c_size_8abf5) := goodIn_app (goodIn_of _ (by decide +kernel)) ggX6_recall_Jx4a65c_size_8abf5
set_option maxRecDepth 20000 in
theorem ggX6_recall_Jx4a65c_get_915e3 : GoodIn wsX6_recall wsJx4a65c_get_915e3 := goodIn_r _ [12, 8, 13, 14, 15, 16, 17, 18, 19, 20, 21, 22, 23, 6, 24, 25, 76, 77, 78] (by decide +kernel) (by decide +kernel)
set_option maxRecDepth 20000 in
theorem gX6_recall_Jx4a65c_get_915e3 : GoodIn wsX6_recall (wsV RX6 68 RJx4a65c yJx4a65c_get_915e3 wsJx4a65c_get_915e3) := goodIn_app (goodIn_of _ (by decide +kernel)) ggX6_recall_Jx4a65c_get_915e3
set_option maxRecDepth 20000 in
theorem ggX6_recall_X0_standsFor : GoodIn wsX6_recall wsX0_standsFor := goodIn_r _ [30, 31, 32, 70, 71, 72, 73, 74, 75, 79, 80, 81, 82, 83] (by decide +kernel) (by decide +kernel)
set_option maxRecDepth 20000 in
theorem gX6_recall_X0_standsFor : GoodIn wsX6_recall (wsV RX6 209 RX0 yX0_standsFor wsX0_standsFor) := goodIn_app (goodIn_of _ (by decide +kernel)) ggX6_recall_X0_standsFor
set_option maxRecDepth 20000 in
theorem ggX6_recall_X6_holds : GoodIn wsX6_recall wsX6_holds := goodIn_r _ [36] (by decide +kernel) (by decide +kernel)
set_option maxRecDepth 20000 in
theorem gX6_recall_X6_holds : GoodIn wsX6_recall (va_wsS RX6 205 yX6_holds wsX6_holds) := goodIn_app (goodIn_of _ (by decide +kernel)) ggX6_recall_X6_holds
set_option maxRecDepth 20000 in
theorem ggX6_recall_X6_learnAnew : GoodIn wsX6_recall wsX6_learnAnew := goodIn_r _ [40, 1, 2, 41, 42, 43, 44, 45, 46, 47, 48, 49, 50, 51, 52, 53, 3, 4, 5, 6, 7, 8, 9, 10, 11, 12, 13, 14, 15, 16, 17, 18, 19, 20, 21, 22, 23, 24, 25, 26, 27, 28, 29, 30, 31, 32, 54, 55, 56, 57, 58, 35, 59, 60, 61, 62, 63, 34, 36, 64, 65, 66, 67, 68, 69, 70, 71, 72, 73, 74, 75, 79, 80, 81, 82, 83, 84, 85, 76, 77, 78] (by decide +kernel) (by decide +kernel)
set_option maxRecDepth 20000 in
theorem gX6_recall_X6_learnAnew : GoodIn wsX6_recall (wsV RX6 220 RX6 yX6_learnAnew wsX6_learnAnew) := goodIn_app (goodIn_of _ (by decide +kernel)) ggX6_recall_X6_learnAnew
theorem dX6_recall_0 : decode cX6_recall 0 = .ok (.iconst 0, 1) := by decide +kernel
theorem dX6_recall_1 : decode cX6_recall 1 = .ok (.istore_n 3, 1) := by decide +kernel
theorem dX6_recall_2 : decode cX6_recall 2 = .ok (.iconst 0, 1) := by decide +kernel
theorem dX6_recall_3 : decode cX6_recall 3 = .ok (.istore 4, 2) := by decide +kernel
theorem dX6_recall_5 : decode cX6_recall 5 = .ok (.iload 4, 2) := by decide +kernel
theorem dX6_recall_7 : decode cX6_recall 7 = .ok (.aload_n 0, 1) := by decide +kernel
theorem dX6_recall_8 : decode cX6_recall 8 = .ok (.getfield 19, 3) := by decide +kernel
theorem dX6_recall_11 : decode cX6_recall 11 = .ok (.invokevirtual 40, 3) := by decide +kernel
theorem dX6_recall_14 : decode cX6_recall 14 = .ok (.if_icmp .ge 53, 3) := by decide +kernel
theorem dX6_recall_17 : decode cX6_recall 17 = .ok (.aload_n 0, 1) := by decide +kernel
theorem dX6_recall_18 : decode cX6_recall 18 = .ok (.getfield 19, 3) := by decide +kernel
theorem dX6_recall_21 : decode cX6_recall 21 = .ok (.iload 4, 2) := by decide +kernel
theorem dX6_recall_23 : decode cX6_recall 23 = .ok (.invokevirtual 68, 3) := by decide +kernel
theorem dX6_recall_26 : decode cX6_recall 26 = .ok (.checkcast 129, 3) := by decide +kernel
theorem dX6_recall_29 : decode cX6_recall 29 = .ok (.astore 5, 2) := by decide +kernel
theorem dX6_recall_31 : decode cX6_recall 31 = .ok (.aload 5, 2) := by decide +kernel
theorem dX6_recall_33 : decode cX6_recall 33 = .ok (.aload_n 1, 1) := by decide +kernel
theorem dX6_recall_34 : decode cX6_recall 34 = .ok (.invokevirtual 209, 3) := by decide +kernel
theorem dX6_recall_37 : decode cX6_recall 37 = .ok (.ifCond .eq 24, 3) := by decide +kernel
theorem dX6_recall_40 : decode cX6_recall 40 = .ok (.aload 5, 2) := by decide +kernel
theorem dX6_recall_42 : decode cX6_recall 42 = .ok (.getfield 213, 3) := by decide +kernel
theorem dX6_recall_45 : decode cX6_recall 45 = .ok (.iload_n 2, 1) := by decide +kernel
theorem dX6_recall_46 : decode cX6_recall 46 = .ok (.invokestatic 205, 3) := by decide +kernel
theorem dX6_recall_49 : decode cX6_recall 49 = .ok (.ifCond .eq 12, 3) := by decide +kernel
theorem dX6_recall_52 : decode cX6_recall 52 = .ok (.aload 5, 2) := by decide +kernel
theorem dX6_recall_54 : decode cX6_recall 54 = .ok (.iconst 1, 1) := by decide +kernel
theorem dX6_recall_55 : decode cX6_recall 55 = .ok (.putfield 216, 3) := by decide +kernel
theorem dX6_recall_58 : decode cX6_recall 58 = .ok (.iinc 3 1, 3) := by decide +kernel
theorem dX6_recall_61 : decode cX6_recall 61 = .ok (.iinc 4 1, 3) := by decide +kernel
theorem dX6_recall_64 : decode cX6_recall 64 = .ok (.goto (-59), 3) := by decide +kernel
theorem dX6_recall_67 : decode cX6_recall 67 = .ok (.iload_n 3, 1) := by decide +kernel
theorem dX6_recall_68 : decode cX6_recall 68 = .ok (.ifCond .le 8, 3) := by decide +kernel
theorem dX6_recall_71 : decode cX6_recall 71 = .ok (.aload_n 0, 1) := by decide +kernel
theorem dX6_recall_72 : decode cX6_recall 72 = .ok (.aload_n 1, 1) := by decide +kernel
theorem dX6_recall_73 : decode cX6_recall 73 = .ok (.invokevirtual 220, 3) := by decide +kernel
theorem dX6_recall_76 : decode cX6_recall 76 = .ok (.iload_n 3, 1) := by decide +kernel
theorem dX6_recall_77 : decode cX6_recall 77 = .ok (.ireturn, 1) := by decide +kernel
set_option maxRecDepth 20000 in
theorem ggX6_learnAnew_X4_forget : GoodIn wsX6_learnAnew wsX4_forget := goodIn_r _ [7, 8, 9, 10, 11, 12, 13, 14, 15, 71, 72, 73, 74, 75, 76, 77] (by decide +kernel) (by decide +kernel)
set_option maxRecDepth 20000 in
theorem gX6_learnAnew_X4_forget : GoodIn wsX6_learnAnew (wsV RX6 224 RX4 yX4_forget wsX4_forget) := goodIn_app (goodIn_of _ (by decide +kernel)) ggX6_learnAnew_X4_forget
set_option maxRecDepth 20000 in
theorem ggX6_learnAnew_Jx4a65c_size_8abf5 : GoodIn wsX6_learnAnew wsJx4a65c_size_8abf5 := goodIn_r _ [20, 21, 78, 79, 80] (by decide +kernel) (by decide +kernel)
set_option maxRecDepth 20000 in
theorem gX6_learnAnew_Jx4a65c_size_8abf5 : GoodIn wsX6_learnAnew (wsV RX6 40 RJx4a65c yJx4a65c_size_8abf5 wsJx4a65c_size_8abf5) := goodIn_app (goodIn_of _ (by decide +kernel)) ggX6_learnAnew_Jx4a65c_size_8abf5
set_option maxRecDepth 20000 in
theorem ggX6_learnAnew_Jx4a65c_get_915e3 : GoodIn wsX6_learnAnew wsJx4a65c_get_915e3 := goodIn_r _ [25, 21, 26, 27, 28, 29, 30, 31, 32, 33, 34, 35, 36, 19, 37, 38, 78, 79, 80] (by decide +kernel) (by decide +kernel)
set_option maxRecDepth 20000 in
theorem gX6_learnAnew_Jx4a65c_get_915e3 : GoodIn wsX6_learnAnew (wsV RX6 68 RJx4a65c yJx4a65c_get_915e3 wsJx4a65c_get_915e3) := goodIn_app (goodIn_of _ (by decide +kernel)) ggX6_learnAnew_Jx4a65c_get_915e3
set_option maxRecDepth 20000 in
theorem ggX6_learnAnew_X0_standsFor : GoodIn wsX6_learnAnew wsX0_standsFor := goodIn_r _ [43, 44, 45, 65, 66, 67, 68, 69, 70, 71, 72, 73, 74, 75] (by decide +kernel) (by decide +kernel)
set_option maxRecDepth 20000 in
theorem gX6_learnAnew_X0_standsFor : GoodIn wsX6_learnAnew (wsV RX6 209 RX0 yX0_standsFor wsX0_standsFor) := goodIn_app (goodIn_of _ (by decide +kernel)) ggX6_learnAnew_X0_standsFor
set_option maxRecDepth 20000 in
theorem ggX6_learnAnew_X4_learn : GoodIn wsX6_learnAnew wsX4_learn := goodIn_r _ [49, 8, 50, 51, 52, 53, 54, 55, 12, 56, 14, 15, 57, 58, 71, 72, 73, 74, 75, 76, 77] (by decide +kernel) (by decide +kernel)
set_option maxRecDepth 20000 in
theorem gX6_learnAnew_X4_learn : GoodIn wsX6_learnAnew (wsV RX6 137 RX4 yX4_learn wsX4_learn) := goodIn_app (goodIn_of _ (by decide +kernel)) ggX6_learnAnew_X4_learn
theorem dX6_learnAnew_0 : decode cX6_learnAnew 0 = .ok (.aload_n 1, 1) := by decide +kernel
theorem dX6_learnAnew_1 : decode cX6_learnAnew 1 = .ok (.invokevirtual 224, 3) := by decide +kernel
theorem dX6_learnAnew_4 : decode cX6_learnAnew 4 = .ok (.iconst 0, 1) := by decide +kernel
theorem dX6_learnAnew_5 : decode cX6_learnAnew 5 = .ok (.istore_n 2, 1) := by decide +kernel
theorem dX6_learnAnew_6 : decode cX6_learnAnew 6 = .ok (.iload_n 2, 1) := by decide +kernel
theorem dX6_learnAnew_7 : decode cX6_learnAnew 7 = .ok (.aload_n 0, 1) := by decide +kernel
theorem dX6_learnAnew_8 : decode cX6_learnAnew 8 = .ok (.getfield 19, 3) := by decide +kernel
theorem dX6_learnAnew_11 : decode cX6_learnAnew 11 = .ok (.invokevirtual 40, 3) := by decide +kernel
theorem dX6_learnAnew_14 : decode cX6_learnAnew 14 = .ok (.if_icmp .ge 41, 3) := by decide +kernel
theorem dX6_learnAnew_17 : decode cX6_learnAnew 17 = .ok (.aload_n 0, 1) := by decide +kernel
theorem dX6_learnAnew_18 : decode cX6_learnAnew 18 = .ok (.getfield 19, 3) := by decide +kernel
theorem dX6_learnAnew_21 : decode cX6_learnAnew 21 = .ok (.iload_n 2, 1) := by decide +kernel
theorem dX6_learnAnew_22 : decode cX6_learnAnew 22 = .ok (.invokevirtual 68, 3) := by decide +kernel
theorem dX6_learnAnew_25 : decode cX6_learnAnew 25 = .ok (.checkcast 129, 3) := by decide +kernel
theorem dX6_learnAnew_28 : decode cX6_learnAnew 28 = .ok (.astore_n 3, 1) := by decide +kernel
theorem dX6_learnAnew_29 : decode cX6_learnAnew 29 = .ok (.aload_n 3, 1) := by decide +kernel
theorem dX6_learnAnew_30 : decode cX6_learnAnew 30 = .ok (.aload_n 1, 1) := by decide +kernel
theorem dX6_learnAnew_31 : decode cX6_learnAnew 31 = .ok (.invokevirtual 209, 3) := by decide +kernel
theorem dX6_learnAnew_34 : decode cX6_learnAnew 34 = .ok (.ifCond .eq 15, 3) := by decide +kernel
theorem dX6_learnAnew_37 : decode cX6_learnAnew 37 = .ok (.aload_n 1, 1) := by decide +kernel
theorem dX6_learnAnew_38 : decode cX6_learnAnew 38 = .ok (.aload_n 3, 1) := by decide +kernel
theorem dX6_learnAnew_39 : decode cX6_learnAnew 39 = .ok (.getfield 213, 3) := by decide +kernel
theorem dX6_learnAnew_42 : decode cX6_learnAnew 42 = .ok (.aload_n 3, 1) := by decide +kernel
theorem dX6_learnAnew_43 : decode cX6_learnAnew 43 = .ok (.getfield 227, 3) := by decide +kernel
theorem dX6_learnAnew_46 : decode cX6_learnAnew 46 = .ok (.invokevirtual 137, 3) := by decide +kernel
theorem dX6_learnAnew_49 : decode cX6_learnAnew 49 = .ok (.iinc 2 1, 3) := by decide +kernel
theorem dX6_learnAnew_52 : decode cX6_learnAnew 52 = .ok (.goto (-46), 3) := by decide +kernel
theorem dX6_learnAnew_55 : decode cX6_learnAnew 55 = .ok (.return_, 1) := by decide +kernel
set_option maxRecDepth 20000 in
theorem ggX6_countStanding_Jx4a65c_size_8abf5 : GoodIn wsX6_countStanding wsJx4a65c_size_8abf5 := goodIn_r _ [7, 8, 39, 40, 41] (by decide +kernel) (by decide +kernel)
set_option maxRecDepth 20000 in
theorem gX6_countStanding_Jx4a65c_size_8abf5 : GoodIn wsX6_countStanding (wsV RX6 40 RJx4a65c yJx4a65c_size_8abf5 wsJx4a65c_size_8abf5) := goodIn_app (goodIn_of _ (by decide +kernel)) ggX6_countStanding_Jx4a65c_size_8abf5
set_option maxRecDepth 20000 in
theorem ggX6_countStanding_Jx4a65c_get_915e3 : GoodIn wsX6_countStanding wsJx4a65c_get_915e3 := goodIn_r _ [12, 8, 13, 14, 15, 16, 17, 18, 19, 20, 21, 22, 23, 6, 24, 25, 39, 40, 41] (by decide +kernel) (by decide +kernel)
set_option maxRecDepth 20000 in
theorem gX6_countStanding_Jx4a65c_get_915e3 : GoodIn wsX6_countStanding (wsV RX6 68 RJx4a65c yJx4a65c_get_915e3 wsJx4a65c_get_915e3) := goodIn_app (goodIn_of _ (by decide +kernel)) ggX6_countStanding_Jx4a65c_get_915e3
set_option maxRecDepth 20000 in
theorem ggX6_countStanding_X0_standsFor : GoodIn wsX6_countStanding wsX0_standsFor := goodIn_r _ [30, 31, 32, 42, 43, 44, 45, 46, 47, 48, 49, 50, 51, 52] (by decide +kernel) (by decide +kernel)
set_option maxRecDepth 20000 in
theorem gX6_countStanding_X0_standsFor : GoodIn wsX6_countStanding (wsV RX6 209 RX0 yX0_standsFor wsX0_standsFor) := goodIn_app (goodIn_of _ (by decide +kernel)) ggX6_countStanding_X0_standsFor
theorem dX6_countStanding_0 : decode cX6_countStanding 0 = .ok (.iconst 0, 1) := by decide +kernel
theorem dX6_countStanding_1 : decode cX6_countStanding 1 = .ok (.istore_n 2, 1) := by decide +kernel
theorem dX6_countStanding_2 : decode cX6_countStanding 2 = .ok (.iconst 0, 1) := by decide +kernel
theorem dX6_countStanding_3 : decode cX6_countStanding 3 = .ok (.istore_n 3, 1) := by decide +kernel
theorem dX6_countStanding_4 : decode cX6_countStanding 4 = .ok (.iload_n 3, 1) := by decide +kernel
theorem dX6_countStanding_5 : decode cX6_countStanding 5 = .ok (.aload_n 0, 1) := by decide +kernel
theorem dX6_countStanding_6 : decode cX6_countStanding 6 = .ok (.getfield 19, 3) := by decide +kernel
theorem dX6_countStanding_9 : decode cX6_countStanding 9 = .ok (.invokevirtual 40, 3) := by decide +kernel
theorem dX6_countStanding_12 : decode cX6_countStanding 12 = .ok (.if_icmp .ge 30, 3) := by decide +kernel
theorem dX6_countStanding_15 : decode cX6_countStanding 15 = .ok (.aload_n 0, 1) := by decide +kernel
theorem dX6_countStanding_16 : decode cX6_countStanding 16 = .ok (.getfield 19, 3) := by decide +kernel
theorem dX6_countStanding_19 : decode cX6_countStanding 19 = .ok (.iload_n 3, 1) := by decide +kernel
theorem dX6_countStanding_20 : decode cX6_countStanding 20 = .ok (.invokevirtual 68, 3) := by decide +kernel
theorem dX6_countStanding_23 : decode cX6_countStanding 23 = .ok (.checkcast 129, 3) := by decide +kernel
theorem dX6_countStanding_26 : decode cX6_countStanding 26 = .ok (.aload_n 1, 1) := by decide +kernel
theorem dX6_countStanding_27 : decode cX6_countStanding 27 = .ok (.invokevirtual 209, 3) := by decide +kernel
theorem dX6_countStanding_30 : decode cX6_countStanding 30 = .ok (.ifCond .eq 6, 3) := by decide +kernel
theorem dX6_countStanding_33 : decode cX6_countStanding 33 = .ok (.iinc 2 1, 3) := by decide +kernel
theorem dX6_countStanding_36 : decode cX6_countStanding 36 = .ok (.iinc 3 1, 3) := by decide +kernel
theorem dX6_countStanding_39 : decode cX6_countStanding 39 = .ok (.goto (-35), 3) := by decide +kernel
theorem dX6_countStanding_42 : decode cX6_countStanding 42 = .ok (.iload_n 2, 1) := by decide +kernel
theorem dX6_countStanding_43 : decode cX6_countStanding 43 = .ok (.ireturn, 1) := by decide +kernel
set_option maxRecDepth 20000 in
theorem ggX6_countKnownSets_Jx4a65c_size_8abf5 : GoodIn wsX6_countKnownSets wsJx4a65c_size_8abf5 := goodIn_r _ [9, 10, 90, 91, 92] (by decide +kernel) (by decide +kernel)
set_option maxRecDepth 20000 in
theorem gX6_countKnownSets_Jx4a65c_size_8abf5 : GoodIn wsX6_countKnownSets (wsV RX6 40 RJx4a65c yJx4a65c_size_8abf5 wsJx4a65c_size_8abf5) := goodIn_app (goodIn_of _ (by decide +kernel)) ggX6_countKnownSets_Jx4a65c_size_8abf5
set_option maxRecDepth 20000 in
theorem ggX6_countKnownSets_X3_begin : GoodIn wsX6_countKnownSets wsX3_begin := goodIn_r _ [15, 16, 17, 18, 19, 20, 21, 22, 23, 24, 93, 94] (by decide +kernel) (by decide +kernel)
set_option maxRecDepth 20000 in
theorem gX6_countKnownSets_X3_begin : GoodIn wsX6_countKnownSets (wsV RX6 230 RX3 yX3_begin wsX3_begin) := goodIn_app (goodIn_of _ (by decide +kernel)) ggX6_countKnownSets_X3_begin
set_option maxRecDepth 20000 in
theorem ggX6_countKnownSets_Jx4a65c_get_915e3 : GoodIn wsX6_countKnownSets wsJx4a65c_get_915e3 := goodIn_r _ [28, 10, 29, 30, 31, 32, 33, 34, 35, 36, 37, 38, 39, 8, 40, 41, 90, 91, 92] (by decide +kernel) (by decide +kernel)
set_option maxRecDepth 20000 in
theorem gX6_countKnownSets_Jx4a65c_get_915e3 : GoodIn wsX6_countKnownSets (wsV RX6 68 RJx4a65c yJx4a65c_get_915e3 wsJx4a65c_get_915e3) := goodIn_app (goodIn_of _ (by decide +kernel)) ggX6_countKnownSets_Jx4a65c_get_915e3
set_option maxRecDepth 20000 in
theorem ggX6_countKnownSets_X0_standsFor : GoodIn wsX6_countKnownSets wsX0_standsFor := goodIn_r _ [46, 47, 48, 84, 85, 86, 87, 88, 89, 95, 96, 97, 98, 99] (by decide +kernel) (by decide +kernel)
set_option maxRecDepth 20000 in
theorem gX6_countKnownSets_X0_standsFor : GoodIn wsX6_countKnownSets (wsV RX6 209 RX0 yX0_standsFor wsX0_standsFor) := goodIn_app (goodIn_of _ (by decide +kernel)) ggX6_countKnownSets_X0_standsFor
set_option maxRecDepth 20000 in
theorem ggX6_countKnownSets_X6_covers : GoodIn wsX6_countKnownSets wsX6_covers := goodIn_r _ [52] (by decide +kernel) (by decide +kernel)
set_option maxRecDepth 20000 in
theorem gX6_countKnownSets_X6_covers : GoodIn wsX6_countKnownSets (va_wsS RX6 233 yX6_covers wsX6_covers) := goodIn_app (goodIn_of _ (by decide +kernel)) ggX6_countKnownSets_X6_covers
set_option maxRecDepth 20000 in
theorem ggX6_countKnownSets_X3_add : GoodIn wsX6_countKnownSets wsX3_add := goodIn_r _ [56, 24, 16, 57, 58, 59, 14, 60, 61, 62, 63, 64, 65, 51, 66, 93, 94] (by decide +kernel) (by decide +kernel)
set_option maxRecDepth 20000 in
theorem gX6_countKnownSets_X3_add : GoodIn wsX6_countKnownSets (wsV RX6 236 RX3 yX3_add wsX3_add) := goodIn_app (goodIn_of _ (by decide +kernel)) ggX6_countKnownSets_X3_add
set_option maxRecDepth 20000 in
theorem ggX6_countKnownSets_X3_sets : GoodIn wsX6_countKnownSets wsX3_sets := goodIn_r _ [70, 24, 16, 71, 72, 73, 74, 75, 76, 77, 93, 94] (by decide +kernel) (by decide +kernel)
set_option maxRecDepth 20000 in
theorem gX6_countKnownSets_X3_sets : GoodIn wsX6_countKnownSets (wsV RX6 238 RX3 yX3_sets wsX3_sets) := goodIn_app (goodIn_of _ (by decide +kernel)) ggX6_countKnownSets_X3_sets
theorem dX6_countKnownSets_0 : decode cX6_countKnownSets 0 = .ok (.aload_n 0, 1) := by decide +kernel
theorem dX6_countKnownSets_1 : decode cX6_countKnownSets 1 = .ok (.getfield 32, 3) := by decide +kernel
theorem dX6_countKnownSets_4 : decode cX6_countKnownSets 4 = .ok (.aload_n 0, 1) := by decide +kernel
theorem dX6_countKnownSets_5 : decode cX6_countKnownSets 5 = .ok (.getfield 10, 3) := by decide +kernel
theorem dX6_countKnownSets_8 : decode cX6_countKnownSets 8 = .ok (.invokevirtual 40, 3) := by decide +kernel
theorem dX6_countKnownSets_11 : decode cX6_countKnownSets 11 = .ok (.invokevirtual 230, 3) := by decide +kernel
theorem dX6_countKnownSets_14 : decode cX6_countKnownSets 14 = .ok (.iconst 0, 1) := by decide +kernel
theorem dX6_countKnownSets_15 : decode cX6_countKnownSets 15 = .ok (.istore_n 3, 1) := by decide +kernel
theorem dX6_countKnownSets_16 : decode cX6_countKnownSets 16 = .ok (.iload_n 3, 1) := by decide +kernel
theorem dX6_countKnownSets_17 : decode cX6_countKnownSets 17 = .ok (.aload_n 0, 1) := by decide +kernel
theorem dX6_countKnownSets_18 : decode cX6_countKnownSets 18 = .ok (.getfield 19, 3) := by decide +kernel
theorem dX6_countKnownSets_21 : decode cX6_countKnownSets 21 = .ok (.invokevirtual 40, 3) := by decide +kernel
theorem dX6_countKnownSets_24 : decode cX6_countKnownSets 24 = .ok (.if_icmp .ge 55, 3) := by decide +kernel
theorem dX6_countKnownSets_27 : decode cX6_countKnownSets 27 = .ok (.aload_n 0, 1) := by decide +kernel
theorem dX6_countKnownSets_28 : decode cX6_countKnownSets 28 = .ok (.getfield 19, 3) := by decide +kernel
theorem dX6_countKnownSets_31 : decode cX6_countKnownSets 31 = .ok (.iload_n 3, 1) := by decide +kernel
theorem dX6_countKnownSets_32 : decode cX6_countKnownSets 32 = .ok (.invokevirtual 68, 3) := by decide +kernel
theorem dX6_countKnownSets_35 : decode cX6_countKnownSets 35 = .ok (.checkcast 129, 3) := by decide +kernel
theorem dX6_countKnownSets_38 : decode cX6_countKnownSets 38 = .ok (.astore 4, 2) := by decide +kernel
theorem dX6_countKnownSets_40 : decode cX6_countKnownSets 40 = .ok (.aload 4, 2) := by decide +kernel
theorem dX6_countKnownSets_42 : decode cX6_countKnownSets 42 = .ok (.aload_n 1, 1) := by decide +kernel
theorem dX6_countKnownSets_43 : decode cX6_countKnownSets 43 = .ok (.invokevirtual 209, 3) := by decide +kernel
theorem dX6_countKnownSets_46 : decode cX6_countKnownSets 46 = .ok (.ifCond .eq 27, 3) := by decide +kernel
theorem dX6_countKnownSets_49 : decode cX6_countKnownSets 49 = .ok (.aload 4, 2) := by decide +kernel
theorem dX6_countKnownSets_51 : decode cX6_countKnownSets 51 = .ok (.getfield 227, 3) := by decide +kernel
theorem dX6_countKnownSets_54 : decode cX6_countKnownSets 54 = .ok (.iload_n 2, 1) := by decide +kernel
theorem dX6_countKnownSets_55 : decode cX6_countKnownSets 55 = .ok (.invokestatic 233, 3) := by decide +kernel
theorem dX6_countKnownSets_58 : decode cX6_countKnownSets 58 = .ok (.ifCond .eq 15, 3) := by decide +kernel
theorem dX6_countKnownSets_61 : decode cX6_countKnownSets 61 = .ok (.aload_n 0, 1) := by decide +kernel
theorem dX6_countKnownSets_62 : decode cX6_countKnownSets 62 = .ok (.getfield 32, 3) := by decide +kernel
theorem dX6_countKnownSets_65 : decode cX6_countKnownSets 65 = .ok (.aload 4, 2) := by decide +kernel
theorem dX6_countKnownSets_67 : decode cX6_countKnownSets 67 = .ok (.getfield 213, 3) := by decide +kernel
theorem dX6_countKnownSets_70 : decode cX6_countKnownSets 70 = .ok (.invokevirtual 236, 3) := by decide +kernel
theorem dX6_countKnownSets_73 : decode cX6_countKnownSets 73 = .ok (.iinc 3 1, 3) := by decide +kernel
theorem dX6_countKnownSets_76 : decode cX6_countKnownSets 76 = .ok (.goto (-60), 3) := by decide +kernel
theorem dX6_countKnownSets_79 : decode cX6_countKnownSets 79 = .ok (.aload_n 0, 1) := by decide +kernel
theorem dX6_countKnownSets_80 : decode cX6_countKnownSets 80 = .ok (.getfield 32, 3) := by decide +kernel
theorem dX6_countKnownSets_83 : decode cX6_countKnownSets 83 = .ok (.invokevirtual 238, 3) := by decide +kernel
theorem dX6_countKnownSets_86 : decode cX6_countKnownSets 86 = .ok (.ireturn, 1) := by decide +kernel
theorem dX6_generatorsOf_0 : decode cX6_generatorsOf 0 = .ok (.iconst 0, 1) := by decide +kernel
theorem dX6_generatorsOf_1 : decode cX6_generatorsOf 1 = .ok (.istore_n 1, 1) := by decide +kernel
theorem dX6_generatorsOf_2 : decode cX6_generatorsOf 2 = .ok (.iload_n 0, 1) := by decide +kernel
theorem dX6_generatorsOf_3 : decode cX6_generatorsOf 3 = .ok (.istore_n 2, 1) := by decide +kernel
theorem dX6_generatorsOf_4 : decode cX6_generatorsOf 4 = .ok (.iload_n 2, 1) := by decide +kernel
theorem dX6_generatorsOf_5 : decode cX6_generatorsOf 5 = .ok (.iconst 1, 1) := by decide +kernel
theorem dX6_generatorsOf_6 : decode cX6_generatorsOf 6 = .ok (.if_icmp .le 13, 3) := by decide +kernel
theorem dX6_generatorsOf_9 : decode cX6_generatorsOf 9 = .ok (.iinc 1 1, 3) := by decide +kernel
theorem dX6_generatorsOf_12 : decode cX6_generatorsOf 12 = .ok (.iload_n 2, 1) := by decide +kernel
theorem dX6_generatorsOf_13 : decode cX6_generatorsOf 13 = .ok (.iconst 1, 1) := by decide +kernel
theorem dX6_generatorsOf_14 : decode cX6_generatorsOf 14 = .ok (.ishr, 1) := by decide +kernel
theorem dX6_generatorsOf_15 : decode cX6_generatorsOf 15 = .ok (.istore_n 2, 1) := by decide +kernel
theorem dX6_generatorsOf_16 : decode cX6_generatorsOf 16 = .ok (.goto (-12), 3) := by decide +kernel
theorem dX6_generatorsOf_19 : decode cX6_generatorsOf 19 = .ok (.iload_n 1, 1) := by decide +kernel
theorem dX6_generatorsOf_20 : decode cX6_generatorsOf 20 = .ok (.ireturn, 1) := by decide +kernel
set_option maxRecDepth 20000 in
theorem ggX6_shareKnowledge_X2_forget : GoodIn wsX6_shareKnowledge wsX2_forget := goodIn_r _ [8, 9, 10, 57, 58] (by decide +kernel) (by decide +kernel)
set_option maxRecDepth 20000 in
theorem gX6_shareKnowledge_X2_forget : GoodIn wsX6_shareKnowledge (wsV RX6 241 RX2 yX2_forget wsX2_forget) := goodIn_app (goodIn_of _ (by decide +kernel)) ggX6_shareKnowledge_X2_forget
set_option maxRecDepth 20000 in
theorem ggX6_shareKnowledge_Jx4a65c_size_8abf5 : GoodIn wsX6_shareKnowledge wsJx4a65c_size_8abf5 := goodIn_r _ [15, 16, 59, 60, 61] (by decide +kernel) (by decide +kernel)
set_option maxRecDepth 20000 in
theorem gX6_shareKnowledge_Jx4a65c_size_8abf5 : GoodIn wsX6_shareKnowledge (wsV RX6 40 RJx4a65c yJx4a65c_size_8abf5 wsJx4a65c_size_8abf5) := goodIn_app (goodIn_of _ (by decide +kernel)) ggX6_shareKnowledge_Jx4a65c_size_8abf5
set_option maxRecDepth 20000 in
theorem ggX6_shareKnowledge_Jx4a65c_get_915e3 : GoodIn wsX6_shareKnowledge wsJx4a65c_get_915e3 := goodIn_r _ [20, 16, 21, 22, 23, 24, 25, 26, 27, 28, 29, 30, 31, 14, 32, 33, 59, 60, 61] (by decide +kernel) (by decide +kernel)
set_option maxRecDepth 20000 in
theorem gX6_shareKnowledge_Jx4a65c_get_915e3 : GoodIn wsX6_shareKnowledge (wsV RX6 68 RJx4a65c yJx4a65c_get_915e3 wsJx4a65c_get_915e3) := goodIn_app (goodIn_of _ (by decide +kernel)) ggX6_shareKnowledge_Jx4a65c_get_915e3
set_option maxRecDepth 20000 in
theorem ggX6_shareKnowledge_X6_holds : GoodIn wsX6_shareKnowledge wsX6_holds := goodIn_r _ [37] (by decide +kernel) (by decide +kernel)
set_option maxRecDepth 20000 in
theorem gX6_shareKnowledge_X6_holds : GoodIn wsX6_shareKnowledge (va_wsS RX6 205 yX6_holds wsX6_holds) := goodIn_app (goodIn_of _ (by decide +kernel)) ggX6_shareKnowledge_X6_holds
set_option maxRecDepth 20000 in
theorem ggX6_shareKnowledge_X2_learnFrom : GoodIn wsX6_shareKnowledge wsX2_learnFrom := goodIn_r _ [41, 9, 42, 43, 44, 7, 45, 10, 35, 36, 37, 57, 58] (by decide +kernel) (by decide +kernel)
set_option maxRecDepth 20000 in
theorem gX6_shareKnowledge_X2_learnFrom : GoodIn wsX6_shareKnowledge (wsV RX6 242 RX2 yX2_learnFrom wsX2_learnFrom) := goodIn_app (goodIn_of _ (by decide +kernel)) ggX6_shareKnowledge_X2_learnFrom
theorem dX6_shareKnowledge_0 : decode cX6_shareKnowledge 0 = .ok (.aload_n 0, 1) := by decide +kernel
theorem dX6_shareKnowledge_1 : decode cX6_shareKnowledge 1 = .ok (.getfield 25, 3) := by decide +kernel
theorem dX6_shareKnowledge_4 : decode cX6_shareKnowledge 4 = .ok (.invokevirtual 241, 3) := by decide +kernel
theorem dX6_shareKnowledge_7 : decode cX6_shareKnowledge 7 = .ok (.iconst 0, 1) := by decide +kernel
theorem dX6_shareKnowledge_8 : decode cX6_shareKnowledge 8 = .ok (.istore_n 3, 1) := by decide +kernel
theorem dX6_shareKnowledge_9 : decode cX6_shareKnowledge 9 = .ok (.iload_n 3, 1) := by decide +kernel
theorem dX6_shareKnowledge_10 : decode cX6_shareKnowledge 10 = .ok (.aload_n 0, 1) := by decide +kernel
theorem dX6_shareKnowledge_11 : decode cX6_shareKnowledge 11 = .ok (.getfield 16, 3) := by decide +kernel
theorem dX6_shareKnowledge_14 : decode cX6_shareKnowledge 14 = .ok (.invokevirtual 40, 3) := by decide +kernel
theorem dX6_shareKnowledge_17 : decode cX6_shareKnowledge 17 = .ok (.if_icmp .ge 54, 3) := by decide +kernel
theorem dX6_shareKnowledge_20 : decode cX6_shareKnowledge 20 = .ok (.aload_n 0, 1) := by decide +kernel
theorem dX6_shareKnowledge_21 : decode cX6_shareKnowledge 21 = .ok (.getfield 16, 3) := by decide +kernel
theorem dX6_shareKnowledge_24 : decode cX6_shareKnowledge 24 = .ok (.iload_n 3, 1) := by decide +kernel
theorem dX6_shareKnowledge_25 : decode cX6_shareKnowledge 25 = .ok (.invokevirtual 68, 3) := by decide +kernel
theorem dX6_shareKnowledge_28 : decode cX6_shareKnowledge 28 = .ok (.checkcast 72, 3) := by decide +kernel
theorem dX6_shareKnowledge_31 : decode cX6_shareKnowledge 31 = .ok (.astore 4, 2) := by decide +kernel
theorem dX6_shareKnowledge_33 : decode cX6_shareKnowledge 33 = .ok (.iload_n 1, 1) := by decide +kernel
theorem dX6_shareKnowledge_34 : decode cX6_shareKnowledge 34 = .ok (.iload_n 3, 1) := by decide +kernel
theorem dX6_shareKnowledge_35 : decode cX6_shareKnowledge 35 = .ok (.invokestatic 205, 3) := by decide +kernel
theorem dX6_shareKnowledge_38 : decode cX6_shareKnowledge 38 = .ok (.ifCond .eq 27, 3) := by decide +kernel
theorem dX6_shareKnowledge_41 : decode cX6_shareKnowledge 41 = .ok (.iload_n 2, 1) := by decide +kernel
theorem dX6_shareKnowledge_42 : decode cX6_shareKnowledge 42 = .ok (.aload 4, 2) := by decide +kernel
theorem dX6_shareKnowledge_44 : decode cX6_shareKnowledge 44 = .ok (.getfield 161, 3) := by decide +kernel
theorem dX6_shareKnowledge_47 : decode cX6_shareKnowledge 47 = .ok (.arraylength, 1) := by decide +kernel
theorem dX6_shareKnowledge_48 : decode cX6_shareKnowledge 48 = .ok (.if_icmp .ge 17, 3) := by decide +kernel
theorem dX6_shareKnowledge_51 : decode cX6_shareKnowledge 51 = .ok (.aload_n 0, 1) := by decide +kernel
theorem dX6_shareKnowledge_52 : decode cX6_shareKnowledge 52 = .ok (.getfield 25, 3) := by decide +kernel
theorem dX6_shareKnowledge_55 : decode cX6_shareKnowledge 55 = .ok (.aload 4, 2) := by decide +kernel
theorem dX6_shareKnowledge_57 : decode cX6_shareKnowledge 57 = .ok (.getfield 161, 3) := by decide +kernel
theorem dX6_shareKnowledge_60 : decode cX6_shareKnowledge 60 = .ok (.iload_n 2, 1) := by decide +kernel
theorem dX6_shareKnowledge_61 : decode cX6_shareKnowledge 61 = .ok (.aaload, 1) := by decide +kernel
theorem dX6_shareKnowledge_62 : decode cX6_shareKnowledge 62 = .ok (.invokevirtual 242, 3) := by decide +kernel
theorem dX6_shareKnowledge_65 : decode cX6_shareKnowledge 65 = .ok (.iinc 3 1, 3) := by decide +kernel
theorem dX6_shareKnowledge_68 : decode cX6_shareKnowledge 68 = .ok (.goto (-59), 3) := by decide +kernel
theorem dX6_shareKnowledge_71 : decode cX6_shareKnowledge 71 = .ok (.return_, 1) := by decide +kernel
