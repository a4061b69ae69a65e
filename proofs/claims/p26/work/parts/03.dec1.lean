theorem dX0_init_0 : decode cX0_init 0 = .ok (.aload_n 0, 1) := by decide +kernel
theorem dX0_init_1 : decode cX0_init 1 = .ok (.invokespecial 1, 3) := by decide +kernel
theorem dX0_init_4 : decode cX0_init 4 = .ok (.aload_n 0, 1) := by decide +kernel
theorem dX0_init_5 : decode cX0_init 5 = .ok (.iconst 0, 1) := by decide +kernel
theorem dX0_init_6 : decode cX0_init 6 = .ok (.putfield 7, 3) := by decide +kernel
theorem dX0_init_9 : decode cX0_init 9 = .ok (.aload_n 0, 1) := by decide +kernel
theorem dX0_init_10 : decode cX0_init 10 = .ok (.iconst 0, 1) := by decide +kernel
theorem dX0_init_11 : decode cX0_init 11 = .ok (.putfield 13, 3) := by decide +kernel
theorem dX0_init_14 : decode cX0_init 14 = .ok (.aload_n 0, 1) := by decide +kernel
theorem dX0_init_15 : decode cX0_init 15 = .ok (.iconst 0, 1) := by decide +kernel
theorem dX0_init_16 : decode cX0_init 16 = .ok (.putfield 17, 3) := by decide +kernel
theorem dX0_init_19 : decode cX0_init 19 = .ok (.return_, 1) := by decide +kernel
set_option maxRecDepth 20000 in
theorem ggX0_follow_X0_takeStep : GoodIn wsX0_follow wsX0_takeStep := goodIn_r _ [12, 1, 2, 4, 13, 14, 15, 16, 17, 18, 19, 20, 21, 22] (by decide +kernel) (by decide +kernel)
set_option maxRecDepth 20000 in
theorem gX0_follow_X0_takeStep : GoodIn wsX0_follow (wsV RX0 36 RX0 yX0_takeStep wsX0_takeStep) := goodIn_app (goodIn_of _ (by decide +kernel)) ggX0_follow_X0_takeStep
theorem dX0_follow_0 : decode cX0_follow 0 = .ok (.aload_n 0, 1) := by decide +kernel
theorem dX0_follow_1 : decode cX0_follow 1 = .ok (.iload_n 2, 1) := by decide +kernel
theorem dX0_follow_2 : decode cX0_follow 2 = .ok (.putfield 7, 3) := by decide +kernel
theorem dX0_follow_5 : decode cX0_follow 5 = .ok (.aload_n 0, 1) := by decide +kernel
theorem dX0_follow_6 : decode cX0_follow 6 = .ok (.iconst 0, 1) := by decide +kernel
theorem dX0_follow_7 : decode cX0_follow 7 = .ok (.putfield 13, 3) := by decide +kernel
theorem dX0_follow_10 : decode cX0_follow 10 = .ok (.aload_n 0, 1) := by decide +kernel
theorem dX0_follow_11 : decode cX0_follow 11 = .ok (.aload_n 1, 1) := by decide +kernel
theorem dX0_follow_12 : decode cX0_follow 12 = .ok (.getfield 20, 3) := by decide +kernel
theorem dX0_follow_15 : decode cX0_follow 15 = .ok (.putfield 17, 3) := by decide +kernel
theorem dX0_follow_18 : decode cX0_follow 18 = .ok (.iconst 0, 1) := by decide +kernel
theorem dX0_follow_19 : decode cX0_follow 19 = .ok (.istore_n 3, 1) := by decide +kernel
theorem dX0_follow_20 : decode cX0_follow 20 = .ok (.iload_n 3, 1) := by decide +kernel
theorem dX0_follow_21 : decode cX0_follow 21 = .ok (.aload_n 1, 1) := by decide +kernel
theorem dX0_follow_22 : decode cX0_follow 22 = .ok (.getfield 25, 3) := by decide +kernel
theorem dX0_follow_25 : decode cX0_follow 25 = .ok (.if_icmp .ge 25, 3) := by decide +kernel
theorem dX0_follow_28 : decode cX0_follow 28 = .ok (.aload_n 0, 1) := by decide +kernel
theorem dX0_follow_29 : decode cX0_follow 29 = .ok (.aload_n 1, 1) := by decide +kernel
theorem dX0_follow_30 : decode cX0_follow 30 = .ok (.getfield 28, 3) := by decide +kernel
theorem dX0_follow_33 : decode cX0_follow 33 = .ok (.iload_n 3, 1) := by decide +kernel
theorem dX0_follow_34 : decode cX0_follow 34 = .ok (.iaload, 1) := by decide +kernel
theorem dX0_follow_35 : decode cX0_follow 35 = .ok (.aload_n 1, 1) := by decide +kernel
theorem dX0_follow_36 : decode cX0_follow 36 = .ok (.getfield 32, 3) := by decide +kernel
theorem dX0_follow_39 : decode cX0_follow 39 = .ok (.iload_n 3, 1) := by decide +kernel
theorem dX0_follow_40 : decode cX0_follow 40 = .ok (.baload, 1) := by decide +kernel
theorem dX0_follow_41 : decode cX0_follow 41 = .ok (.invokevirtual 36, 3) := by decide +kernel
theorem dX0_follow_44 : decode cX0_follow 44 = .ok (.iinc 3 1, 3) := by decide +kernel
theorem dX0_follow_47 : decode cX0_follow 47 = .ok (.goto (-27), 3) := by decide +kernel
theorem dX0_follow_50 : decode cX0_follow 50 = .ok (.return_, 1) := by decide +kernel
theorem dX0_takeStep_0 : decode cX0_takeStep 0 = .ok (.aload_n 0, 1) := by decide +kernel
theorem dX0_takeStep_1 : decode cX0_takeStep 1 = .ok (.getfield 7, 3) := by decide +kernel
theorem dX0_takeStep_4 : decode cX0_takeStep 4 = .ok (.iload_n 1, 1) := by decide +kernel
theorem dX0_takeStep_5 : decode cX0_takeStep 5 = .ok (.if_icmp .ge 7, 3) := by decide +kernel
theorem dX0_takeStep_8 : decode cX0_takeStep 8 = .ok (.iconst 1, 1) := by decide +kernel
theorem dX0_takeStep_9 : decode cX0_takeStep 9 = .ok (.goto 4, 3) := by decide +kernel
theorem dX0_takeStep_12 : decode cX0_takeStep 12 = .ok (.iconst 0, 1) := by decide +kernel
theorem dX0_takeStep_13 : decode cX0_takeStep 13 = .ok (.istore_n 3, 1) := by decide +kernel
theorem dX0_takeStep_14 : decode cX0_takeStep 14 = .ok (.iload_n 3, 1) := by decide +kernel
theorem dX0_takeStep_15 : decode cX0_takeStep 15 = .ok (.iload_n 2, 1) := by decide +kernel
theorem dX0_takeStep_16 : decode cX0_takeStep 16 = .ok (.if_icmp .ne 33, 3) := by decide +kernel
theorem dX0_takeStep_19 : decode cX0_takeStep 19 = .ok (.aload_n 0, 1) := by decide +kernel
theorem dX0_takeStep_20 : decode cX0_takeStep 20 = .ok (.iconst 2, 1) := by decide +kernel
theorem dX0_takeStep_21 : decode cX0_takeStep 21 = .ok (.iload_n 1, 1) := by decide +kernel
theorem dX0_takeStep_22 : decode cX0_takeStep 22 = .ok (.imul, 1) := by decide +kernel
theorem dX0_takeStep_23 : decode cX0_takeStep 23 = .ok (.iconst 1, 1) := by decide +kernel
theorem dX0_takeStep_24 : decode cX0_takeStep 24 = .ok (.isub, 1) := by decide +kernel
theorem dX0_takeStep_25 : decode cX0_takeStep 25 = .ok (.aload_n 0, 1) := by decide +kernel
theorem dX0_takeStep_26 : decode cX0_takeStep 26 = .ok (.getfield 7, 3) := by decide +kernel
theorem dX0_takeStep_29 : decode cX0_takeStep 29 = .ok (.isub, 1) := by decide +kernel
theorem dX0_takeStep_30 : decode cX0_takeStep 30 = .ok (.putfield 7, 3) := by decide +kernel
theorem dX0_takeStep_33 : decode cX0_takeStep 33 = .ok (.aload_n 0, 1) := by decide +kernel
theorem dX0_takeStep_34 : decode cX0_takeStep 34 = .ok (.aload_n 0, 1) := by decide +kernel
theorem dX0_takeStep_35 : decode cX0_takeStep 35 = .ok (.getfield 13, 3) := by decide +kernel
theorem dX0_takeStep_38 : decode cX0_takeStep 38 = .ok (.ifCond .ne 7, 3) := by decide +kernel
theorem dX0_takeStep_41 : decode cX0_takeStep 41 = .ok (.iconst 1, 1) := by decide +kernel
theorem dX0_takeStep_42 : decode cX0_takeStep 42 = .ok (.goto 4, 3) := by decide +kernel
theorem dX0_takeStep_45 : decode cX0_takeStep 45 = .ok (.iconst 0, 1) := by decide +kernel
theorem dX0_takeStep_46 : decode cX0_takeStep 46 = .ok (.putfield 13, 3) := by decide +kernel
theorem dX0_takeStep_49 : decode cX0_takeStep 49 = .ok (.iload_n 2, 1) := by decide +kernel
theorem dX0_takeStep_50 : decode cX0_takeStep 50 = .ok (.ifCond .eq 7, 3) := by decide +kernel
theorem dX0_takeStep_53 : decode cX0_takeStep 53 = .ok (.iload_n 1, 1) := by decide +kernel
theorem dX0_takeStep_54 : decode cX0_takeStep 54 = .ok (.goto 15, 3) := by decide +kernel
theorem dX0_takeStep_57 : decode cX0_takeStep 57 = .ok (.iconst 0, 1) := by decide +kernel
theorem dX0_takeStep_58 : decode cX0_takeStep 58 = .ok (.iconst 2, 1) := by decide +kernel
theorem dX0_takeStep_59 : decode cX0_takeStep 59 = .ok (.iload_n 1, 1) := by decide +kernel
theorem dX0_takeStep_60 : decode cX0_takeStep 60 = .ok (.imul, 1) := by decide +kernel
theorem dX0_takeStep_61 : decode cX0_takeStep 61 = .ok (.aload_n 0, 1) := by decide +kernel
theorem dX0_takeStep_62 : decode cX0_takeStep 62 = .ok (.getfield 17, 3) := by decide +kernel
theorem dX0_takeStep_65 : decode cX0_takeStep 65 = .ok (.isub, 1) := by decide +kernel
theorem dX0_takeStep_66 : decode cX0_takeStep 66 = .ok (.invokestatic 40, 3) := by decide +kernel
theorem dX0_takeStep_69 : decode cX0_takeStep 69 = .ok (.istore 4, 2) := by decide +kernel
theorem dX0_takeStep_71 : decode cX0_takeStep 71 = .ok (.aload_n 0, 1) := by decide +kernel
theorem dX0_takeStep_72 : decode cX0_takeStep 72 = .ok (.dup, 1) := by decide +kernel
theorem dX0_takeStep_73 : decode cX0_takeStep 73 = .ok (.getfield 7, 3) := by decide +kernel
theorem dX0_takeStep_76 : decode cX0_takeStep 76 = .ok (.iload 4, 2) := by decide +kernel
theorem dX0_takeStep_78 : decode cX0_takeStep 78 = .ok (.isub, 1) := by decide +kernel
theorem dX0_takeStep_79 : decode cX0_takeStep 79 = .ok (.putfield 7, 3) := by decide +kernel
theorem dX0_takeStep_82 : decode cX0_takeStep 82 = .ok (.aload_n 0, 1) := by decide +kernel
theorem dX0_takeStep_83 : decode cX0_takeStep 83 = .ok (.iload_n 1, 1) := by decide +kernel
theorem dX0_takeStep_84 : decode cX0_takeStep 84 = .ok (.aload_n 0, 1) := by decide +kernel
theorem dX0_takeStep_85 : decode cX0_takeStep 85 = .ok (.getfield 17, 3) := by decide +kernel
theorem dX0_takeStep_88 : decode cX0_takeStep 88 = .ok (.iload_n 1, 1) := by decide +kernel
theorem dX0_takeStep_89 : decode cX0_takeStep 89 = .ok (.isub, 1) := by decide +kernel
theorem dX0_takeStep_90 : decode cX0_takeStep 90 = .ok (.invokestatic 46, 3) := by decide +kernel
theorem dX0_takeStep_93 : decode cX0_takeStep 93 = .ok (.putfield 17, 3) := by decide +kernel
theorem dX0_takeStep_96 : decode cX0_takeStep 96 = .ok (.return_, 1) := by decide +kernel
theorem dX1_init_0 : decode cX1_init 0 = .ok (.aload_n 0, 1) := by decide +kernel
theorem dX1_init_1 : decode cX1_init 1 = .ok (.invokespecial 3, 3) := by decide +kernel
theorem dX1_init_4 : decode cX1_init 4 = .ok (.aload_n 0, 1) := by decide +kernel
theorem dX1_init_5 : decode cX1_init 5 = .ok (.iconst 0, 1) := by decide +kernel
theorem dX1_init_6 : decode cX1_init 6 = .ok (.putfield 9, 3) := by decide +kernel
theorem dX1_init_9 : decode cX1_init 9 = .ok (.aload_n 0, 1) := by decide +kernel
theorem dX1_init_10 : decode cX1_init 10 = .ok (.iconst 0, 1) := by decide +kernel
theorem dX1_init_11 : decode cX1_init 11 = .ok (.putfield 15, 3) := by decide +kernel
theorem dX1_init_14 : decode cX1_init 14 = .ok (.aload_n 0, 1) := by decide +kernel
theorem dX1_init_15 : decode cX1_init 15 = .ok (.sipush 201, 3) := by decide +kernel
theorem dX1_init_18 : decode cX1_init 18 = .ok (.newarray .int, 2) := by decide +kernel
theorem dX1_init_20 : decode cX1_init 20 = .ok (.putfield 18, 3) := by decide +kernel
theorem dX1_init_23 : decode cX1_init 23 = .ok (.aload_n 0, 1) := by decide +kernel
theorem dX1_init_24 : decode cX1_init 24 = .ok (.sipush 201, 3) := by decide +kernel
theorem dX1_init_27 : decode cX1_init 27 = .ok (.newarray .int, 2) := by decide +kernel
theorem dX1_init_29 : decode cX1_init 29 = .ok (.putfield 22, 3) := by decide +kernel
theorem dX1_init_32 : decode cX1_init 32 = .ok (.return_, 1) := by decide +kernel
set_option maxRecDepth 20000 in
theorem ggX1_fewestForRoll_X1_fillFewest : GoodIn wsX1_fewestForRoll wsX1_fillFewest := goodIn_r _ [7, 1, 2, 8, 9, 10, 6, 11, 12, 13, 14, 15, 16, 17, 18, 19, 20, 21, 22, 23] (by decide +kernel) (by decide +kernel)
set_option maxRecDepth 20000 in
theorem gX1_fewestForRoll_X1_fillFewest : GoodIn wsX1_fewestForRoll (wsV RX1 25 RX1 yX1_fillFewest wsX1_fillFewest) := goodIn_app (goodIn_of _ (by decide +kernel)) ggX1_fewestForRoll_X1_fillFewest
theorem dX1_fewestForRoll_0 : decode cX1_fewestForRoll 0 = .ok (.aload_n 0, 1) := by decide +kernel
theorem dX1_fewestForRoll_1 : decode cX1_fewestForRoll 1 = .ok (.invokevirtual 25, 3) := by decide +kernel
theorem dX1_fewestForRoll_4 : decode cX1_fewestForRoll 4 = .ok (.aload_n 0, 1) := by decide +kernel
theorem dX1_fewestForRoll_5 : decode cX1_fewestForRoll 5 = .ok (.getfield 18, 3) := by decide +kernel
theorem dX1_fewestForRoll_8 : decode cX1_fewestForRoll 8 = .ok (.aload_n 0, 1) := by decide +kernel
theorem dX1_fewestForRoll_9 : decode cX1_fewestForRoll 9 = .ok (.getfield 9, 3) := by decide +kernel
theorem dX1_fewestForRoll_12 : decode cX1_fewestForRoll 12 = .ok (.iaload, 1) := by decide +kernel
theorem dX1_fewestForRoll_13 : decode cX1_fewestForRoll 13 = .ok (.ireturn, 1) := by decide +kernel
set_option maxRecDepth 20000 in
theorem ggX1_restOfRoll_X1_fillFewest : GoodIn wsX1_restOfRoll wsX1_fillFewest := goodIn_r _ [7, 2, 1, 8, 9, 10, 6, 11, 12, 13, 14, 15, 16, 17, 18, 19, 20, 21, 22, 23] (by decide +kernel) (by decide +kernel)
set_option maxRecDepth 20000 in
theorem gX1_restOfRoll_X1_fillFewest : GoodIn wsX1_restOfRoll (wsV RX1 25 RX1 yX1_fillFewest wsX1_fillFewest) := goodIn_app (goodIn_of _ (by decide +kernel)) ggX1_restOfRoll_X1_fillFewest
theorem dX1_restOfRoll_0 : decode cX1_restOfRoll 0 = .ok (.aload_n 0, 1) := by decide +kernel
theorem dX1_restOfRoll_1 : decode cX1_restOfRoll 1 = .ok (.invokevirtual 25, 3) := by decide +kernel
theorem dX1_restOfRoll_4 : decode cX1_restOfRoll 4 = .ok (.aload_n 0, 1) := by decide +kernel
theorem dX1_restOfRoll_5 : decode cX1_restOfRoll 5 = .ok (.getfield 9, 3) := by decide +kernel
theorem dX1_restOfRoll_8 : decode cX1_restOfRoll 8 = .ok (.istore_n 1, 1) := by decide +kernel
theorem dX1_restOfRoll_9 : decode cX1_restOfRoll 9 = .ok (.iload_n 1, 1) := by decide +kernel
theorem dX1_restOfRoll_10 : decode cX1_restOfRoll 10 = .ok (.ifCond .le 18, 3) := by decide +kernel
theorem dX1_restOfRoll_13 : decode cX1_restOfRoll 13 = .ok (.aload_n 0, 1) := by decide +kernel
theorem dX1_restOfRoll_14 : decode cX1_restOfRoll 14 = .ok (.getfield 18, 3) := by decide +kernel
theorem dX1_restOfRoll_17 : decode cX1_restOfRoll 17 = .ok (.iload_n 1, 1) := by decide +kernel
theorem dX1_restOfRoll_18 : decode cX1_restOfRoll 18 = .ok (.iaload, 1) := by decide +kernel
theorem dX1_restOfRoll_19 : decode cX1_restOfRoll 19 = .ok (.ifCond .ge 9, 3) := by decide +kernel
theorem dX1_restOfRoll_22 : decode cX1_restOfRoll 22 = .ok (.iinc 1 (-1), 3) := by decide +kernel
theorem dX1_restOfRoll_25 : decode cX1_restOfRoll 25 = .ok (.goto (-16), 3) := by decide +kernel
theorem dX1_restOfRoll_28 : decode cX1_restOfRoll 28 = .ok (.aload_n 0, 1) := by decide +kernel
theorem dX1_restOfRoll_29 : decode cX1_restOfRoll 29 = .ok (.getfield 9, 3) := by decide +kernel
theorem dX1_restOfRoll_32 : decode cX1_restOfRoll 32 = .ok (.iload_n 1, 1) := by decide +kernel
theorem dX1_restOfRoll_33 : decode cX1_restOfRoll 33 = .ok (.isub, 1) := by decide +kernel
theorem dX1_restOfRoll_34 : decode cX1_restOfRoll 34 = .ok (.ireturn, 1) := by decide +kernel
set_option maxRecDepth 20000 in
theorem ggX1_waysForRoll_X1_isDemanded : GoodIn wsX1_waysForRoll wsX1_isDemanded := goodIn_r _ [7, 8, 9, 10, 11, 17, 18, 19, 20] (by decide +kernel) (by decide +kernel)
set_option maxRecDepth 20000 in
theorem gX1_waysForRoll_X1_isDemanded : GoodIn wsX1_waysForRoll (wsV RX1 28 RX1 yX1_isDemanded wsX1_isDemanded) := goodIn_app (goodIn_of _ (by decide +kernel)) ggX1_waysForRoll_X1_isDemanded
set_option maxRecDepth 20000 in
theorem ggX1_waysForRoll_X1_addWaysWith : GoodIn wsX1_waysForRoll wsX1_addWaysWith := goodIn_r _ [15, 2, 1, 16, 17, 18, 19, 20] (by decide +kernel) (by decide +kernel)
set_option maxRecDepth 20000 in
theorem gX1_waysForRoll_X1_addWaysWith : GoodIn wsX1_waysForRoll (wsV RX1 32 RX1 yX1_addWaysWith wsX1_addWaysWith) := goodIn_app (goodIn_of _ (by decide +kernel)) ggX1_waysForRoll_X1_addWaysWith
theorem dX1_waysForRoll_0 : decode cX1_waysForRoll 0 = .ok (.aload_n 0, 1) := by decide +kernel
theorem dX1_waysForRoll_1 : decode cX1_waysForRoll 1 = .ok (.getfield 22, 3) := by decide +kernel
theorem dX1_waysForRoll_4 : decode cX1_waysForRoll 4 = .ok (.iconst 0, 1) := by decide +kernel
theorem dX1_waysForRoll_5 : decode cX1_waysForRoll 5 = .ok (.iconst 1, 1) := by decide +kernel
theorem dX1_waysForRoll_6 : decode cX1_waysForRoll 6 = .ok (.iastore, 1) := by decide +kernel
theorem dX1_waysForRoll_7 : decode cX1_waysForRoll 7 = .ok (.iconst 1, 1) := by decide +kernel
theorem dX1_waysForRoll_8 : decode cX1_waysForRoll 8 = .ok (.istore_n 1, 1) := by decide +kernel
theorem dX1_waysForRoll_9 : decode cX1_waysForRoll 9 = .ok (.iload_n 1, 1) := by decide +kernel
theorem dX1_waysForRoll_10 : decode cX1_waysForRoll 10 = .ok (.aload_n 0, 1) := by decide +kernel
theorem dX1_waysForRoll_11 : decode cX1_waysForRoll 11 = .ok (.getfield 9, 3) := by decide +kernel
theorem dX1_waysForRoll_14 : decode cX1_waysForRoll 14 = .ok (.if_icmp .gt 16, 3) := by decide +kernel
theorem dX1_waysForRoll_17 : decode cX1_waysForRoll 17 = .ok (.aload_n 0, 1) := by decide +kernel
theorem dX1_waysForRoll_18 : decode cX1_waysForRoll 18 = .ok (.getfield 22, 3) := by decide +kernel
theorem dX1_waysForRoll_21 : decode cX1_waysForRoll 21 = .ok (.iload_n 1, 1) := by decide +kernel
theorem dX1_waysForRoll_22 : decode cX1_waysForRoll 22 = .ok (.iconst 0, 1) := by decide +kernel
theorem dX1_waysForRoll_23 : decode cX1_waysForRoll 23 = .ok (.iastore, 1) := by decide +kernel
theorem dX1_waysForRoll_24 : decode cX1_waysForRoll 24 = .ok (.iinc 1 1, 3) := by decide +kernel
theorem dX1_waysForRoll_27 : decode cX1_waysForRoll 27 = .ok (.goto (-18), 3) := by decide +kernel
theorem dX1_waysForRoll_30 : decode cX1_waysForRoll 30 = .ok (.iconst 1, 1) := by decide +kernel
theorem dX1_waysForRoll_31 : decode cX1_waysForRoll 31 = .ok (.istore_n 1, 1) := by decide +kernel
theorem dX1_waysForRoll_32 : decode cX1_waysForRoll 32 = .ok (.iload_n 1, 1) := by decide +kernel
theorem dX1_waysForRoll_33 : decode cX1_waysForRoll 33 = .ok (.bipush 20, 2) := by decide +kernel
theorem dX1_waysForRoll_35 : decode cX1_waysForRoll 35 = .ok (.if_icmp .gt 22, 3) := by decide +kernel
theorem dX1_waysForRoll_38 : decode cX1_waysForRoll 38 = .ok (.aload_n 0, 1) := by decide +kernel
theorem dX1_waysForRoll_39 : decode cX1_waysForRoll 39 = .ok (.iload_n 1, 1) := by decide +kernel
theorem dX1_waysForRoll_40 : decode cX1_waysForRoll 40 = .ok (.invokevirtual 28, 3) := by decide +kernel
theorem dX1_waysForRoll_43 : decode cX1_waysForRoll 43 = .ok (.ifCond .eq 8, 3) := by decide +kernel
theorem dX1_waysForRoll_46 : decode cX1_waysForRoll 46 = .ok (.aload_n 0, 1) := by decide +kernel
theorem dX1_waysForRoll_47 : decode cX1_waysForRoll 47 = .ok (.iload_n 1, 1) := by decide +kernel
theorem dX1_waysForRoll_48 : decode cX1_waysForRoll 48 = .ok (.invokevirtual 32, 3) := by decide +kernel
theorem dX1_waysForRoll_51 : decode cX1_waysForRoll 51 = .ok (.iinc 1 1, 3) := by decide +kernel
theorem dX1_waysForRoll_54 : decode cX1_waysForRoll 54 = .ok (.goto (-22), 3) := by decide +kernel
theorem dX1_waysForRoll_57 : decode cX1_waysForRoll 57 = .ok (.aload_n 0, 1) := by decide +kernel
theorem dX1_waysForRoll_58 : decode cX1_waysForRoll 58 = .ok (.getfield 22, 3) := by decide +kernel
theorem dX1_waysForRoll_61 : decode cX1_waysForRoll 61 = .ok (.aload_n 0, 1) := by decide +kernel
theorem dX1_waysForRoll_62 : decode cX1_waysForRoll 62 = .ok (.getfield 9, 3) := by decide +kernel
theorem dX1_waysForRoll_65 : decode cX1_waysForRoll 65 = .ok (.iaload, 1) := by decide +kernel
theorem dX1_waysForRoll_66 : decode cX1_waysForRoll 66 = .ok (.ireturn, 1) := by decide +kernel
theorem dX1_addWaysWith_0 : decode cX1_addWaysWith 0 = .ok (.iload_n 1, 1) := by decide +kernel
theorem dX1_addWaysWith_1 : decode cX1_addWaysWith 1 = .ok (.istore_n 2, 1) := by decide +kernel
theorem dX1_addWaysWith_2 : decode cX1_addWaysWith 2 = .ok (.iload_n 2, 1) := by decide +kernel
theorem dX1_addWaysWith_3 : decode cX1_addWaysWith 3 = .ok (.aload_n 0, 1) := by decide +kernel
theorem dX1_addWaysWith_4 : decode cX1_addWaysWith 4 = .ok (.getfield 9, 3) := by decide +kernel
theorem dX1_addWaysWith_7 : decode cX1_addWaysWith 7 = .ok (.if_icmp .gt 33, 3) := by decide +kernel
theorem dX1_addWaysWith_10 : decode cX1_addWaysWith 10 = .ok (.aload_n 0, 1) := by decide +kernel
theorem dX1_addWaysWith_11 : decode cX1_addWaysWith 11 = .ok (.getfield 22, 3) := by decide +kernel
theorem dX1_addWaysWith_14 : decode cX1_addWaysWith 14 = .ok (.iload_n 2, 1) := by decide +kernel
theorem dX1_addWaysWith_15 : decode cX1_addWaysWith 15 = .ok (.aload_n 0, 1) := by decide +kernel
theorem dX1_addWaysWith_16 : decode cX1_addWaysWith 16 = .ok (.getfield 22, 3) := by decide +kernel
theorem dX1_addWaysWith_19 : decode cX1_addWaysWith 19 = .ok (.iload_n 2, 1) := by decide +kernel
theorem dX1_addWaysWith_20 : decode cX1_addWaysWith 20 = .ok (.iaload, 1) := by decide +kernel
theorem dX1_addWaysWith_21 : decode cX1_addWaysWith 21 = .ok (.aload_n 0, 1) := by decide +kernel
theorem dX1_addWaysWith_22 : decode cX1_addWaysWith 22 = .ok (.getfield 22, 3) := by decide +kernel
theorem dX1_addWaysWith_25 : decode cX1_addWaysWith 25 = .ok (.iload_n 2, 1) := by decide +kernel
theorem dX1_addWaysWith_26 : decode cX1_addWaysWith 26 = .ok (.iload_n 1, 1) := by decide +kernel
theorem dX1_addWaysWith_27 : decode cX1_addWaysWith 27 = .ok (.isub, 1) := by decide +kernel
theorem dX1_addWaysWith_28 : decode cX1_addWaysWith 28 = .ok (.iaload, 1) := by decide +kernel
theorem dX1_addWaysWith_29 : decode cX1_addWaysWith 29 = .ok (.iadd, 1) := by decide +kernel
theorem dX1_addWaysWith_30 : decode cX1_addWaysWith 30 = .ok (.ldc 36, 2) := by decide +kernel
theorem dX1_addWaysWith_32 : decode cX1_addWaysWith 32 = .ok (.irem, 1) := by decide +kernel
theorem dX1_addWaysWith_33 : decode cX1_addWaysWith 33 = .ok (.iastore, 1) := by decide +kernel
theorem dX1_addWaysWith_34 : decode cX1_addWaysWith 34 = .ok (.iinc 2 1, 3) := by decide +kernel
theorem dX1_addWaysWith_37 : decode cX1_addWaysWith 37 = .ok (.goto (-35), 3) := by decide +kernel
theorem dX1_addWaysWith_40 : decode cX1_addWaysWith 40 = .ok (.return_, 1) := by decide +kernel
set_option maxRecDepth 20000 in
theorem ggX1_fillFewest_X1_fewestFor : GoodIn wsX1_fillFewest wsX1_fewestFor := goodIn_r _ [7, 1, 8, 9, 10, 6, 11, 12, 13, 14, 15, 16, 17, 18, 19] (by decide +kernel) (by decide +kernel)
set_option maxRecDepth 20000 in
theorem gX1_fillFewest_X1_fewestFor : GoodIn wsX1_fillFewest (wsV RX1 37 RX1 yX1_fewestFor wsX1_fewestFor) := goodIn_app (goodIn_of _ (by decide +kernel)) ggX1_fillFewest_X1_fewestFor
theorem dX1_fillFewest_0 : decode cX1_fillFewest 0 = .ok (.aload_n 0, 1) := by decide +kernel
theorem dX1_fillFewest_1 : decode cX1_fillFewest 1 = .ok (.getfield 18, 3) := by decide +kernel
theorem dX1_fillFewest_4 : decode cX1_fillFewest 4 = .ok (.iconst 0, 1) := by decide +kernel
theorem dX1_fillFewest_5 : decode cX1_fillFewest 5 = .ok (.iconst 0, 1) := by decide +kernel
theorem dX1_fillFewest_6 : decode cX1_fillFewest 6 = .ok (.iastore, 1) := by decide +kernel
theorem dX1_fillFewest_7 : decode cX1_fillFewest 7 = .ok (.iconst 1, 1) := by decide +kernel
theorem dX1_fillFewest_8 : decode cX1_fillFewest 8 = .ok (.istore_n 1, 1) := by decide +kernel
theorem dX1_fillFewest_9 : decode cX1_fillFewest 9 = .ok (.iload_n 1, 1) := by decide +kernel
theorem dX1_fillFewest_10 : decode cX1_fillFewest 10 = .ok (.aload_n 0, 1) := by decide +kernel
theorem dX1_fillFewest_11 : decode cX1_fillFewest 11 = .ok (.getfield 9, 3) := by decide +kernel
theorem dX1_fillFewest_14 : decode cX1_fillFewest 14 = .ok (.if_icmp .gt 20, 3) := by decide +kernel
theorem dX1_fillFewest_17 : decode cX1_fillFewest 17 = .ok (.aload_n 0, 1) := by decide +kernel
theorem dX1_fillFewest_18 : decode cX1_fillFewest 18 = .ok (.getfield 18, 3) := by decide +kernel
theorem dX1_fillFewest_21 : decode cX1_fillFewest 21 = .ok (.iload_n 1, 1) := by decide +kernel
theorem dX1_fillFewest_22 : decode cX1_fillFewest 22 = .ok (.aload_n 0, 1) := by decide +kernel
theorem dX1_fillFewest_23 : decode cX1_fillFewest 23 = .ok (.iload_n 1, 1) := by decide +kernel
theorem dX1_fillFewest_24 : decode cX1_fillFewest 24 = .ok (.invokevirtual 37, 3) := by decide +kernel
theorem dX1_fillFewest_27 : decode cX1_fillFewest 27 = .ok (.iastore, 1) := by decide +kernel
theorem dX1_fillFewest_28 : decode cX1_fillFewest 28 = .ok (.iinc 1 1, 3) := by decide +kernel
theorem dX1_fillFewest_31 : decode cX1_fillFewest 31 = .ok (.goto (-22), 3) := by decide +kernel
theorem dX1_fillFewest_34 : decode cX1_fillFewest 34 = .ok (.return_, 1) := by decide +kernel
set_option maxRecDepth 20000 in
theorem ggX1_fewestFor_X1_isDemanded : GoodIn wsX1_fewestFor wsX1_isDemanded := goodIn_r _ [6, 7, 8, 9, 10, 11, 12, 13, 14] (by decide +kernel) (by decide +kernel)
set_option maxRecDepth 20000 in
theorem gX1_fewestFor_X1_isDemanded : GoodIn wsX1_fewestFor (wsV RX1 28 RX1 yX1_isDemanded wsX1_isDemanded) := goodIn_app (goodIn_of _ (by decide +kernel)) ggX1_fewestFor_X1_isDemanded
theorem dX1_fewestFor_0 : decode cX1_fewestFor 0 = .ok (.iconst (-1), 1) := by decide +kernel
theorem dX1_fewestFor_1 : decode cX1_fewestFor 1 = .ok (.istore_n 2, 1) := by decide +kernel
theorem dX1_fewestFor_2 : decode cX1_fewestFor 2 = .ok (.iconst 1, 1) := by decide +kernel
theorem dX1_fewestFor_3 : decode cX1_fewestFor 3 = .ok (.istore_n 3, 1) := by decide +kernel
theorem dX1_fewestFor_4 : decode cX1_fewestFor 4 = .ok (.iload_n 3, 1) := by decide +kernel
theorem dX1_fewestFor_5 : decode cX1_fewestFor 5 = .ok (.bipush 20, 2) := by decide +kernel
theorem dX1_fewestFor_7 : decode cX1_fewestFor 7 = .ok (.if_icmp .gt 58, 3) := by decide +kernel
theorem dX1_fewestFor_10 : decode cX1_fewestFor 10 = .ok (.iload_n 3, 1) := by decide +kernel
theorem dX1_fewestFor_11 : decode cX1_fewestFor 11 = .ok (.iload_n 1, 1) := by decide +kernel
theorem dX1_fewestFor_12 : decode cX1_fewestFor 12 = .ok (.if_icmp .gt 53, 3) := by decide +kernel
theorem dX1_fewestFor_15 : decode cX1_fewestFor 15 = .ok (.aload_n 0, 1) := by decide +kernel
theorem dX1_fewestFor_16 : decode cX1_fewestFor 16 = .ok (.iload_n 3, 1) := by decide +kernel
theorem dX1_fewestFor_17 : decode cX1_fewestFor 17 = .ok (.invokevirtual 28, 3) := by decide +kernel
theorem dX1_fewestFor_20 : decode cX1_fewestFor 20 = .ok (.ifCond .eq 14, 3) := by decide +kernel
theorem dX1_fewestFor_23 : decode cX1_fewestFor 23 = .ok (.aload_n 0, 1) := by decide +kernel
theorem dX1_fewestFor_24 : decode cX1_fewestFor 24 = .ok (.getfield 18, 3) := by decide +kernel
theorem dX1_fewestFor_27 : decode cX1_fewestFor 27 = .ok (.iload_n 1, 1) := by decide +kernel
theorem dX1_fewestFor_28 : decode cX1_fewestFor 28 = .ok (.iload_n 3, 1) := by decide +kernel
theorem dX1_fewestFor_29 : decode cX1_fewestFor 29 = .ok (.isub, 1) := by decide +kernel
theorem dX1_fewestFor_30 : decode cX1_fewestFor 30 = .ok (.iaload, 1) := by decide +kernel
theorem dX1_fewestFor_31 : decode cX1_fewestFor 31 = .ok (.goto 4, 3) := by decide +kernel
theorem dX1_fewestFor_34 : decode cX1_fewestFor 34 = .ok (.iconst (-1), 1) := by decide +kernel
theorem dX1_fewestFor_35 : decode cX1_fewestFor 35 = .ok (.istore 4, 2) := by decide +kernel
theorem dX1_fewestFor_37 : decode cX1_fewestFor 37 = .ok (.iload 4, 2) := by decide +kernel
theorem dX1_fewestFor_39 : decode cX1_fewestFor 39 = .ok (.ifCond .lt 20, 3) := by decide +kernel
theorem dX1_fewestFor_42 : decode cX1_fewestFor 42 = .ok (.iload_n 2, 1) := by decide +kernel
theorem dX1_fewestFor_43 : decode cX1_fewestFor 43 = .ok (.ifCond .lt 11, 3) := by decide +kernel
theorem dX1_fewestFor_46 : decode cX1_fewestFor 46 = .ok (.iload 4, 2) := by decide +kernel
theorem dX1_fewestFor_48 : decode cX1_fewestFor 48 = .ok (.iconst 1, 1) := by decide +kernel
theorem dX1_fewestFor_49 : decode cX1_fewestFor 49 = .ok (.iadd, 1) := by decide +kernel
theorem dX1_fewestFor_50 : decode cX1_fewestFor 50 = .ok (.iload_n 2, 1) := by decide +kernel
theorem dX1_fewestFor_51 : decode cX1_fewestFor 51 = .ok (.if_icmp .ge 8, 3) := by decide +kernel
theorem dX1_fewestFor_54 : decode cX1_fewestFor 54 = .ok (.iload 4, 2) := by decide +kernel
theorem dX1_fewestFor_56 : decode cX1_fewestFor 56 = .ok (.iconst 1, 1) := by decide +kernel
theorem dX1_fewestFor_57 : decode cX1_fewestFor 57 = .ok (.iadd, 1) := by decide +kernel
theorem dX1_fewestFor_58 : decode cX1_fewestFor 58 = .ok (.istore_n 2, 1) := by decide +kernel
theorem dX1_fewestFor_59 : decode cX1_fewestFor 59 = .ok (.iinc 3 1, 3) := by decide +kernel
theorem dX1_fewestFor_62 : decode cX1_fewestFor 62 = .ok (.goto (-58), 3) := by decide +kernel
theorem dX1_fewestFor_65 : decode cX1_fewestFor 65 = .ok (.iload_n 2, 1) := by decide +kernel
theorem dX1_fewestFor_66 : decode cX1_fewestFor 66 = .ok (.ireturn, 1) := by decide +kernel
set_option maxRecDepth 20000 in
theorem ggX1_isDemanded_X4_holds : GoodIn wsX1_isDemanded wsX4_holds := goodIn_r _ [4] (by decide +kernel) (by decide +kernel)
set_option maxRecDepth 20000 in
theorem gX1_isDemanded_X4_holds_n41 : GoodIn wsX1_isDemanded (wsX4_holds) := ggX1_isDemanded_X4_holds
theorem dX1_isDemanded_0 : decode cX1_isDemanded 0 = .ok (.aload_n 0, 1) := by decide +kernel
theorem dX1_isDemanded_1 : decode cX1_isDemanded 1 = .ok (.getfield 15, 3) := by decide +kernel
theorem dX1_isDemanded_4 : decode cX1_isDemanded 4 = .ok (.iload_n 1, 1) := by decide +kernel
theorem dX1_isDemanded_5 : decode cX1_isDemanded 5 = .ok (.iconst 1, 1) := by decide +kernel
theorem dX1_isDemanded_6 : decode cX1_isDemanded 6 = .ok (.isub, 1) := by decide +kernel
theorem dX1_isDemanded_7 : decode cX1_isDemanded 7 = .ok (.invokestatic 41, 3) := by decide +kernel
theorem dX1_isDemanded_10 : decode cX1_isDemanded 10 = .ok (.ireturn, 1) := by decide +kernel
set_option maxRecDepth 20000 in
theorem ggX2_init_X3_init : GoodIn wsX2_init wsX3_init := goodIn_r _ [17, 18, 2, 3, 4, 19, 20, 21, 22, 23, 24, 43, 44, 45, 46, 47, 48] (by decide +kernel) (by decide +kernel)
set_option maxRecDepth 20000 in
theorem gX2_init_X3_init_n34 : GoodIn wsX2_init (wsX3_init) := ggX2_init_X3_init
set_option maxRecDepth 20000 in
theorem ggX2_init_X3_layFlat : GoodIn wsX2_init wsX3_layFlat := goodIn_r _ [28, 29, 30, 31, 32, 33, 34, 35, 24, 19, 20, 43, 44, 45, 46, 47, 48] (by decide +kernel) (by decide +kernel)
set_option maxRecDepth 20000 in
theorem gX2_init_X3_layFlat : GoodIn wsX2_init (wsV RX2 39 RX3 yX3_layFlat wsX3_layFlat) := goodIn_app (goodIn_of _ (by decide +kernel)) ggX2_init_X3_layFlat
theorem dX2_init_0 : decode cX2_init 0 = .ok (.aload_n 0, 1) := by decide +kernel
theorem dX2_init_1 : decode cX2_init 1 = .ok (.invokespecial 3, 3) := by decide +kernel
theorem dX2_init_4 : decode cX2_init 4 = .ok (.aload_n 0, 1) := by decide +kernel
theorem dX2_init_5 : decode cX2_init 5 = .ok (.bipush 10, 2) := by decide +kernel
theorem dX2_init_7 : decode cX2_init 7 = .ok (.newarray .int, 2) := by decide +kernel
theorem dX2_init_9 : decode cX2_init 9 = .ok (.putfield 9, 3) := by decide +kernel
theorem dX2_init_12 : decode cX2_init 12 = .ok (.aload_n 0, 1) := by decide +kernel
theorem dX2_init_13 : decode cX2_init 13 = .ok (.bipush 10, 2) := by decide +kernel
theorem dX2_init_15 : decode cX2_init 15 = .ok (.newarray .int, 2) := by decide +kernel
theorem dX2_init_17 : decode cX2_init 17 = .ok (.putfield 15, 3) := by decide +kernel
theorem dX2_init_20 : decode cX2_init 20 = .ok (.aload_n 0, 1) := by decide +kernel
theorem dX2_init_21 : decode cX2_init 21 = .ok (.bipush 10, 2) := by decide +kernel
theorem dX2_init_23 : decode cX2_init 23 = .ok (.newarray .boolean, 2) := by decide +kernel
theorem dX2_init_25 : decode cX2_init 25 = .ok (.putfield 18, 3) := by decide +kernel
theorem dX2_init_28 : decode cX2_init 28 = .ok (.aload_n 0, 1) := by decide +kernel
theorem dX2_init_29 : decode cX2_init 29 = .ok (.iconst 0, 1) := by decide +kernel
theorem dX2_init_30 : decode cX2_init 30 = .ok (.putfield 22, 3) := by decide +kernel
theorem dX2_init_33 : decode cX2_init 33 = .ok (.aload_n 0, 1) := by decide +kernel
theorem dX2_init_34 : decode cX2_init 34 = .ok (.iload_n 1, 1) := by decide +kernel
theorem dX2_init_35 : decode cX2_init 35 = .ok (.putfield 26, 3) := by decide +kernel
theorem dX2_init_38 : decode cX2_init 38 = .ok (.aload_n 0, 1) := by decide +kernel
theorem dX2_init_39 : decode cX2_init 39 = .ok (.iload_n 2, 1) := by decide +kernel
theorem dX2_init_40 : decode cX2_init 40 = .ok (.putfield 29, 3) := by decide +kernel
theorem dX2_init_43 : decode cX2_init 43 = .ok (.aload_n 0, 1) := by decide +kernel
theorem dX2_init_44 : decode cX2_init 44 = .ok (.new 32, 3) := by decide +kernel
theorem dX2_init_47 : decode cX2_init 47 = .ok (.dup, 1) := by decide +kernel
theorem dX2_init_48 : decode cX2_init 48 = .ok (.invokespecial 34, 3) := by decide +kernel
theorem dX2_init_51 : decode cX2_init 51 = .ok (.putfield 35, 3) := by decide +kernel
theorem dX2_init_54 : decode cX2_init 54 = .ok (.aload_n 0, 1) := by decide +kernel
theorem dX2_init_55 : decode cX2_init 55 = .ok (.getfield 35, 3) := by decide +kernel
theorem dX2_init_58 : decode cX2_init 58 = .ok (.iload_n 2, 1) := by decide +kernel
theorem dX2_init_59 : decode cX2_init 59 = .ok (.invokevirtual 39, 3) := by decide +kernel
theorem dX2_init_62 : decode cX2_init 62 = .ok (.return_, 1) := by decide +kernel
theorem dX2_ownKinds_0 : decode cX2_ownKinds 0 = .ok (.iconst 0, 1) := by decide +kernel
theorem dX2_ownKinds_1 : decode cX2_ownKinds 1 = .ok (.istore_n 1, 1) := by decide +kernel
theorem dX2_ownKinds_2 : decode cX2_ownKinds 2 = .ok (.iconst 0, 1) := by decide +kernel
theorem dX2_ownKinds_3 : decode cX2_ownKinds 3 = .ok (.istore_n 2, 1) := by decide +kernel
theorem dX2_ownKinds_4 : decode cX2_ownKinds 4 = .ok (.iload_n 2, 1) := by decide +kernel
theorem dX2_ownKinds_5 : decode cX2_ownKinds 5 = .ok (.aload_n 0, 1) := by decide +kernel
theorem dX2_ownKinds_6 : decode cX2_ownKinds 6 = .ok (.getfield 22, 3) := by decide +kernel
theorem dX2_ownKinds_9 : decode cX2_ownKinds 9 = .ok (.if_icmp .ge 20, 3) := by decide +kernel
theorem dX2_ownKinds_12 : decode cX2_ownKinds 12 = .ok (.iload_n 1, 1) := by decide +kernel
theorem dX2_ownKinds_13 : decode cX2_ownKinds 13 = .ok (.iconst 1, 1) := by decide +kernel
theorem dX2_ownKinds_14 : decode cX2_ownKinds 14 = .ok (.aload_n 0, 1) := by decide +kernel
theorem dX2_ownKinds_15 : decode cX2_ownKinds 15 = .ok (.getfield 9, 3) := by decide +kernel
theorem dX2_ownKinds_18 : decode cX2_ownKinds 18 = .ok (.iload_n 2, 1) := by decide +kernel
theorem dX2_ownKinds_19 : decode cX2_ownKinds 19 = .ok (.iaload, 1) := by decide +kernel
theorem dX2_ownKinds_20 : decode cX2_ownKinds 20 = .ok (.ishl, 1) := by decide +kernel
theorem dX2_ownKinds_21 : decode cX2_ownKinds 21 = .ok (.ior, 1) := by decide +kernel
theorem dX2_ownKinds_22 : decode cX2_ownKinds 22 = .ok (.istore_n 1, 1) := by decide +kernel
theorem dX2_ownKinds_23 : decode cX2_ownKinds 23 = .ok (.iinc 2 1, 3) := by decide +kernel
theorem dX2_ownKinds_26 : decode cX2_ownKinds 26 = .ok (.goto (-22), 3) := by decide +kernel
theorem dX2_ownKinds_29 : decode cX2_ownKinds 29 = .ok (.iload_n 1, 1) := by decide +kernel
theorem dX2_ownKinds_30 : decode cX2_ownKinds 30 = .ok (.ireturn, 1) := by decide +kernel
set_option maxRecDepth 20000 in
theorem ggX2_addStep_X3_turnOver : GoodIn wsX2_addStep wsX3_turnOver := goodIn_r _ [10, 11, 12, 13, 14, 15, 16, 17, 18, 19, 20, 21, 22, 23, 9, 24, 25, 26, 27, 28, 29, 30, 31, 32, 33, 34, 35, 36, 37, 38, 39, 40, 41, 42, 43, 51, 52, 53, 54, 55, 56] (by decide +kernel) (by decide +kernel)
set_option maxRecDepth 20000 in
theorem gX2_addStep_X3_turnOver : GoodIn wsX2_addStep (wsV RX2 43 RX3 yX3_turnOver wsX3_turnOver) := goodIn_app (goodIn_of _ (by decide +kernel)) ggX2_addStep_X3_turnOver
theorem dX2_addStep_0 : decode cX2_addStep 0 = .ok (.aload_n 0, 1) := by decide +kernel
theorem dX2_addStep_1 : decode cX2_addStep 1 = .ok (.getfield 22, 3) := by decide +kernel
theorem dX2_addStep_4 : decode cX2_addStep 4 = .ok (.bipush 10, 2) := by decide +kernel
theorem dX2_addStep_6 : decode cX2_addStep 6 = .ok (.if_icmp .lt 4, 3) := by decide +kernel
theorem dX2_addStep_9 : decode cX2_addStep 9 = .ok (.return_, 1) := by decide +kernel
theorem dX2_addStep_10 : decode cX2_addStep 10 = .ok (.aload_n 0, 1) := by decide +kernel
theorem dX2_addStep_11 : decode cX2_addStep 11 = .ok (.getfield 9, 3) := by decide +kernel
theorem dX2_addStep_14 : decode cX2_addStep 14 = .ok (.aload_n 0, 1) := by decide +kernel
theorem dX2_addStep_15 : decode cX2_addStep 15 = .ok (.getfield 22, 3) := by decide +kernel
theorem dX2_addStep_18 : decode cX2_addStep 18 = .ok (.iload_n 1, 1) := by decide +kernel
theorem dX2_addStep_19 : decode cX2_addStep 19 = .ok (.iastore, 1) := by decide +kernel
theorem dX2_addStep_20 : decode cX2_addStep 20 = .ok (.aload_n 0, 1) := by decide +kernel
theorem dX2_addStep_21 : decode cX2_addStep 21 = .ok (.getfield 15, 3) := by decide +kernel
theorem dX2_addStep_24 : decode cX2_addStep 24 = .ok (.aload_n 0, 1) := by decide +kernel
theorem dX2_addStep_25 : decode cX2_addStep 25 = .ok (.getfield 22, 3) := by decide +kernel
theorem dX2_addStep_28 : decode cX2_addStep 28 = .ok (.iload_n 2, 1) := by decide +kernel
theorem dX2_addStep_29 : decode cX2_addStep 29 = .ok (.iastore, 1) := by decide +kernel
theorem dX2_addStep_30 : decode cX2_addStep 30 = .ok (.aload_n 0, 1) := by decide +kernel
theorem dX2_addStep_31 : decode cX2_addStep 31 = .ok (.getfield 18, 3) := by decide +kernel
theorem dX2_addStep_34 : decode cX2_addStep 34 = .ok (.aload_n 0, 1) := by decide +kernel
theorem dX2_addStep_35 : decode cX2_addStep 35 = .ok (.getfield 22, 3) := by decide +kernel
theorem dX2_addStep_38 : decode cX2_addStep 38 = .ok (.iload_n 3, 1) := by decide +kernel
theorem dX2_addStep_39 : decode cX2_addStep 39 = .ok (.bastore, 1) := by decide +kernel
theorem dX2_addStep_40 : decode cX2_addStep 40 = .ok (.aload_n 0, 1) := by decide +kernel
theorem dX2_addStep_41 : decode cX2_addStep 41 = .ok (.dup, 1) := by decide +kernel
theorem dX2_addStep_42 : decode cX2_addStep 42 = .ok (.getfield 22, 3) := by decide +kernel
theorem dX2_addStep_45 : decode cX2_addStep 45 = .ok (.iconst 1, 1) := by decide +kernel
theorem dX2_addStep_46 : decode cX2_addStep 46 = .ok (.iadd, 1) := by decide +kernel
theorem dX2_addStep_47 : decode cX2_addStep 47 = .ok (.putfield 22, 3) := by decide +kernel
theorem dX2_addStep_50 : decode cX2_addStep 50 = .ok (.aload_n 0, 1) := by decide +kernel
theorem dX2_addStep_51 : decode cX2_addStep 51 = .ok (.getfield 35, 3) := by decide +kernel
theorem dX2_addStep_54 : decode cX2_addStep 54 = .ok (.iload_n 2, 1) := by decide +kernel
theorem dX2_addStep_55 : decode cX2_addStep 55 = .ok (.iload_n 3, 1) := by decide +kernel
theorem dX2_addStep_56 : decode cX2_addStep 56 = .ok (.invokevirtual 43, 3) := by decide +kernel
theorem dX2_addStep_59 : decode cX2_addStep 59 = .ok (.return_, 1) := by decide +kernel
set_option maxRecDepth 20000 in
theorem ggX2_removeLastStep_X3_layFlat : GoodIn wsX2_removeLastStep wsX3_layFlat := goodIn_r _ [11, 12, 13, 14, 15, 16, 17, 18, 19, 20, 21, 56, 57, 58, 59, 60, 61] (by decide +kernel) (by decide +kernel)
set_option maxRecDepth 20000 in
theorem gX2_removeLastStep_X3_layFlat : GoodIn wsX2_removeLastStep (wsV RX2 39 RX3 yX3_layFlat wsX3_layFlat) := goodIn_app (goodIn_of _ (by decide +kernel)) ggX2_removeLastStep_X3_layFlat
set_option maxRecDepth 20000 in
theorem ggX2_removeLastStep_X3_turnOver : GoodIn wsX2_removeLastStep wsX3_turnOver := goodIn_r _ [25, 19, 12, 13, 14, 15, 16, 17, 18, 26, 27, 28, 29, 30, 10, 31, 21, 32, 33, 34, 35, 36, 37, 38, 39, 20, 40, 41, 42, 43, 44, 45, 46, 47, 48, 56, 57, 58, 59, 60, 61] (by decide +kernel) (by decide +kernel)
set_option maxRecDepth 20000 in
theorem gX2_removeLastStep_X3_turnOver : GoodIn wsX2_removeLastStep (wsV RX2 43 RX3 yX3_turnOver wsX3_turnOver) := goodIn_app (goodIn_of _ (by decide +kernel)) ggX2_removeLastStep_X3_turnOver
theorem dX2_removeLastStep_0 : decode cX2_removeLastStep 0 = .ok (.aload_n 0, 1) := by decide +kernel
theorem dX2_removeLastStep_1 : decode cX2_removeLastStep 1 = .ok (.getfield 22, 3) := by decide +kernel
theorem dX2_removeLastStep_4 : decode cX2_removeLastStep 4 = .ok (.ifCond .gt 5, 3) := by decide +kernel
theorem dX2_removeLastStep_7 : decode cX2_removeLastStep 7 = .ok (.iconst (-1), 1) := by decide +kernel
theorem dX2_removeLastStep_8 : decode cX2_removeLastStep 8 = .ok (.ireturn, 1) := by decide +kernel
theorem dX2_removeLastStep_9 : decode cX2_removeLastStep 9 = .ok (.aload_n 0, 1) := by decide +kernel
theorem dX2_removeLastStep_10 : decode cX2_removeLastStep 10 = .ok (.dup, 1) := by decide +kernel
theorem dX2_removeLastStep_11 : decode cX2_removeLastStep 11 = .ok (.getfield 22, 3) := by decide +kernel
theorem dX2_removeLastStep_14 : decode cX2_removeLastStep 14 = .ok (.iconst 1, 1) := by decide +kernel
theorem dX2_removeLastStep_15 : decode cX2_removeLastStep 15 = .ok (.isub, 1) := by decide +kernel
theorem dX2_removeLastStep_16 : decode cX2_removeLastStep 16 = .ok (.putfield 22, 3) := by decide +kernel
theorem dX2_removeLastStep_19 : decode cX2_removeLastStep 19 = .ok (.aload_n 0, 1) := by decide +kernel
theorem dX2_removeLastStep_20 : decode cX2_removeLastStep 20 = .ok (.getfield 35, 3) := by decide +kernel
theorem dX2_removeLastStep_23 : decode cX2_removeLastStep 23 = .ok (.aload_n 0, 1) := by decide +kernel
theorem dX2_removeLastStep_24 : decode cX2_removeLastStep 24 = .ok (.getfield 29, 3) := by decide +kernel
theorem dX2_removeLastStep_27 : decode cX2_removeLastStep 27 = .ok (.invokevirtual 39, 3) := by decide +kernel
theorem dX2_removeLastStep_30 : decode cX2_removeLastStep 30 = .ok (.iconst 0, 1) := by decide +kernel
theorem dX2_removeLastStep_31 : decode cX2_removeLastStep 31 = .ok (.istore_n 1, 1) := by decide +kernel
theorem dX2_removeLastStep_32 : decode cX2_removeLastStep 32 = .ok (.iload_n 1, 1) := by decide +kernel
theorem dX2_removeLastStep_33 : decode cX2_removeLastStep 33 = .ok (.aload_n 0, 1) := by decide +kernel
theorem dX2_removeLastStep_34 : decode cX2_removeLastStep 34 = .ok (.getfield 22, 3) := by decide +kernel
theorem dX2_removeLastStep_37 : decode cX2_removeLastStep 37 = .ok (.if_icmp .ge 28, 3) := by decide +kernel
theorem dX2_removeLastStep_40 : decode cX2_removeLastStep 40 = .ok (.aload_n 0, 1) := by decide +kernel
theorem dX2_removeLastStep_41 : decode cX2_removeLastStep 41 = .ok (.getfield 35, 3) := by decide +kernel
theorem dX2_removeLastStep_44 : decode cX2_removeLastStep 44 = .ok (.aload_n 0, 1) := by decide +kernel
theorem dX2_removeLastStep_45 : decode cX2_removeLastStep 45 = .ok (.getfield 15, 3) := by decide +kernel
theorem dX2_removeLastStep_48 : decode cX2_removeLastStep 48 = .ok (.iload_n 1, 1) := by decide +kernel
theorem dX2_removeLastStep_49 : decode cX2_removeLastStep 49 = .ok (.iaload, 1) := by decide +kernel
theorem dX2_removeLastStep_50 : decode cX2_removeLastStep 50 = .ok (.aload_n 0, 1) := by decide +kernel
theorem dX2_removeLastStep_51 : decode cX2_removeLastStep 51 = .ok (.getfield 18, 3) := by decide +kernel
theorem dX2_removeLastStep_54 : decode cX2_removeLastStep 54 = .ok (.iload_n 1, 1) := by decide +kernel
theorem dX2_removeLastStep_55 : decode cX2_removeLastStep 55 = .ok (.baload, 1) := by decide +kernel
theorem dX2_removeLastStep_56 : decode cX2_removeLastStep 56 = .ok (.invokevirtual 43, 3) := by decide +kernel
theorem dX2_removeLastStep_59 : decode cX2_removeLastStep 59 = .ok (.iinc 1 1, 3) := by decide +kernel
theorem dX2_removeLastStep_62 : decode cX2_removeLastStep 62 = .ok (.goto (-30), 3) := by decide +kernel
theorem dX2_removeLastStep_65 : decode cX2_removeLastStep 65 = .ok (.aload_n 0, 1) := by decide +kernel
theorem dX2_removeLastStep_66 : decode cX2_removeLastStep 66 = .ok (.getfield 9, 3) := by decide +kernel
theorem dX2_removeLastStep_69 : decode cX2_removeLastStep 69 = .ok (.aload_n 0, 1) := by decide +kernel
theorem dX2_removeLastStep_70 : decode cX2_removeLastStep 70 = .ok (.getfield 22, 3) := by decide +kernel
theorem dX2_removeLastStep_73 : decode cX2_removeLastStep 73 = .ok (.iaload, 1) := by decide +kernel
theorem dX2_removeLastStep_74 : decode cX2_removeLastStep 74 = .ok (.ireturn, 1) := by decide +kernel
theorem dX3_init_0 : decode cX3_init 0 = .ok (.aload_n 0, 1) := by decide +kernel
theorem dX3_init_1 : decode cX3_init 1 = .ok (.invokespecial 3, 3) := by decide +kernel
theorem dX3_init_4 : decode cX3_init 4 = .ok (.aload_n 0, 1) := by decide +kernel
theorem dX3_init_5 : decode cX3_init 5 = .ok (.bipush 32, 2) := by decide +kernel
theorem dX3_init_7 : decode cX3_init 7 = .ok (.newarray .int, 2) := by decide +kernel
theorem dX3_init_9 : decode cX3_init 9 = .ok (.putfield 9, 3) := by decide +kernel
theorem dX3_init_12 : decode cX3_init 12 = .ok (.aload_n 0, 1) := by decide +kernel
theorem dX3_init_13 : decode cX3_init 13 = .ok (.bipush 33, 2) := by decide +kernel
theorem dX3_init_15 : decode cX3_init 15 = .ok (.newarray .int, 2) := by decide +kernel
theorem dX3_init_17 : decode cX3_init 17 = .ok (.putfield 15, 3) := by decide +kernel
theorem dX3_init_20 : decode cX3_init 20 = .ok (.aload_n 0, 1) := by decide +kernel
theorem dX3_init_21 : decode cX3_init 21 = .ok (.bipush 32, 2) := by decide +kernel
theorem dX3_init_23 : decode cX3_init 23 = .ok (.newarray .int, 2) := by decide +kernel
theorem dX3_init_25 : decode cX3_init 25 = .ok (.putfield 18, 3) := by decide +kernel
theorem dX3_init_28 : decode cX3_init 28 = .ok (.aload_n 0, 1) := by decide +kernel
theorem dX3_init_29 : decode cX3_init 29 = .ok (.bipush 33, 2) := by decide +kernel
theorem dX3_init_31 : decode cX3_init 31 = .ok (.newarray .int, 2) := by decide +kernel
theorem dX3_init_33 : decode cX3_init 33 = .ok (.putfield 21, 3) := by decide +kernel
theorem dX3_init_36 : decode cX3_init 36 = .ok (.aload_n 0, 1) := by decide +kernel
theorem dX3_init_37 : decode cX3_init 37 = .ok (.iconst 0, 1) := by decide +kernel
theorem dX3_init_38 : decode cX3_init 38 = .ok (.putfield 24, 3) := by decide +kernel
theorem dX3_init_41 : decode cX3_init 41 = .ok (.aload_n 0, 1) := by decide +kernel
theorem dX3_init_42 : decode cX3_init 42 = .ok (.iconst 0, 1) := by decide +kernel
theorem dX3_init_43 : decode cX3_init 43 = .ok (.putfield 28, 3) := by decide +kernel
theorem dX3_init_46 : decode cX3_init 46 = .ok (.return_, 1) := by decide +kernel
theorem dX3_layFlat_0 : decode cX3_layFlat 0 = .ok (.aload_n 0, 1) := by decide +kernel
theorem dX3_layFlat_1 : decode cX3_layFlat 1 = .ok (.iconst 0, 1) := by decide +kernel
theorem dX3_layFlat_2 : decode cX3_layFlat 2 = .ok (.iload_n 1, 1) := by decide +kernel
theorem dX3_layFlat_3 : decode cX3_layFlat 3 = .ok (.bipush 32, 2) := by decide +kernel
theorem dX3_layFlat_5 : decode cX3_layFlat 5 = .ok (.invokestatic 31, 3) := by decide +kernel
theorem dX3_layFlat_8 : decode cX3_layFlat 8 = .ok (.invokestatic 37, 3) := by decide +kernel
theorem dX3_layFlat_11 : decode cX3_layFlat 11 = .ok (.putfield 28, 3) := by decide +kernel
theorem dX3_layFlat_14 : decode cX3_layFlat 14 = .ok (.iconst 0, 1) := by decide +kernel
theorem dX3_layFlat_15 : decode cX3_layFlat 15 = .ok (.istore_n 2, 1) := by decide +kernel
theorem dX3_layFlat_16 : decode cX3_layFlat 16 = .ok (.iload_n 2, 1) := by decide +kernel
theorem dX3_layFlat_17 : decode cX3_layFlat 17 = .ok (.aload_n 0, 1) := by decide +kernel
theorem dX3_layFlat_18 : decode cX3_layFlat 18 = .ok (.getfield 28, 3) := by decide +kernel
theorem dX3_layFlat_21 : decode cX3_layFlat 21 = .ok (.if_icmp .ge 23, 3) := by decide +kernel
theorem dX3_layFlat_24 : decode cX3_layFlat 24 = .ok (.aload_n 0, 1) := by decide +kernel
theorem dX3_layFlat_25 : decode cX3_layFlat 25 = .ok (.getfield 9, 3) := by decide +kernel
theorem dX3_layFlat_28 : decode cX3_layFlat 28 = .ok (.iload_n 2, 1) := by decide +kernel
theorem dX3_layFlat_29 : decode cX3_layFlat 29 = .ok (.iload_n 2, 1) := by decide +kernel
theorem dX3_layFlat_30 : decode cX3_layFlat 30 = .ok (.iastore, 1) := by decide +kernel
theorem dX3_layFlat_31 : decode cX3_layFlat 31 = .ok (.aload_n 0, 1) := by decide +kernel
theorem dX3_layFlat_32 : decode cX3_layFlat 32 = .ok (.getfield 15, 3) := by decide +kernel
theorem dX3_layFlat_35 : decode cX3_layFlat 35 = .ok (.iload_n 2, 1) := by decide +kernel
theorem dX3_layFlat_36 : decode cX3_layFlat 36 = .ok (.iload_n 2, 1) := by decide +kernel
theorem dX3_layFlat_37 : decode cX3_layFlat 37 = .ok (.iastore, 1) := by decide +kernel
theorem dX3_layFlat_38 : decode cX3_layFlat 38 = .ok (.iinc 2 1, 3) := by decide +kernel
theorem dX3_layFlat_41 : decode cX3_layFlat 41 = .ok (.goto (-25), 3) := by decide +kernel
theorem dX3_layFlat_44 : decode cX3_layFlat 44 = .ok (.aload_n 0, 1) := by decide +kernel
theorem dX3_layFlat_45 : decode cX3_layFlat 45 = .ok (.getfield 15, 3) := by decide +kernel
theorem dX3_layFlat_48 : decode cX3_layFlat 48 = .ok (.aload_n 0, 1) := by decide +kernel
theorem dX3_layFlat_49 : decode cX3_layFlat 49 = .ok (.getfield 28, 3) := by decide +kernel
theorem dX3_layFlat_52 : decode cX3_layFlat 52 = .ok (.aload_n 0, 1) := by decide +kernel
theorem dX3_layFlat_53 : decode cX3_layFlat 53 = .ok (.getfield 28, 3) := by decide +kernel
theorem dX3_layFlat_56 : decode cX3_layFlat 56 = .ok (.iastore, 1) := by decide +kernel
theorem dX3_layFlat_57 : decode cX3_layFlat 57 = .ok (.return_, 1) := by decide +kernel
set_option maxRecDepth 20000 in
theorem ggX3_turnOver_X3_copyUpwards : GoodIn wsX3_turnOver wsX3_copyUpwards := goodIn_r _ [15, 16, 17, 18, 19, 14, 20, 1, 21, 22, 23, 24, 25, 9, 26, 35, 36, 37, 38, 39, 40] (by decide +kernel) (by decide +kernel)
set_option maxRecDepth 20000 in
theorem gX3_turnOver_X3_copyUpwards : GoodIn wsX3_turnOver (wsV RX3 40 RX3 yX3_copyUpwards wsX3_copyUpwards) := goodIn_app (goodIn_of _ (by decide +kernel)) ggX3_turnOver_X3_copyUpwards
set_option maxRecDepth 20000 in
theorem ggX3_turnOver_X3_copyDownwards : GoodIn wsX3_turnOver wsX3_copyDownwards := goodIn_r _ [30, 16, 17, 18, 19, 14, 20, 1, 21, 22, 23, 24, 25, 9, 26, 35, 36, 37, 38, 39, 40] (by decide +kernel) (by decide +kernel)
set_option maxRecDepth 20000 in
theorem gX3_turnOver_X3_copyDownwards : GoodIn wsX3_turnOver (wsV RX3 44 RX3 yX3_copyDownwards wsX3_copyDownwards) := goodIn_app (goodIn_of _ (by decide +kernel)) ggX3_turnOver_X3_copyDownwards
set_option maxRecDepth 20000 in
theorem ggX3_turnOver_X3_swapRows : GoodIn wsX3_turnOver wsX3_swapRows := goodIn_r _ [34, 25, 16, 26, 10, 35, 36, 37, 38, 39, 40] (by decide +kernel) (by decide +kernel)
set_option maxRecDepth 20000 in
theorem gX3_turnOver_X3_swapRows : GoodIn wsX3_turnOver (wsV RX3 47 RX3 yX3_swapRows wsX3_swapRows) := goodIn_app (goodIn_of _ (by decide +kernel)) ggX3_turnOver_X3_swapRows
theorem dX3_turnOver_0 : decode cX3_turnOver 0 = .ok (.iload_n 1, 1) := by decide +kernel
theorem dX3_turnOver_1 : decode cX3_turnOver 1 = .ok (.iconst 1, 1) := by decide +kernel
theorem dX3_turnOver_2 : decode cX3_turnOver 2 = .ok (.if_icmp .lt 11, 3) := by decide +kernel
theorem dX3_turnOver_5 : decode cX3_turnOver 5 = .ok (.iload_n 1, 1) := by decide +kernel
theorem dX3_turnOver_6 : decode cX3_turnOver 6 = .ok (.aload_n 0, 1) := by decide +kernel
theorem dX3_turnOver_7 : decode cX3_turnOver 7 = .ok (.getfield 28, 3) := by decide +kernel
theorem dX3_turnOver_10 : decode cX3_turnOver 10 = .ok (.if_icmp .lt 4, 3) := by decide +kernel
theorem dX3_turnOver_13 : decode cX3_turnOver 13 = .ok (.return_, 1) := by decide +kernel
theorem dX3_turnOver_14 : decode cX3_turnOver 14 = .ok (.iload_n 2, 1) := by decide +kernel
theorem dX3_turnOver_15 : decode cX3_turnOver 15 = .ok (.ifCond .eq 7, 3) := by decide +kernel
theorem dX3_turnOver_18 : decode cX3_turnOver 18 = .ok (.iload_n 1, 1) := by decide +kernel
theorem dX3_turnOver_19 : decode cX3_turnOver 19 = .ok (.goto 15, 3) := by decide +kernel
theorem dX3_turnOver_22 : decode cX3_turnOver 22 = .ok (.iconst 0, 1) := by decide +kernel
theorem dX3_turnOver_23 : decode cX3_turnOver 23 = .ok (.iconst 2, 1) := by decide +kernel
theorem dX3_turnOver_24 : decode cX3_turnOver 24 = .ok (.iload_n 1, 1) := by decide +kernel
theorem dX3_turnOver_25 : decode cX3_turnOver 25 = .ok (.imul, 1) := by decide +kernel
theorem dX3_turnOver_26 : decode cX3_turnOver 26 = .ok (.aload_n 0, 1) := by decide +kernel
theorem dX3_turnOver_27 : decode cX3_turnOver 27 = .ok (.getfield 28, 3) := by decide +kernel
theorem dX3_turnOver_30 : decode cX3_turnOver 30 = .ok (.isub, 1) := by decide +kernel
theorem dX3_turnOver_31 : decode cX3_turnOver 31 = .ok (.invokestatic 31, 3) := by decide +kernel
theorem dX3_turnOver_34 : decode cX3_turnOver 34 = .ok (.istore_n 3, 1) := by decide +kernel
theorem dX3_turnOver_35 : decode cX3_turnOver 35 = .ok (.iload_n 1, 1) := by decide +kernel
theorem dX3_turnOver_36 : decode cX3_turnOver 36 = .ok (.aload_n 0, 1) := by decide +kernel
theorem dX3_turnOver_37 : decode cX3_turnOver 37 = .ok (.getfield 28, 3) := by decide +kernel
theorem dX3_turnOver_40 : decode cX3_turnOver 40 = .ok (.iload_n 1, 1) := by decide +kernel
theorem dX3_turnOver_41 : decode cX3_turnOver 41 = .ok (.isub, 1) := by decide +kernel
theorem dX3_turnOver_42 : decode cX3_turnOver 42 = .ok (.invokestatic 37, 3) := by decide +kernel
theorem dX3_turnOver_45 : decode cX3_turnOver 45 = .ok (.istore 4, 2) := by decide +kernel
theorem dX3_turnOver_47 : decode cX3_turnOver 47 = .ok (.aload_n 0, 1) := by decide +kernel
theorem dX3_turnOver_48 : decode cX3_turnOver 48 = .ok (.iconst 0, 1) := by decide +kernel
theorem dX3_turnOver_49 : decode cX3_turnOver 49 = .ok (.putfield 24, 3) := by decide +kernel
theorem dX3_turnOver_52 : decode cX3_turnOver 52 = .ok (.iconst 0, 1) := by decide +kernel
theorem dX3_turnOver_53 : decode cX3_turnOver 53 = .ok (.istore 5, 2) := by decide +kernel
theorem dX3_turnOver_55 : decode cX3_turnOver 55 = .ok (.iload 5, 2) := by decide +kernel
theorem dX3_turnOver_57 : decode cX3_turnOver 57 = .ok (.iload 4, 2) := by decide +kernel
theorem dX3_turnOver_59 : decode cX3_turnOver 59 = .ok (.if_icmp .ge 44, 3) := by decide +kernel
theorem dX3_turnOver_62 : decode cX3_turnOver 62 = .ok (.aload_n 0, 1) := by decide +kernel
theorem dX3_turnOver_63 : decode cX3_turnOver 63 = .ok (.getfield 21, 3) := by decide +kernel
theorem dX3_turnOver_66 : decode cX3_turnOver 66 = .ok (.iload 5, 2) := by decide +kernel
theorem dX3_turnOver_68 : decode cX3_turnOver 68 = .ok (.aload_n 0, 1) := by decide +kernel
theorem dX3_turnOver_69 : decode cX3_turnOver 69 = .ok (.getfield 24, 3) := by decide +kernel
theorem dX3_turnOver_72 : decode cX3_turnOver 72 = .ok (.iastore, 1) := by decide +kernel
theorem dX3_turnOver_73 : decode cX3_turnOver 73 = .ok (.iload_n 3, 1) := by decide +kernel
theorem dX3_turnOver_74 : decode cX3_turnOver 74 = .ok (.iload 5, 2) := by decide +kernel
theorem dX3_turnOver_76 : decode cX3_turnOver 76 = .ok (.iadd, 1) := by decide +kernel
theorem dX3_turnOver_77 : decode cX3_turnOver 77 = .ok (.istore 6, 2) := by decide +kernel
theorem dX3_turnOver_79 : decode cX3_turnOver 79 = .ok (.aload_n 0, 1) := by decide +kernel
theorem dX3_turnOver_80 : decode cX3_turnOver 80 = .ok (.iload 6, 2) := by decide +kernel
theorem dX3_turnOver_82 : decode cX3_turnOver 82 = .ok (.invokevirtual 40, 3) := by decide +kernel
theorem dX3_turnOver_85 : decode cX3_turnOver 85 = .ok (.aload_n 0, 1) := by decide +kernel
theorem dX3_turnOver_86 : decode cX3_turnOver 86 = .ok (.iconst 2, 1) := by decide +kernel
theorem dX3_turnOver_87 : decode cX3_turnOver 87 = .ok (.iload_n 1, 1) := by decide +kernel
theorem dX3_turnOver_88 : decode cX3_turnOver 88 = .ok (.imul, 1) := by decide +kernel
theorem dX3_turnOver_89 : decode cX3_turnOver 89 = .ok (.iconst 1, 1) := by decide +kernel
theorem dX3_turnOver_90 : decode cX3_turnOver 90 = .ok (.isub, 1) := by decide +kernel
theorem dX3_turnOver_91 : decode cX3_turnOver 91 = .ok (.iload 6, 2) := by decide +kernel
theorem dX3_turnOver_93 : decode cX3_turnOver 93 = .ok (.isub, 1) := by decide +kernel
theorem dX3_turnOver_94 : decode cX3_turnOver 94 = .ok (.invokevirtual 44, 3) := by decide +kernel
theorem dX3_turnOver_97 : decode cX3_turnOver 97 = .ok (.iinc 5 1, 3) := by decide +kernel
theorem dX3_turnOver_100 : decode cX3_turnOver 100 = .ok (.goto (-45), 3) := by decide +kernel
theorem dX3_turnOver_103 : decode cX3_turnOver 103 = .ok (.aload_n 0, 1) := by decide +kernel
theorem dX3_turnOver_104 : decode cX3_turnOver 104 = .ok (.getfield 21, 3) := by decide +kernel
theorem dX3_turnOver_107 : decode cX3_turnOver 107 = .ok (.iload 4, 2) := by decide +kernel
theorem dX3_turnOver_109 : decode cX3_turnOver 109 = .ok (.aload_n 0, 1) := by decide +kernel
theorem dX3_turnOver_110 : decode cX3_turnOver 110 = .ok (.getfield 24, 3) := by decide +kernel
theorem dX3_turnOver_113 : decode cX3_turnOver 113 = .ok (.iastore, 1) := by decide +kernel
theorem dX3_turnOver_114 : decode cX3_turnOver 114 = .ok (.aload_n 0, 1) := by decide +kernel
theorem dX3_turnOver_115 : decode cX3_turnOver 115 = .ok (.iload 4, 2) := by decide +kernel
theorem dX3_turnOver_117 : decode cX3_turnOver 117 = .ok (.putfield 28, 3) := by decide +kernel
theorem dX3_turnOver_120 : decode cX3_turnOver 120 = .ok (.aload_n 0, 1) := by decide +kernel
theorem dX3_turnOver_121 : decode cX3_turnOver 121 = .ok (.invokevirtual 47, 3) := by decide +kernel
theorem dX3_turnOver_124 : decode cX3_turnOver 124 = .ok (.return_, 1) := by decide +kernel
set_option maxRecDepth 20000 in
theorem ggX3_heightAt_X3_isPlace : GoodIn wsX3_heightAt wsX3_isPlace := goodIn_r _ [6, 7, 8, 9, 10, 11, 12, 13] (by decide +kernel) (by decide +kernel)
set_option maxRecDepth 20000 in
theorem gX3_heightAt_X3_isPlace : GoodIn wsX3_heightAt (wsV RX3 50 RX3 yX3_isPlace wsX3_isPlace) := goodIn_app (goodIn_of _ (by decide +kernel)) ggX3_heightAt_X3_isPlace
theorem dX3_heightAt_0 : decode cX3_heightAt 0 = .ok (.aload_n 0, 1) := by decide +kernel
theorem dX3_heightAt_1 : decode cX3_heightAt 1 = .ok (.iload_n 1, 1) := by decide +kernel
theorem dX3_heightAt_2 : decode cX3_heightAt 2 = .ok (.invokevirtual 50, 3) := by decide +kernel
theorem dX3_heightAt_5 : decode cX3_heightAt 5 = .ok (.ifCond .eq 21, 3) := by decide +kernel
theorem dX3_heightAt_8 : decode cX3_heightAt 8 = .ok (.aload_n 0, 1) := by decide +kernel
theorem dX3_heightAt_9 : decode cX3_heightAt 9 = .ok (.getfield 15, 3) := by decide +kernel
theorem dX3_heightAt_12 : decode cX3_heightAt 12 = .ok (.iload_n 1, 1) := by decide +kernel
theorem dX3_heightAt_13 : decode cX3_heightAt 13 = .ok (.iconst 1, 1) := by decide +kernel
theorem dX3_heightAt_14 : decode cX3_heightAt 14 = .ok (.iadd, 1) := by decide +kernel
theorem dX3_heightAt_15 : decode cX3_heightAt 15 = .ok (.iaload, 1) := by decide +kernel
theorem dX3_heightAt_16 : decode cX3_heightAt 16 = .ok (.aload_n 0, 1) := by decide +kernel
theorem dX3_heightAt_17 : decode cX3_heightAt 17 = .ok (.getfield 15, 3) := by decide +kernel
theorem dX3_heightAt_20 : decode cX3_heightAt 20 = .ok (.iload_n 1, 1) := by decide +kernel
theorem dX3_heightAt_21 : decode cX3_heightAt 21 = .ok (.iaload, 1) := by decide +kernel
theorem dX3_heightAt_22 : decode cX3_heightAt 22 = .ok (.isub, 1) := by decide +kernel
theorem dX3_heightAt_23 : decode cX3_heightAt 23 = .ok (.goto 4, 3) := by decide +kernel
theorem dX3_heightAt_26 : decode cX3_heightAt 26 = .ok (.iconst 0, 1) := by decide +kernel
theorem dX3_heightAt_27 : decode cX3_heightAt 27 = .ok (.ireturn, 1) := by decide +kernel
set_option maxRecDepth 20000 in
theorem ggX3_cellIn_X3_heightAt : GoodIn wsX3_cellIn wsX3_heightAt := goodIn_r _ [7, 2, 8, 9, 10, 6, 11, 12, 13, 14, 15, 16, 17, 18] (by decide +kernel) (by decide +kernel)
set_option maxRecDepth 20000 in
theorem gX3_cellIn_X3_heightAt : GoodIn wsX3_cellIn (wsV RX3 54 RX3 yX3_heightAt wsX3_heightAt) := goodIn_app (goodIn_of _ (by decide +kernel)) ggX3_cellIn_X3_heightAt
theorem dX3_cellIn_0 : decode cX3_cellIn 0 = .ok (.iload_n 2, 1) := by decide +kernel
theorem dX3_cellIn_1 : decode cX3_cellIn 1 = .ok (.ifCond .lt 12, 3) := by decide +kernel
theorem dX3_cellIn_4 : decode cX3_cellIn 4 = .ok (.iload_n 2, 1) := by decide +kernel
theorem dX3_cellIn_5 : decode cX3_cellIn 5 = .ok (.aload_n 0, 1) := by decide +kernel
theorem dX3_cellIn_6 : decode cX3_cellIn 6 = .ok (.iload_n 1, 1) := by decide +kernel
theorem dX3_cellIn_7 : decode cX3_cellIn 7 = .ok (.invokevirtual 54, 3) := by decide +kernel
theorem dX3_cellIn_10 : decode cX3_cellIn 10 = .ok (.if_icmp .lt 5, 3) := by decide +kernel
theorem dX3_cellIn_13 : decode cX3_cellIn 13 = .ok (.iconst (-1), 1) := by decide +kernel
theorem dX3_cellIn_14 : decode cX3_cellIn 14 = .ok (.ireturn, 1) := by decide +kernel
theorem dX3_cellIn_15 : decode cX3_cellIn 15 = .ok (.aload_n 0, 1) := by decide +kernel
theorem dX3_cellIn_16 : decode cX3_cellIn 16 = .ok (.getfield 9, 3) := by decide +kernel
theorem dX3_cellIn_19 : decode cX3_cellIn 19 = .ok (.aload_n 0, 1) := by decide +kernel
theorem dX3_cellIn_20 : decode cX3_cellIn 20 = .ok (.getfield 15, 3) := by decide +kernel
theorem dX3_cellIn_23 : decode cX3_cellIn 23 = .ok (.iload_n 1, 1) := by decide +kernel
theorem dX3_cellIn_24 : decode cX3_cellIn 24 = .ok (.iaload, 1) := by decide +kernel
theorem dX3_cellIn_25 : decode cX3_cellIn 25 = .ok (.iload_n 2, 1) := by decide +kernel
theorem dX3_cellIn_26 : decode cX3_cellIn 26 = .ok (.iadd, 1) := by decide +kernel
theorem dX3_cellIn_27 : decode cX3_cellIn 27 = .ok (.iaload, 1) := by decide +kernel
theorem dX3_cellIn_28 : decode cX3_cellIn 28 = .ok (.ireturn, 1) := by decide +kernel
set_option maxRecDepth 20000 in
theorem ggX3_greatestHeight_X3_heightAt : GoodIn wsX3_greatestHeight wsX3_heightAt := goodIn_r _ [10, 11, 12, 13, 14, 9, 15, 1, 16, 17, 18, 19, 20, 21] (by decide +kernel) (by decide +kernel)
set_option maxRecDepth 20000 in
theorem gX3_greatestHeight_X3_heightAt : GoodIn wsX3_greatestHeight (wsV RX3 54 RX3 yX3_heightAt wsX3_heightAt) := goodIn_app (goodIn_of _ (by decide +kernel)) ggX3_greatestHeight_X3_heightAt
theorem dX3_greatestHeight_0 : decode cX3_greatestHeight 0 = .ok (.iconst 0, 1) := by decide +kernel
theorem dX3_greatestHeight_1 : decode cX3_greatestHeight 1 = .ok (.istore_n 1, 1) := by decide +kernel
theorem dX3_greatestHeight_2 : decode cX3_greatestHeight 2 = .ok (.iconst 0, 1) := by decide +kernel
theorem dX3_greatestHeight_3 : decode cX3_greatestHeight 3 = .ok (.istore_n 2, 1) := by decide +kernel
theorem dX3_greatestHeight_4 : decode cX3_greatestHeight 4 = .ok (.iload_n 2, 1) := by decide +kernel
theorem dX3_greatestHeight_5 : decode cX3_greatestHeight 5 = .ok (.aload_n 0, 1) := by decide +kernel
theorem dX3_greatestHeight_6 : decode cX3_greatestHeight 6 = .ok (.getfield 28, 3) := by decide +kernel
theorem dX3_greatestHeight_9 : decode cX3_greatestHeight 9 = .ok (.if_icmp .ge 19, 3) := by decide +kernel
theorem dX3_greatestHeight_12 : decode cX3_greatestHeight 12 = .ok (.iload_n 1, 1) := by decide +kernel
theorem dX3_greatestHeight_13 : decode cX3_greatestHeight 13 = .ok (.aload_n 0, 1) := by decide +kernel
theorem dX3_greatestHeight_14 : decode cX3_greatestHeight 14 = .ok (.iload_n 2, 1) := by decide +kernel
theorem dX3_greatestHeight_15 : decode cX3_greatestHeight 15 = .ok (.invokevirtual 54, 3) := by decide +kernel
theorem dX3_greatestHeight_18 : decode cX3_greatestHeight 18 = .ok (.invokestatic 37, 3) := by decide +kernel
theorem dX3_greatestHeight_21 : decode cX3_greatestHeight 21 = .ok (.istore_n 1, 1) := by decide +kernel
theorem dX3_greatestHeight_22 : decode cX3_greatestHeight 22 = .ok (.iinc 2 1, 3) := by decide +kernel
theorem dX3_greatestHeight_25 : decode cX3_greatestHeight 25 = .ok (.goto (-21), 3) := by decide +kernel
theorem dX3_greatestHeight_28 : decode cX3_greatestHeight 28 = .ok (.iload_n 1, 1) := by decide +kernel
theorem dX3_greatestHeight_29 : decode cX3_greatestHeight 29 = .ok (.ireturn, 1) := by decide +kernel
theorem dX3_isPlace_0 : decode cX3_isPlace 0 = .ok (.iload_n 1, 1) := by decide +kernel
theorem dX3_isPlace_1 : decode cX3_isPlace 1 = .ok (.ifCond .lt 15, 3) := by decide +kernel
theorem dX3_isPlace_4 : decode cX3_isPlace 4 = .ok (.iload_n 1, 1) := by decide +kernel
theorem dX3_isPlace_5 : decode cX3_isPlace 5 = .ok (.aload_n 0, 1) := by decide +kernel
theorem dX3_isPlace_6 : decode cX3_isPlace 6 = .ok (.getfield 28, 3) := by decide +kernel
theorem dX3_isPlace_9 : decode cX3_isPlace 9 = .ok (.if_icmp .ge 7, 3) := by decide +kernel
theorem dX3_isPlace_12 : decode cX3_isPlace 12 = .ok (.iconst 1, 1) := by decide +kernel
theorem dX3_isPlace_13 : decode cX3_isPlace 13 = .ok (.goto 4, 3) := by decide +kernel
theorem dX3_isPlace_16 : decode cX3_isPlace 16 = .ok (.iconst 0, 1) := by decide +kernel
theorem dX3_isPlace_17 : decode cX3_isPlace 17 = .ok (.ireturn, 1) := by decide +kernel
set_option maxRecDepth 20000 in
theorem ggX3_copyUpwards_X3_isPlace : GoodIn wsX3_copyUpwards wsX3_isPlace := goodIn_r _ [6, 7, 15, 16, 17, 18, 19, 20] (by decide +kernel) (by decide +kernel)
set_option maxRecDepth 20000 in
theorem gX3_copyUpwards_X3_isPlace : GoodIn wsX3_copyUpwards (wsV RX3 50 RX3 yX3_isPlace wsX3_isPlace) := goodIn_app (goodIn_of _ (by decide +kernel)) ggX3_copyUpwards_X3_isPlace
set_option maxRecDepth 20000 in
theorem ggX3_copyUpwards_X3_copyCell : GoodIn wsX3_copyUpwards wsX3_copyCell := goodIn_r _ [11, 12, 13, 14, 15, 16, 17, 18, 19, 20] (by decide +kernel) (by decide +kernel)
set_option maxRecDepth 20000 in
theorem gX3_copyUpwards_X3_copyCell : GoodIn wsX3_copyUpwards (wsV RX3 58 RX3 yX3_copyCell wsX3_copyCell) := goodIn_app (goodIn_of _ (by decide +kernel)) ggX3_copyUpwards_X3_copyCell
theorem dX3_copyUpwards_0 : decode cX3_copyUpwards 0 = .ok (.aload_n 0, 1) := by decide +kernel
theorem dX3_copyUpwards_1 : decode cX3_copyUpwards 1 = .ok (.iload_n 1, 1) := by decide +kernel
theorem dX3_copyUpwards_2 : decode cX3_copyUpwards 2 = .ok (.invokevirtual 50, 3) := by decide +kernel
theorem dX3_copyUpwards_5 : decode cX3_copyUpwards 5 = .ok (.ifCond .eq 33, 3) := by decide +kernel
theorem dX3_copyUpwards_8 : decode cX3_copyUpwards 8 = .ok (.aload_n 0, 1) := by decide +kernel
theorem dX3_copyUpwards_9 : decode cX3_copyUpwards 9 = .ok (.getfield 15, 3) := by decide +kernel
theorem dX3_copyUpwards_12 : decode cX3_copyUpwards 12 = .ok (.iload_n 1, 1) := by decide +kernel
theorem dX3_copyUpwards_13 : decode cX3_copyUpwards 13 = .ok (.iaload, 1) := by decide +kernel
theorem dX3_copyUpwards_14 : decode cX3_copyUpwards 14 = .ok (.istore_n 2, 1) := by decide +kernel
theorem dX3_copyUpwards_15 : decode cX3_copyUpwards 15 = .ok (.iload_n 2, 1) := by decide +kernel
theorem dX3_copyUpwards_16 : decode cX3_copyUpwards 16 = .ok (.aload_n 0, 1) := by decide +kernel
theorem dX3_copyUpwards_17 : decode cX3_copyUpwards 17 = .ok (.getfield 15, 3) := by decide +kernel
theorem dX3_copyUpwards_20 : decode cX3_copyUpwards 20 = .ok (.iload_n 1, 1) := by decide +kernel
theorem dX3_copyUpwards_21 : decode cX3_copyUpwards 21 = .ok (.iconst 1, 1) := by decide +kernel
theorem dX3_copyUpwards_22 : decode cX3_copyUpwards 22 = .ok (.iadd, 1) := by decide +kernel
theorem dX3_copyUpwards_23 : decode cX3_copyUpwards 23 = .ok (.iaload, 1) := by decide +kernel
theorem dX3_copyUpwards_24 : decode cX3_copyUpwards 24 = .ok (.if_icmp .ge 14, 3) := by decide +kernel
theorem dX3_copyUpwards_27 : decode cX3_copyUpwards 27 = .ok (.aload_n 0, 1) := by decide +kernel
theorem dX3_copyUpwards_28 : decode cX3_copyUpwards 28 = .ok (.iload_n 2, 1) := by decide +kernel
theorem dX3_copyUpwards_29 : decode cX3_copyUpwards 29 = .ok (.invokevirtual 58, 3) := by decide +kernel
theorem dX3_copyUpwards_32 : decode cX3_copyUpwards 32 = .ok (.iinc 2 1, 3) := by decide +kernel
theorem dX3_copyUpwards_35 : decode cX3_copyUpwards 35 = .ok (.goto (-20), 3) := by decide +kernel
theorem dX3_copyUpwards_38 : decode cX3_copyUpwards 38 = .ok (.return_, 1) := by decide +kernel
set_option maxRecDepth 20000 in
theorem ggX3_copyDownwards_X3_isPlace : GoodIn wsX3_copyDownwards wsX3_isPlace := goodIn_r _ [6, 7, 15, 16, 17, 18, 19, 20] (by decide +kernel) (by decide +kernel)
set_option maxRecDepth 20000 in
theorem gX3_copyDownwards_X3_isPlace : GoodIn wsX3_copyDownwards (wsV RX3 50 RX3 yX3_isPlace wsX3_isPlace) := goodIn_app (goodIn_of _ (by decide +kernel)) ggX3_copyDownwards_X3_isPlace
set_option maxRecDepth 20000 in
theorem ggX3_copyDownwards_X3_copyCell : GoodIn wsX3_copyDownwards wsX3_copyCell := goodIn_r _ [11, 12, 13, 14, 15, 16, 17, 18, 19, 20] (by decide +kernel) (by decide +kernel)
set_option maxRecDepth 20000 in
theorem gX3_copyDownwards_X3_copyCell : GoodIn wsX3_copyDownwards (wsV RX3 58 RX3 yX3_copyCell wsX3_copyCell) := goodIn_app (goodIn_of _ (by decide +kernel)) ggX3_copyDownwards_X3_copyCell
theorem dX3_copyDownwards_0 : decode cX3_copyDownwards 0 = .ok (.aload_n 0, 1) := by decide +kernel
theorem dX3_copyDownwards_1 : decode cX3_copyDownwards 1 = .ok (.iload_n 1, 1) := by decide +kernel
theorem dX3_copyDownwards_2 : decode cX3_copyDownwards 2 = .ok (.invokevirtual 50, 3) := by decide +kernel
theorem dX3_copyDownwards_5 : decode cX3_copyDownwards 5 = .ok (.ifCond .eq 35, 3) := by decide +kernel
theorem dX3_copyDownwards_8 : decode cX3_copyDownwards 8 = .ok (.aload_n 0, 1) := by decide +kernel
theorem dX3_copyDownwards_9 : decode cX3_copyDownwards 9 = .ok (.getfield 15, 3) := by decide +kernel
theorem dX3_copyDownwards_12 : decode cX3_copyDownwards 12 = .ok (.iload_n 1, 1) := by decide +kernel
theorem dX3_copyDownwards_13 : decode cX3_copyDownwards 13 = .ok (.iconst 1, 1) := by decide +kernel
theorem dX3_copyDownwards_14 : decode cX3_copyDownwards 14 = .ok (.iadd, 1) := by decide +kernel
theorem dX3_copyDownwards_15 : decode cX3_copyDownwards 15 = .ok (.iaload, 1) := by decide +kernel
theorem dX3_copyDownwards_16 : decode cX3_copyDownwards 16 = .ok (.iconst 1, 1) := by decide +kernel
theorem dX3_copyDownwards_17 : decode cX3_copyDownwards 17 = .ok (.isub, 1) := by decide +kernel
theorem dX3_copyDownwards_18 : decode cX3_copyDownwards 18 = .ok (.istore_n 2, 1) := by decide +kernel
theorem dX3_copyDownwards_19 : decode cX3_copyDownwards 19 = .ok (.iload_n 2, 1) := by decide +kernel
theorem dX3_copyDownwards_20 : decode cX3_copyDownwards 20 = .ok (.aload_n 0, 1) := by decide +kernel
theorem dX3_copyDownwards_21 : decode cX3_copyDownwards 21 = .ok (.getfield 15, 3) := by decide +kernel
theorem dX3_copyDownwards_24 : decode cX3_copyDownwards 24 = .ok (.iload_n 1, 1) := by decide +kernel
theorem dX3_copyDownwards_25 : decode cX3_copyDownwards 25 = .ok (.iaload, 1) := by decide +kernel
theorem dX3_copyDownwards_26 : decode cX3_copyDownwards 26 = .ok (.if_icmp .lt 14, 3) := by decide +kernel
theorem dX3_copyDownwards_29 : decode cX3_copyDownwards 29 = .ok (.aload_n 0, 1) := by decide +kernel
theorem dX3_copyDownwards_30 : decode cX3_copyDownwards 30 = .ok (.iload_n 2, 1) := by decide +kernel
theorem dX3_copyDownwards_31 : decode cX3_copyDownwards 31 = .ok (.invokevirtual 58, 3) := by decide +kernel
theorem dX3_copyDownwards_34 : decode cX3_copyDownwards 34 = .ok (.iinc 2 (-1), 3) := by decide +kernel
theorem dX3_copyDownwards_37 : decode cX3_copyDownwards 37 = .ok (.goto (-18), 3) := by decide +kernel
theorem dX3_copyDownwards_40 : decode cX3_copyDownwards 40 = .ok (.return_, 1) := by decide +kernel
theorem dX3_copyCell_0 : decode cX3_copyCell 0 = .ok (.iload_n 1, 1) := by decide +kernel
theorem dX3_copyCell_1 : decode cX3_copyCell 1 = .ok (.ifCond .lt 49, 3) := by decide +kernel
theorem dX3_copyCell_4 : decode cX3_copyCell 4 = .ok (.iload_n 1, 1) := by decide +kernel
theorem dX3_copyCell_5 : decode cX3_copyCell 5 = .ok (.aload_n 0, 1) := by decide +kernel
theorem dX3_copyCell_6 : decode cX3_copyCell 6 = .ok (.getfield 9, 3) := by decide +kernel
theorem dX3_copyCell_9 : decode cX3_copyCell 9 = .ok (.arraylength, 1) := by decide +kernel
theorem dX3_copyCell_10 : decode cX3_copyCell 10 = .ok (.if_icmp .ge 40, 3) := by decide +kernel
theorem dX3_copyCell_13 : decode cX3_copyCell 13 = .ok (.aload_n 0, 1) := by decide +kernel
theorem dX3_copyCell_14 : decode cX3_copyCell 14 = .ok (.getfield 24, 3) := by decide +kernel
theorem dX3_copyCell_17 : decode cX3_copyCell 17 = .ok (.aload_n 0, 1) := by decide +kernel
theorem dX3_copyCell_18 : decode cX3_copyCell 18 = .ok (.getfield 18, 3) := by decide +kernel
theorem dX3_copyCell_21 : decode cX3_copyCell 21 = .ok (.arraylength, 1) := by decide +kernel
theorem dX3_copyCell_22 : decode cX3_copyCell 22 = .ok (.if_icmp .ge 28, 3) := by decide +kernel
theorem dX3_copyCell_25 : decode cX3_copyCell 25 = .ok (.aload_n 0, 1) := by decide +kernel
theorem dX3_copyCell_26 : decode cX3_copyCell 26 = .ok (.getfield 18, 3) := by decide +kernel
theorem dX3_copyCell_29 : decode cX3_copyCell 29 = .ok (.aload_n 0, 1) := by decide +kernel
theorem dX3_copyCell_30 : decode cX3_copyCell 30 = .ok (.getfield 24, 3) := by decide +kernel
theorem dX3_copyCell_33 : decode cX3_copyCell 33 = .ok (.aload_n 0, 1) := by decide +kernel
theorem dX3_copyCell_34 : decode cX3_copyCell 34 = .ok (.getfield 9, 3) := by decide +kernel
theorem dX3_copyCell_37 : decode cX3_copyCell 37 = .ok (.iload_n 1, 1) := by decide +kernel
theorem dX3_copyCell_38 : decode cX3_copyCell 38 = .ok (.iaload, 1) := by decide +kernel
theorem dX3_copyCell_39 : decode cX3_copyCell 39 = .ok (.iastore, 1) := by decide +kernel
theorem dX3_copyCell_40 : decode cX3_copyCell 40 = .ok (.aload_n 0, 1) := by decide +kernel
theorem dX3_copyCell_41 : decode cX3_copyCell 41 = .ok (.dup, 1) := by decide +kernel
theorem dX3_copyCell_42 : decode cX3_copyCell 42 = .ok (.getfield 24, 3) := by decide +kernel
theorem dX3_copyCell_45 : decode cX3_copyCell 45 = .ok (.iconst 1, 1) := by decide +kernel
theorem dX3_copyCell_46 : decode cX3_copyCell 46 = .ok (.iadd, 1) := by decide +kernel
theorem dX3_copyCell_47 : decode cX3_copyCell 47 = .ok (.putfield 24, 3) := by decide +kernel
theorem dX3_copyCell_50 : decode cX3_copyCell 50 = .ok (.return_, 1) := by decide +kernel
theorem dX3_swapRows_0 : decode cX3_swapRows 0 = .ok (.aload_n 0, 1) := by decide +kernel
theorem dX3_swapRows_1 : decode cX3_swapRows 1 = .ok (.getfield 9, 3) := by decide +kernel
theorem dX3_swapRows_4 : decode cX3_swapRows 4 = .ok (.astore_n 1, 1) := by decide +kernel
theorem dX3_swapRows_5 : decode cX3_swapRows 5 = .ok (.aload_n 0, 1) := by decide +kernel
theorem dX3_swapRows_6 : decode cX3_swapRows 6 = .ok (.getfield 15, 3) := by decide +kernel
theorem dX3_swapRows_9 : decode cX3_swapRows 9 = .ok (.astore_n 2, 1) := by decide +kernel
theorem dX3_swapRows_10 : decode cX3_swapRows 10 = .ok (.aload_n 0, 1) := by decide +kernel
theorem dX3_swapRows_11 : decode cX3_swapRows 11 = .ok (.aload_n 0, 1) := by decide +kernel
theorem dX3_swapRows_12 : decode cX3_swapRows 12 = .ok (.getfield 18, 3) := by decide +kernel
theorem dX3_swapRows_15 : decode cX3_swapRows 15 = .ok (.putfield 9, 3) := by decide +kernel
theorem dX3_swapRows_18 : decode cX3_swapRows 18 = .ok (.aload_n 0, 1) := by decide +kernel
theorem dX3_swapRows_19 : decode cX3_swapRows 19 = .ok (.aload_n 0, 1) := by decide +kernel
theorem dX3_swapRows_20 : decode cX3_swapRows 20 = .ok (.getfield 21, 3) := by decide +kernel
theorem dX3_swapRows_23 : decode cX3_swapRows 23 = .ok (.putfield 15, 3) := by decide +kernel
theorem dX3_swapRows_26 : decode cX3_swapRows 26 = .ok (.aload_n 0, 1) := by decide +kernel
theorem dX3_swapRows_27 : decode cX3_swapRows 27 = .ok (.aload_n 1, 1) := by decide +kernel
theorem dX3_swapRows_28 : decode cX3_swapRows 28 = .ok (.putfield 18, 3) := by decide +kernel
theorem dX3_swapRows_31 : decode cX3_swapRows 31 = .ok (.aload_n 0, 1) := by decide +kernel
theorem dX3_swapRows_32 : decode cX3_swapRows 32 = .ok (.aload_n 2, 1) := by decide +kernel
theorem dX3_swapRows_33 : decode cX3_swapRows 33 = .ok (.putfield 21, 3) := by decide +kernel
theorem dX3_swapRows_36 : decode cX3_swapRows 36 = .ok (.return_, 1) := by decide +kernel
set_option maxRecDepth 20000 in
theorem ggX4_init_X0_init : GoodIn wsX4_init wsX0_init := goodIn_r _ [21, 22, 2, 3, 23, 24, 25, 41, 42, 43] (by decide +kernel) (by decide +kernel)
set_option maxRecDepth 20000 in
theorem gX4_init_X0_init_n31 : GoodIn wsX4_init (wsX0_init) := ggX4_init_X0_init
set_option maxRecDepth 20000 in
theorem ggX4_init_X1_init : GoodIn wsX4_init wsX1_init := goodIn_r _ [27, 28, 2, 3, 29, 30, 4, 31, 32, 44, 45, 46, 47] (by decide +kernel) (by decide +kernel)
set_option maxRecDepth 20000 in
theorem gX4_init_X1_init_n41 : GoodIn wsX4_init (wsX1_init) := ggX4_init_X1_init
theorem dX4_init_0 : decode cX4_init 0 = .ok (.aload_n 0, 1) := by decide +kernel
theorem dX4_init_1 : decode cX4_init 1 = .ok (.invokespecial 1, 3) := by decide +kernel
theorem dX4_init_4 : decode cX4_init 4 = .ok (.aload_n 0, 1) := by decide +kernel
theorem dX4_init_5 : decode cX4_init 5 = .ok (.bipush 8, 2) := by decide +kernel
theorem dX4_init_7 : decode cX4_init 7 = .ok (.newarray .int, 2) := by decide +kernel
theorem dX4_init_9 : decode cX4_init 9 = .ok (.putfield 9, 3) := by decide +kernel
theorem dX4_init_12 : decode cX4_init 12 = .ok (.aload_n 0, 1) := by decide +kernel
theorem dX4_init_13 : decode cX4_init 13 = .ok (.bipush 6, 2) := by decide +kernel
theorem dX4_init_15 : decode cX4_init 15 = .ok (.newarray .int, 2) := by decide +kernel
theorem dX4_init_17 : decode cX4_init 17 = .ok (.putfield 13, 3) := by decide +kernel
theorem dX4_init_20 : decode cX4_init 20 = .ok (.aload_n 0, 1) := by decide +kernel
theorem dX4_init_21 : decode cX4_init 21 = .ok (.bipush 8, 2) := by decide +kernel
theorem dX4_init_23 : decode cX4_init 23 = .ok (.anewarray 16, 3) := by decide +kernel
theorem dX4_init_26 : decode cX4_init 26 = .ok (.putfield 18, 3) := by decide +kernel
theorem dX4_init_29 : decode cX4_init 29 = .ok (.aload_n 0, 1) := by decide +kernel
theorem dX4_init_30 : decode cX4_init 30 = .ok (.bipush 8, 2) := by decide +kernel
theorem dX4_init_32 : decode cX4_init 32 = .ok (.newarray .int, 2) := by decide +kernel
theorem dX4_init_34 : decode cX4_init 34 = .ok (.putfield 22, 3) := by decide +kernel
theorem dX4_init_37 : decode cX4_init 37 = .ok (.aload_n 0, 1) := by decide +kernel
theorem dX4_init_38 : decode cX4_init 38 = .ok (.iconst 0, 1) := by decide +kernel
theorem dX4_init_39 : decode cX4_init 39 = .ok (.putfield 25, 3) := by decide +kernel
theorem dX4_init_42 : decode cX4_init 42 = .ok (.aload_n 0, 1) := by decide +kernel
theorem dX4_init_43 : decode cX4_init 43 = .ok (.new 29, 3) := by decide +kernel
theorem dX4_init_46 : decode cX4_init 46 = .ok (.dup, 1) := by decide +kernel
theorem dX4_init_47 : decode cX4_init 47 = .ok (.invokespecial 31, 3) := by decide +kernel
theorem dX4_init_50 : decode cX4_init 50 = .ok (.putfield 32, 3) := by decide +kernel
theorem dX4_init_53 : decode cX4_init 53 = .ok (.aload_n 0, 1) := by decide +kernel
theorem dX4_init_54 : decode cX4_init 54 = .ok (.bipush 32, 2) := by decide +kernel
theorem dX4_init_56 : decode cX4_init 56 = .ok (.newarray .int, 2) := by decide +kernel
theorem dX4_init_58 : decode cX4_init 58 = .ok (.putfield 36, 3) := by decide +kernel
theorem dX4_init_61 : decode cX4_init 61 = .ok (.aload_n 0, 1) := by decide +kernel
theorem dX4_init_62 : decode cX4_init 62 = .ok (.new 39, 3) := by decide +kernel
theorem dX4_init_65 : decode cX4_init 65 = .ok (.dup, 1) := by decide +kernel
theorem dX4_init_66 : decode cX4_init 66 = .ok (.invokespecial 41, 3) := by decide +kernel
theorem dX4_init_69 : decode cX4_init 69 = .ok (.putfield 42, 3) := by decide +kernel
theorem dX4_init_72 : decode cX4_init 72 = .ok (.return_, 1) := by decide +kernel
set_option maxRecDepth 20000 in
theorem ggX4_setNeeds_X4_checkKind : GoodIn wsX4_setNeeds wsX4_checkKind := goodIn_ca (goodIn_r _ [8, 9, 10] (by decide +kernel) (by decide +kernel)) (goodIn_sub (fun _ h => List.mem_cons_of_mem _ (List.mem_append_right _ h)) (by decide +kernel))
set_option maxRecDepth 20000 in
theorem gX4_setNeeds_X4_checkKind : GoodIn wsX4_setNeeds (wsV RX4 46 RX4 yX4_checkKind wsX4_checkKind) := goodIn_app (goodIn_of _ (by decide +kernel)) ggX4_setNeeds_X4_checkKind
set_option maxRecDepth 20000 in
theorem ggX4_setNeeds_X4_reached : GoodIn wsX4_setNeeds wsX4_reached := goodIn_r _ [13, 14, 15, 7, 16] (by decide +kernel) (by decide +kernel)
set_option maxRecDepth 20000 in
theorem gX4_setNeeds_X4_reached : GoodIn wsX4_setNeeds (va_wsS RX4 57 yX4_reached wsX4_reached) := goodIn_app (goodIn_of _ (by decide +kernel)) ggX4_setNeeds_X4_reached
set_option maxRecDepth 20000 in
theorem ggX4_setNeeds_X4_holds : GoodIn wsX4_setNeeds wsX4_holds := goodIn_r _ [16] (by decide +kernel) (by decide +kernel)
set_option maxRecDepth 20000 in
theorem gX4_setNeeds_X4_holds : GoodIn wsX4_setNeeds (va_wsS RX4 61 yX4_holds wsX4_holds) := goodIn_app (goodIn_of _ (by decide +kernel)) ggX4_setNeeds_X4_holds
theorem dX4_setNeeds_0 : decode cX4_setNeeds 0 = .ok (.aload_n 0, 1) := by decide +kernel
theorem dX4_setNeeds_1 : decode cX4_setNeeds 1 = .ok (.iload_n 1, 1) := by decide +kernel
theorem dX4_setNeeds_2 : decode cX4_setNeeds 2 = .ok (.invokevirtual 46, 3) := by decide +kernel
theorem dX4_setNeeds_5 : decode cX4_setNeeds 5 = .ok (.iload_n 2, 1) := by decide +kernel
theorem dX4_setNeeds_6 : decode cX4_setNeeds 6 = .ok (.ifCond .lt 10, 3) := by decide +kernel
theorem dX4_setNeeds_9 : decode cX4_setNeeds 9 = .ok (.iload_n 2, 1) := by decide +kernel
theorem dX4_setNeeds_10 : decode cX4_setNeeds 10 = .ok (.sipush 255, 3) := by decide +kernel
theorem dX4_setNeeds_13 : decode cX4_setNeeds 13 = .ok (.if_icmp .le 13, 3) := by decide +kernel
theorem dX4_setNeeds_16 : decode cX4_setNeeds 16 = .ok (.new 50, 3) := by decide +kernel
theorem dX4_setNeeds_19 : decode cX4_setNeeds 19 = .ok (.dup, 1) := by decide +kernel
theorem dX4_setNeeds_20 : decode cX4_setNeeds 20 = .ok (.ldc 52, 2) := by decide +kernel
theorem dX4_setNeeds_22 : decode cX4_setNeeds 22 = .ok (.invokespecial 54, 3) := by decide +kernel
theorem dX4_setNeeds_25 : decode cX4_setNeeds 25 = .ok (.athrow, 1) := by decide +kernel
theorem dX4_setNeeds_26 : decode cX4_setNeeds 26 = .ok (.iload_n 2, 1) := by decide +kernel
theorem dX4_setNeeds_27 : decode cX4_setNeeds 27 = .ok (.aload_n 0, 1) := by decide +kernel
theorem dX4_setNeeds_28 : decode cX4_setNeeds 28 = .ok (.getfield 9, 3) := by decide +kernel
theorem dX4_setNeeds_31 : decode cX4_setNeeds 31 = .ok (.sipush 255, 3) := by decide +kernel
theorem dX4_setNeeds_34 : decode cX4_setNeeds 34 = .ok (.invokestatic 57, 3) := by decide +kernel
theorem dX4_setNeeds_37 : decode cX4_setNeeds 37 = .ok (.iload_n 1, 1) := by decide +kernel
theorem dX4_setNeeds_38 : decode cX4_setNeeds 38 = .ok (.invokestatic 61, 3) := by decide +kernel
theorem dX4_setNeeds_41 : decode cX4_setNeeds 41 = .ok (.ifCond .eq 13, 3) := by decide +kernel
theorem dX4_setNeeds_44 : decode cX4_setNeeds 44 = .ok (.new 50, 3) := by decide +kernel
theorem dX4_setNeeds_47 : decode cX4_setNeeds 47 = .ok (.dup, 1) := by decide +kernel
theorem dX4_setNeeds_48 : decode cX4_setNeeds 48 = .ok (.ldc 65, 2) := by decide +kernel
theorem dX4_setNeeds_50 : decode cX4_setNeeds 50 = .ok (.invokespecial 54, 3) := by decide +kernel
theorem dX4_setNeeds_53 : decode cX4_setNeeds 53 = .ok (.athrow, 1) := by decide +kernel
theorem dX4_setNeeds_54 : decode cX4_setNeeds 54 = .ok (.aload_n 0, 1) := by decide +kernel
theorem dX4_setNeeds_55 : decode cX4_setNeeds 55 = .ok (.getfield 9, 3) := by decide +kernel
theorem dX4_setNeeds_58 : decode cX4_setNeeds 58 = .ok (.iload_n 1, 1) := by decide +kernel
theorem dX4_setNeeds_59 : decode cX4_setNeeds 59 = .ok (.iaload, 1) := by decide +kernel
theorem dX4_setNeeds_60 : decode cX4_setNeeds 60 = .ok (.istore_n 3, 1) := by decide +kernel
theorem dX4_setNeeds_61 : decode cX4_setNeeds 61 = .ok (.aload_n 0, 1) := by decide +kernel
theorem dX4_setNeeds_62 : decode cX4_setNeeds 62 = .ok (.getfield 9, 3) := by decide +kernel
theorem dX4_setNeeds_65 : decode cX4_setNeeds 65 = .ok (.iload_n 1, 1) := by decide +kernel
theorem dX4_setNeeds_66 : decode cX4_setNeeds 66 = .ok (.iload_n 2, 1) := by decide +kernel
theorem dX4_setNeeds_67 : decode cX4_setNeeds 67 = .ok (.iastore, 1) := by decide +kernel
theorem dX4_setNeeds_68 : decode cX4_setNeeds 68 = .ok (.iload_n 3, 1) := by decide +kernel
theorem dX4_setNeeds_69 : decode cX4_setNeeds 69 = .ok (.ireturn, 1) := by decide +kernel
set_option maxRecDepth 20000 in
theorem ggX4_addModel_X4_checkAuthor : GoodIn wsX4_addModel wsX4_checkAuthor := goodIn_ca (goodIn_r _ [14, 15, 16] (by decide +kernel) (by decide +kernel)) (goodIn_sub (fun _ h => List.mem_cons_of_mem _ (List.mem_append_right _ h)) (by decide +kernel))
set_option maxRecDepth 20000 in
theorem gX4_addModel_X4_checkAuthor : GoodIn wsX4_addModel (wsV RX4 67 RX4 yX4_checkAuthor wsX4_checkAuthor) := goodIn_app (goodIn_of _ (by decide +kernel)) ggX4_addModel_X4_checkAuthor
set_option maxRecDepth 20000 in
theorem ggX4_addModel_X2_init : GoodIn wsX4_addModel wsX2_init := goodIn_r _ [19, 20, 21, 22, 23, 24, 25, 26, 27, 28, 29, 30, 31, 32, 33, 34, 35, 36, 37, 38, 39, 40, 41, 42, 43, 44, 45, 46, 47, 48, 49, 50, 51, 52, 53, 54, 63, 64, 65, 66, 67, 68, 69, 70, 71, 72, 73, 74, 75] (by decide +kernel) (by decide +kernel)
set_option maxRecDepth 20000 in
theorem gX4_addModel_X2_init : GoodIn wsX4_addModel (wsX2_init) := ggX4_addModel_X2_init
theorem dX4_addModel_0 : decode cX4_addModel 0 = .ok (.aload_n 0, 1) := by decide +kernel
theorem dX4_addModel_1 : decode cX4_addModel 1 = .ok (.iload_n 1, 1) := by decide +kernel
theorem dX4_addModel_2 : decode cX4_addModel 2 = .ok (.invokevirtual 67, 3) := by decide +kernel
theorem dX4_addModel_5 : decode cX4_addModel 5 = .ok (.iload_n 2, 1) := by decide +kernel
theorem dX4_addModel_6 : decode cX4_addModel 6 = .ok (.iconst 2, 1) := by decide +kernel
theorem dX4_addModel_7 : decode cX4_addModel 7 = .ok (.if_icmp .lt 9, 3) := by decide +kernel
theorem dX4_addModel_10 : decode cX4_addModel 10 = .ok (.iload_n 2, 1) := by decide +kernel
theorem dX4_addModel_11 : decode cX4_addModel 11 = .ok (.bipush 32, 2) := by decide +kernel
theorem dX4_addModel_13 : decode cX4_addModel 13 = .ok (.if_icmp .le 13, 3) := by decide +kernel
theorem dX4_addModel_16 : decode cX4_addModel 16 = .ok (.new 50, 3) := by decide +kernel
theorem dX4_addModel_19 : decode cX4_addModel 19 = .ok (.dup, 1) := by decide +kernel
theorem dX4_addModel_20 : decode cX4_addModel 20 = .ok (.ldc 70, 2) := by decide +kernel
theorem dX4_addModel_22 : decode cX4_addModel 22 = .ok (.invokespecial 54, 3) := by decide +kernel
theorem dX4_addModel_25 : decode cX4_addModel 25 = .ok (.athrow, 1) := by decide +kernel
theorem dX4_addModel_26 : decode cX4_addModel 26 = .ok (.aload_n 0, 1) := by decide +kernel
theorem dX4_addModel_27 : decode cX4_addModel 27 = .ok (.getfield 25, 3) := by decide +kernel
theorem dX4_addModel_30 : decode cX4_addModel 30 = .ok (.bipush 8, 2) := by decide +kernel
theorem dX4_addModel_32 : decode cX4_addModel 32 = .ok (.if_icmp .lt 13, 3) := by decide +kernel
theorem dX4_addModel_35 : decode cX4_addModel 35 = .ok (.new 72, 3) := by decide +kernel
theorem dX4_addModel_38 : decode cX4_addModel 38 = .ok (.dup, 1) := by decide +kernel
theorem dX4_addModel_39 : decode cX4_addModel 39 = .ok (.ldc 74, 2) := by decide +kernel
theorem dX4_addModel_41 : decode cX4_addModel 41 = .ok (.invokespecial 76, 3) := by decide +kernel
theorem dX4_addModel_44 : decode cX4_addModel 44 = .ok (.athrow, 1) := by decide +kernel
theorem dX4_addModel_45 : decode cX4_addModel 45 = .ok (.aload_n 0, 1) := by decide +kernel
theorem dX4_addModel_46 : decode cX4_addModel 46 = .ok (.getfield 18, 3) := by decide +kernel
theorem dX4_addModel_49 : decode cX4_addModel 49 = .ok (.aload_n 0, 1) := by decide +kernel
theorem dX4_addModel_50 : decode cX4_addModel 50 = .ok (.getfield 25, 3) := by decide +kernel
theorem dX4_addModel_53 : decode cX4_addModel 53 = .ok (.new 16, 3) := by decide +kernel
theorem dX4_addModel_56 : decode cX4_addModel 56 = .ok (.dup, 1) := by decide +kernel
theorem dX4_addModel_57 : decode cX4_addModel 57 = .ok (.iload_n 1, 1) := by decide +kernel
theorem dX4_addModel_58 : decode cX4_addModel 58 = .ok (.iload_n 2, 1) := by decide +kernel
theorem dX4_addModel_59 : decode cX4_addModel 59 = .ok (.invokespecial 77, 3) := by decide +kernel
theorem dX4_addModel_62 : decode cX4_addModel 62 = .ok (.aastore, 1) := by decide +kernel
theorem dX4_addModel_63 : decode cX4_addModel 63 = .ok (.aload_n 0, 1) := by decide +kernel
theorem dX4_addModel_64 : decode cX4_addModel 64 = .ok (.dup, 1) := by decide +kernel
theorem dX4_addModel_65 : decode cX4_addModel 65 = .ok (.getfield 25, 3) := by decide +kernel
theorem dX4_addModel_68 : decode cX4_addModel 68 = .ok (.iconst 1, 1) := by decide +kernel
theorem dX4_addModel_69 : decode cX4_addModel 69 = .ok (.iadd, 1) := by decide +kernel
theorem dX4_addModel_70 : decode cX4_addModel 70 = .ok (.putfield 25, 3) := by decide +kernel
theorem dX4_addModel_73 : decode cX4_addModel 73 = .ok (.aload_n 0, 1) := by decide +kernel
theorem dX4_addModel_74 : decode cX4_addModel 74 = .ok (.getfield 25, 3) := by decide +kernel
theorem dX4_addModel_77 : decode cX4_addModel 77 = .ok (.iconst 1, 1) := by decide +kernel
theorem dX4_addModel_78 : decode cX4_addModel 78 = .ok (.isub, 1) := by decide +kernel
theorem dX4_addModel_79 : decode cX4_addModel 79 = .ok (.ireturn, 1) := by decide +kernel
set_option maxRecDepth 20000 in
theorem ggX4_fold_X4_modelAt : GoodIn wsX4_fold wsX4_modelAt := goodIn_ca (goodIn_r _ [13, 14, 15, 16, 17, 18, 19, 12, 20, 21, 94, 95, 96, 97, 98, 99, 100, 101] (by decide +kernel) (by decide +kernel)) (goodIn_sub (fun _ h => List.mem_cons_of_mem _ (List.mem_append_right _ h)) (by decide +kernel))
set_option maxRecDepth 20000 in
theorem gX4_fold_X4_modelAt : GoodIn wsX4_fold (wsV RX4 80 RX4 yX4_modelAt wsX4_modelAt) := goodIn_app (goodIn_of _ (by decide +kernel)) ggX4_fold_X4_modelAt
set_option maxRecDepth 20000 in
theorem ggX4_fold_X4_checkKind : GoodIn wsX4_fold wsX4_checkKind := goodIn_ca (goodIn_r _ [25, 14, 15] (by decide +kernel) (by decide +kernel)) (goodIn_sub (fun _ h => List.mem_cons_of_mem _ (List.mem_append_right _ h)) (by decide +kernel))
set_option maxRecDepth 20000 in
theorem gX4_fold_X4_checkKind : GoodIn wsX4_fold (wsV RX4 46 RX4 yX4_checkKind wsX4_checkKind) := goodIn_app (goodIn_of _ (by decide +kernel)) ggX4_fold_X4_checkKind
set_option maxRecDepth 20000 in
theorem ggX4_fold_X2_ownKinds : GoodIn wsX4_fold wsX2_ownKinds := goodIn_r _ [30, 31, 32, 81, 82, 83, 84, 85, 86, 87] (by decide +kernel) (by decide +kernel)
set_option maxRecDepth 20000 in
theorem gX4_fold_X2_ownKinds : GoodIn wsX4_fold (wsV RX4 100 RX2 yX2_ownKinds wsX2_ownKinds) := goodIn_app (goodIn_of _ (by decide +kernel)) ggX4_fold_X2_ownKinds
set_option maxRecDepth 20000 in
theorem ggX4_fold_X4_lacksAny : GoodIn wsX4_fold wsX4_lacksAny := goodIn_r _ [35] (by decide +kernel) (by decide +kernel)
set_option maxRecDepth 20000 in
theorem gX4_fold_X4_lacksAny : GoodIn wsX4_fold (va_wsS RX4 104 yX4_lacksAny wsX4_lacksAny) := goodIn_app (goodIn_of _ (by decide +kernel)) ggX4_fold_X4_lacksAny
set_option maxRecDepth 20000 in
theorem ggX4_fold_X2_addStep : GoodIn wsX4_fold wsX2_addStep := goodIn_r _ [39, 31, 32, 40, 41, 42, 43, 44, 45, 46, 47, 48, 49, 50, 51, 52, 53, 54, 55, 56, 57, 58, 59, 60, 61, 62, 63, 64, 65, 66, 67, 68, 69, 70, 71, 72, 73, 74, 75, 76, 77, 78, 79, 80, 81, 82, 83, 84, 85, 86, 87, 88, 89, 90, 91, 92, 93] (by decide +kernel) (by decide +kernel)
set_option maxRecDepth 20000 in
theorem gX4_fold_X2_addStep : GoodIn wsX4_fold (wsV RX4 109 RX2 yX2_addStep wsX2_addStep) := goodIn_app (goodIn_of _ (by decide +kernel)) ggX4_fold_X2_addStep
theorem dX4_fold_0 : decode cX4_fold 0 = .ok (.aload_n 0, 1) := by decide +kernel
theorem dX4_fold_1 : decode cX4_fold 1 = .ok (.iload_n 1, 1) := by decide +kernel
theorem dX4_fold_2 : decode cX4_fold 2 = .ok (.invokevirtual 80, 3) := by decide +kernel
theorem dX4_fold_5 : decode cX4_fold 5 = .ok (.astore 5, 2) := by decide +kernel
theorem dX4_fold_7 : decode cX4_fold 7 = .ok (.aload_n 0, 1) := by decide +kernel
theorem dX4_fold_8 : decode cX4_fold 8 = .ok (.iload_n 2, 1) := by decide +kernel
theorem dX4_fold_9 : decode cX4_fold 9 = .ok (.invokevirtual 46, 3) := by decide +kernel
theorem dX4_fold_12 : decode cX4_fold 12 = .ok (.iload_n 3, 1) := by decide +kernel
theorem dX4_fold_13 : decode cX4_fold 13 = .ok (.iconst 1, 1) := by decide +kernel
theorem dX4_fold_14 : decode cX4_fold 14 = .ok (.if_icmp .lt 17, 3) := by decide +kernel
theorem dX4_fold_17 : decode cX4_fold 17 = .ok (.iload_n 3, 1) := by decide +kernel
theorem dX4_fold_18 : decode cX4_fold 18 = .ok (.aload 5, 2) := by decide +kernel
theorem dX4_fold_20 : decode cX4_fold 20 = .ok (.getfield 84, 3) := by decide +kernel
theorem dX4_fold_23 : decode cX4_fold 23 = .ok (.getfield 88, 3) := by decide +kernel
theorem dX4_fold_26 : decode cX4_fold 26 = .ok (.iconst 1, 1) := by decide +kernel
theorem dX4_fold_27 : decode cX4_fold 27 = .ok (.isub, 1) := by decide +kernel
theorem dX4_fold_28 : decode cX4_fold 28 = .ok (.if_icmp .le 13, 3) := by decide +kernel
theorem dX4_fold_31 : decode cX4_fold 31 = .ok (.new 50, 3) := by decide +kernel
theorem dX4_fold_34 : decode cX4_fold 34 = .ok (.dup, 1) := by decide +kernel
theorem dX4_fold_35 : decode cX4_fold 35 = .ok (.ldc 93, 2) := by decide +kernel
theorem dX4_fold_37 : decode cX4_fold 37 = .ok (.invokespecial 54, 3) := by decide +kernel
theorem dX4_fold_40 : decode cX4_fold 40 = .ok (.athrow, 1) := by decide +kernel
theorem dX4_fold_41 : decode cX4_fold 41 = .ok (.aload 5, 2) := by decide +kernel
theorem dX4_fold_43 : decode cX4_fold 43 = .ok (.getfield 95, 3) := by decide +kernel
theorem dX4_fold_46 : decode cX4_fold 46 = .ok (.bipush 10, 2) := by decide +kernel
theorem dX4_fold_48 : decode cX4_fold 48 = .ok (.if_icmp .lt 13, 3) := by decide +kernel
theorem dX4_fold_51 : decode cX4_fold 51 = .ok (.new 72, 3) := by decide +kernel
theorem dX4_fold_54 : decode cX4_fold 54 = .ok (.dup, 1) := by decide +kernel
theorem dX4_fold_55 : decode cX4_fold 55 = .ok (.ldc 98, 2) := by decide +kernel
theorem dX4_fold_57 : decode cX4_fold 57 = .ok (.invokespecial 76, 3) := by decide +kernel
theorem dX4_fold_60 : decode cX4_fold 60 = .ok (.athrow, 1) := by decide +kernel
theorem dX4_fold_61 : decode cX4_fold 61 = .ok (.aload 5, 2) := by decide +kernel
theorem dX4_fold_63 : decode cX4_fold 63 = .ok (.invokevirtual 100, 3) := by decide +kernel
theorem dX4_fold_66 : decode cX4_fold 66 = .ok (.aload_n 0, 1) := by decide +kernel
theorem dX4_fold_67 : decode cX4_fold 67 = .ok (.getfield 9, 3) := by decide +kernel
theorem dX4_fold_70 : decode cX4_fold 70 = .ok (.iload_n 2, 1) := by decide +kernel
theorem dX4_fold_71 : decode cX4_fold 71 = .ok (.iaload, 1) := by decide +kernel
theorem dX4_fold_72 : decode cX4_fold 72 = .ok (.invokestatic 104, 3) := by decide +kernel
theorem dX4_fold_75 : decode cX4_fold 75 = .ok (.ifCond .eq 13, 3) := by decide +kernel
theorem dX4_fold_78 : decode cX4_fold 78 = .ok (.new 72, 3) := by decide +kernel
theorem dX4_fold_81 : decode cX4_fold 81 = .ok (.dup, 1) := by decide +kernel
theorem dX4_fold_82 : decode cX4_fold 82 = .ok (.ldc 107, 2) := by decide +kernel
theorem dX4_fold_84 : decode cX4_fold 84 = .ok (.invokespecial 76, 3) := by decide +kernel
theorem dX4_fold_87 : decode cX4_fold 87 = .ok (.athrow, 1) := by decide +kernel
theorem dX4_fold_88 : decode cX4_fold 88 = .ok (.aload 5, 2) := by decide +kernel
theorem dX4_fold_90 : decode cX4_fold 90 = .ok (.iload_n 2, 1) := by decide +kernel
theorem dX4_fold_91 : decode cX4_fold 91 = .ok (.iload_n 3, 1) := by decide +kernel
theorem dX4_fold_92 : decode cX4_fold 92 = .ok (.iload 4, 2) := by decide +kernel
theorem dX4_fold_94 : decode cX4_fold 94 = .ok (.invokevirtual 109, 3) := by decide +kernel
theorem dX4_fold_97 : decode cX4_fold 97 = .ok (.aload 5, 2) := by decide +kernel
theorem dX4_fold_99 : decode cX4_fold 99 = .ok (.getfield 84, 3) := by decide +kernel
theorem dX4_fold_102 : decode cX4_fold 102 = .ok (.getfield 88, 3) := by decide +kernel
theorem dX4_fold_105 : decode cX4_fold 105 = .ok (.ireturn, 1) := by decide +kernel
set_option maxRecDepth 20000 in
theorem ggX4_unfold_X4_modelAt : GoodIn wsX4_unfold wsX4_modelAt := goodIn_ca (goodIn_r _ [8, 9, 10, 11, 12, 13, 14, 7, 15, 16, 77, 78, 79, 80, 81, 82, 83, 84] (by decide +kernel) (by decide +kernel)) (goodIn_sub (fun _ h => List.mem_cons_of_mem _ (List.mem_append_right _ h)) (by decide +kernel))
set_option maxRecDepth 20000 in
theorem gX4_unfold_X4_modelAt : GoodIn wsX4_unfold (wsV RX4 80 RX4 yX4_modelAt wsX4_modelAt) := goodIn_app (goodIn_of _ (by decide +kernel)) ggX4_unfold_X4_modelAt
set_option maxRecDepth 20000 in
theorem ggX4_unfold_X2_removeLastStep : GoodIn wsX4_unfold wsX2_removeLastStep := goodIn_r _ [21, 22, 23, 24, 25, 26, 27, 28, 29, 30, 31, 32, 33, 34, 35, 36, 37, 38, 39, 40, 41, 42, 43, 44, 45, 46, 47, 48, 49, 50, 51, 52, 53, 54, 55, 56, 57, 58, 59, 60, 61, 62, 63, 64, 65, 66, 67, 68, 69, 70, 71, 72, 73, 74, 75, 76, 85, 86, 87, 88, 89, 90] (by decide +kernel) (by decide +kernel)
set_option maxRecDepth 20000 in
theorem gX4_unfold_X2_removeLastStep : GoodIn wsX4_unfold (wsV RX4 115 RX2 yX2_removeLastStep wsX2_removeLastStep) := goodIn_app (goodIn_of _ (by decide +kernel)) ggX4_unfold_X2_removeLastStep
theorem dX4_unfold_0 : decode cX4_unfold 0 = .ok (.aload_n 0, 1) := by decide +kernel
theorem dX4_unfold_1 : decode cX4_unfold 1 = .ok (.iload_n 1, 1) := by decide +kernel
theorem dX4_unfold_2 : decode cX4_unfold 2 = .ok (.invokevirtual 80, 3) := by decide +kernel
theorem dX4_unfold_5 : decode cX4_unfold 5 = .ok (.astore_n 2, 1) := by decide +kernel
theorem dX4_unfold_6 : decode cX4_unfold 6 = .ok (.aload_n 2, 1) := by decide +kernel
theorem dX4_unfold_7 : decode cX4_unfold 7 = .ok (.getfield 95, 3) := by decide +kernel
theorem dX4_unfold_10 : decode cX4_unfold 10 = .ok (.ifCond .ne 13, 3) := by decide +kernel
theorem dX4_unfold_13 : decode cX4_unfold 13 = .ok (.new 72, 3) := by decide +kernel
theorem dX4_unfold_16 : decode cX4_unfold 16 = .ok (.dup, 1) := by decide +kernel
theorem dX4_unfold_17 : decode cX4_unfold 17 = .ok (.ldc 113, 2) := by decide +kernel
theorem dX4_unfold_19 : decode cX4_unfold 19 = .ok (.invokespecial 76, 3) := by decide +kernel
theorem dX4_unfold_22 : decode cX4_unfold 22 = .ok (.athrow, 1) := by decide +kernel
theorem dX4_unfold_23 : decode cX4_unfold 23 = .ok (.aload_n 2, 1) := by decide +kernel
theorem dX4_unfold_24 : decode cX4_unfold 24 = .ok (.invokevirtual 115, 3) := by decide +kernel
theorem dX4_unfold_27 : decode cX4_unfold 27 = .ok (.ireturn, 1) := by decide +kernel
set_option maxRecDepth 20000 in
theorem ggX4_use_X4_checkModel : GoodIn wsX4_use wsX4_checkModel := goodIn_ca (goodIn_r _ [8, 9, 10, 11, 22, 23, 24, 25, 26, 27, 28, 29] (by decide +kernel) (by decide +kernel)) (goodIn_sub (fun _ h => List.mem_cons_of_mem _ (List.mem_append_right _ h)) (by decide +kernel))
set_option maxRecDepth 20000 in
theorem gX4_use_X4_checkModel : GoodIn wsX4_use (wsV RX4 118 RX4 yX4_checkModel wsX4_checkModel) := goodIn_app (goodIn_of _ (by decide +kernel)) ggX4_use_X4_checkModel
set_option maxRecDepth 20000 in
theorem ggX4_use_X4_modelsCountedFor : GoodIn wsX4_use wsX4_modelsCountedFor := goodIn_r _ [15, 3, 16, 17, 7, 18, 19, 20, 21, 22, 23, 24, 25, 26, 27, 28, 29] (by decide +kernel) (by decide +kernel)
set_option maxRecDepth 20000 in
theorem gX4_use_X4_modelsCountedFor : GoodIn wsX4_use (wsV RX4 121 RX4 yX4_modelsCountedFor wsX4_modelsCountedFor) := goodIn_app (goodIn_of _ (by decide +kernel)) ggX4_use_X4_modelsCountedFor
set_option maxRecDepth 20000 in
theorem ggX4_use_X4_holds : GoodIn wsX4_use wsX4_holds := goodIn_r _ [21] (by decide +kernel) (by decide +kernel)
set_option maxRecDepth 20000 in
theorem gX4_use_X4_holds : GoodIn wsX4_use (va_wsS RX4 61 yX4_holds wsX4_holds) := goodIn_app (goodIn_of _ (by decide +kernel)) ggX4_use_X4_holds
theorem dX4_use_0 : decode cX4_use 0 = .ok (.aload_n 0, 1) := by decide +kernel
theorem dX4_use_1 : decode cX4_use 1 = .ok (.iload_n 1, 1) := by decide +kernel
theorem dX4_use_2 : decode cX4_use 2 = .ok (.invokevirtual 118, 3) := by decide +kernel
theorem dX4_use_5 : decode cX4_use 5 = .ok (.aload_n 0, 1) := by decide +kernel
theorem dX4_use_6 : decode cX4_use 6 = .ok (.iload_n 2, 1) := by decide +kernel
theorem dX4_use_7 : decode cX4_use 7 = .ok (.invokevirtual 118, 3) := by decide +kernel
theorem dX4_use_10 : decode cX4_use 10 = .ok (.aload_n 0, 1) := by decide +kernel
theorem dX4_use_11 : decode cX4_use 11 = .ok (.iload_n 2, 1) := by decide +kernel
theorem dX4_use_12 : decode cX4_use 12 = .ok (.invokevirtual 121, 3) := by decide +kernel
theorem dX4_use_15 : decode cX4_use 15 = .ok (.iload_n 1, 1) := by decide +kernel
theorem dX4_use_16 : decode cX4_use 16 = .ok (.invokestatic 61, 3) := by decide +kernel
theorem dX4_use_19 : decode cX4_use 19 = .ok (.ifCond .eq 13, 3) := by decide +kernel
theorem dX4_use_22 : decode cX4_use 22 = .ok (.new 50, 3) := by decide +kernel
theorem dX4_use_25 : decode cX4_use 25 = .ok (.dup, 1) := by decide +kernel
theorem dX4_use_26 : decode cX4_use 26 = .ok (.ldc 125, 2) := by decide +kernel
theorem dX4_use_28 : decode cX4_use 28 = .ok (.invokespecial 54, 3) := by decide +kernel
theorem dX4_use_31 : decode cX4_use 31 = .ok (.athrow, 1) := by decide +kernel
theorem dX4_use_32 : decode cX4_use 32 = .ok (.aload_n 0, 1) := by decide +kernel
theorem dX4_use_33 : decode cX4_use 33 = .ok (.getfield 22, 3) := by decide +kernel
theorem dX4_use_36 : decode cX4_use 36 = .ok (.iload_n 1, 1) := by decide +kernel
theorem dX4_use_37 : decode cX4_use 37 = .ok (.iaload, 1) := by decide +kernel
theorem dX4_use_38 : decode cX4_use 38 = .ok (.iload_n 2, 1) := by decide +kernel
theorem dX4_use_39 : decode cX4_use 39 = .ok (.invokestatic 61, 3) := by decide +kernel
theorem dX4_use_42 : decode cX4_use 42 = .ok (.ifCond .ne 7, 3) := by decide +kernel
theorem dX4_use_45 : decode cX4_use 45 = .ok (.iconst 1, 1) := by decide +kernel
theorem dX4_use_46 : decode cX4_use 46 = .ok (.goto 4, 3) := by decide +kernel
theorem dX4_use_49 : decode cX4_use 49 = .ok (.iconst 0, 1) := by decide +kernel
theorem dX4_use_50 : decode cX4_use 50 = .ok (.istore_n 3, 1) := by decide +kernel
theorem dX4_use_51 : decode cX4_use 51 = .ok (.aload_n 0, 1) := by decide +kernel
theorem dX4_use_52 : decode cX4_use 52 = .ok (.getfield 22, 3) := by decide +kernel
theorem dX4_use_55 : decode cX4_use 55 = .ok (.iload_n 1, 1) := by decide +kernel
theorem dX4_use_56 : decode cX4_use 56 = .ok (.dup2, 1) := by decide +kernel
theorem dX4_use_57 : decode cX4_use 57 = .ok (.iaload, 1) := by decide +kernel
theorem dX4_use_58 : decode cX4_use 58 = .ok (.iconst 1, 1) := by decide +kernel
theorem dX4_use_59 : decode cX4_use 59 = .ok (.iload_n 2, 1) := by decide +kernel
theorem dX4_use_60 : decode cX4_use 60 = .ok (.ishl, 1) := by decide +kernel
theorem dX4_use_61 : decode cX4_use 61 = .ok (.ior, 1) := by decide +kernel
theorem dX4_use_62 : decode cX4_use 62 = .ok (.iastore, 1) := by decide +kernel
theorem dX4_use_63 : decode cX4_use 63 = .ok (.iload_n 3, 1) := by decide +kernel
theorem dX4_use_64 : decode cX4_use 64 = .ok (.ireturn, 1) := by decide +kernel
theorem dX4_setRoll_0 : decode cX4_setRoll 0 = .ok (.iload_n 1, 1) := by decide +kernel
theorem dX4_setRoll_1 : decode cX4_setRoll 1 = .ok (.ifCond .lt 10, 3) := by decide +kernel
theorem dX4_setRoll_4 : decode cX4_setRoll 4 = .ok (.iload_n 1, 1) := by decide +kernel
theorem dX4_setRoll_5 : decode cX4_setRoll 5 = .ok (.sipush 200, 3) := by decide +kernel
theorem dX4_setRoll_8 : decode cX4_setRoll 8 = .ok (.if_icmp .le 13, 3) := by decide +kernel
theorem dX4_setRoll_11 : decode cX4_setRoll 11 = .ok (.new 50, 3) := by decide +kernel
theorem dX4_setRoll_14 : decode cX4_setRoll 14 = .ok (.dup, 1) := by decide +kernel
theorem dX4_setRoll_15 : decode cX4_setRoll 15 = .ok (.ldc 70, 2) := by decide +kernel
theorem dX4_setRoll_17 : decode cX4_setRoll 17 = .ok (.invokespecial 54, 3) := by decide +kernel
theorem dX4_setRoll_20 : decode cX4_setRoll 20 = .ok (.athrow, 1) := by decide +kernel
theorem dX4_setRoll_21 : decode cX4_setRoll 21 = .ok (.iload_n 2, 1) := by decide +kernel
theorem dX4_setRoll_22 : decode cX4_setRoll 22 = .ok (.ifCond .lt 9, 3) := by decide +kernel
theorem dX4_setRoll_25 : decode cX4_setRoll 25 = .ok (.iload_n 2, 1) := by decide +kernel
theorem dX4_setRoll_26 : decode cX4_setRoll 26 = .ok (.ldc 127, 2) := by decide +kernel
theorem dX4_setRoll_28 : decode cX4_setRoll 28 = .ok (.if_icmp .le 13, 3) := by decide +kernel
theorem dX4_setRoll_31 : decode cX4_setRoll 31 = .ok (.new 50, 3) := by decide +kernel
theorem dX4_setRoll_34 : decode cX4_setRoll 34 = .ok (.dup, 1) := by decide +kernel
theorem dX4_setRoll_35 : decode cX4_setRoll 35 = .ok (.ldc 128, 2) := by decide +kernel
theorem dX4_setRoll_37 : decode cX4_setRoll 37 = .ok (.invokespecial 54, 3) := by decide +kernel
theorem dX4_setRoll_40 : decode cX4_setRoll 40 = .ok (.athrow, 1) := by decide +kernel
theorem dX4_setRoll_41 : decode cX4_setRoll 41 = .ok (.aload_n 0, 1) := by decide +kernel
theorem dX4_setRoll_42 : decode cX4_setRoll 42 = .ok (.getfield 42, 3) := by decide +kernel
theorem dX4_setRoll_45 : decode cX4_setRoll 45 = .ok (.getfield 130, 3) := by decide +kernel
theorem dX4_setRoll_48 : decode cX4_setRoll 48 = .ok (.istore_n 3, 1) := by decide +kernel
theorem dX4_setRoll_49 : decode cX4_setRoll 49 = .ok (.aload_n 0, 1) := by decide +kernel
theorem dX4_setRoll_50 : decode cX4_setRoll 50 = .ok (.getfield 42, 3) := by decide +kernel
theorem dX4_setRoll_53 : decode cX4_setRoll 53 = .ok (.iload_n 1, 1) := by decide +kernel
theorem dX4_setRoll_54 : decode cX4_setRoll 54 = .ok (.putfield 130, 3) := by decide +kernel
theorem dX4_setRoll_57 : decode cX4_setRoll 57 = .ok (.aload_n 0, 1) := by decide +kernel
theorem dX4_setRoll_58 : decode cX4_setRoll 58 = .ok (.getfield 42, 3) := by decide +kernel
theorem dX4_setRoll_61 : decode cX4_setRoll 61 = .ok (.iload_n 2, 1) := by decide +kernel
theorem dX4_setRoll_62 : decode cX4_setRoll 62 = .ok (.putfield 133, 3) := by decide +kernel
theorem dX4_setRoll_65 : decode cX4_setRoll 65 = .ok (.iload_n 3, 1) := by decide +kernel
theorem dX4_setRoll_66 : decode cX4_setRoll 66 = .ok (.ireturn, 1) := by decide +kernel
set_option maxRecDepth 20000 in
theorem ggX4_teach_X4_checkPupil : GoodIn wsX4_teach wsX4_checkPupil := goodIn_ca (goodIn_r _ [9, 10, 11] (by decide +kernel) (by decide +kernel)) (goodIn_sub (fun _ h => List.mem_cons_of_mem _ (List.mem_append_right _ h)) (by decide +kernel))
set_option maxRecDepth 20000 in
theorem gX4_teach_X4_checkPupil : GoodIn wsX4_teach (wsV RX4 136 RX4 yX4_checkPupil wsX4_checkPupil) := goodIn_app (goodIn_of _ (by decide +kernel)) ggX4_teach_X4_checkPupil
set_option maxRecDepth 20000 in
theorem ggX4_teach_X4_checkKind : GoodIn wsX4_teach wsX4_checkKind := goodIn_ca (goodIn_r _ [15, 10, 11] (by decide +kernel) (by decide +kernel)) (goodIn_sub (fun _ h => List.mem_cons_of_mem _ (List.mem_append_right _ h)) (by decide +kernel))
set_option maxRecDepth 20000 in
theorem gX4_teach_X4_checkKind : GoodIn wsX4_teach (wsV RX4 46 RX4 yX4_checkKind wsX4_checkKind) := goodIn_app (goodIn_of _ (by decide +kernel)) ggX4_teach_X4_checkKind
set_option maxRecDepth 20000 in
theorem ggX4_teach_X4_lacksAny : GoodIn wsX4_teach wsX4_lacksAny := goodIn_r _ [18] (by decide +kernel) (by decide +kernel)
set_option maxRecDepth 20000 in
theorem gX4_teach_X4_lacksAny : GoodIn wsX4_teach (va_wsS RX4 104 yX4_lacksAny wsX4_lacksAny) := goodIn_app (goodIn_of _ (by decide +kernel)) ggX4_teach_X4_lacksAny
set_option maxRecDepth 20000 in
theorem ggX4_teach_J6_bitCount_0f7a4 : GoodIn wsX4_teach wsJ6_bitCount_0f7a4 := goodIn_r _ [22, 23, 24, 25] (by decide +kernel) (by decide +kernel)
set_option maxRecDepth 20000 in
theorem gX4_teach_J6_bitCount_0f7a4 : GoodIn wsX4_teach (va_wsS RX4 141 yJ6_bitCount_0f7a4 wsJ6_bitCount_0f7a4) := goodIn_app (goodIn_of _ (by decide +kernel)) ggX4_teach_J6_bitCount_0f7a4
theorem dX4_teach_0 : decode cX4_teach 0 = .ok (.aload_n 0, 1) := by decide +kernel
theorem dX4_teach_1 : decode cX4_teach 1 = .ok (.iload_n 1, 1) := by decide +kernel
theorem dX4_teach_2 : decode cX4_teach 2 = .ok (.invokevirtual 136, 3) := by decide +kernel
theorem dX4_teach_5 : decode cX4_teach 5 = .ok (.aload_n 0, 1) := by decide +kernel
theorem dX4_teach_6 : decode cX4_teach 6 = .ok (.iload_n 2, 1) := by decide +kernel
theorem dX4_teach_7 : decode cX4_teach 7 = .ok (.invokevirtual 46, 3) := by decide +kernel
theorem dX4_teach_10 : decode cX4_teach 10 = .ok (.aload_n 0, 1) := by decide +kernel
theorem dX4_teach_11 : decode cX4_teach 11 = .ok (.getfield 13, 3) := by decide +kernel
theorem dX4_teach_14 : decode cX4_teach 14 = .ok (.iload_n 1, 1) := by decide +kernel
theorem dX4_teach_15 : decode cX4_teach 15 = .ok (.iaload, 1) := by decide +kernel
theorem dX4_teach_16 : decode cX4_teach 16 = .ok (.aload_n 0, 1) := by decide +kernel
theorem dX4_teach_17 : decode cX4_teach 17 = .ok (.getfield 9, 3) := by decide +kernel
theorem dX4_teach_20 : decode cX4_teach 20 = .ok (.iload_n 2, 1) := by decide +kernel
theorem dX4_teach_21 : decode cX4_teach 21 = .ok (.iaload, 1) := by decide +kernel
theorem dX4_teach_22 : decode cX4_teach 22 = .ok (.invokestatic 104, 3) := by decide +kernel
theorem dX4_teach_25 : decode cX4_teach 25 = .ok (.ifCond .eq 13, 3) := by decide +kernel
theorem dX4_teach_28 : decode cX4_teach 28 = .ok (.new 72, 3) := by decide +kernel
theorem dX4_teach_31 : decode cX4_teach 31 = .ok (.dup, 1) := by decide +kernel
theorem dX4_teach_32 : decode cX4_teach 32 = .ok (.ldc 139, 2) := by decide +kernel
theorem dX4_teach_34 : decode cX4_teach 34 = .ok (.invokespecial 76, 3) := by decide +kernel
theorem dX4_teach_37 : decode cX4_teach 37 = .ok (.athrow, 1) := by decide +kernel
theorem dX4_teach_38 : decode cX4_teach 38 = .ok (.aload_n 0, 1) := by decide +kernel
theorem dX4_teach_39 : decode cX4_teach 39 = .ok (.getfield 13, 3) := by decide +kernel
theorem dX4_teach_42 : decode cX4_teach 42 = .ok (.iload_n 1, 1) := by decide +kernel
theorem dX4_teach_43 : decode cX4_teach 43 = .ok (.dup2, 1) := by decide +kernel
theorem dX4_teach_44 : decode cX4_teach 44 = .ok (.iaload, 1) := by decide +kernel
theorem dX4_teach_45 : decode cX4_teach 45 = .ok (.iconst 1, 1) := by decide +kernel
theorem dX4_teach_46 : decode cX4_teach 46 = .ok (.iload_n 2, 1) := by decide +kernel
theorem dX4_teach_47 : decode cX4_teach 47 = .ok (.ishl, 1) := by decide +kernel
theorem dX4_teach_48 : decode cX4_teach 48 = .ok (.ior, 1) := by decide +kernel
theorem dX4_teach_49 : decode cX4_teach 49 = .ok (.iastore, 1) := by decide +kernel
theorem dX4_teach_50 : decode cX4_teach 50 = .ok (.aload_n 0, 1) := by decide +kernel
theorem dX4_teach_51 : decode cX4_teach 51 = .ok (.getfield 13, 3) := by decide +kernel
theorem dX4_teach_54 : decode cX4_teach 54 = .ok (.iload_n 1, 1) := by decide +kernel
theorem dX4_teach_55 : decode cX4_teach 55 = .ok (.iaload, 1) := by decide +kernel
theorem dX4_teach_56 : decode cX4_teach 56 = .ok (.invokestatic 141, 3) := by decide +kernel
theorem dX4_teach_59 : decode cX4_teach 59 = .ok (.ireturn, 1) := by decide +kernel
theorem dX4_models_0 : decode cX4_models 0 = .ok (.aload_n 0, 1) := by decide +kernel
theorem dX4_models_1 : decode cX4_models 1 = .ok (.getfield 25, 3) := by decide +kernel
theorem dX4_models_4 : decode cX4_models 4 = .ok (.ireturn, 1) := by decide +kernel
set_option maxRecDepth 20000 in
theorem ggX4_steps_X4_modelAt : GoodIn wsX4_steps wsX4_modelAt := goodIn_ca (goodIn_r _ [6, 7, 8, 9, 10, 11, 12, 5, 13, 14, 22, 23, 24, 25, 26, 27, 28, 29] (by decide +kernel) (by decide +kernel)) (goodIn_sub (fun _ h => List.mem_cons_of_mem _ (List.mem_append_right _ h)) (by decide +kernel))
set_option maxRecDepth 20000 in
theorem gX4_steps_X4_modelAt : GoodIn wsX4_steps (wsV RX4 80 RX4 yX4_modelAt wsX4_modelAt) := goodIn_app (goodIn_of _ (by decide +kernel)) ggX4_steps_X4_modelAt
theorem dX4_steps_0 : decode cX4_steps 0 = .ok (.aload_n 0, 1) := by decide +kernel
theorem dX4_steps_1 : decode cX4_steps 1 = .ok (.iload_n 1, 1) := by decide +kernel
theorem dX4_steps_2 : decode cX4_steps 2 = .ok (.invokevirtual 80, 3) := by decide +kernel
theorem dX4_steps_5 : decode cX4_steps 5 = .ok (.getfield 95, 3) := by decide +kernel
theorem dX4_steps_8 : decode cX4_steps 8 = .ok (.ireturn, 1) := by decide +kernel
set_option maxRecDepth 20000 in
theorem ggX4_places_X4_modelAt : GoodIn wsX4_places wsX4_modelAt := goodIn_ca (goodIn_r _ [7, 8, 9, 10, 11, 12, 13, 6, 14, 15, 29, 30, 31, 32, 33, 34, 35, 36] (by decide +kernel) (by decide +kernel)) (goodIn_sub (fun _ h => List.mem_cons_of_mem _ (List.mem_append_right _ h)) (by decide +kernel))
set_option maxRecDepth 20000 in
theorem gX4_places_X4_modelAt : GoodIn wsX4_places (wsV RX4 80 RX4 yX4_modelAt wsX4_modelAt) := goodIn_app (goodIn_of _ (by decide +kernel)) ggX4_places_X4_modelAt
theorem dX4_places_0 : decode cX4_places 0 = .ok (.aload_n 0, 1) := by decide +kernel
theorem dX4_places_1 : decode cX4_places 1 = .ok (.iload_n 1, 1) := by decide +kernel
theorem dX4_places_2 : decode cX4_places 2 = .ok (.invokevirtual 80, 3) := by decide +kernel
theorem dX4_places_5 : decode cX4_places 5 = .ok (.getfield 84, 3) := by decide +kernel
theorem dX4_places_8 : decode cX4_places 8 = .ok (.getfield 88, 3) := by decide +kernel
theorem dX4_places_11 : decode cX4_places 11 = .ok (.ireturn, 1) := by decide +kernel
set_option maxRecDepth 20000 in
theorem ggX4_layers_X4_modelAt : GoodIn wsX4_layers wsX4_modelAt := goodIn_ca (goodIn_r _ [6, 7, 8, 9, 10, 11, 12, 5, 13, 14, 41, 42, 43, 44, 45, 46, 47, 48] (by decide +kernel) (by decide +kernel)) (goodIn_sub (fun _ h => List.mem_cons_of_mem _ (List.mem_append_right _ h)) (by decide +kernel))
set_option maxRecDepth 20000 in
theorem gX4_layers_X4_modelAt : GoodIn wsX4_layers (wsV RX4 80 RX4 yX4_modelAt wsX4_modelAt) := goodIn_app (goodIn_of _ (by decide +kernel)) ggX4_layers_X4_modelAt
set_option maxRecDepth 20000 in
theorem ggX4_layers_X3_greatestHeight : GoodIn wsX4_layers wsX3_greatestHeight := goodIn_r _ [19, 20, 21, 22, 23, 24, 25, 26, 27, 18, 28, 29, 30, 31, 32, 33, 49, 50, 51, 52, 53, 54] (by decide +kernel) (by decide +kernel)
set_option maxRecDepth 20000 in
theorem gX4_layers_X3_greatestHeight : GoodIn wsX4_layers (wsV RX4 146 RX3 yX3_greatestHeight wsX3_greatestHeight) := goodIn_app (goodIn_of _ (by decide +kernel)) ggX4_layers_X3_greatestHeight
theorem dX4_layers_0 : decode cX4_layers 0 = .ok (.aload_n 0, 1) := by decide +kernel
theorem dX4_layers_1 : decode cX4_layers 1 = .ok (.iload_n 1, 1) := by decide +kernel
theorem dX4_layers_2 : decode cX4_layers 2 = .ok (.invokevirtual 80, 3) := by decide +kernel
theorem dX4_layers_5 : decode cX4_layers 5 = .ok (.getfield 84, 3) := by decide +kernel
theorem dX4_layers_8 : decode cX4_layers 8 = .ok (.invokevirtual 146, 3) := by decide +kernel
theorem dX4_layers_11 : decode cX4_layers 11 = .ok (.ireturn, 1) := by decide +kernel
set_option maxRecDepth 20000 in
theorem ggX4_cellAt_X4_modelAt : GoodIn wsX4_cellAt wsX4_modelAt := goodIn_ca (goodIn_r _ [9, 1, 2, 10, 11, 12, 13, 8, 14, 15, 46, 47, 48, 49, 50, 51, 52, 53] (by decide +kernel) (by decide +kernel)) (goodIn_sub (fun _ h => List.mem_cons_of_mem _ (List.mem_append_right _ h)) (by decide +kernel))
set_option maxRecDepth 20000 in
theorem gX4_cellAt_X4_modelAt : GoodIn wsX4_cellAt (wsV RX4 80 RX4 yX4_modelAt wsX4_modelAt) := goodIn_app (goodIn_of _ (by decide +kernel)) ggX4_cellAt_X4_modelAt
set_option maxRecDepth 20000 in
theorem ggX4_cellAt_X3_heightAt : GoodIn wsX4_cellAt wsX3_heightAt := goodIn_r _ [20, 21, 22, 23, 24, 19, 25, 26, 40, 41, 42, 43, 44, 45] (by decide +kernel) (by decide +kernel)
set_option maxRecDepth 20000 in
theorem gX4_cellAt_X3_heightAt : GoodIn wsX4_cellAt (wsV RX4 154 RX3 yX3_heightAt wsX3_heightAt) := goodIn_app (goodIn_of _ (by decide +kernel)) ggX4_cellAt_X3_heightAt
set_option maxRecDepth 20000 in
theorem ggX4_cellAt_X3_cellIn : GoodIn wsX4_cellAt wsX3_cellIn := goodIn_r _ [30, 31, 21, 32, 17, 18, 19, 20, 22, 23, 24, 25, 26, 40, 41, 42, 43, 44, 45] (by decide +kernel) (by decide +kernel)
set_option maxRecDepth 20000 in
theorem gX4_cellAt_X3_cellIn : GoodIn wsX4_cellAt (wsV RX4 159 RX3 yX3_cellIn wsX3_cellIn) := goodIn_app (goodIn_of _ (by decide +kernel)) ggX4_cellAt_X3_cellIn
theorem dX4_cellAt_0 : decode cX4_cellAt 0 = .ok (.aload_n 0, 1) := by decide +kernel
theorem dX4_cellAt_1 : decode cX4_cellAt 1 = .ok (.iload_n 1, 1) := by decide +kernel
theorem dX4_cellAt_2 : decode cX4_cellAt 2 = .ok (.invokevirtual 80, 3) := by decide +kernel
theorem dX4_cellAt_5 : decode cX4_cellAt 5 = .ok (.getfield 84, 3) := by decide +kernel
theorem dX4_cellAt_8 : decode cX4_cellAt 8 = .ok (.astore 4, 2) := by decide +kernel
theorem dX4_cellAt_10 : decode cX4_cellAt 10 = .ok (.iload_n 2, 1) := by decide +kernel
theorem dX4_cellAt_11 : decode cX4_cellAt 11 = .ok (.ifCond .lt 12, 3) := by decide +kernel
theorem dX4_cellAt_14 : decode cX4_cellAt 14 = .ok (.iload_n 2, 1) := by decide +kernel
theorem dX4_cellAt_15 : decode cX4_cellAt 15 = .ok (.aload 4, 2) := by decide +kernel
theorem dX4_cellAt_17 : decode cX4_cellAt 17 = .ok (.getfield 88, 3) := by decide +kernel
theorem dX4_cellAt_20 : decode cX4_cellAt 20 = .ok (.if_icmp .lt 13, 3) := by decide +kernel
theorem dX4_cellAt_23 : decode cX4_cellAt 23 = .ok (.new 149, 3) := by decide +kernel
theorem dX4_cellAt_26 : decode cX4_cellAt 26 = .ok (.dup, 1) := by decide +kernel
theorem dX4_cellAt_27 : decode cX4_cellAt 27 = .ok (.ldc 151, 2) := by decide +kernel
theorem dX4_cellAt_29 : decode cX4_cellAt 29 = .ok (.invokespecial 153, 3) := by decide +kernel
theorem dX4_cellAt_32 : decode cX4_cellAt 32 = .ok (.athrow, 1) := by decide +kernel
theorem dX4_cellAt_33 : decode cX4_cellAt 33 = .ok (.iload_n 3, 1) := by decide +kernel
theorem dX4_cellAt_34 : decode cX4_cellAt 34 = .ok (.ifCond .lt 13, 3) := by decide +kernel
theorem dX4_cellAt_37 : decode cX4_cellAt 37 = .ok (.iload_n 3, 1) := by decide +kernel
theorem dX4_cellAt_38 : decode cX4_cellAt 38 = .ok (.aload 4, 2) := by decide +kernel
theorem dX4_cellAt_40 : decode cX4_cellAt 40 = .ok (.iload_n 2, 1) := by decide +kernel
theorem dX4_cellAt_41 : decode cX4_cellAt 41 = .ok (.invokevirtual 154, 3) := by decide +kernel
theorem dX4_cellAt_44 : decode cX4_cellAt 44 = .ok (.if_icmp .lt 13, 3) := by decide +kernel
theorem dX4_cellAt_47 : decode cX4_cellAt 47 = .ok (.new 149, 3) := by decide +kernel
theorem dX4_cellAt_50 : decode cX4_cellAt 50 = .ok (.dup, 1) := by decide +kernel
theorem dX4_cellAt_51 : decode cX4_cellAt 51 = .ok (.ldc 157, 2) := by decide +kernel
theorem dX4_cellAt_53 : decode cX4_cellAt 53 = .ok (.invokespecial 153, 3) := by decide +kernel
theorem dX4_cellAt_56 : decode cX4_cellAt 56 = .ok (.athrow, 1) := by decide +kernel
theorem dX4_cellAt_57 : decode cX4_cellAt 57 = .ok (.aload 4, 2) := by decide +kernel
theorem dX4_cellAt_59 : decode cX4_cellAt 59 = .ok (.iload_n 2, 1) := by decide +kernel
theorem dX4_cellAt_60 : decode cX4_cellAt 60 = .ok (.iload_n 3, 1) := by decide +kernel
theorem dX4_cellAt_61 : decode cX4_cellAt 61 = .ok (.invokevirtual 159, 3) := by decide +kernel
theorem dX4_cellAt_64 : decode cX4_cellAt 64 = .ok (.ireturn, 1) := by decide +kernel
set_option maxRecDepth 20000 in
theorem ggX4_placeOf_X4_modelAt : GoodIn wsX4_placeOf wsX4_modelAt := goodIn_ca (goodIn_r _ [7, 8, 9, 10, 11, 12, 13, 6, 14, 15, 44, 45, 46, 47, 48, 49, 50, 51] (by decide +kernel) (by decide +kernel)) (goodIn_sub (fun _ h => List.mem_cons_of_mem _ (List.mem_append_right _ h)) (by decide +kernel))
set_option maxRecDepth 20000 in
theorem gX4_placeOf_X4_modelAt : GoodIn wsX4_placeOf (wsV RX4 80 RX4 yX4_modelAt wsX4_modelAt) := goodIn_app (goodIn_of _ (by decide +kernel)) ggX4_placeOf_X4_modelAt
set_option maxRecDepth 20000 in
theorem ggX4_placeOf_X4_checkCell : GoodIn wsX4_placeOf wsX4_checkCell := goodIn_ca (goodIn_r _ [19, 8, 9, 20, 55, 56, 57, 58, 59, 60, 61] (by decide +kernel) (by decide +kernel)) (goodIn_sub (fun _ h => List.mem_cons_of_mem _ (List.mem_append_right _ h)) (by decide +kernel))
set_option maxRecDepth 20000 in
theorem gX4_placeOf_X4_checkCell : GoodIn wsX4_placeOf (wsV RX4 163 RX4 yX4_checkCell wsX4_checkCell) := goodIn_app (goodIn_of _ (by decide +kernel)) ggX4_placeOf_X4_checkCell
set_option maxRecDepth 20000 in
theorem ggX4_placeOf_X0_follow : GoodIn wsX4_placeOf wsX0_follow := goodIn_r _ [25, 26, 27, 28, 29, 30, 31, 32, 33, 34, 35, 24, 36, 37, 38, 39, 40, 41, 42, 43, 52, 53, 54, 55, 56, 57, 58, 59, 60, 61] (by decide +kernel) (by decide +kernel)
set_option maxRecDepth 20000 in
theorem gX4_placeOf_X0_follow : GoodIn wsX4_placeOf (wsV RX4 167 RX0 yX0_follow wsX0_follow) := goodIn_app (goodIn_of _ (by decide +kernel)) ggX4_placeOf_X0_follow
theorem dX4_placeOf_0 : decode cX4_placeOf 0 = .ok (.aload_n 0, 1) := by decide +kernel
theorem dX4_placeOf_1 : decode cX4_placeOf 1 = .ok (.iload_n 1, 1) := by decide +kernel
theorem dX4_placeOf_2 : decode cX4_placeOf 2 = .ok (.invokevirtual 80, 3) := by decide +kernel
theorem dX4_placeOf_5 : decode cX4_placeOf 5 = .ok (.astore_n 3, 1) := by decide +kernel
theorem dX4_placeOf_6 : decode cX4_placeOf 6 = .ok (.aload_n 0, 1) := by decide +kernel
theorem dX4_placeOf_7 : decode cX4_placeOf 7 = .ok (.aload_n 3, 1) := by decide +kernel
theorem dX4_placeOf_8 : decode cX4_placeOf 8 = .ok (.iload_n 2, 1) := by decide +kernel
theorem dX4_placeOf_9 : decode cX4_placeOf 9 = .ok (.invokevirtual 163, 3) := by decide +kernel
theorem dX4_placeOf_12 : decode cX4_placeOf 12 = .ok (.aload_n 0, 1) := by decide +kernel
theorem dX4_placeOf_13 : decode cX4_placeOf 13 = .ok (.getfield 32, 3) := by decide +kernel
theorem dX4_placeOf_16 : decode cX4_placeOf 16 = .ok (.aload_n 3, 1) := by decide +kernel
theorem dX4_placeOf_17 : decode cX4_placeOf 17 = .ok (.iload_n 2, 1) := by decide +kernel
theorem dX4_placeOf_18 : decode cX4_placeOf 18 = .ok (.invokevirtual 167, 3) := by decide +kernel
theorem dX4_placeOf_21 : decode cX4_placeOf 21 = .ok (.aload_n 0, 1) := by decide +kernel
theorem dX4_placeOf_22 : decode cX4_placeOf 22 = .ok (.getfield 32, 3) := by decide +kernel
theorem dX4_placeOf_25 : decode cX4_placeOf 25 = .ok (.getfield 170, 3) := by decide +kernel
theorem dX4_placeOf_28 : decode cX4_placeOf 28 = .ok (.ireturn, 1) := by decide +kernel
set_option maxRecDepth 20000 in
theorem ggX4_isTurned_X4_modelAt : GoodIn wsX4_isTurned wsX4_modelAt := goodIn_ca (goodIn_r _ [7, 8, 9, 10, 11, 12, 13, 6, 14, 15, 44, 45, 46, 47, 48, 49, 50, 51] (by decide +kernel) (by decide +kernel)) (goodIn_sub (fun _ h => List.mem_cons_of_mem _ (List.mem_append_right _ h)) (by decide +kernel))
set_option maxRecDepth 20000 in
theorem gX4_isTurned_X4_modelAt : GoodIn wsX4_isTurned (wsV RX4 80 RX4 yX4_modelAt wsX4_modelAt) := goodIn_app (goodIn_of _ (by decide +kernel)) ggX4_isTurned_X4_modelAt
set_option maxRecDepth 20000 in
theorem ggX4_isTurned_X4_checkCell : GoodIn wsX4_isTurned wsX4_checkCell := goodIn_ca (goodIn_r _ [19, 8, 9, 20, 55, 56, 57, 58, 59, 60, 61] (by decide +kernel) (by decide +kernel)) (goodIn_sub (fun _ h => List.mem_cons_of_mem _ (List.mem_append_right _ h)) (by decide +kernel))
set_option maxRecDepth 20000 in
theorem gX4_isTurned_X4_checkCell : GoodIn wsX4_isTurned (wsV RX4 163 RX4 yX4_checkCell wsX4_checkCell) := goodIn_app (goodIn_of _ (by decide +kernel)) ggX4_isTurned_X4_checkCell
set_option maxRecDepth 20000 in
theorem ggX4_isTurned_X0_follow : GoodIn wsX4_isTurned wsX0_follow := goodIn_r _ [25, 26, 27, 28, 29, 30, 31, 32, 33, 34, 35, 24, 36, 37, 38, 39, 40, 41, 42, 43, 52, 53, 54, 55, 56, 57, 58, 59, 60, 61] (by decide +kernel) (by decide +kernel)
set_option maxRecDepth 20000 in
theorem gX4_isTurned_X0_follow : GoodIn wsX4_isTurned (wsV RX4 167 RX0 yX0_follow wsX0_follow) := goodIn_app (goodIn_of _ (by decide +kernel)) ggX4_isTurned_X0_follow
theorem dX4_isTurned_0 : decode cX4_isTurned 0 = .ok (.aload_n 0, 1) := by decide +kernel
theorem dX4_isTurned_1 : decode cX4_isTurned 1 = .ok (.iload_n 1, 1) := by decide +kernel
theorem dX4_isTurned_2 : decode cX4_isTurned 2 = .ok (.invokevirtual 80, 3) := by decide +kernel
theorem dX4_isTurned_5 : decode cX4_isTurned 5 = .ok (.astore_n 3, 1) := by decide +kernel
theorem dX4_isTurned_6 : decode cX4_isTurned 6 = .ok (.aload_n 0, 1) := by decide +kernel
theorem dX4_isTurned_7 : decode cX4_isTurned 7 = .ok (.aload_n 3, 1) := by decide +kernel
theorem dX4_isTurned_8 : decode cX4_isTurned 8 = .ok (.iload_n 2, 1) := by decide +kernel
theorem dX4_isTurned_9 : decode cX4_isTurned 9 = .ok (.invokevirtual 163, 3) := by decide +kernel
theorem dX4_isTurned_12 : decode cX4_isTurned 12 = .ok (.aload_n 0, 1) := by decide +kernel
theorem dX4_isTurned_13 : decode cX4_isTurned 13 = .ok (.getfield 32, 3) := by decide +kernel
theorem dX4_isTurned_16 : decode cX4_isTurned 16 = .ok (.aload_n 3, 1) := by decide +kernel
theorem dX4_isTurned_17 : decode cX4_isTurned 17 = .ok (.iload_n 2, 1) := by decide +kernel
theorem dX4_isTurned_18 : decode cX4_isTurned 18 = .ok (.invokevirtual 167, 3) := by decide +kernel
theorem dX4_isTurned_21 : decode cX4_isTurned 21 = .ok (.aload_n 0, 1) := by decide +kernel
theorem dX4_isTurned_22 : decode cX4_isTurned 22 = .ok (.getfield 32, 3) := by decide +kernel
theorem dX4_isTurned_25 : decode cX4_isTurned 25 = .ok (.getfield 173, 3) := by decide +kernel
theorem dX4_isTurned_28 : decode cX4_isTurned 28 = .ok (.ireturn, 1) := by decide +kernel
set_option maxRecDepth 20000 in
theorem ggX4_layersByFollowing_X4_modelAt : GoodIn wsX4_layersByFollowing wsX4_modelAt := goodIn_ca (goodIn_r _ [13, 14, 15, 16, 17, 18, 19, 12, 20, 21, 42, 43, 44, 45, 46, 47, 48, 49] (by decide +kernel) (by decide +kernel)) (goodIn_sub (fun _ h => List.mem_cons_of_mem _ (List.mem_append_right _ h)) (by decide +kernel))
set_option maxRecDepth 20000 in
theorem gX4_layersByFollowing_X4_modelAt : GoodIn wsX4_layersByFollowing (wsV RX4 80 RX4 yX4_modelAt wsX4_modelAt) := goodIn_app (goodIn_of _ (by decide +kernel)) ggX4_layersByFollowing_X4_modelAt
set_option maxRecDepth 20000 in
theorem ggX4_layersByFollowing_X0_follow : GoodIn wsX4_layersByFollowing wsX0_follow := goodIn_r _ [26, 27, 28, 29, 30, 31, 32, 33, 34, 35, 36, 25, 37, 38, 39, 7, 40, 41, 6, 8, 57, 58, 59, 50, 51, 52, 53, 54, 55, 56] (by decide +kernel) (by decide +kernel)
set_option maxRecDepth 20000 in
theorem gX4_layersByFollowing_X0_follow : GoodIn wsX4_layersByFollowing (wsV RX4 167 RX0 yX0_follow wsX0_follow) := goodIn_app (goodIn_of _ (by decide +kernel)) ggX4_layersByFollowing_X0_follow
theorem dX4_layersByFollowing_0 : decode cX4_layersByFollowing 0 = .ok (.aload_n 0, 1) := by decide +kernel
theorem dX4_layersByFollowing_1 : decode cX4_layersByFollowing 1 = .ok (.iload_n 1, 1) := by decide +kernel
theorem dX4_layersByFollowing_2 : decode cX4_layersByFollowing 2 = .ok (.invokevirtual 80, 3) := by decide +kernel
theorem dX4_layersByFollowing_5 : decode cX4_layersByFollowing 5 = .ok (.astore_n 2, 1) := by decide +kernel
theorem dX4_layersByFollowing_6 : decode cX4_layersByFollowing 6 = .ok (.iconst 0, 1) := by decide +kernel
theorem dX4_layersByFollowing_7 : decode cX4_layersByFollowing 7 = .ok (.istore_n 3, 1) := by decide +kernel
theorem dX4_layersByFollowing_8 : decode cX4_layersByFollowing 8 = .ok (.iload_n 3, 1) := by decide +kernel
theorem dX4_layersByFollowing_9 : decode cX4_layersByFollowing 9 = .ok (.aload_n 0, 1) := by decide +kernel
theorem dX4_layersByFollowing_10 : decode cX4_layersByFollowing 10 = .ok (.getfield 36, 3) := by decide +kernel
theorem dX4_layersByFollowing_13 : decode cX4_layersByFollowing 13 = .ok (.arraylength, 1) := by decide +kernel
theorem dX4_layersByFollowing_14 : decode cX4_layersByFollowing 14 = .ok (.if_icmp .ge 16, 3) := by decide +kernel
theorem dX4_layersByFollowing_17 : decode cX4_layersByFollowing 17 = .ok (.aload_n 0, 1) := by decide +kernel
theorem dX4_layersByFollowing_18 : decode cX4_layersByFollowing 18 = .ok (.getfield 36, 3) := by decide +kernel
theorem dX4_layersByFollowing_21 : decode cX4_layersByFollowing 21 = .ok (.iload_n 3, 1) := by decide +kernel
theorem dX4_layersByFollowing_22 : decode cX4_layersByFollowing 22 = .ok (.iconst 0, 1) := by decide +kernel
theorem dX4_layersByFollowing_23 : decode cX4_layersByFollowing 23 = .ok (.iastore, 1) := by decide +kernel
theorem dX4_layersByFollowing_24 : decode cX4_layersByFollowing 24 = .ok (.iinc 3 1, 3) := by decide +kernel
theorem dX4_layersByFollowing_27 : decode cX4_layersByFollowing 27 = .ok (.goto (-19), 3) := by decide +kernel
theorem dX4_layersByFollowing_30 : decode cX4_layersByFollowing 30 = .ok (.iconst 0, 1) := by decide +kernel
theorem dX4_layersByFollowing_31 : decode cX4_layersByFollowing 31 = .ok (.istore_n 3, 1) := by decide +kernel
theorem dX4_layersByFollowing_32 : decode cX4_layersByFollowing 32 = .ok (.iconst 0, 1) := by decide +kernel
theorem dX4_layersByFollowing_33 : decode cX4_layersByFollowing 33 = .ok (.istore 4, 2) := by decide +kernel
theorem dX4_layersByFollowing_35 : decode cX4_layersByFollowing 35 = .ok (.iload 4, 2) := by decide +kernel
theorem dX4_layersByFollowing_37 : decode cX4_layersByFollowing 37 = .ok (.aload_n 2, 1) := by decide +kernel
theorem dX4_layersByFollowing_38 : decode cX4_layersByFollowing 38 = .ok (.getfield 177, 3) := by decide +kernel
theorem dX4_layersByFollowing_41 : decode cX4_layersByFollowing 41 = .ok (.if_icmp .ge 66, 3) := by decide +kernel
theorem dX4_layersByFollowing_44 : decode cX4_layersByFollowing 44 = .ok (.aload_n 0, 1) := by decide +kernel
theorem dX4_layersByFollowing_45 : decode cX4_layersByFollowing 45 = .ok (.getfield 32, 3) := by decide +kernel
theorem dX4_layersByFollowing_48 : decode cX4_layersByFollowing 48 = .ok (.aload_n 2, 1) := by decide +kernel
theorem dX4_layersByFollowing_49 : decode cX4_layersByFollowing 49 = .ok (.iload 4, 2) := by decide +kernel
theorem dX4_layersByFollowing_51 : decode cX4_layersByFollowing 51 = .ok (.invokevirtual 167, 3) := by decide +kernel
theorem dX4_layersByFollowing_54 : decode cX4_layersByFollowing 54 = .ok (.aload_n 0, 1) := by decide +kernel
theorem dX4_layersByFollowing_55 : decode cX4_layersByFollowing 55 = .ok (.getfield 32, 3) := by decide +kernel
theorem dX4_layersByFollowing_58 : decode cX4_layersByFollowing 58 = .ok (.getfield 170, 3) := by decide +kernel
theorem dX4_layersByFollowing_61 : decode cX4_layersByFollowing 61 = .ok (.istore 5, 2) := by decide +kernel
theorem dX4_layersByFollowing_63 : decode cX4_layersByFollowing 63 = .ok (.iload 5, 2) := by decide +kernel
theorem dX4_layersByFollowing_65 : decode cX4_layersByFollowing 65 = .ok (.ifCond .lt 36, 3) := by decide +kernel
theorem dX4_layersByFollowing_68 : decode cX4_layersByFollowing 68 = .ok (.iload 5, 2) := by decide +kernel
theorem dX4_layersByFollowing_70 : decode cX4_layersByFollowing 70 = .ok (.aload_n 0, 1) := by decide +kernel
theorem dX4_layersByFollowing_71 : decode cX4_layersByFollowing 71 = .ok (.getfield 36, 3) := by decide +kernel
theorem dX4_layersByFollowing_74 : decode cX4_layersByFollowing 74 = .ok (.arraylength, 1) := by decide +kernel
theorem dX4_layersByFollowing_75 : decode cX4_layersByFollowing 75 = .ok (.if_icmp .ge 26, 3) := by decide +kernel
theorem dX4_layersByFollowing_78 : decode cX4_layersByFollowing 78 = .ok (.aload_n 0, 1) := by decide +kernel
theorem dX4_layersByFollowing_79 : decode cX4_layersByFollowing 79 = .ok (.getfield 36, 3) := by decide +kernel
theorem dX4_layersByFollowing_82 : decode cX4_layersByFollowing 82 = .ok (.iload 5, 2) := by decide +kernel
theorem dX4_layersByFollowing_84 : decode cX4_layersByFollowing 84 = .ok (.dup2, 1) := by decide +kernel
theorem dX4_layersByFollowing_85 : decode cX4_layersByFollowing 85 = .ok (.iaload, 1) := by decide +kernel
theorem dX4_layersByFollowing_86 : decode cX4_layersByFollowing 86 = .ok (.iconst 1, 1) := by decide +kernel
theorem dX4_layersByFollowing_87 : decode cX4_layersByFollowing 87 = .ok (.iadd, 1) := by decide +kernel
theorem dX4_layersByFollowing_88 : decode cX4_layersByFollowing 88 = .ok (.iastore, 1) := by decide +kernel
theorem dX4_layersByFollowing_89 : decode cX4_layersByFollowing 89 = .ok (.iload_n 3, 1) := by decide +kernel
theorem dX4_layersByFollowing_90 : decode cX4_layersByFollowing 90 = .ok (.aload_n 0, 1) := by decide +kernel
theorem dX4_layersByFollowing_91 : decode cX4_layersByFollowing 91 = .ok (.getfield 36, 3) := by decide +kernel
theorem dX4_layersByFollowing_94 : decode cX4_layersByFollowing 94 = .ok (.iload 5, 2) := by decide +kernel
theorem dX4_layersByFollowing_96 : decode cX4_layersByFollowing 96 = .ok (.iaload, 1) := by decide +kernel
theorem dX4_layersByFollowing_97 : decode cX4_layersByFollowing 97 = .ok (.invokestatic 180, 3) := by decide +kernel
theorem dX4_layersByFollowing_100 : decode cX4_layersByFollowing 100 = .ok (.istore_n 3, 1) := by decide +kernel
theorem dX4_layersByFollowing_101 : decode cX4_layersByFollowing 101 = .ok (.iinc 4 1, 3) := by decide +kernel
theorem dX4_layersByFollowing_104 : decode cX4_layersByFollowing 104 = .ok (.goto (-69), 3) := by decide +kernel
theorem dX4_layersByFollowing_107 : decode cX4_layersByFollowing 107 = .ok (.iload_n 3, 1) := by decide +kernel
theorem dX4_layersByFollowing_108 : decode cX4_layersByFollowing 108 = .ok (.ireturn, 1) := by decide +kernel
set_option maxRecDepth 20000 in
theorem ggX4_bears_X4_modelAt : GoodIn wsX4_bears wsX4_modelAt := goodIn_ca (goodIn_r _ [12, 13, 14, 15, 16, 17, 18, 11, 19, 20, 44, 45, 46, 47, 48, 49, 50, 51] (by decide +kernel) (by decide +kernel)) (goodIn_sub (fun _ h => List.mem_cons_of_mem _ (List.mem_append_right _ h)) (by decide +kernel))
set_option maxRecDepth 20000 in
theorem gX4_bears_X4_modelAt : GoodIn wsX4_bears (wsV RX4 80 RX4 yX4_modelAt wsX4_modelAt) := goodIn_app (goodIn_of _ (by decide +kernel)) ggX4_bears_X4_modelAt
set_option maxRecDepth 20000 in
theorem ggX4_bears_X3_greatestHeight : GoodIn wsX4_bears wsX3_greatestHeight := goodIn_r _ [25, 26, 27, 4, 5, 6, 28, 29, 30, 24, 31, 32, 33, 34, 35, 36, 52, 53, 54, 55, 56, 57] (by decide +kernel) (by decide +kernel)
set_option maxRecDepth 20000 in
theorem gX4_bears_X3_greatestHeight : GoodIn wsX4_bears (wsV RX4 146 RX3 yX3_greatestHeight wsX3_greatestHeight) := goodIn_app (goodIn_of _ (by decide +kernel)) ggX4_bears_X3_greatestHeight
theorem dX4_bears_0 : decode cX4_bears 0 = .ok (.aload_n 0, 1) := by decide +kernel
theorem dX4_bears_1 : decode cX4_bears 1 = .ok (.iload_n 1, 1) := by decide +kernel
theorem dX4_bears_2 : decode cX4_bears 2 = .ok (.invokevirtual 80, 3) := by decide +kernel
theorem dX4_bears_5 : decode cX4_bears 5 = .ok (.astore_n 3, 1) := by decide +kernel
theorem dX4_bears_6 : decode cX4_bears 6 = .ok (.iload_n 2, 1) := by decide +kernel
theorem dX4_bears_7 : decode cX4_bears 7 = .ok (.ifCond .lt 9, 3) := by decide +kernel
theorem dX4_bears_10 : decode cX4_bears 10 = .ok (.iload_n 2, 1) := by decide +kernel
theorem dX4_bears_11 : decode cX4_bears 11 = .ok (.bipush 20, 2) := by decide +kernel
theorem dX4_bears_13 : decode cX4_bears 13 = .ok (.if_icmp .le 13, 3) := by decide +kernel
theorem dX4_bears_16 : decode cX4_bears 16 = .ok (.new 50, 3) := by decide +kernel
theorem dX4_bears_19 : decode cX4_bears 19 = .ok (.dup, 1) := by decide +kernel
theorem dX4_bears_20 : decode cX4_bears 20 = .ok (.ldc 185, 2) := by decide +kernel
theorem dX4_bears_22 : decode cX4_bears 22 = .ok (.invokespecial 54, 3) := by decide +kernel
theorem dX4_bears_25 : decode cX4_bears 25 = .ok (.athrow, 1) := by decide +kernel
theorem dX4_bears_26 : decode cX4_bears 26 = .ok (.iconst 1, 1) := by decide +kernel
theorem dX4_bears_27 : decode cX4_bears 27 = .ok (.bipush 40, 2) := by decide +kernel
theorem dX4_bears_29 : decode cX4_bears 29 = .ok (.iconst 2, 1) := by decide +kernel
theorem dX4_bears_30 : decode cX4_bears 30 = .ok (.iload_n 2, 1) := by decide +kernel
theorem dX4_bears_31 : decode cX4_bears 31 = .ok (.imul, 1) := by decide +kernel
theorem dX4_bears_32 : decode cX4_bears 32 = .ok (.isub, 1) := by decide +kernel
theorem dX4_bears_33 : decode cX4_bears 33 = .ok (.invokestatic 180, 3) := by decide +kernel
theorem dX4_bears_36 : decode cX4_bears 36 = .ok (.istore 4, 2) := by decide +kernel
theorem dX4_bears_38 : decode cX4_bears 38 = .ok (.aload_n 3, 1) := by decide +kernel
theorem dX4_bears_39 : decode cX4_bears 39 = .ok (.getfield 84, 3) := by decide +kernel
theorem dX4_bears_42 : decode cX4_bears 42 = .ok (.invokevirtual 146, 3) := by decide +kernel
theorem dX4_bears_45 : decode cX4_bears 45 = .ok (.iload 4, 2) := by decide +kernel
theorem dX4_bears_47 : decode cX4_bears 47 = .ok (.if_icmp .gt 7, 3) := by decide +kernel
theorem dX4_bears_50 : decode cX4_bears 50 = .ok (.iconst 1, 1) := by decide +kernel
theorem dX4_bears_51 : decode cX4_bears 51 = .ok (.goto 4, 3) := by decide +kernel
theorem dX4_bears_54 : decode cX4_bears 54 = .ok (.iconst 0, 1) := by decide +kernel
theorem dX4_bears_55 : decode cX4_bears 55 = .ok (.ireturn, 1) := by decide +kernel
set_option maxRecDepth 20000 in
theorem ggX4_kindsOf_X4_checkModel : GoodIn wsX4_kindsOf wsX4_checkModel := goodIn_ca (goodIn_r _ [5, 6, 7, 8, 36, 37, 38, 39, 40, 41, 42, 43] (by decide +kernel) (by decide +kernel)) (goodIn_sub (fun _ h => List.mem_cons_of_mem _ (List.mem_append_right _ h)) (by decide +kernel))
set_option maxRecDepth 20000 in
theorem gX4_kindsOf_X4_checkModel : GoodIn wsX4_kindsOf (wsV RX4 118 RX4 yX4_checkModel wsX4_checkModel) := goodIn_app (goodIn_of _ (by decide +kernel)) ggX4_kindsOf_X4_checkModel
set_option maxRecDepth 20000 in
theorem ggX4_kindsOf_X4_kindsCountedFor : GoodIn wsX4_kindsOf wsX4_kindsCountedFor := goodIn_ca (goodIn_r _ [12, 8, 13, 14, 15, 4, 16, 17, 18, 19, 20, 21, 22, 23, 24, 25, 26, 27, 6, 7, 28, 1, 2, 3, 5, 29, 30, 31, 32, 33, 34, 35, 36, 37, 38, 39, 40, 41, 42, 43, 44, 45, 46, 47, 48, 49, 50] (by decide +kernel) (by decide +kernel)) (goodIn_sub (fun _ h => List.mem_cons_of_mem _ (List.mem_append_right _ h)) (by decide +kernel))
set_option maxRecDepth 20000 in
theorem gX4_kindsOf_X4_kindsCountedFor : GoodIn wsX4_kindsOf (wsV RX4 187 RX4 yX4_kindsCountedFor wsX4_kindsCountedFor) := goodIn_app (goodIn_of _ (by decide +kernel)) ggX4_kindsOf_X4_kindsCountedFor
theorem dX4_kindsOf_0 : decode cX4_kindsOf 0 = .ok (.aload_n 0, 1) := by decide +kernel
theorem dX4_kindsOf_1 : decode cX4_kindsOf 1 = .ok (.iload_n 1, 1) := by decide +kernel
theorem dX4_kindsOf_2 : decode cX4_kindsOf 2 = .ok (.invokevirtual 118, 3) := by decide +kernel
theorem dX4_kindsOf_5 : decode cX4_kindsOf 5 = .ok (.aload_n 0, 1) := by decide +kernel
theorem dX4_kindsOf_6 : decode cX4_kindsOf 6 = .ok (.iload_n 1, 1) := by decide +kernel
theorem dX4_kindsOf_7 : decode cX4_kindsOf 7 = .ok (.invokevirtual 187, 3) := by decide +kernel
theorem dX4_kindsOf_10 : decode cX4_kindsOf 10 = .ok (.ireturn, 1) := by decide +kernel
set_option maxRecDepth 20000 in
theorem ggX4_mayFold_X4_checkPupil : GoodIn wsX4_mayFold wsX4_checkPupil := goodIn_ca (goodIn_r _ [6, 7, 8] (by decide +kernel) (by decide +kernel)) (goodIn_sub (fun _ h => List.mem_cons_of_mem _ (List.mem_append_right _ h)) (by decide +kernel))
set_option maxRecDepth 20000 in
theorem gX4_mayFold_X4_checkPupil : GoodIn wsX4_mayFold (wsV RX4 136 RX4 yX4_checkPupil wsX4_checkPupil) := goodIn_app (goodIn_of _ (by decide +kernel)) ggX4_mayFold_X4_checkPupil
set_option maxRecDepth 20000 in
theorem ggX4_mayFold_X4_checkModel : GoodIn wsX4_mayFold wsX4_checkModel := goodIn_ca (goodIn_r _ [12, 7, 8, 13, 44, 45, 46, 47, 48, 49, 50, 51] (by decide +kernel) (by decide +kernel)) (goodIn_sub (fun _ h => List.mem_cons_of_mem _ (List.mem_append_right _ h)) (by decide +kernel))
set_option maxRecDepth 20000 in
theorem gX4_mayFold_X4_checkModel : GoodIn wsX4_mayFold (wsV RX4 118 RX4 yX4_checkModel wsX4_checkModel) := goodIn_app (goodIn_of _ (by decide +kernel)) ggX4_mayFold_X4_checkModel
set_option maxRecDepth 20000 in
theorem ggX4_mayFold_X4_kindsCountedFor : GoodIn wsX4_mayFold wsX4_kindsCountedFor := goodIn_ca (goodIn_r _ [17, 13, 18, 19, 20, 5, 21, 22, 23, 24, 25, 26, 27, 28, 29, 30, 31, 32, 7, 8, 33, 9, 10, 11, 12, 34, 35, 36, 37, 38, 39, 40, 44, 45, 46, 47, 48, 49, 50, 51, 52, 53, 54, 55, 56, 57, 58] (by decide +kernel) (by decide +kernel)) (goodIn_sub (fun _ h => List.mem_cons_of_mem _ (List.mem_append_right _ h)) (by decide +kernel))
set_option maxRecDepth 20000 in
theorem gX4_mayFold_X4_kindsCountedFor : GoodIn wsX4_mayFold (wsV RX4 187 RX4 yX4_kindsCountedFor wsX4_kindsCountedFor) := goodIn_app (goodIn_of _ (by decide +kernel)) ggX4_mayFold_X4_kindsCountedFor
set_option maxRecDepth 20000 in
theorem ggX4_mayFold_X4_lacksAny : GoodIn wsX4_mayFold wsX4_lacksAny := goodIn_r _ [43] (by decide +kernel) (by decide +kernel)
set_option maxRecDepth 20000 in
theorem gX4_mayFold_X4_lacksAny : GoodIn wsX4_mayFold (va_wsS RX4 104 yX4_lacksAny wsX4_lacksAny) := goodIn_app (goodIn_of _ (by decide +kernel)) ggX4_mayFold_X4_lacksAny
theorem dX4_mayFold_0 : decode cX4_mayFold 0 = .ok (.aload_n 0, 1) := by decide +kernel
theorem dX4_mayFold_1 : decode cX4_mayFold 1 = .ok (.iload_n 1, 1) := by decide +kernel
theorem dX4_mayFold_2 : decode cX4_mayFold 2 = .ok (.invokevirtual 136, 3) := by decide +kernel
theorem dX4_mayFold_5 : decode cX4_mayFold 5 = .ok (.aload_n 0, 1) := by decide +kernel
theorem dX4_mayFold_6 : decode cX4_mayFold 6 = .ok (.iload_n 2, 1) := by decide +kernel
theorem dX4_mayFold_7 : decode cX4_mayFold 7 = .ok (.invokevirtual 118, 3) := by decide +kernel
theorem dX4_mayFold_10 : decode cX4_mayFold 10 = .ok (.aload_n 0, 1) := by decide +kernel
theorem dX4_mayFold_11 : decode cX4_mayFold 11 = .ok (.getfield 13, 3) := by decide +kernel
theorem dX4_mayFold_14 : decode cX4_mayFold 14 = .ok (.iload_n 1, 1) := by decide +kernel
theorem dX4_mayFold_15 : decode cX4_mayFold 15 = .ok (.iaload, 1) := by decide +kernel
theorem dX4_mayFold_16 : decode cX4_mayFold 16 = .ok (.aload_n 0, 1) := by decide +kernel
theorem dX4_mayFold_17 : decode cX4_mayFold 17 = .ok (.iload_n 2, 1) := by decide +kernel
theorem dX4_mayFold_18 : decode cX4_mayFold 18 = .ok (.invokevirtual 187, 3) := by decide +kernel
theorem dX4_mayFold_21 : decode cX4_mayFold 21 = .ok (.invokestatic 104, 3) := by decide +kernel
theorem dX4_mayFold_24 : decode cX4_mayFold 24 = .ok (.ifCond .ne 7, 3) := by decide +kernel
theorem dX4_mayFold_27 : decode cX4_mayFold 27 = .ok (.iconst 1, 1) := by decide +kernel
theorem dX4_mayFold_28 : decode cX4_mayFold 28 = .ok (.goto 4, 3) := by decide +kernel
theorem dX4_mayFold_31 : decode cX4_mayFold 31 = .ok (.iconst 0, 1) := by decide +kernel
theorem dX4_mayFold_32 : decode cX4_mayFold 32 = .ok (.ireturn, 1) := by decide +kernel
set_option maxRecDepth 20000 in
theorem ggX4_lessons_X4_checkPupil : GoodIn wsX4_lessons wsX4_checkPupil := goodIn_ca (goodIn_r _ [7, 8, 9] (by decide +kernel) (by decide +kernel)) (goodIn_sub (fun _ h => List.mem_cons_of_mem _ (List.mem_append_right _ h)) (by decide +kernel))
set_option maxRecDepth 20000 in
theorem gX4_lessons_X4_checkPupil : GoodIn wsX4_lessons (wsV RX4 136 RX4 yX4_checkPupil wsX4_checkPupil) := goodIn_app (goodIn_of _ (by decide +kernel)) ggX4_lessons_X4_checkPupil
set_option maxRecDepth 20000 in
theorem ggX4_lessons_X4_checkModel : GoodIn wsX4_lessons wsX4_checkModel := goodIn_ca (goodIn_r _ [13, 8, 9, 14, 49, 50, 51, 52, 53, 54, 55, 56] (by decide +kernel) (by decide +kernel)) (goodIn_sub (fun _ h => List.mem_cons_of_mem _ (List.mem_append_right _ h)) (by decide +kernel))
set_option maxRecDepth 20000 in
theorem gX4_lessons_X4_checkModel : GoodIn wsX4_lessons (wsV RX4 118 RX4 yX4_checkModel wsX4_checkModel) := goodIn_app (goodIn_of _ (by decide +kernel)) ggX4_lessons_X4_checkModel
set_option maxRecDepth 20000 in
theorem ggX4_lessons_X4_kindsCountedFor : GoodIn wsX4_lessons wsX4_kindsCountedFor := goodIn_ca (goodIn_r _ [18, 14, 19, 20, 21, 6, 22, 23, 24, 25, 26, 27, 28, 29, 30, 31, 32, 33, 8, 9, 34, 10, 11, 12, 13, 35, 36, 37, 38, 39, 40, 41, 49, 50, 51, 52, 53, 54, 55, 56, 57, 58, 59, 60, 61, 62, 63] (by decide +kernel) (by decide +kernel)) (goodIn_sub (fun _ h => List.mem_cons_of_mem _ (List.mem_append_right _ h)) (by decide +kernel))
set_option maxRecDepth 20000 in
theorem gX4_lessons_X4_kindsCountedFor : GoodIn wsX4_lessons (wsV RX4 187 RX4 yX4_kindsCountedFor wsX4_kindsCountedFor) := goodIn_app (goodIn_of _ (by decide +kernel)) ggX4_lessons_X4_kindsCountedFor
set_option maxRecDepth 20000 in
theorem ggX4_lessons_X4_reached : GoodIn wsX4_lessons wsX4_reached := goodIn_r _ [26, 27, 28, 6, 29] (by decide +kernel) (by decide +kernel)
set_option maxRecDepth 20000 in
theorem gX4_lessons_X4_reached : GoodIn wsX4_lessons (va_wsS RX4 57 yX4_reached wsX4_reached) := goodIn_app (goodIn_of _ (by decide +kernel)) ggX4_lessons_X4_reached
set_option maxRecDepth 20000 in
theorem ggX4_lessons_J6_bitCount_0f7a4 : GoodIn wsX4_lessons wsJ6_bitCount_0f7a4 := goodIn_r _ [45, 46, 47, 48] (by decide +kernel) (by decide +kernel)
set_option maxRecDepth 20000 in
theorem gX4_lessons_J6_bitCount_0f7a4 : GoodIn wsX4_lessons (va_wsS RX4 141 yJ6_bitCount_0f7a4 wsJ6_bitCount_0f7a4) := goodIn_app (goodIn_of _ (by decide +kernel)) ggX4_lessons_J6_bitCount_0f7a4
theorem dX4_lessons_0 : decode cX4_lessons 0 = .ok (.aload_n 0, 1) := by decide +kernel
theorem dX4_lessons_1 : decode cX4_lessons 1 = .ok (.iload_n 1, 1) := by decide +kernel
theorem dX4_lessons_2 : decode cX4_lessons 2 = .ok (.invokevirtual 136, 3) := by decide +kernel
theorem dX4_lessons_5 : decode cX4_lessons 5 = .ok (.aload_n 0, 1) := by decide +kernel
theorem dX4_lessons_6 : decode cX4_lessons 6 = .ok (.iload_n 2, 1) := by decide +kernel
theorem dX4_lessons_7 : decode cX4_lessons 7 = .ok (.invokevirtual 118, 3) := by decide +kernel
theorem dX4_lessons_10 : decode cX4_lessons 10 = .ok (.sipush 255, 3) := by decide +kernel
theorem dX4_lessons_13 : decode cX4_lessons 13 = .ok (.aload_n 0, 1) := by decide +kernel
theorem dX4_lessons_14 : decode cX4_lessons 14 = .ok (.getfield 13, 3) := by decide +kernel
theorem dX4_lessons_17 : decode cX4_lessons 17 = .ok (.iload_n 1, 1) := by decide +kernel
theorem dX4_lessons_18 : decode cX4_lessons 18 = .ok (.iaload, 1) := by decide +kernel
theorem dX4_lessons_19 : decode cX4_lessons 19 = .ok (.iconst (-1), 1) := by decide +kernel
theorem dX4_lessons_20 : decode cX4_lessons 20 = .ok (.ixor, 1) := by decide +kernel
theorem dX4_lessons_21 : decode cX4_lessons 21 = .ok (.iand, 1) := by decide +kernel
theorem dX4_lessons_22 : decode cX4_lessons 22 = .ok (.istore_n 3, 1) := by decide +kernel
theorem dX4_lessons_23 : decode cX4_lessons 23 = .ok (.aload_n 0, 1) := by decide +kernel
theorem dX4_lessons_24 : decode cX4_lessons 24 = .ok (.iload_n 2, 1) := by decide +kernel
theorem dX4_lessons_25 : decode cX4_lessons 25 = .ok (.invokevirtual 187, 3) := by decide +kernel
theorem dX4_lessons_28 : decode cX4_lessons 28 = .ok (.aload_n 0, 1) := by decide +kernel
theorem dX4_lessons_29 : decode cX4_lessons 29 = .ok (.getfield 9, 3) := by decide +kernel
theorem dX4_lessons_32 : decode cX4_lessons 32 = .ok (.iload_n 3, 1) := by decide +kernel
theorem dX4_lessons_33 : decode cX4_lessons 33 = .ok (.invokestatic 57, 3) := by decide +kernel
theorem dX4_lessons_36 : decode cX4_lessons 36 = .ok (.invokestatic 141, 3) := by decide +kernel
theorem dX4_lessons_39 : decode cX4_lessons 39 = .ok (.ireturn, 1) := by decide +kernel
set_option maxRecDepth 20000 in
theorem ggX4_credit_X4_checkAuthor : GoodIn wsX4_credit wsX4_checkAuthor := goodIn_ca (goodIn_r _ [6, 7, 8] (by decide +kernel) (by decide +kernel)) (goodIn_sub (fun _ h => List.mem_cons_of_mem _ (List.mem_append_right _ h)) (by decide +kernel))
set_option maxRecDepth 20000 in
theorem gX4_credit_X4_checkAuthor : GoodIn wsX4_credit (wsV RX4 67 RX4 yX4_checkAuthor wsX4_checkAuthor) := goodIn_app (goodIn_of _ (by decide +kernel)) ggX4_credit_X4_checkAuthor
set_option maxRecDepth 20000 in
theorem ggX4_credit_X4_modelsOf : GoodIn wsX4_credit wsX4_modelsOf := goodIn_ca (goodIn_r _ [12, 1, 13, 14, 15, 16, 5, 17, 7, 8, 18, 19, 20, 21, 22, 34, 35, 36, 37, 38, 39, 40, 41, 42, 43, 44, 45, 46, 47, 48] (by decide +kernel) (by decide +kernel)) (goodIn_sub (fun _ h => List.mem_cons_of_mem _ (List.mem_append_right _ h)) (by decide +kernel))
set_option maxRecDepth 20000 in
theorem gX4_credit_X4_modelsOf : GoodIn wsX4_credit (wsV RX4 190 RX4 yX4_modelsOf wsX4_modelsOf) := goodIn_app (goodIn_of _ (by decide +kernel)) ggX4_credit_X4_modelsOf
set_option maxRecDepth 20000 in
theorem ggX4_credit_X4_holds : GoodIn wsX4_credit wsX4_holds := goodIn_r _ [25] (by decide +kernel) (by decide +kernel)
set_option maxRecDepth 20000 in
theorem gX4_credit_X4_holds : GoodIn wsX4_credit (va_wsS RX4 61 yX4_holds wsX4_holds) := goodIn_app (goodIn_of _ (by decide +kernel)) ggX4_credit_X4_holds
set_option maxRecDepth 20000 in
theorem ggX4_credit_X4_modelsCountedFor : GoodIn wsX4_credit wsX4_modelsCountedFor := goodIn_r _ [29, 30, 31, 32, 5, 33, 23, 24, 25, 34, 35, 36, 37, 38, 39, 40, 41] (by decide +kernel) (by decide +kernel)
set_option maxRecDepth 20000 in
theorem gX4_credit_X4_modelsCountedFor : GoodIn wsX4_credit (wsV RX4 121 RX4 yX4_modelsCountedFor wsX4_modelsCountedFor) := goodIn_app (goodIn_of _ (by decide +kernel)) ggX4_credit_X4_modelsCountedFor
theorem dX4_credit_0 : decode cX4_credit 0 = .ok (.aload_n 0, 1) := by decide +kernel
theorem dX4_credit_1 : decode cX4_credit 1 = .ok (.iload_n 1, 1) := by decide +kernel
theorem dX4_credit_2 : decode cX4_credit 2 = .ok (.invokevirtual 67, 3) := by decide +kernel
theorem dX4_credit_5 : decode cX4_credit 5 = .ok (.aload_n 0, 1) := by decide +kernel
theorem dX4_credit_6 : decode cX4_credit 6 = .ok (.iload_n 1, 1) := by decide +kernel
theorem dX4_credit_7 : decode cX4_credit 7 = .ok (.invokevirtual 190, 3) := by decide +kernel
theorem dX4_credit_10 : decode cX4_credit 10 = .ok (.istore_n 2, 1) := by decide +kernel
theorem dX4_credit_11 : decode cX4_credit 11 = .ok (.iconst 0, 1) := by decide +kernel
theorem dX4_credit_12 : decode cX4_credit 12 = .ok (.istore_n 3, 1) := by decide +kernel
theorem dX4_credit_13 : decode cX4_credit 13 = .ok (.iconst 0, 1) := by decide +kernel
theorem dX4_credit_14 : decode cX4_credit 14 = .ok (.istore 4, 2) := by decide +kernel
theorem dX4_credit_16 : decode cX4_credit 16 = .ok (.iload 4, 2) := by decide +kernel
theorem dX4_credit_18 : decode cX4_credit 18 = .ok (.aload_n 0, 1) := by decide +kernel
theorem dX4_credit_19 : decode cX4_credit 19 = .ok (.getfield 25, 3) := by decide +kernel
theorem dX4_credit_22 : decode cX4_credit 22 = .ok (.if_icmp .ge 32, 3) := by decide +kernel
theorem dX4_credit_25 : decode cX4_credit 25 = .ok (.iload_n 2, 1) := by decide +kernel
theorem dX4_credit_26 : decode cX4_credit 26 = .ok (.iload 4, 2) := by decide +kernel
theorem dX4_credit_28 : decode cX4_credit 28 = .ok (.invokestatic 61, 3) := by decide +kernel
theorem dX4_credit_31 : decode cX4_credit 31 = .ok (.ifCond .ne 17, 3) := by decide +kernel
theorem dX4_credit_34 : decode cX4_credit 34 = .ok (.aload_n 0, 1) := by decide +kernel
theorem dX4_credit_35 : decode cX4_credit 35 = .ok (.iload 4, 2) := by decide +kernel
theorem dX4_credit_37 : decode cX4_credit 37 = .ok (.invokevirtual 121, 3) := by decide +kernel
theorem dX4_credit_40 : decode cX4_credit 40 = .ok (.iload_n 2, 1) := by decide +kernel
theorem dX4_credit_41 : decode cX4_credit 41 = .ok (.iand, 1) := by decide +kernel
theorem dX4_credit_42 : decode cX4_credit 42 = .ok (.ifCond .eq 6, 3) := by decide +kernel
theorem dX4_credit_45 : decode cX4_credit 45 = .ok (.iinc 3 1, 3) := by decide +kernel
theorem dX4_credit_48 : decode cX4_credit 48 = .ok (.iinc 4 1, 3) := by decide +kernel
theorem dX4_credit_51 : decode cX4_credit 51 = .ok (.goto (-35), 3) := by decide +kernel
theorem dX4_credit_54 : decode cX4_credit 54 = .ok (.iload_n 3, 1) := by decide +kernel
theorem dX4_credit_55 : decode cX4_credit 55 = .ok (.ireturn, 1) := by decide +kernel
set_option maxRecDepth 20000 in
theorem ggX4_fewestPieces_X1_fewestForRoll : GoodIn wsX4_fewestPieces wsX1_fewestForRoll := goodIn_r _ [6, 7, 8, 9, 10, 11, 5, 12, 13, 14, 15, 16, 17, 18, 19, 20, 21, 22, 23, 24, 33, 34, 35, 36] (by decide +kernel) (by decide +kernel)
set_option maxRecDepth 20000 in
theorem gX4_fewestPieces_X1_fewestForRoll : GoodIn wsX4_fewestPieces (wsV RX4 193 RX1 yX1_fewestForRoll wsX1_fewestForRoll) := goodIn_app (goodIn_of _ (by decide +kernel)) ggX4_fewestPieces_X1_fewestForRoll
theorem dX4_fewestPieces_0 : decode cX4_fewestPieces 0 = .ok (.aload_n 0, 1) := by decide +kernel
theorem dX4_fewestPieces_1 : decode cX4_fewestPieces 1 = .ok (.getfield 42, 3) := by decide +kernel
theorem dX4_fewestPieces_4 : decode cX4_fewestPieces 4 = .ok (.invokevirtual 193, 3) := by decide +kernel
theorem dX4_fewestPieces_7 : decode cX4_fewestPieces 7 = .ok (.ireturn, 1) := by decide +kernel
set_option maxRecDepth 20000 in
theorem ggX4_ways_X1_waysForRoll : GoodIn wsX4_ways wsX1_waysForRoll := goodIn_r _ [6, 7, 8, 9, 10, 11, 5, 12, 13, 14, 15, 16, 17, 18, 19, 20, 21, 30, 31, 32, 33] (by decide +kernel) (by decide +kernel)
set_option maxRecDepth 20000 in
theorem gX4_ways_X1_waysForRoll : GoodIn wsX4_ways (wsV RX4 196 RX1 yX1_waysForRoll wsX1_waysForRoll) := goodIn_app (goodIn_of _ (by decide +kernel)) ggX4_ways_X1_waysForRoll
theorem dX4_ways_0 : decode cX4_ways 0 = .ok (.aload_n 0, 1) := by decide +kernel
theorem dX4_ways_1 : decode cX4_ways 1 = .ok (.getfield 42, 3) := by decide +kernel
theorem dX4_ways_4 : decode cX4_ways 4 = .ok (.invokevirtual 196, 3) := by decide +kernel
theorem dX4_ways_7 : decode cX4_ways 7 = .ok (.ireturn, 1) := by decide +kernel
set_option maxRecDepth 20000 in
theorem ggX4_leastRest_X1_restOfRoll : GoodIn wsX4_leastRest wsX1_restOfRoll := goodIn_r _ [6, 7, 8, 9, 10, 11, 5, 12, 13, 14, 15, 16, 17, 18, 19, 20, 21, 22, 23, 24, 33, 34, 35, 36] (by decide +kernel) (by decide +kernel)
set_option maxRecDepth 20000 in
theorem gX4_leastRest_X1_restOfRoll : GoodIn wsX4_leastRest (wsV RX4 199 RX1 yX1_restOfRoll wsX1_restOfRoll) := goodIn_app (goodIn_of _ (by decide +kernel)) ggX4_leastRest_X1_restOfRoll
theorem dX4_leastRest_0 : decode cX4_leastRest 0 = .ok (.aload_n 0, 1) := by decide +kernel
theorem dX4_leastRest_1 : decode cX4_leastRest 1 = .ok (.getfield 42, 3) := by decide +kernel
theorem dX4_leastRest_4 : decode cX4_leastRest 4 = .ok (.invokevirtual 199, 3) := by decide +kernel
theorem dX4_leastRest_7 : decode cX4_leastRest 7 = .ok (.ireturn, 1) := by decide +kernel
theorem dX4_checkKind_0 : decode cX4_checkKind 0 = .ok (.iload_n 1, 1) := by decide +kernel
theorem dX4_checkKind_1 : decode cX4_checkKind 1 = .ok (.ifCond .lt 9, 3) := by decide +kernel
theorem dX4_checkKind_4 : decode cX4_checkKind 4 = .ok (.iload_n 1, 1) := by decide +kernel
theorem dX4_checkKind_5 : decode cX4_checkKind 5 = .ok (.bipush 8, 2) := by decide +kernel
theorem dX4_checkKind_7 : decode cX4_checkKind 7 = .ok (.if_icmp .lt 13, 3) := by decide +kernel
theorem dX4_checkKind_10 : decode cX4_checkKind 10 = .ok (.new 149, 3) := by decide +kernel
theorem dX4_checkKind_13 : decode cX4_checkKind 13 = .ok (.dup, 1) := by decide +kernel
theorem dX4_checkKind_14 : decode cX4_checkKind 14 = .ok (.ldc 202, 2) := by decide +kernel
theorem dX4_checkKind_16 : decode cX4_checkKind 16 = .ok (.invokespecial 153, 3) := by decide +kernel
theorem dX4_checkKind_19 : decode cX4_checkKind 19 = .ok (.athrow, 1) := by decide +kernel
theorem dX4_checkKind_20 : decode cX4_checkKind 20 = .ok (.return_, 1) := by decide +kernel
theorem dX4_checkAuthor_0 : decode cX4_checkAuthor 0 = .ok (.iload_n 1, 1) := by decide +kernel
theorem dX4_checkAuthor_1 : decode cX4_checkAuthor 1 = .ok (.ifCond .lt 9, 3) := by decide +kernel
theorem dX4_checkAuthor_4 : decode cX4_checkAuthor 4 = .ok (.iload_n 1, 1) := by decide +kernel
theorem dX4_checkAuthor_5 : decode cX4_checkAuthor 5 = .ok (.bipush 10, 2) := by decide +kernel
theorem dX4_checkAuthor_7 : decode cX4_checkAuthor 7 = .ok (.if_icmp .lt 13, 3) := by decide +kernel
theorem dX4_checkAuthor_10 : decode cX4_checkAuthor 10 = .ok (.new 149, 3) := by decide +kernel
theorem dX4_checkAuthor_13 : decode cX4_checkAuthor 13 = .ok (.dup, 1) := by decide +kernel
theorem dX4_checkAuthor_14 : decode cX4_checkAuthor 14 = .ok (.ldc 204, 2) := by decide +kernel
theorem dX4_checkAuthor_16 : decode cX4_checkAuthor 16 = .ok (.invokespecial 153, 3) := by decide +kernel
theorem dX4_checkAuthor_19 : decode cX4_checkAuthor 19 = .ok (.athrow, 1) := by decide +kernel
theorem dX4_checkAuthor_20 : decode cX4_checkAuthor 20 = .ok (.return_, 1) := by decide +kernel
theorem dX4_checkPupil_0 : decode cX4_checkPupil 0 = .ok (.iload_n 1, 1) := by decide +kernel
theorem dX4_checkPupil_1 : decode cX4_checkPupil 1 = .ok (.ifCond .lt 9, 3) := by decide +kernel
theorem dX4_checkPupil_4 : decode cX4_checkPupil 4 = .ok (.iload_n 1, 1) := by decide +kernel
theorem dX4_checkPupil_5 : decode cX4_checkPupil 5 = .ok (.bipush 6, 2) := by decide +kernel
theorem dX4_checkPupil_7 : decode cX4_checkPupil 7 = .ok (.if_icmp .lt 13, 3) := by decide +kernel
theorem dX4_checkPupil_10 : decode cX4_checkPupil 10 = .ok (.new 149, 3) := by decide +kernel
theorem dX4_checkPupil_13 : decode cX4_checkPupil 13 = .ok (.dup, 1) := by decide +kernel
theorem dX4_checkPupil_14 : decode cX4_checkPupil 14 = .ok (.ldc 206, 2) := by decide +kernel
theorem dX4_checkPupil_16 : decode cX4_checkPupil 16 = .ok (.invokespecial 153, 3) := by decide +kernel
theorem dX4_checkPupil_19 : decode cX4_checkPupil 19 = .ok (.athrow, 1) := by decide +kernel
theorem dX4_checkPupil_20 : decode cX4_checkPupil 20 = .ok (.return_, 1) := by decide +kernel
theorem dX4_checkModel_0 : decode cX4_checkModel 0 = .ok (.iload_n 1, 1) := by decide +kernel
theorem dX4_checkModel_1 : decode cX4_checkModel 1 = .ok (.ifCond .lt 11, 3) := by decide +kernel
theorem dX4_checkModel_4 : decode cX4_checkModel 4 = .ok (.iload_n 1, 1) := by decide +kernel
theorem dX4_checkModel_5 : decode cX4_checkModel 5 = .ok (.aload_n 0, 1) := by decide +kernel
theorem dX4_checkModel_6 : decode cX4_checkModel 6 = .ok (.getfield 25, 3) := by decide +kernel
theorem dX4_checkModel_9 : decode cX4_checkModel 9 = .ok (.if_icmp .lt 13, 3) := by decide +kernel
theorem dX4_checkModel_12 : decode cX4_checkModel 12 = .ok (.new 149, 3) := by decide +kernel
theorem dX4_checkModel_15 : decode cX4_checkModel 15 = .ok (.dup, 1) := by decide +kernel
theorem dX4_checkModel_16 : decode cX4_checkModel 16 = .ok (.ldc 208, 2) := by decide +kernel
theorem dX4_checkModel_18 : decode cX4_checkModel 18 = .ok (.invokespecial 153, 3) := by decide +kernel
theorem dX4_checkModel_21 : decode cX4_checkModel 21 = .ok (.athrow, 1) := by decide +kernel
theorem dX4_checkModel_22 : decode cX4_checkModel 22 = .ok (.return_, 1) := by decide +kernel
theorem dX4_checkCell_0 : decode cX4_checkCell 0 = .ok (.iload_n 2, 1) := by decide +kernel
theorem dX4_checkCell_1 : decode cX4_checkCell 1 = .ok (.ifCond .lt 11, 3) := by decide +kernel
theorem dX4_checkCell_4 : decode cX4_checkCell 4 = .ok (.iload_n 2, 1) := by decide +kernel
theorem dX4_checkCell_5 : decode cX4_checkCell 5 = .ok (.aload_n 1, 1) := by decide +kernel
theorem dX4_checkCell_6 : decode cX4_checkCell 6 = .ok (.getfield 177, 3) := by decide +kernel
theorem dX4_checkCell_9 : decode cX4_checkCell 9 = .ok (.if_icmp .lt 13, 3) := by decide +kernel
theorem dX4_checkCell_12 : decode cX4_checkCell 12 = .ok (.new 149, 3) := by decide +kernel
theorem dX4_checkCell_15 : decode cX4_checkCell 15 = .ok (.dup, 1) := by decide +kernel
theorem dX4_checkCell_16 : decode cX4_checkCell 16 = .ok (.ldc 210, 2) := by decide +kernel
theorem dX4_checkCell_18 : decode cX4_checkCell 18 = .ok (.invokespecial 153, 3) := by decide +kernel
theorem dX4_checkCell_21 : decode cX4_checkCell 21 = .ok (.athrow, 1) := by decide +kernel
theorem dX4_checkCell_22 : decode cX4_checkCell 22 = .ok (.return_, 1) := by decide +kernel
set_option maxRecDepth 20000 in
theorem ggX4_modelAt_X4_checkModel : GoodIn wsX4_modelAt wsX4_checkModel := goodIn_ca (goodIn_r _ [8, 1, 2, 9, 10, 11, 12, 13, 14, 15, 16, 17] (by decide +kernel) (by decide +kernel)) (goodIn_sub (fun _ h => List.mem_cons_of_mem _ (List.mem_append_right _ h)) (by decide +kernel))
set_option maxRecDepth 20000 in
theorem gX4_modelAt_X4_checkModel : GoodIn wsX4_modelAt (wsV RX4 118 RX4 yX4_checkModel wsX4_checkModel) := goodIn_app (goodIn_of _ (by decide +kernel)) ggX4_modelAt_X4_checkModel
theorem dX4_modelAt_0 : decode cX4_modelAt 0 = .ok (.aload_n 0, 1) := by decide +kernel
theorem dX4_modelAt_1 : decode cX4_modelAt 1 = .ok (.iload_n 1, 1) := by decide +kernel
theorem dX4_modelAt_2 : decode cX4_modelAt 2 = .ok (.invokevirtual 118, 3) := by decide +kernel
theorem dX4_modelAt_5 : decode cX4_modelAt 5 = .ok (.aload_n 0, 1) := by decide +kernel
theorem dX4_modelAt_6 : decode cX4_modelAt 6 = .ok (.getfield 18, 3) := by decide +kernel
theorem dX4_modelAt_9 : decode cX4_modelAt 9 = .ok (.iload_n 1, 1) := by decide +kernel
theorem dX4_modelAt_10 : decode cX4_modelAt 10 = .ok (.aaload, 1) := by decide +kernel
theorem dX4_modelAt_11 : decode cX4_modelAt 11 = .ok (.astore_n 2, 1) := by decide +kernel
theorem dX4_modelAt_12 : decode cX4_modelAt 12 = .ok (.aload_n 2, 1) := by decide +kernel
theorem dX4_modelAt_13 : decode cX4_modelAt 13 = .ok (.ifnonnull 13, 3) := by decide +kernel
theorem dX4_modelAt_16 : decode cX4_modelAt 16 = .ok (.new 149, 3) := by decide +kernel
theorem dX4_modelAt_19 : decode cX4_modelAt 19 = .ok (.dup, 1) := by decide +kernel
theorem dX4_modelAt_20 : decode cX4_modelAt 20 = .ok (.ldc 208, 2) := by decide +kernel
theorem dX4_modelAt_22 : decode cX4_modelAt 22 = .ok (.invokespecial 153, 3) := by decide +kernel
theorem dX4_modelAt_25 : decode cX4_modelAt 25 = .ok (.athrow, 1) := by decide +kernel
theorem dX4_modelAt_26 : decode cX4_modelAt 26 = .ok (.aload_n 2, 1) := by decide +kernel
theorem dX4_modelAt_27 : decode cX4_modelAt 27 = .ok (.areturn, 1) := by decide +kernel
set_option maxRecDepth 20000 in
theorem ggX4_modelsOf_X4_modelAt : GoodIn wsX4_modelsOf wsX4_modelAt := goodIn_ca (goodIn_r _ [7, 8, 9, 10, 11, 12, 13, 6, 14, 1, 15, 16, 17, 18, 19, 20, 21, 22] (by decide +kernel) (by decide +kernel)) (goodIn_sub (fun _ h => List.mem_cons_of_mem _ (List.mem_append_right _ h)) (by decide +kernel))
set_option maxRecDepth 20000 in
theorem gX4_modelsOf_X4_modelAt : GoodIn wsX4_modelsOf (wsV RX4 80 RX4 yX4_modelAt wsX4_modelAt) := goodIn_app (goodIn_of _ (by decide +kernel)) ggX4_modelsOf_X4_modelAt
theorem dX4_modelsOf_0 : decode cX4_modelsOf 0 = .ok (.iconst 0, 1) := by decide +kernel
theorem dX4_modelsOf_1 : decode cX4_modelsOf 1 = .ok (.istore_n 2, 1) := by decide +kernel
theorem dX4_modelsOf_2 : decode cX4_modelsOf 2 = .ok (.iconst 0, 1) := by decide +kernel
theorem dX4_modelsOf_3 : decode cX4_modelsOf 3 = .ok (.istore_n 3, 1) := by decide +kernel
theorem dX4_modelsOf_4 : decode cX4_modelsOf 4 = .ok (.iload_n 3, 1) := by decide +kernel
theorem dX4_modelsOf_5 : decode cX4_modelsOf 5 = .ok (.aload_n 0, 1) := by decide +kernel
theorem dX4_modelsOf_6 : decode cX4_modelsOf 6 = .ok (.getfield 25, 3) := by decide +kernel
theorem dX4_modelsOf_9 : decode cX4_modelsOf 9 = .ok (.if_icmp .ge 27, 3) := by decide +kernel
theorem dX4_modelsOf_12 : decode cX4_modelsOf 12 = .ok (.aload_n 0, 1) := by decide +kernel
theorem dX4_modelsOf_13 : decode cX4_modelsOf 13 = .ok (.iload_n 3, 1) := by decide +kernel
theorem dX4_modelsOf_14 : decode cX4_modelsOf 14 = .ok (.invokevirtual 80, 3) := by decide +kernel
theorem dX4_modelsOf_17 : decode cX4_modelsOf 17 = .ok (.getfield 212, 3) := by decide +kernel
theorem dX4_modelsOf_20 : decode cX4_modelsOf 20 = .ok (.iload_n 1, 1) := by decide +kernel
theorem dX4_modelsOf_21 : decode cX4_modelsOf 21 = .ok (.if_icmp .ne 9, 3) := by decide +kernel
theorem dX4_modelsOf_24 : decode cX4_modelsOf 24 = .ok (.iload_n 2, 1) := by decide +kernel
theorem dX4_modelsOf_25 : decode cX4_modelsOf 25 = .ok (.iconst 1, 1) := by decide +kernel
theorem dX4_modelsOf_26 : decode cX4_modelsOf 26 = .ok (.iload_n 3, 1) := by decide +kernel
theorem dX4_modelsOf_27 : decode cX4_modelsOf 27 = .ok (.ishl, 1) := by decide +kernel
theorem dX4_modelsOf_28 : decode cX4_modelsOf 28 = .ok (.ior, 1) := by decide +kernel
theorem dX4_modelsOf_29 : decode cX4_modelsOf 29 = .ok (.istore_n 2, 1) := by decide +kernel
theorem dX4_modelsOf_30 : decode cX4_modelsOf 30 = .ok (.iinc 3 1, 3) := by decide +kernel
theorem dX4_modelsOf_33 : decode cX4_modelsOf 33 = .ok (.goto (-29), 3) := by decide +kernel
theorem dX4_modelsOf_36 : decode cX4_modelsOf 36 = .ok (.iload_n 2, 1) := by decide +kernel
theorem dX4_modelsOf_37 : decode cX4_modelsOf 37 = .ok (.ireturn, 1) := by decide +kernel
set_option maxRecDepth 20000 in
theorem ggX4_modelsCountedFor_X4_reached : GoodIn wsX4_modelsCountedFor wsX4_reached := goodIn_r _ [5, 6, 7, 4, 8] (by decide +kernel) (by decide +kernel)
set_option maxRecDepth 20000 in
theorem gX4_modelsCountedFor_X4_reached : GoodIn wsX4_modelsCountedFor (va_wsS RX4 57 yX4_reached wsX4_reached) := goodIn_app (goodIn_of _ (by decide +kernel)) ggX4_modelsCountedFor_X4_reached
theorem dX4_modelsCountedFor_0 : decode cX4_modelsCountedFor 0 = .ok (.iconst 1, 1) := by decide +kernel
theorem dX4_modelsCountedFor_1 : decode cX4_modelsCountedFor 1 = .ok (.iload_n 1, 1) := by decide +kernel
theorem dX4_modelsCountedFor_2 : decode cX4_modelsCountedFor 2 = .ok (.ishl, 1) := by decide +kernel
theorem dX4_modelsCountedFor_3 : decode cX4_modelsCountedFor 3 = .ok (.aload_n 0, 1) := by decide +kernel
theorem dX4_modelsCountedFor_4 : decode cX4_modelsCountedFor 4 = .ok (.getfield 22, 3) := by decide +kernel
theorem dX4_modelsCountedFor_7 : decode cX4_modelsCountedFor 7 = .ok (.iconst (-1), 1) := by decide +kernel
theorem dX4_modelsCountedFor_8 : decode cX4_modelsCountedFor 8 = .ok (.invokestatic 57, 3) := by decide +kernel
theorem dX4_modelsCountedFor_11 : decode cX4_modelsCountedFor 11 = .ok (.ireturn, 1) := by decide +kernel
set_option maxRecDepth 20000 in
theorem ggX4_kindsCountedFor_X4_modelsCountedFor : GoodIn wsX4_kindsCountedFor wsX4_modelsCountedFor := goodIn_r _ [6, 7, 8, 9, 5, 10, 11, 12, 13, 32, 33, 34, 35, 36, 37, 38, 39] (by decide +kernel) (by decide +kernel)
set_option maxRecDepth 20000 in
theorem gX4_kindsCountedFor_X4_modelsCountedFor : GoodIn wsX4_kindsCountedFor (wsV RX4 121 RX4 yX4_modelsCountedFor wsX4_modelsCountedFor) := goodIn_app (goodIn_of _ (by decide +kernel)) ggX4_kindsCountedFor_X4_modelsCountedFor
set_option maxRecDepth 20000 in
theorem ggX4_kindsCountedFor_X4_holds : GoodIn wsX4_kindsCountedFor wsX4_holds := goodIn_r _ [13] (by decide +kernel) (by decide +kernel)
set_option maxRecDepth 20000 in
theorem gX4_kindsCountedFor_X4_holds : GoodIn wsX4_kindsCountedFor (va_wsS RX4 61 yX4_holds wsX4_holds) := goodIn_app (goodIn_of _ (by decide +kernel)) ggX4_kindsCountedFor_X4_holds
set_option maxRecDepth 20000 in
theorem ggX4_kindsCountedFor_X4_modelAt : GoodIn wsX4_kindsCountedFor wsX4_modelAt := goodIn_ca (goodIn_r _ [17, 18, 19, 20, 21, 22, 23, 5, 24, 1, 32, 33, 34, 35, 36, 37, 38, 39] (by decide +kernel) (by decide +kernel)) (goodIn_sub (fun _ h => List.mem_cons_of_mem _ (List.mem_append_right _ h)) (by decide +kernel))
set_option maxRecDepth 20000 in
theorem gX4_kindsCountedFor_X4_modelAt : GoodIn wsX4_kindsCountedFor (wsV RX4 80 RX4 yX4_modelAt wsX4_modelAt) := goodIn_app (goodIn_of _ (by decide +kernel)) ggX4_kindsCountedFor_X4_modelAt
set_option maxRecDepth 20000 in
theorem ggX4_kindsCountedFor_X2_ownKinds : GoodIn wsX4_kindsCountedFor wsX2_ownKinds := goodIn_r _ [29, 30, 31, 40, 41, 42, 43, 44, 45, 46] (by decide +kernel) (by decide +kernel)
set_option maxRecDepth 20000 in
theorem gX4_kindsCountedFor_X2_ownKinds : GoodIn wsX4_kindsCountedFor (wsV RX4 100 RX2 yX2_ownKinds wsX2_ownKinds) := goodIn_app (goodIn_of _ (by decide +kernel)) ggX4_kindsCountedFor_X2_ownKinds
theorem dX4_kindsCountedFor_0 : decode cX4_kindsCountedFor 0 = .ok (.aload_n 0, 1) := by decide +kernel
theorem dX4_kindsCountedFor_1 : decode cX4_kindsCountedFor 1 = .ok (.iload_n 1, 1) := by decide +kernel
theorem dX4_kindsCountedFor_2 : decode cX4_kindsCountedFor 2 = .ok (.invokevirtual 121, 3) := by decide +kernel
theorem dX4_kindsCountedFor_5 : decode cX4_kindsCountedFor 5 = .ok (.istore_n 2, 1) := by decide +kernel
theorem dX4_kindsCountedFor_6 : decode cX4_kindsCountedFor 6 = .ok (.iconst 0, 1) := by decide +kernel
theorem dX4_kindsCountedFor_7 : decode cX4_kindsCountedFor 7 = .ok (.istore_n 3, 1) := by decide +kernel
theorem dX4_kindsCountedFor_8 : decode cX4_kindsCountedFor 8 = .ok (.iconst 0, 1) := by decide +kernel
theorem dX4_kindsCountedFor_9 : decode cX4_kindsCountedFor 9 = .ok (.istore 4, 2) := by decide +kernel
theorem dX4_kindsCountedFor_11 : decode cX4_kindsCountedFor 11 = .ok (.iload 4, 2) := by decide +kernel
theorem dX4_kindsCountedFor_13 : decode cX4_kindsCountedFor 13 = .ok (.aload_n 0, 1) := by decide +kernel
theorem dX4_kindsCountedFor_14 : decode cX4_kindsCountedFor 14 = .ok (.getfield 25, 3) := by decide +kernel
theorem dX4_kindsCountedFor_17 : decode cX4_kindsCountedFor 17 = .ok (.if_icmp .ge 30, 3) := by decide +kernel
theorem dX4_kindsCountedFor_20 : decode cX4_kindsCountedFor 20 = .ok (.iload_n 2, 1) := by decide +kernel
theorem dX4_kindsCountedFor_21 : decode cX4_kindsCountedFor 21 = .ok (.iload 4, 2) := by decide +kernel
theorem dX4_kindsCountedFor_23 : decode cX4_kindsCountedFor 23 = .ok (.invokestatic 61, 3) := by decide +kernel
theorem dX4_kindsCountedFor_26 : decode cX4_kindsCountedFor 26 = .ok (.ifCond .eq 15, 3) := by decide +kernel
theorem dX4_kindsCountedFor_29 : decode cX4_kindsCountedFor 29 = .ok (.iload_n 3, 1) := by decide +kernel
theorem dX4_kindsCountedFor_30 : decode cX4_kindsCountedFor 30 = .ok (.aload_n 0, 1) := by decide +kernel
theorem dX4_kindsCountedFor_31 : decode cX4_kindsCountedFor 31 = .ok (.iload 4, 2) := by decide +kernel
theorem dX4_kindsCountedFor_33 : decode cX4_kindsCountedFor 33 = .ok (.invokevirtual 80, 3) := by decide +kernel
theorem dX4_kindsCountedFor_36 : decode cX4_kindsCountedFor 36 = .ok (.invokevirtual 100, 3) := by decide +kernel
theorem dX4_kindsCountedFor_39 : decode cX4_kindsCountedFor 39 = .ok (.ior, 1) := by decide +kernel
theorem dX4_kindsCountedFor_40 : decode cX4_kindsCountedFor 40 = .ok (.istore_n 3, 1) := by decide +kernel
theorem dX4_kindsCountedFor_41 : decode cX4_kindsCountedFor 41 = .ok (.iinc 4 1, 3) := by decide +kernel
theorem dX4_kindsCountedFor_44 : decode cX4_kindsCountedFor 44 = .ok (.goto (-33), 3) := by decide +kernel
theorem dX4_kindsCountedFor_47 : decode cX4_kindsCountedFor 47 = .ok (.iload_n 3, 1) := by decide +kernel
theorem dX4_kindsCountedFor_48 : decode cX4_kindsCountedFor 48 = .ok (.ireturn, 1) := by decide +kernel
theorem dX4_holds_0 : decode cX4_holds 0 = .ok (.iload_n 0, 1) := by decide +kernel
theorem dX4_holds_1 : decode cX4_holds 1 = .ok (.iload_n 1, 1) := by decide +kernel
theorem dX4_holds_2 : decode cX4_holds 2 = .ok (.ishr, 1) := by decide +kernel
theorem dX4_holds_3 : decode cX4_holds 3 = .ok (.iconst 1, 1) := by decide +kernel
theorem dX4_holds_4 : decode cX4_holds 4 = .ok (.iand, 1) := by decide +kernel
theorem dX4_holds_5 : decode cX4_holds 5 = .ok (.ifCond .eq 7, 3) := by decide +kernel
theorem dX4_holds_8 : decode cX4_holds 8 = .ok (.iconst 1, 1) := by decide +kernel
theorem dX4_holds_9 : decode cX4_holds 9 = .ok (.goto 4, 3) := by decide +kernel
theorem dX4_holds_12 : decode cX4_holds 12 = .ok (.iconst 0, 1) := by decide +kernel
theorem dX4_holds_13 : decode cX4_holds 13 = .ok (.ireturn, 1) := by decide +kernel
theorem dX4_lacksAny_0 : decode cX4_lacksAny 0 = .ok (.iload_n 1, 1) := by decide +kernel
theorem dX4_lacksAny_1 : decode cX4_lacksAny 1 = .ok (.iload_n 0, 1) := by decide +kernel
theorem dX4_lacksAny_2 : decode cX4_lacksAny 2 = .ok (.iconst (-1), 1) := by decide +kernel
theorem dX4_lacksAny_3 : decode cX4_lacksAny 3 = .ok (.ixor, 1) := by decide +kernel
theorem dX4_lacksAny_4 : decode cX4_lacksAny 4 = .ok (.iand, 1) := by decide +kernel
theorem dX4_lacksAny_5 : decode cX4_lacksAny 5 = .ok (.ifCond .eq 7, 3) := by decide +kernel
theorem dX4_lacksAny_8 : decode cX4_lacksAny 8 = .ok (.iconst 1, 1) := by decide +kernel
theorem dX4_lacksAny_9 : decode cX4_lacksAny 9 = .ok (.goto 4, 3) := by decide +kernel
theorem dX4_lacksAny_12 : decode cX4_lacksAny 12 = .ok (.iconst 0, 1) := by decide +kernel
theorem dX4_lacksAny_13 : decode cX4_lacksAny 13 = .ok (.ireturn, 1) := by decide +kernel
set_option maxRecDepth 20000 in
theorem ggX4_reached_X4_holds : GoodIn wsX4_reached wsX4_holds := goodIn_r _ [4] (by decide +kernel) (by decide +kernel)
set_option maxRecDepth 20000 in
theorem gX4_reached_X4_holds : GoodIn wsX4_reached (va_wsS RX4 61 yX4_holds wsX4_holds) := goodIn_app (goodIn_of _ (by decide +kernel)) ggX4_reached_X4_holds
theorem dX4_reached_0 : decode cX4_reached 0 = .ok (.iload_n 0, 1) := by decide +kernel
theorem dX4_reached_1 : decode cX4_reached 1 = .ok (.iload_n 2, 1) := by decide +kernel
theorem dX4_reached_2 : decode cX4_reached 2 = .ok (.iand, 1) := by decide +kernel
theorem dX4_reached_3 : decode cX4_reached 3 = .ok (.istore_n 3, 1) := by decide +kernel
theorem dX4_reached_4 : decode cX4_reached 4 = .ok (.iconst 0, 1) := by decide +kernel
theorem dX4_reached_5 : decode cX4_reached 5 = .ok (.istore 4, 2) := by decide +kernel
theorem dX4_reached_7 : decode cX4_reached 7 = .ok (.iload 4, 2) := by decide +kernel
theorem dX4_reached_9 : decode cX4_reached 9 = .ok (.aload_n 1, 1) := by decide +kernel
theorem dX4_reached_10 : decode cX4_reached 10 = .ok (.arraylength, 1) := by decide +kernel
theorem dX4_reached_11 : decode cX4_reached 11 = .ok (.if_icmp .ge 43, 3) := by decide +kernel
theorem dX4_reached_14 : decode cX4_reached 14 = .ok (.iconst 0, 1) := by decide +kernel
theorem dX4_reached_15 : decode cX4_reached 15 = .ok (.istore 5, 2) := by decide +kernel
theorem dX4_reached_17 : decode cX4_reached 17 = .ok (.iload 5, 2) := by decide +kernel
theorem dX4_reached_19 : decode cX4_reached 19 = .ok (.aload_n 1, 1) := by decide +kernel
theorem dX4_reached_20 : decode cX4_reached 20 = .ok (.arraylength, 1) := by decide +kernel
theorem dX4_reached_21 : decode cX4_reached 21 = .ok (.if_icmp .ge 27, 3) := by decide +kernel
theorem dX4_reached_24 : decode cX4_reached 24 = .ok (.iload_n 3, 1) := by decide +kernel
theorem dX4_reached_25 : decode cX4_reached 25 = .ok (.iload 5, 2) := by decide +kernel
theorem dX4_reached_27 : decode cX4_reached 27 = .ok (.invokestatic 61, 3) := by decide +kernel
theorem dX4_reached_30 : decode cX4_reached 30 = .ok (.ifCond .eq 12, 3) := by decide +kernel
theorem dX4_reached_33 : decode cX4_reached 33 = .ok (.iload_n 3, 1) := by decide +kernel
theorem dX4_reached_34 : decode cX4_reached 34 = .ok (.aload_n 1, 1) := by decide +kernel
theorem dX4_reached_35 : decode cX4_reached 35 = .ok (.iload 5, 2) := by decide +kernel
theorem dX4_reached_37 : decode cX4_reached 37 = .ok (.iaload, 1) := by decide +kernel
theorem dX4_reached_38 : decode cX4_reached 38 = .ok (.iload_n 2, 1) := by decide +kernel
theorem dX4_reached_39 : decode cX4_reached 39 = .ok (.iand, 1) := by decide +kernel
theorem dX4_reached_40 : decode cX4_reached 40 = .ok (.ior, 1) := by decide +kernel
theorem dX4_reached_41 : decode cX4_reached 41 = .ok (.istore_n 3, 1) := by decide +kernel
theorem dX4_reached_42 : decode cX4_reached 42 = .ok (.iinc 5 1, 3) := by decide +kernel
theorem dX4_reached_45 : decode cX4_reached 45 = .ok (.goto (-28), 3) := by decide +kernel
theorem dX4_reached_48 : decode cX4_reached 48 = .ok (.iinc 4 1, 3) := by decide +kernel
theorem dX4_reached_51 : decode cX4_reached 51 = .ok (.goto (-44), 3) := by decide +kernel
theorem dX4_reached_54 : decode cX4_reached 54 = .ok (.iload_n 3, 1) := by decide +kernel
theorem dX4_reached_55 : decode cX4_reached 55 = .ok (.ireturn, 1) := by decide +kernel
theorem dJ6_bitCount_0f7a4_0 : decode cJ6_bitCount_0f7a4 0 = .ok (.iload_n 0, 1) := by decide +kernel
theorem dJ6_bitCount_0f7a4_1 : decode cJ6_bitCount_0f7a4 1 = .ok (.iload_n 0, 1) := by decide +kernel
theorem dJ6_bitCount_0f7a4_2 : decode cJ6_bitCount_0f7a4 2 = .ok (.iconst 1, 1) := by decide +kernel
theorem dJ6_bitCount_0f7a4_3 : decode cJ6_bitCount_0f7a4 3 = .ok (.iushr, 1) := by decide +kernel
theorem dJ6_bitCount_0f7a4_4 : decode cJ6_bitCount_0f7a4 4 = .ok (.ldc_w 265, 3) := by decide +kernel
theorem dJ6_bitCount_0f7a4_7 : decode cJ6_bitCount_0f7a4 7 = .ok (.iand, 1) := by decide +kernel
theorem dJ6_bitCount_0f7a4_8 : decode cJ6_bitCount_0f7a4 8 = .ok (.isub, 1) := by decide +kernel
theorem dJ6_bitCount_0f7a4_9 : decode cJ6_bitCount_0f7a4 9 = .ok (.istore_n 0, 1) := by decide +kernel
theorem dJ6_bitCount_0f7a4_10 : decode cJ6_bitCount_0f7a4 10 = .ok (.iload_n 0, 1) := by decide +kernel
theorem dJ6_bitCount_0f7a4_11 : decode cJ6_bitCount_0f7a4 11 = .ok (.ldc_w 266, 3) := by decide +kernel
theorem dJ6_bitCount_0f7a4_14 : decode cJ6_bitCount_0f7a4 14 = .ok (.iand, 1) := by decide +kernel
theorem dJ6_bitCount_0f7a4_15 : decode cJ6_bitCount_0f7a4 15 = .ok (.iload_n 0, 1) := by decide +kernel
theorem dJ6_bitCount_0f7a4_16 : decode cJ6_bitCount_0f7a4 16 = .ok (.iconst 2, 1) := by decide +kernel
theorem dJ6_bitCount_0f7a4_17 : decode cJ6_bitCount_0f7a4 17 = .ok (.iushr, 1) := by decide +kernel
theorem dJ6_bitCount_0f7a4_18 : decode cJ6_bitCount_0f7a4 18 = .ok (.ldc_w 266, 3) := by decide +kernel
theorem dJ6_bitCount_0f7a4_21 : decode cJ6_bitCount_0f7a4 21 = .ok (.iand, 1) := by decide +kernel
theorem dJ6_bitCount_0f7a4_22 : decode cJ6_bitCount_0f7a4 22 = .ok (.iadd, 1) := by decide +kernel
theorem dJ6_bitCount_0f7a4_23 : decode cJ6_bitCount_0f7a4 23 = .ok (.istore_n 0, 1) := by decide +kernel
theorem dJ6_bitCount_0f7a4_24 : decode cJ6_bitCount_0f7a4 24 = .ok (.iload_n 0, 1) := by decide +kernel
theorem dJ6_bitCount_0f7a4_25 : decode cJ6_bitCount_0f7a4 25 = .ok (.iload_n 0, 1) := by decide +kernel
theorem dJ6_bitCount_0f7a4_26 : decode cJ6_bitCount_0f7a4 26 = .ok (.iconst 4, 1) := by decide +kernel
theorem dJ6_bitCount_0f7a4_27 : decode cJ6_bitCount_0f7a4 27 = .ok (.iushr, 1) := by decide +kernel
theorem dJ6_bitCount_0f7a4_28 : decode cJ6_bitCount_0f7a4 28 = .ok (.iadd, 1) := by decide +kernel
theorem dJ6_bitCount_0f7a4_29 : decode cJ6_bitCount_0f7a4 29 = .ok (.ldc_w 267, 3) := by decide +kernel
theorem dJ6_bitCount_0f7a4_32 : decode cJ6_bitCount_0f7a4 32 = .ok (.iand, 1) := by decide +kernel
theorem dJ6_bitCount_0f7a4_33 : decode cJ6_bitCount_0f7a4 33 = .ok (.istore_n 0, 1) := by decide +kernel
theorem dJ6_bitCount_0f7a4_34 : decode cJ6_bitCount_0f7a4 34 = .ok (.iload_n 0, 1) := by decide +kernel
theorem dJ6_bitCount_0f7a4_35 : decode cJ6_bitCount_0f7a4 35 = .ok (.iload_n 0, 1) := by decide +kernel
theorem dJ6_bitCount_0f7a4_36 : decode cJ6_bitCount_0f7a4 36 = .ok (.bipush 8, 2) := by decide +kernel
theorem dJ6_bitCount_0f7a4_38 : decode cJ6_bitCount_0f7a4 38 = .ok (.iushr, 1) := by decide +kernel
theorem dJ6_bitCount_0f7a4_39 : decode cJ6_bitCount_0f7a4 39 = .ok (.iadd, 1) := by decide +kernel
theorem dJ6_bitCount_0f7a4_40 : decode cJ6_bitCount_0f7a4 40 = .ok (.istore_n 0, 1) := by decide +kernel
theorem dJ6_bitCount_0f7a4_41 : decode cJ6_bitCount_0f7a4 41 = .ok (.iload_n 0, 1) := by decide +kernel
theorem dJ6_bitCount_0f7a4_42 : decode cJ6_bitCount_0f7a4 42 = .ok (.iload_n 0, 1) := by decide +kernel
theorem dJ6_bitCount_0f7a4_43 : decode cJ6_bitCount_0f7a4 43 = .ok (.bipush 16, 2) := by decide +kernel
theorem dJ6_bitCount_0f7a4_45 : decode cJ6_bitCount_0f7a4 45 = .ok (.iushr, 1) := by decide +kernel
theorem dJ6_bitCount_0f7a4_46 : decode cJ6_bitCount_0f7a4 46 = .ok (.iadd, 1) := by decide +kernel
theorem dJ6_bitCount_0f7a4_47 : decode cJ6_bitCount_0f7a4 47 = .ok (.istore_n 0, 1) := by decide +kernel
theorem dJ6_bitCount_0f7a4_48 : decode cJ6_bitCount_0f7a4 48 = .ok (.iload_n 0, 1) := by decide +kernel
theorem dJ6_bitCount_0f7a4_49 : decode cJ6_bitCount_0f7a4 49 = .ok (.bipush 63, 2) := by decide +kernel
theorem dJ6_bitCount_0f7a4_51 : decode cJ6_bitCount_0f7a4 51 = .ok (.iand, 1) := by decide +kernel
theorem dJ6_bitCount_0f7a4_52 : decode cJ6_bitCount_0f7a4 52 = .ok (.ireturn, 1) := by decide +kernel
theorem dJ9_max_7cf53_0 : decode cJ9_max_7cf53 0 = .ok (.iload_n 0, 1) := by decide +kernel
theorem dJ9_max_7cf53_1 : decode cJ9_max_7cf53 1 = .ok (.iload_n 1, 1) := by decide +kernel
theorem dJ9_max_7cf53_2 : decode cJ9_max_7cf53 2 = .ok (.if_icmp .lt 7, 3) := by decide +kernel
theorem dJ9_max_7cf53_5 : decode cJ9_max_7cf53 5 = .ok (.iload_n 0, 1) := by decide +kernel
theorem dJ9_max_7cf53_6 : decode cJ9_max_7cf53 6 = .ok (.goto 4, 3) := by decide +kernel
theorem dJ9_max_7cf53_9 : decode cJ9_max_7cf53 9 = .ok (.iload_n 1, 1) := by decide +kernel
theorem dJ9_max_7cf53_10 : decode cJ9_max_7cf53 10 = .ok (.ireturn, 1) := by decide +kernel
theorem dJ9_min_7cf53_0 : decode cJ9_min_7cf53 0 = .ok (.iload_n 0, 1) := by decide +kernel
theorem dJ9_min_7cf53_1 : decode cJ9_min_7cf53 1 = .ok (.iload_n 1, 1) := by decide +kernel
theorem dJ9_min_7cf53_2 : decode cJ9_min_7cf53 2 = .ok (.if_icmp .gt 7, 3) := by decide +kernel
theorem dJ9_min_7cf53_5 : decode cJ9_min_7cf53 5 = .ok (.iload_n 0, 1) := by decide +kernel
theorem dJ9_min_7cf53_6 : decode cJ9_min_7cf53 6 = .ok (.goto 4, 3) := by decide +kernel
theorem dJ9_min_7cf53_9 : decode cJ9_min_7cf53 9 = .ok (.iload_n 1, 1) := by decide +kernel
theorem dJ9_min_7cf53_10 : decode cJ9_min_7cf53 10 = .ok (.ireturn, 1) := by decide +kernel
