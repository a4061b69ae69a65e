set_option maxRecDepth 20000 in
theorem gX5_use_X5_used : GoodIn wsX5_use (wsV RX5 94 RX5 yX5_used wsX5_used) := goodIn_app (goodIn_of _ (by decide +kernel)) ggX5_use_X5_used
theorem dX5_use_0 : decode cX5_use 0 = .ok (.aload_n 0, 1) := by decide +kernel
theorem dX5_use_1 : decode cX5_use 1 = .ok (.iload_n 1, 1) := by decide +kernel
theorem dX5_use_2 : decode cX5_use 2 = .ok (.iconst 0, 1) := by decide +kernel
theorem dX5_use_3 : decode cX5_use 3 = .ok (.aload_n 0, 1) := by decide +kernel
theorem dX5_use_4 : decode cX5_use 4 = .ok (.getfield 56, 3) := by decide +kernel
theorem dX5_use_7 : decode cX5_use 7 = .ok (.iconst 1, 1) := by decide +kernel
theorem dX5_use_8 : decode cX5_use 8 = .ok (.isub, 1) := by decide +kernel
theorem dX5_use_9 : decode cX5_use 9 = .ok (.invokestatic 59, 3) := by decide +kernel
theorem dX5_use_12 : decode cX5_use 12 = .ok (.ifCond .eq 17, 3) := by decide +kernel
theorem dX5_use_15 : decode cX5_use 15 = .ok (.iload_n 2, 1) := by decide +kernel
theorem dX5_use_16 : decode cX5_use 16 = .ok (.iconst 0, 1) := by decide +kernel
theorem dX5_use_17 : decode cX5_use 17 = .ok (.aload_n 0, 1) := by decide +kernel
theorem dX5_use_18 : decode cX5_use 18 = .ok (.getfield 56, 3) := by decide +kernel
theorem dX5_use_21 : decode cX5_use 21 = .ok (.iconst 1, 1) := by decide +kernel
theorem dX5_use_22 : decode cX5_use 22 = .ok (.isub, 1) := by decide +kernel
theorem dX5_use_23 : decode cX5_use 23 = .ok (.invokestatic 59, 3) := by decide +kernel
theorem dX5_use_26 : decode cX5_use 26 = .ok (.ifCond .ne 7, 3) := by decide +kernel
theorem dX5_use_29 : decode cX5_use 29 = .ok (.iconst 1, 1) := by decide +kernel
theorem dX5_use_30 : decode cX5_use 30 = .ok (.goto 4, 3) := by decide +kernel
theorem dX5_use_33 : decode cX5_use 33 = .ok (.iconst 0, 1) := by decide +kernel
theorem dX5_use_34 : decode cX5_use 34 = .ok (.putfield 52, 3) := by decide +kernel
theorem dX5_use_37 : decode cX5_use 37 = .ok (.aload_n 0, 1) := by decide +kernel
theorem dX5_use_38 : decode cX5_use 38 = .ok (.getfield 52, 3) := by decide +kernel
theorem dX5_use_41 : decode cX5_use 41 = .ok (.ifCond .le 5, 3) := by decide +kernel
theorem dX5_use_44 : decode cX5_use 44 = .ok (.iconst 0, 1) := by decide +kernel
theorem dX5_use_45 : decode cX5_use 45 = .ok (.ireturn, 1) := by decide +kernel
theorem dX5_use_46 : decode cX5_use 46 = .ok (.aload_n 0, 1) := by decide +kernel
theorem dX5_use_47 : decode cX5_use 47 = .ok (.iload_n 2, 1) := by decide +kernel
theorem dX5_use_48 : decode cX5_use 48 = .ok (.invokevirtual 94, 3) := by decide +kernel
theorem dX5_use_51 : decode cX5_use 51 = .ok (.iload_n 1, 1) := by decide +kernel
theorem dX5_use_52 : decode cX5_use 52 = .ok (.ishr, 1) := by decide +kernel
theorem dX5_use_53 : decode cX5_use 53 = .ok (.iconst 1, 1) := by decide +kernel
theorem dX5_use_54 : decode cX5_use 54 = .ok (.iand, 1) := by decide +kernel
theorem dX5_use_55 : decode cX5_use 55 = .ok (.iconst 1, 1) := by decide +kernel
theorem dX5_use_56 : decode cX5_use 56 = .ok (.if_icmp .ne 10, 3) := by decide +kernel
theorem dX5_use_59 : decode cX5_use 59 = .ok (.aload_n 0, 1) := by decide +kernel
theorem dX5_use_60 : decode cX5_use 60 = .ok (.iconst 2, 1) := by decide +kernel
theorem dX5_use_61 : decode cX5_use 61 = .ok (.putfield 52, 3) := by decide +kernel
theorem dX5_use_64 : decode cX5_use 64 = .ok (.iconst 0, 1) := by decide +kernel
theorem dX5_use_65 : decode cX5_use 65 = .ok (.ireturn, 1) := by decide +kernel
theorem dX5_use_66 : decode cX5_use 66 = .ok (.aload_n 0, 1) := by decide +kernel
theorem dX5_use_67 : decode cX5_use 67 = .ok (.getfield 22, 3) := by decide +kernel
theorem dX5_use_70 : decode cX5_use 70 = .ok (.iload_n 1, 1) := by decide +kernel
theorem dX5_use_71 : decode cX5_use 71 = .ok (.iaload, 1) := by decide +kernel
theorem dX5_use_72 : decode cX5_use 72 = .ok (.iload_n 2, 1) := by decide +kernel
theorem dX5_use_73 : decode cX5_use 73 = .ok (.ishr, 1) := by decide +kernel
theorem dX5_use_74 : decode cX5_use 74 = .ok (.iconst 1, 1) := by decide +kernel
theorem dX5_use_75 : decode cX5_use 75 = .ok (.iand, 1) := by decide +kernel
theorem dX5_use_76 : decode cX5_use 76 = .ok (.ifCond .ne 7, 3) := by decide +kernel
theorem dX5_use_79 : decode cX5_use 79 = .ok (.iconst 1, 1) := by decide +kernel
theorem dX5_use_80 : decode cX5_use 80 = .ok (.goto 4, 3) := by decide +kernel
theorem dX5_use_83 : decode cX5_use 83 = .ok (.iconst 0, 1) := by decide +kernel
theorem dX5_use_84 : decode cX5_use 84 = .ok (.istore_n 3, 1) := by decide +kernel
theorem dX5_use_85 : decode cX5_use 85 = .ok (.aload_n 0, 1) := by decide +kernel
theorem dX5_use_86 : decode cX5_use 86 = .ok (.getfield 22, 3) := by decide +kernel
theorem dX5_use_89 : decode cX5_use 89 = .ok (.iload_n 1, 1) := by decide +kernel
theorem dX5_use_90 : decode cX5_use 90 = .ok (.dup2, 1) := by decide +kernel
theorem dX5_use_91 : decode cX5_use 91 = .ok (.iaload, 1) := by decide +kernel
theorem dX5_use_92 : decode cX5_use 92 = .ok (.iconst 1, 1) := by decide +kernel
theorem dX5_use_93 : decode cX5_use 93 = .ok (.iload_n 2, 1) := by decide +kernel
theorem dX5_use_94 : decode cX5_use 94 = .ok (.ishl, 1) := by decide +kernel
theorem dX5_use_95 : decode cX5_use 95 = .ok (.ior, 1) := by decide +kernel
theorem dX5_use_96 : decode cX5_use 96 = .ok (.iastore, 1) := by decide +kernel
theorem dX5_use_97 : decode cX5_use 97 = .ok (.iload_n 3, 1) := by decide +kernel
theorem dX5_use_98 : decode cX5_use 98 = .ok (.ireturn, 1) := by decide +kernel
set_option maxRecDepth 20000 in
theorem ggX5_setRoll_X5_in : GoodIn wsX5_setRoll wsX5_in := goodIn_r _ [8] (by decide +kernel) (by decide +kernel)
set_option maxRecDepth 20000 in
theorem gX5_setRoll_X5_in : GoodIn wsX5_setRoll (va_wsS RX5 59 yX5_in wsX5_in) := goodIn_app (goodIn_of _ (by decide +kernel)) ggX5_setRoll_X5_in
theorem dX5_setRoll_0 : decode cX5_setRoll 0 = .ok (.aload_n 0, 1) := by decide +kernel
theorem dX5_setRoll_1 : decode cX5_setRoll 1 = .ok (.iload_n 1, 1) := by decide +kernel
theorem dX5_setRoll_2 : decode cX5_setRoll 2 = .ok (.iconst 0, 1) := by decide +kernel
theorem dX5_setRoll_3 : decode cX5_setRoll 3 = .ok (.sipush 200, 3) := by decide +kernel
theorem dX5_setRoll_6 : decode cX5_setRoll 6 = .ok (.invokestatic 59, 3) := by decide +kernel
theorem dX5_setRoll_9 : decode cX5_setRoll 9 = .ok (.ifCond .eq 17, 3) := by decide +kernel
theorem dX5_setRoll_12 : decode cX5_setRoll 12 = .ok (.iload_n 2, 1) := by decide +kernel
theorem dX5_setRoll_13 : decode cX5_setRoll 13 = .ok (.iconst 0, 1) := by decide +kernel
theorem dX5_setRoll_14 : decode cX5_setRoll 14 = .ok (.ldc 97, 2) := by decide +kernel
theorem dX5_setRoll_16 : decode cX5_setRoll 16 = .ok (.invokestatic 59, 3) := by decide +kernel
theorem dX5_setRoll_19 : decode cX5_setRoll 19 = .ok (.ifCond .eq 7, 3) := by decide +kernel
theorem dX5_setRoll_22 : decode cX5_setRoll 22 = .ok (.iconst 0, 1) := by decide +kernel
theorem dX5_setRoll_23 : decode cX5_setRoll 23 = .ok (.goto 4, 3) := by decide +kernel
theorem dX5_setRoll_26 : decode cX5_setRoll 26 = .ok (.iconst 1, 1) := by decide +kernel
theorem dX5_setRoll_27 : decode cX5_setRoll 27 = .ok (.putfield 52, 3) := by decide +kernel
theorem dX5_setRoll_30 : decode cX5_setRoll 30 = .ok (.aload_n 0, 1) := by decide +kernel
theorem dX5_setRoll_31 : decode cX5_setRoll 31 = .ok (.getfield 52, 3) := by decide +kernel
theorem dX5_setRoll_34 : decode cX5_setRoll 34 = .ok (.ifCond .le 5, 3) := by decide +kernel
theorem dX5_setRoll_37 : decode cX5_setRoll 37 = .ok (.iconst 0, 1) := by decide +kernel
theorem dX5_setRoll_38 : decode cX5_setRoll 38 = .ok (.ireturn, 1) := by decide +kernel
theorem dX5_setRoll_39 : decode cX5_setRoll 39 = .ok (.aload_n 0, 1) := by decide +kernel
theorem dX5_setRoll_40 : decode cX5_setRoll 40 = .ok (.getfield 98, 3) := by decide +kernel
theorem dX5_setRoll_43 : decode cX5_setRoll 43 = .ok (.istore_n 3, 1) := by decide +kernel
theorem dX5_setRoll_44 : decode cX5_setRoll 44 = .ok (.aload_n 0, 1) := by decide +kernel
theorem dX5_setRoll_45 : decode cX5_setRoll 45 = .ok (.iload_n 1, 1) := by decide +kernel
theorem dX5_setRoll_46 : decode cX5_setRoll 46 = .ok (.putfield 98, 3) := by decide +kernel
theorem dX5_setRoll_49 : decode cX5_setRoll 49 = .ok (.aload_n 0, 1) := by decide +kernel
theorem dX5_setRoll_50 : decode cX5_setRoll 50 = .ok (.iload_n 2, 1) := by decide +kernel
theorem dX5_setRoll_51 : decode cX5_setRoll 51 = .ok (.putfield 101, 3) := by decide +kernel
theorem dX5_setRoll_54 : decode cX5_setRoll 54 = .ok (.iload_n 3, 1) := by decide +kernel
theorem dX5_setRoll_55 : decode cX5_setRoll 55 = .ok (.ireturn, 1) := by decide +kernel
theorem dX5_bits_0 : decode cX5_bits 0 = .ok (.iconst 0, 1) := by decide +kernel
theorem dX5_bits_1 : decode cX5_bits 1 = .ok (.istore_n 1, 1) := by decide +kernel
theorem dX5_bits_2 : decode cX5_bits 2 = .ok (.iconst 0, 1) := by decide +kernel
theorem dX5_bits_3 : decode cX5_bits 3 = .ok (.istore_n 2, 1) := by decide +kernel
theorem dX5_bits_4 : decode cX5_bits 4 = .ok (.iload_n 2, 1) := by decide +kernel
theorem dX5_bits_5 : decode cX5_bits 5 = .ok (.bipush 8, 2) := by decide +kernel
theorem dX5_bits_7 : decode cX5_bits 7 = .ok (.if_icmp .ge 17, 3) := by decide +kernel
theorem dX5_bits_10 : decode cX5_bits 10 = .ok (.iload_n 1, 1) := by decide +kernel
theorem dX5_bits_11 : decode cX5_bits 11 = .ok (.iload_n 0, 1) := by decide +kernel
theorem dX5_bits_12 : decode cX5_bits 12 = .ok (.iload_n 2, 1) := by decide +kernel
theorem dX5_bits_13 : decode cX5_bits 13 = .ok (.ishr, 1) := by decide +kernel
theorem dX5_bits_14 : decode cX5_bits 14 = .ok (.iconst 1, 1) := by decide +kernel
theorem dX5_bits_15 : decode cX5_bits 15 = .ok (.iand, 1) := by decide +kernel
theorem dX5_bits_16 : decode cX5_bits 16 = .ok (.iadd, 1) := by decide +kernel
theorem dX5_bits_17 : decode cX5_bits 17 = .ok (.istore_n 1, 1) := by decide +kernel
theorem dX5_bits_18 : decode cX5_bits 18 = .ok (.iinc 2 1, 3) := by decide +kernel
theorem dX5_bits_21 : decode cX5_bits 21 = .ok (.goto (-17), 3) := by decide +kernel
theorem dX5_bits_24 : decode cX5_bits 24 = .ok (.iload_n 1, 1) := by decide +kernel
theorem dX5_bits_25 : decode cX5_bits 25 = .ok (.ireturn, 1) := by decide +kernel
set_option maxRecDepth 20000 in
theorem ggX5_teach_X5_in : GoodIn wsX5_teach wsX5_in := goodIn_r _ [7] (by decide +kernel) (by decide +kernel)
set_option maxRecDepth 20000 in
theorem gX5_teach_X5_in : GoodIn wsX5_teach (va_wsS RX5 59 yX5_in wsX5_in) := goodIn_app (goodIn_of _ (by decide +kernel)) ggX5_teach_X5_in
set_option maxRecDepth 20000 in
theorem ggX5_teach_X5_bits : GoodIn wsX5_teach wsX5_bits := goodIn_r _ [10] (by decide +kernel) (by decide +kernel)
set_option maxRecDepth 20000 in
theorem gX5_teach_X5_bits : GoodIn wsX5_teach (va_wsS RX5 104 yX5_bits wsX5_bits) := goodIn_app (goodIn_of _ (by decide +kernel)) ggX5_teach_X5_bits
theorem dX5_teach_0 : decode cX5_teach 0 = .ok (.aload_n 0, 1) := by decide +kernel
theorem dX5_teach_1 : decode cX5_teach 1 = .ok (.iload_n 1, 1) := by decide +kernel
theorem dX5_teach_2 : decode cX5_teach 2 = .ok (.iconst 0, 1) := by decide +kernel
theorem dX5_teach_3 : decode cX5_teach 3 = .ok (.iconst 5, 1) := by decide +kernel
theorem dX5_teach_4 : decode cX5_teach 4 = .ok (.invokestatic 59, 3) := by decide +kernel
theorem dX5_teach_7 : decode cX5_teach 7 = .ok (.ifCond .eq 13, 3) := by decide +kernel
theorem dX5_teach_10 : decode cX5_teach 10 = .ok (.iload_n 2, 1) := by decide +kernel
theorem dX5_teach_11 : decode cX5_teach 11 = .ok (.iconst 0, 1) := by decide +kernel
theorem dX5_teach_12 : decode cX5_teach 12 = .ok (.bipush 7, 2) := by decide +kernel
theorem dX5_teach_14 : decode cX5_teach 14 = .ok (.invokestatic 59, 3) := by decide +kernel
theorem dX5_teach_17 : decode cX5_teach 17 = .ok (.ifCond .ne 7, 3) := by decide +kernel
theorem dX5_teach_20 : decode cX5_teach 20 = .ok (.iconst 1, 1) := by decide +kernel
theorem dX5_teach_21 : decode cX5_teach 21 = .ok (.goto 26, 3) := by decide +kernel
theorem dX5_teach_24 : decode cX5_teach 24 = .ok (.aload_n 0, 1) := by decide +kernel
theorem dX5_teach_25 : decode cX5_teach 25 = .ok (.getfield 7, 3) := by decide +kernel
theorem dX5_teach_28 : decode cX5_teach 28 = .ok (.iload_n 2, 1) := by decide +kernel
theorem dX5_teach_29 : decode cX5_teach 29 = .ok (.iaload, 1) := by decide +kernel
theorem dX5_teach_30 : decode cX5_teach 30 = .ok (.aload_n 0, 1) := by decide +kernel
theorem dX5_teach_31 : decode cX5_teach 31 = .ok (.getfield 34, 3) := by decide +kernel
theorem dX5_teach_34 : decode cX5_teach 34 = .ok (.iload_n 1, 1) := by decide +kernel
theorem dX5_teach_35 : decode cX5_teach 35 = .ok (.iaload, 1) := by decide +kernel
theorem dX5_teach_36 : decode cX5_teach 36 = .ok (.iconst (-1), 1) := by decide +kernel
theorem dX5_teach_37 : decode cX5_teach 37 = .ok (.ixor, 1) := by decide +kernel
theorem dX5_teach_38 : decode cX5_teach 38 = .ok (.iand, 1) := by decide +kernel
theorem dX5_teach_39 : decode cX5_teach 39 = .ok (.ifCond .eq 7, 3) := by decide +kernel
theorem dX5_teach_42 : decode cX5_teach 42 = .ok (.iconst 2, 1) := by decide +kernel
theorem dX5_teach_43 : decode cX5_teach 43 = .ok (.goto 4, 3) := by decide +kernel
theorem dX5_teach_46 : decode cX5_teach 46 = .ok (.iconst 0, 1) := by decide +kernel
theorem dX5_teach_47 : decode cX5_teach 47 = .ok (.putfield 52, 3) := by decide +kernel
theorem dX5_teach_50 : decode cX5_teach 50 = .ok (.aload_n 0, 1) := by decide +kernel
theorem dX5_teach_51 : decode cX5_teach 51 = .ok (.getfield 52, 3) := by decide +kernel
theorem dX5_teach_54 : decode cX5_teach 54 = .ok (.ifCond .le 5, 3) := by decide +kernel
theorem dX5_teach_57 : decode cX5_teach 57 = .ok (.iconst 0, 1) := by decide +kernel
theorem dX5_teach_58 : decode cX5_teach 58 = .ok (.ireturn, 1) := by decide +kernel
theorem dX5_teach_59 : decode cX5_teach 59 = .ok (.aload_n 0, 1) := by decide +kernel
theorem dX5_teach_60 : decode cX5_teach 60 = .ok (.getfield 34, 3) := by decide +kernel
theorem dX5_teach_63 : decode cX5_teach 63 = .ok (.iload_n 1, 1) := by decide +kernel
theorem dX5_teach_64 : decode cX5_teach 64 = .ok (.dup2, 1) := by decide +kernel
theorem dX5_teach_65 : decode cX5_teach 65 = .ok (.iaload, 1) := by decide +kernel
theorem dX5_teach_66 : decode cX5_teach 66 = .ok (.iconst 1, 1) := by decide +kernel
theorem dX5_teach_67 : decode cX5_teach 67 = .ok (.iload_n 2, 1) := by decide +kernel
theorem dX5_teach_68 : decode cX5_teach 68 = .ok (.ishl, 1) := by decide +kernel
theorem dX5_teach_69 : decode cX5_teach 69 = .ok (.ior, 1) := by decide +kernel
theorem dX5_teach_70 : decode cX5_teach 70 = .ok (.iastore, 1) := by decide +kernel
theorem dX5_teach_71 : decode cX5_teach 71 = .ok (.aload_n 0, 1) := by decide +kernel
theorem dX5_teach_72 : decode cX5_teach 72 = .ok (.getfield 34, 3) := by decide +kernel
theorem dX5_teach_75 : decode cX5_teach 75 = .ok (.iload_n 1, 1) := by decide +kernel
theorem dX5_teach_76 : decode cX5_teach 76 = .ok (.iaload, 1) := by decide +kernel
theorem dX5_teach_77 : decode cX5_teach 77 = .ok (.invokestatic 104, 3) := by decide +kernel
theorem dX5_teach_80 : decode cX5_teach 80 = .ok (.ireturn, 1) := by decide +kernel
theorem dX5_models_0 : decode cX5_models 0 = .ok (.aload_n 0, 1) := by decide +kernel
theorem dX5_models_1 : decode cX5_models 1 = .ok (.iconst 0, 1) := by decide +kernel
theorem dX5_models_2 : decode cX5_models 2 = .ok (.putfield 52, 3) := by decide +kernel
theorem dX5_models_5 : decode cX5_models 5 = .ok (.aload_n 0, 1) := by decide +kernel
theorem dX5_models_6 : decode cX5_models 6 = .ok (.getfield 56, 3) := by decide +kernel
theorem dX5_models_9 : decode cX5_models 9 = .ok (.ireturn, 1) := by decide +kernel
set_option maxRecDepth 20000 in
theorem ggX5_steps_X5_isModel : GoodIn wsX5_steps wsX5_isModel := goodIn_r _ [6, 7, 8, 9, 10, 5, 11, 12, 13, 14, 15, 16, 17, 18, 19, 20, 21, 22, 23, 24, 25, 26, 27, 28, 29, 30, 31] (by decide +kernel) (by decide +kernel)
set_option maxRecDepth 20000 in
theorem gX5_steps_X5_isModel : GoodIn wsX5_steps (wsV RX5 90 RX5 yX5_isModel wsX5_isModel) := goodIn_app (goodIn_of _ (by decide +kernel)) ggX5_steps_X5_isModel
theorem dX5_steps_0 : decode cX5_steps 0 = .ok (.aload_n 0, 1) := by decide +kernel
theorem dX5_steps_1 : decode cX5_steps 1 = .ok (.iload_n 1, 1) := by decide +kernel
theorem dX5_steps_2 : decode cX5_steps 2 = .ok (.invokevirtual 90, 3) := by decide +kernel
theorem dX5_steps_5 : decode cX5_steps 5 = .ok (.ifCond .eq 12, 3) := by decide +kernel
theorem dX5_steps_8 : decode cX5_steps 8 = .ok (.aload_n 0, 1) := by decide +kernel
theorem dX5_steps_9 : decode cX5_steps 9 = .ok (.getfield 19, 3) := by decide +kernel
theorem dX5_steps_12 : decode cX5_steps 12 = .ok (.iload_n 1, 1) := by decide +kernel
theorem dX5_steps_13 : decode cX5_steps 13 = .ok (.iaload, 1) := by decide +kernel
theorem dX5_steps_14 : decode cX5_steps 14 = .ok (.goto 4, 3) := by decide +kernel
theorem dX5_steps_17 : decode cX5_steps 17 = .ok (.iconst 0, 1) := by decide +kernel
theorem dX5_steps_18 : decode cX5_steps 18 = .ok (.ireturn, 1) := by decide +kernel
set_option maxRecDepth 20000 in
theorem ggX5_places_X5_isModel : GoodIn wsX5_places wsX5_isModel := goodIn_r _ [6, 7, 8, 9, 10, 5, 11, 33, 34, 35, 36, 37, 38, 39, 40, 41, 42, 43, 44, 45, 46, 47, 48, 49, 50, 51, 52] (by decide +kernel) (by decide +kernel)
set_option maxRecDepth 20000 in
theorem gX5_places_X5_isModel : GoodIn wsX5_places (wsV RX5 90 RX5 yX5_isModel wsX5_isModel) := goodIn_app (goodIn_of _ (by decide +kernel)) ggX5_places_X5_isModel
set_option maxRecDepth 20000 in
theorem ggX5_places_X5_folds : GoodIn wsX5_places wsX5_folds := goodIn_r _ [15, 16, 17, 18, 19, 1, 20, 21, 22, 23, 24, 25, 26, 5, 27, 28, 29, 30, 31, 32, 33, 34, 35, 36, 37, 38, 39, 40, 41, 42, 43, 44, 45, 46, 47, 48, 49, 50, 51, 52] (by decide +kernel) (by decide +kernel)
set_option maxRecDepth 20000 in
theorem gX5_places_X5_folds : GoodIn wsX5_places (wsV RX5 84 RX5 yX5_folds wsX5_folds) := goodIn_app (goodIn_of _ (by decide +kernel)) ggX5_places_X5_folds
theorem dX5_places_0 : decode cX5_places 0 = .ok (.aload_n 0, 1) := by decide +kernel
theorem dX5_places_1 : decode cX5_places 1 = .ok (.iload_n 1, 1) := by decide +kernel
theorem dX5_places_2 : decode cX5_places 2 = .ok (.invokevirtual 90, 3) := by decide +kernel
theorem dX5_places_5 : decode cX5_places 5 = .ok (.ifCond .ne 5, 3) := by decide +kernel
theorem dX5_places_8 : decode cX5_places 8 = .ok (.iconst 0, 1) := by decide +kernel
theorem dX5_places_9 : decode cX5_places 9 = .ok (.ireturn, 1) := by decide +kernel
theorem dX5_places_10 : decode cX5_places 10 = .ok (.aload_n 0, 1) := by decide +kernel
theorem dX5_places_11 : decode cX5_places 11 = .ok (.iload_n 1, 1) := by decide +kernel
theorem dX5_places_12 : decode cX5_places 12 = .ok (.invokevirtual 84, 3) := by decide +kernel
theorem dX5_places_15 : decode cX5_places 15 = .ok (.aload_n 0, 1) := by decide +kernel
theorem dX5_places_16 : decode cX5_places 16 = .ok (.getfield 73, 3) := by decide +kernel
theorem dX5_places_19 : decode cX5_places 19 = .ok (.ireturn, 1) := by decide +kernel
set_option maxRecDepth 20000 in
theorem ggX5_layersOf_X5_folds : GoodIn wsX5_layersOf wsX5_folds := goodIn_r _ [7, 8, 9, 10, 11, 1, 12, 13, 14, 15, 16, 17, 18, 6, 19, 2, 20, 21, 22, 23, 24, 25, 26, 27, 28, 29, 30, 31, 32, 33, 34, 35, 36, 37, 38, 39, 40, 41, 42, 43] (by decide +kernel) (by decide +kernel)
set_option maxRecDepth 20000 in
theorem gX5_layersOf_X5_folds : GoodIn wsX5_layersOf (wsV RX5 84 RX5 yX5_folds wsX5_folds) := goodIn_app (goodIn_of _ (by decide +kernel)) ggX5_layersOf_X5_folds
theorem dX5_layersOf_0 : decode cX5_layersOf 0 = .ok (.aload_n 0, 1) := by decide +kernel
theorem dX5_layersOf_1 : decode cX5_layersOf 1 = .ok (.iload_n 1, 1) := by decide +kernel
theorem dX5_layersOf_2 : decode cX5_layersOf 2 = .ok (.invokevirtual 84, 3) := by decide +kernel
theorem dX5_layersOf_5 : decode cX5_layersOf 5 = .ok (.iconst 0, 1) := by decide +kernel
theorem dX5_layersOf_6 : decode cX5_layersOf 6 = .ok (.istore_n 2, 1) := by decide +kernel
theorem dX5_layersOf_7 : decode cX5_layersOf 7 = .ok (.iconst 0, 1) := by decide +kernel
theorem dX5_layersOf_8 : decode cX5_layersOf 8 = .ok (.istore_n 3, 1) := by decide +kernel
theorem dX5_layersOf_9 : decode cX5_layersOf 9 = .ok (.iload_n 3, 1) := by decide +kernel
theorem dX5_layersOf_10 : decode cX5_layersOf 10 = .ok (.aload_n 0, 1) := by decide +kernel
theorem dX5_layersOf_11 : decode cX5_layersOf 11 = .ok (.getfield 73, 3) := by decide +kernel
theorem dX5_layersOf_14 : decode cX5_layersOf 14 = .ok (.if_icmp .ge 30, 3) := by decide +kernel
theorem dX5_layersOf_17 : decode cX5_layersOf 17 = .ok (.aload_n 0, 1) := by decide +kernel
theorem dX5_layersOf_18 : decode cX5_layersOf 18 = .ok (.getfield 46, 3) := by decide +kernel
theorem dX5_layersOf_21 : decode cX5_layersOf 21 = .ok (.iload_n 3, 1) := by decide +kernel
theorem dX5_layersOf_22 : decode cX5_layersOf 22 = .ok (.iaload, 1) := by decide +kernel
theorem dX5_layersOf_23 : decode cX5_layersOf 23 = .ok (.iload_n 2, 1) := by decide +kernel
theorem dX5_layersOf_24 : decode cX5_layersOf 24 = .ok (.if_icmp .le 12, 3) := by decide +kernel
theorem dX5_layersOf_27 : decode cX5_layersOf 27 = .ok (.aload_n 0, 1) := by decide +kernel
theorem dX5_layersOf_28 : decode cX5_layersOf 28 = .ok (.getfield 46, 3) := by decide +kernel
theorem dX5_layersOf_31 : decode cX5_layersOf 31 = .ok (.iload_n 3, 1) := by decide +kernel
theorem dX5_layersOf_32 : decode cX5_layersOf 32 = .ok (.iaload, 1) := by decide +kernel
theorem dX5_layersOf_33 : decode cX5_layersOf 33 = .ok (.goto 4, 3) := by decide +kernel
theorem dX5_layersOf_36 : decode cX5_layersOf 36 = .ok (.iload_n 2, 1) := by decide +kernel
theorem dX5_layersOf_37 : decode cX5_layersOf 37 = .ok (.istore_n 2, 1) := by decide +kernel
theorem dX5_layersOf_38 : decode cX5_layersOf 38 = .ok (.iinc 3 1, 3) := by decide +kernel
theorem dX5_layersOf_41 : decode cX5_layersOf 41 = .ok (.goto (-32), 3) := by decide +kernel
theorem dX5_layersOf_44 : decode cX5_layersOf 44 = .ok (.iload_n 2, 1) := by decide +kernel
theorem dX5_layersOf_45 : decode cX5_layersOf 45 = .ok (.ireturn, 1) := by decide +kernel
set_option maxRecDepth 20000 in
theorem ggX5_layers_X5_isModel : GoodIn wsX5_layers wsX5_isModel := goodIn_r _ [5, 6, 7, 8, 9, 4, 10, 37, 38, 39, 40, 41, 42, 43, 44, 45, 46, 47, 48, 49, 50, 51, 52, 53, 54, 55, 56] (by decide +kernel) (by decide +kernel)
set_option maxRecDepth 20000 in
theorem gX5_layers_X5_isModel : GoodIn wsX5_layers (wsV RX5 90 RX5 yX5_isModel wsX5_isModel) := goodIn_app (goodIn_of _ (by decide +kernel)) ggX5_layers_X5_isModel
set_option maxRecDepth 20000 in
theorem ggX5_layers_X5_layersOf : GoodIn wsX5_layers wsX5_layersOf := goodIn_r _ [14, 15, 16, 17, 18, 19, 4, 20, 21, 22, 23, 24, 25, 26, 27, 28, 29, 30, 31, 32, 33, 34, 35, 36, 37, 38, 39, 40, 41, 42, 43, 44, 45, 46, 47, 48, 49, 50, 51, 52, 53, 54, 55, 56] (by decide +kernel) (by decide +kernel)
set_option maxRecDepth 20000 in
theorem gX5_layers_X5_layersOf : GoodIn wsX5_layers (wsV RX5 107 RX5 yX5_layersOf wsX5_layersOf) := goodIn_app (goodIn_of _ (by decide +kernel)) ggX5_layers_X5_layersOf
theorem dX5_layers_0 : decode cX5_layers 0 = .ok (.aload_n 0, 1) := by decide +kernel
theorem dX5_layers_1 : decode cX5_layers 1 = .ok (.iload_n 1, 1) := by decide +kernel
theorem dX5_layers_2 : decode cX5_layers 2 = .ok (.invokevirtual 90, 3) := by decide +kernel
theorem dX5_layers_5 : decode cX5_layers 5 = .ok (.ifCond .eq 11, 3) := by decide +kernel
theorem dX5_layers_8 : decode cX5_layers 8 = .ok (.aload_n 0, 1) := by decide +kernel
theorem dX5_layers_9 : decode cX5_layers 9 = .ok (.iload_n 1, 1) := by decide +kernel
theorem dX5_layers_10 : decode cX5_layers 10 = .ok (.invokevirtual 107, 3) := by decide +kernel
theorem dX5_layers_13 : decode cX5_layers 13 = .ok (.goto 4, 3) := by decide +kernel
theorem dX5_layers_16 : decode cX5_layers 16 = .ok (.iconst 0, 1) := by decide +kernel
theorem dX5_layers_17 : decode cX5_layers 17 = .ok (.ireturn, 1) := by decide +kernel
set_option maxRecDepth 20000 in
theorem ggX5_cellAt_X5_isModel : GoodIn wsX5_cellAt wsX5_isModel := goodIn_r _ [8, 9, 10, 11, 12, 7, 13, 37, 38, 39, 40, 41, 42, 43, 44, 45, 46, 47, 48, 49, 50, 51, 52, 53, 54, 55, 56] (by decide +kernel) (by decide +kernel)
set_option maxRecDepth 20000 in
theorem gX5_cellAt_X5_isModel : GoodIn wsX5_cellAt (wsV RX5 90 RX5 yX5_isModel wsX5_isModel) := goodIn_app (goodIn_of _ (by decide +kernel)) ggX5_cellAt_X5_isModel
set_option maxRecDepth 20000 in
theorem ggX5_cellAt_X5_folds : GoodIn wsX5_cellAt wsX5_folds := goodIn_r _ [17, 1, 2, 3, 18, 19, 20, 21, 22, 23, 24, 25, 26, 7, 27, 28, 29, 30, 31, 32, 37, 38, 39, 40, 41, 42, 43, 44, 45, 46, 47, 48, 49, 50, 51, 52, 53, 54, 55, 56] (by decide +kernel) (by decide +kernel)
set_option maxRecDepth 20000 in
theorem gX5_cellAt_X5_folds : GoodIn wsX5_cellAt (wsV RX5 84 RX5 yX5_folds wsX5_folds) := goodIn_app (goodIn_of _ (by decide +kernel)) ggX5_cellAt_X5_folds
set_option maxRecDepth 20000 in
theorem ggX5_cellAt_X5_fails : GoodIn wsX5_cellAt wsX5_fails := goodIn_r _ [36, 10, 37, 38, 39, 40, 41, 42, 43, 44, 45, 46, 47, 48, 49, 50, 51, 52, 53, 54, 55, 56] (by decide +kernel) (by decide +kernel)
set_option maxRecDepth 20000 in
theorem gX5_cellAt_X5_fails : GoodIn wsX5_cellAt (wsV RX5 67 RX5 yX5_fails wsX5_fails) := goodIn_app (goodIn_of _ (by decide +kernel)) ggX5_cellAt_X5_fails
theorem dX5_cellAt_0 : decode cX5_cellAt 0 = .ok (.aload_n 0, 1) := by decide +kernel
theorem dX5_cellAt_1 : decode cX5_cellAt 1 = .ok (.iload_n 1, 1) := by decide +kernel
theorem dX5_cellAt_2 : decode cX5_cellAt 2 = .ok (.invokevirtual 90, 3) := by decide +kernel
theorem dX5_cellAt_5 : decode cX5_cellAt 5 = .ok (.ifCond .ne 5, 3) := by decide +kernel
theorem dX5_cellAt_8 : decode cX5_cellAt 8 = .ok (.iconst 0, 1) := by decide +kernel
theorem dX5_cellAt_9 : decode cX5_cellAt 9 = .ok (.ireturn, 1) := by decide +kernel
theorem dX5_cellAt_10 : decode cX5_cellAt 10 = .ok (.aload_n 0, 1) := by decide +kernel
theorem dX5_cellAt_11 : decode cX5_cellAt 11 = .ok (.iload_n 1, 1) := by decide +kernel
theorem dX5_cellAt_12 : decode cX5_cellAt 12 = .ok (.invokevirtual 84, 3) := by decide +kernel
theorem dX5_cellAt_15 : decode cX5_cellAt 15 = .ok (.iconst 0, 1) := by decide +kernel
theorem dX5_cellAt_16 : decode cX5_cellAt 16 = .ok (.istore 4, 2) := by decide +kernel
theorem dX5_cellAt_18 : decode cX5_cellAt 18 = .ok (.iload 4, 2) := by decide +kernel
theorem dX5_cellAt_20 : decode cX5_cellAt 20 = .ok (.aload_n 0, 1) := by decide +kernel
theorem dX5_cellAt_21 : decode cX5_cellAt 21 = .ok (.getfield 16, 3) := by decide +kernel
theorem dX5_cellAt_24 : decode cX5_cellAt 24 = .ok (.iload_n 1, 1) := by decide +kernel
theorem dX5_cellAt_25 : decode cX5_cellAt 25 = .ok (.iaload, 1) := by decide +kernel
theorem dX5_cellAt_26 : decode cX5_cellAt 26 = .ok (.if_icmp .ge 34, 3) := by decide +kernel
theorem dX5_cellAt_29 : decode cX5_cellAt 29 = .ok (.aload_n 0, 1) := by decide +kernel
theorem dX5_cellAt_30 : decode cX5_cellAt 30 = .ok (.getfield 37, 3) := by decide +kernel
theorem dX5_cellAt_33 : decode cX5_cellAt 33 = .ok (.iload 4, 2) := by decide +kernel
theorem dX5_cellAt_35 : decode cX5_cellAt 35 = .ok (.iaload, 1) := by decide +kernel
theorem dX5_cellAt_36 : decode cX5_cellAt 36 = .ok (.iload_n 2, 1) := by decide +kernel
theorem dX5_cellAt_37 : decode cX5_cellAt 37 = .ok (.if_icmp .ne 17, 3) := by decide +kernel
theorem dX5_cellAt_40 : decode cX5_cellAt 40 = .ok (.aload_n 0, 1) := by decide +kernel
theorem dX5_cellAt_41 : decode cX5_cellAt 41 = .ok (.getfield 40, 3) := by decide +kernel
theorem dX5_cellAt_44 : decode cX5_cellAt 44 = .ok (.iload 4, 2) := by decide +kernel
theorem dX5_cellAt_46 : decode cX5_cellAt 46 = .ok (.iaload, 1) := by decide +kernel
theorem dX5_cellAt_47 : decode cX5_cellAt 47 = .ok (.iload_n 3, 1) := by decide +kernel
theorem dX5_cellAt_48 : decode cX5_cellAt 48 = .ok (.if_icmp .ne 6, 3) := by decide +kernel
theorem dX5_cellAt_51 : decode cX5_cellAt 51 = .ok (.iload 4, 2) := by decide +kernel
theorem dX5_cellAt_53 : decode cX5_cellAt 53 = .ok (.ireturn, 1) := by decide +kernel
theorem dX5_cellAt_54 : decode cX5_cellAt 54 = .ok (.iinc 4 1, 3) := by decide +kernel
theorem dX5_cellAt_57 : decode cX5_cellAt 57 = .ok (.goto (-39), 3) := by decide +kernel
theorem dX5_cellAt_60 : decode cX5_cellAt 60 = .ok (.aload_n 0, 1) := by decide +kernel
theorem dX5_cellAt_61 : decode cX5_cellAt 61 = .ok (.iconst 1, 1) := by decide +kernel
theorem dX5_cellAt_62 : decode cX5_cellAt 62 = .ok (.invokevirtual 67, 3) := by decide +kernel
theorem dX5_cellAt_65 : decode cX5_cellAt 65 = .ok (.ireturn, 1) := by decide +kernel
set_option maxRecDepth 20000 in
theorem ggX5_isCell_X5_in : GoodIn wsX5_isCell wsX5_in := goodIn_r _ [7] (by decide +kernel) (by decide +kernel)
set_option maxRecDepth 20000 in
theorem gX5_isCell_X5_in : GoodIn wsX5_isCell (va_wsS RX5 59 yX5_in wsX5_in) := goodIn_app (goodIn_of _ (by decide +kernel)) ggX5_isCell_X5_in
theorem dX5_isCell_0 : decode cX5_isCell 0 = .ok (.aload_n 0, 1) := by decide +kernel
theorem dX5_isCell_1 : decode cX5_isCell 1 = .ok (.iload_n 1, 1) := by decide +kernel
theorem dX5_isCell_2 : decode cX5_isCell 2 = .ok (.iconst 0, 1) := by decide +kernel
theorem dX5_isCell_3 : decode cX5_isCell 3 = .ok (.aload_n 0, 1) := by decide +kernel
theorem dX5_isCell_4 : decode cX5_isCell 4 = .ok (.getfield 56, 3) := by decide +kernel
theorem dX5_isCell_7 : decode cX5_isCell 7 = .ok (.iconst 1, 1) := by decide +kernel
theorem dX5_isCell_8 : decode cX5_isCell 8 = .ok (.isub, 1) := by decide +kernel
theorem dX5_isCell_9 : decode cX5_isCell 9 = .ok (.invokestatic 59, 3) := by decide +kernel
theorem dX5_isCell_12 : decode cX5_isCell 12 = .ok (.ifCond .eq 23, 3) := by decide +kernel
theorem dX5_isCell_15 : decode cX5_isCell 15 = .ok (.iload_n 2, 1) := by decide +kernel
theorem dX5_isCell_16 : decode cX5_isCell 16 = .ok (.iconst 0, 1) := by decide +kernel
theorem dX5_isCell_17 : decode cX5_isCell 17 = .ok (.aload_n 0, 1) := by decide +kernel
theorem dX5_isCell_18 : decode cX5_isCell 18 = .ok (.getfield 16, 3) := by decide +kernel
theorem dX5_isCell_21 : decode cX5_isCell 21 = .ok (.iload_n 1, 1) := by decide +kernel
theorem dX5_isCell_22 : decode cX5_isCell 22 = .ok (.iaload, 1) := by decide +kernel
theorem dX5_isCell_23 : decode cX5_isCell 23 = .ok (.iconst 1, 1) := by decide +kernel
theorem dX5_isCell_24 : decode cX5_isCell 24 = .ok (.isub, 1) := by decide +kernel
theorem dX5_isCell_25 : decode cX5_isCell 25 = .ok (.invokestatic 59, 3) := by decide +kernel
theorem dX5_isCell_28 : decode cX5_isCell 28 = .ok (.ifCond .eq 7, 3) := by decide +kernel
theorem dX5_isCell_31 : decode cX5_isCell 31 = .ok (.iconst 0, 1) := by decide +kernel
theorem dX5_isCell_32 : decode cX5_isCell 32 = .ok (.goto 4, 3) := by decide +kernel
theorem dX5_isCell_35 : decode cX5_isCell 35 = .ok (.iconst 1, 1) := by decide +kernel
theorem dX5_isCell_36 : decode cX5_isCell 36 = .ok (.putfield 52, 3) := by decide +kernel
theorem dX5_isCell_39 : decode cX5_isCell 39 = .ok (.aload_n 0, 1) := by decide +kernel
theorem dX5_isCell_40 : decode cX5_isCell 40 = .ok (.getfield 52, 3) := by decide +kernel
theorem dX5_isCell_43 : decode cX5_isCell 43 = .ok (.ifCond .ne 7, 3) := by decide +kernel
theorem dX5_isCell_46 : decode cX5_isCell 46 = .ok (.iconst 1, 1) := by decide +kernel
theorem dX5_isCell_47 : decode cX5_isCell 47 = .ok (.goto 4, 3) := by decide +kernel
theorem dX5_isCell_50 : decode cX5_isCell 50 = .ok (.iconst 0, 1) := by decide +kernel
theorem dX5_isCell_51 : decode cX5_isCell 51 = .ok (.ireturn, 1) := by decide +kernel
set_option maxRecDepth 20000 in
theorem ggX5_placeOf_X5_isCell : GoodIn wsX5_placeOf wsX5_isCell := goodIn_r _ [6, 7, 8, 9, 10, 11, 5, 12, 33, 34, 35, 36, 37, 38, 39, 40, 41, 42, 43, 44, 45, 46, 47, 48, 49, 50, 51, 52] (by decide +kernel) (by decide +kernel)
set_option maxRecDepth 20000 in
theorem gX5_placeOf_X5_isCell : GoodIn wsX5_placeOf (wsV RX5 110 RX5 yX5_isCell wsX5_isCell) := goodIn_app (goodIn_of _ (by decide +kernel)) ggX5_placeOf_X5_isCell
set_option maxRecDepth 20000 in
theorem ggX5_placeOf_X5_folds : GoodIn wsX5_placeOf wsX5_folds := goodIn_r _ [16, 8, 1, 17, 18, 19, 20, 21, 22, 23, 24, 25, 26, 5, 27, 28, 29, 30, 31, 32, 33, 34, 35, 36, 37, 38, 39, 40, 41, 42, 43, 44, 45, 46, 47, 48, 49, 50, 51, 52] (by decide +kernel) (by decide +kernel)
set_option maxRecDepth 20000 in
theorem gX5_placeOf_X5_folds : GoodIn wsX5_placeOf (wsV RX5 84 RX5 yX5_folds wsX5_folds) := goodIn_app (goodIn_of _ (by decide +kernel)) ggX5_placeOf_X5_folds
theorem dX5_placeOf_0 : decode cX5_placeOf 0 = .ok (.aload_n 0, 1) := by decide +kernel
theorem dX5_placeOf_1 : decode cX5_placeOf 1 = .ok (.iload_n 1, 1) := by decide +kernel
theorem dX5_placeOf_2 : decode cX5_placeOf 2 = .ok (.iload_n 2, 1) := by decide +kernel
theorem dX5_placeOf_3 : decode cX5_placeOf 3 = .ok (.invokevirtual 110, 3) := by decide +kernel
theorem dX5_placeOf_6 : decode cX5_placeOf 6 = .ok (.ifCond .ne 5, 3) := by decide +kernel
theorem dX5_placeOf_9 : decode cX5_placeOf 9 = .ok (.iconst 0, 1) := by decide +kernel
theorem dX5_placeOf_10 : decode cX5_placeOf 10 = .ok (.ireturn, 1) := by decide +kernel
theorem dX5_placeOf_11 : decode cX5_placeOf 11 = .ok (.aload_n 0, 1) := by decide +kernel
theorem dX5_placeOf_12 : decode cX5_placeOf 12 = .ok (.iload_n 1, 1) := by decide +kernel
theorem dX5_placeOf_13 : decode cX5_placeOf 13 = .ok (.invokevirtual 84, 3) := by decide +kernel
theorem dX5_placeOf_16 : decode cX5_placeOf 16 = .ok (.aload_n 0, 1) := by decide +kernel
theorem dX5_placeOf_17 : decode cX5_placeOf 17 = .ok (.getfield 37, 3) := by decide +kernel
theorem dX5_placeOf_20 : decode cX5_placeOf 20 = .ok (.iload_n 2, 1) := by decide +kernel
theorem dX5_placeOf_21 : decode cX5_placeOf 21 = .ok (.iaload, 1) := by decide +kernel
theorem dX5_placeOf_22 : decode cX5_placeOf 22 = .ok (.ireturn, 1) := by decide +kernel
set_option maxRecDepth 20000 in
theorem ggX5_isTurned_X5_isCell : GoodIn wsX5_isTurned wsX5_isCell := goodIn_r _ [6, 7, 8, 9, 10, 11, 5, 12, 33, 34, 35, 36, 37, 38, 39, 40, 41, 42, 43, 44, 45, 46, 47, 48, 49, 50, 51, 52] (by decide +kernel) (by decide +kernel)
set_option maxRecDepth 20000 in
theorem gX5_isTurned_X5_isCell : GoodIn wsX5_isTurned (wsV RX5 110 RX5 yX5_isCell wsX5_isCell) := goodIn_app (goodIn_of _ (by decide +kernel)) ggX5_isTurned_X5_isCell
set_option maxRecDepth 20000 in
theorem ggX5_isTurned_X5_folds : GoodIn wsX5_isTurned wsX5_folds := goodIn_r _ [16, 8, 17, 18, 1, 19, 20, 21, 22, 23, 24, 25, 26, 5, 27, 28, 29, 30, 31, 32, 33, 34, 35, 36, 37, 38, 39, 40, 41, 42, 43, 44, 45, 46, 47, 48, 49, 50, 51, 52] (by decide +kernel) (by decide +kernel)
set_option maxRecDepth 20000 in
theorem gX5_isTurned_X5_folds : GoodIn wsX5_isTurned (wsV RX5 84 RX5 yX5_folds wsX5_folds) := goodIn_app (goodIn_of _ (by decide +kernel)) ggX5_isTurned_X5_folds
theorem dX5_isTurned_0 : decode cX5_isTurned 0 = .ok (.aload_n 0, 1) := by decide +kernel
theorem dX5_isTurned_1 : decode cX5_isTurned 1 = .ok (.iload_n 1, 1) := by decide +kernel
theorem dX5_isTurned_2 : decode cX5_isTurned 2 = .ok (.iload_n 2, 1) := by decide +kernel
theorem dX5_isTurned_3 : decode cX5_isTurned 3 = .ok (.invokevirtual 110, 3) := by decide +kernel
theorem dX5_isTurned_6 : decode cX5_isTurned 6 = .ok (.ifCond .ne 5, 3) := by decide +kernel
theorem dX5_isTurned_9 : decode cX5_isTurned 9 = .ok (.iconst 0, 1) := by decide +kernel
theorem dX5_isTurned_10 : decode cX5_isTurned 10 = .ok (.ireturn, 1) := by decide +kernel
theorem dX5_isTurned_11 : decode cX5_isTurned 11 = .ok (.aload_n 0, 1) := by decide +kernel
theorem dX5_isTurned_12 : decode cX5_isTurned 12 = .ok (.iload_n 1, 1) := by decide +kernel
theorem dX5_isTurned_13 : decode cX5_isTurned 13 = .ok (.invokevirtual 84, 3) := by decide +kernel
theorem dX5_isTurned_16 : decode cX5_isTurned 16 = .ok (.aload_n 0, 1) := by decide +kernel
theorem dX5_isTurned_17 : decode cX5_isTurned 17 = .ok (.getfield 43, 3) := by decide +kernel
theorem dX5_isTurned_20 : decode cX5_isTurned 20 = .ok (.iload_n 2, 1) := by decide +kernel
theorem dX5_isTurned_21 : decode cX5_isTurned 21 = .ok (.iaload, 1) := by decide +kernel
theorem dX5_isTurned_22 : decode cX5_isTurned 22 = .ok (.iconst 1, 1) := by decide +kernel
theorem dX5_isTurned_23 : decode cX5_isTurned 23 = .ok (.if_icmp .ne 7, 3) := by decide +kernel
theorem dX5_isTurned_26 : decode cX5_isTurned 26 = .ok (.iconst 1, 1) := by decide +kernel
theorem dX5_isTurned_27 : decode cX5_isTurned 27 = .ok (.goto 4, 3) := by decide +kernel
theorem dX5_isTurned_30 : decode cX5_isTurned 30 = .ok (.iconst 0, 1) := by decide +kernel
theorem dX5_isTurned_31 : decode cX5_isTurned 31 = .ok (.ireturn, 1) := by decide +kernel
set_option maxRecDepth 20000 in
theorem ggX5_layersByFollowing_X5_isModel : GoodIn wsX5_layersByFollowing wsX5_isModel := goodIn_r _ [5, 6, 7, 8, 9, 4, 10, 37, 38, 39, 40, 41, 42, 43, 44, 45, 46, 47, 48, 49, 50, 51, 52, 53, 54, 55, 56] (by decide +kernel) (by decide +kernel)
set_option maxRecDepth 20000 in
theorem gX5_layersByFollowing_X5_isModel : GoodIn wsX5_layersByFollowing (wsV RX5 90 RX5 yX5_isModel wsX5_isModel) := goodIn_app (goodIn_of _ (by decide +kernel)) ggX5_layersByFollowing_X5_isModel
set_option maxRecDepth 20000 in
theorem ggX5_layersByFollowing_X5_layersOf : GoodIn wsX5_layersByFollowing wsX5_layersOf := goodIn_r _ [14, 15, 16, 17, 18, 19, 4, 20, 21, 22, 23, 24, 25, 26, 27, 28, 29, 30, 31, 32, 33, 34, 35, 36, 37, 38, 39, 40, 41, 42, 43, 44, 45, 46, 47, 48, 49, 50, 51, 52, 53, 54, 55, 56] (by decide +kernel) (by decide +kernel)
set_option maxRecDepth 20000 in
theorem gX5_layersByFollowing_X5_layersOf : GoodIn wsX5_layersByFollowing (wsV RX5 107 RX5 yX5_layersOf wsX5_layersOf) := goodIn_app (goodIn_of _ (by decide +kernel)) ggX5_layersByFollowing_X5_layersOf
theorem dX5_layersByFollowing_0 : decode cX5_layersByFollowing 0 = .ok (.aload_n 0, 1) := by decide +kernel
theorem dX5_layersByFollowing_1 : decode cX5_layersByFollowing 1 = .ok (.iload_n 1, 1) := by decide +kernel
theorem dX5_layersByFollowing_2 : decode cX5_layersByFollowing 2 = .ok (.invokevirtual 90, 3) := by decide +kernel
theorem dX5_layersByFollowing_5 : decode cX5_layersByFollowing 5 = .ok (.ifCond .eq 11, 3) := by decide +kernel
theorem dX5_layersByFollowing_8 : decode cX5_layersByFollowing 8 = .ok (.aload_n 0, 1) := by decide +kernel
theorem dX5_layersByFollowing_9 : decode cX5_layersByFollowing 9 = .ok (.iload_n 1, 1) := by decide +kernel
theorem dX5_layersByFollowing_10 : decode cX5_layersByFollowing 10 = .ok (.invokevirtual 107, 3) := by decide +kernel
theorem dX5_layersByFollowing_13 : decode cX5_layersByFollowing 13 = .ok (.goto 4, 3) := by decide +kernel
theorem dX5_layersByFollowing_16 : decode cX5_layersByFollowing 16 = .ok (.iconst 0, 1) := by decide +kernel
theorem dX5_layersByFollowing_17 : decode cX5_layersByFollowing 17 = .ok (.ireturn, 1) := by decide +kernel
set_option maxRecDepth 20000 in
theorem ggX5_bears_X5_isModel : GoodIn wsX5_bears wsX5_isModel := goodIn_r _ [7, 8, 1, 9, 10, 6, 11, 33, 34, 35, 36, 37, 38, 39, 40, 41, 42, 43, 44, 45, 46, 47, 48, 49, 50, 51, 52] (by decide +kernel) (by decide +kernel)
set_option maxRecDepth 20000 in
theorem gX5_bears_X5_isModel : GoodIn wsX5_bears (wsV RX5 90 RX5 yX5_isModel wsX5_isModel) := goodIn_app (goodIn_of _ (by decide +kernel)) ggX5_bears_X5_isModel
set_option maxRecDepth 20000 in
theorem ggX5_bears_X5_in : GoodIn wsX5_bears wsX5_in := goodIn_r _ [11] (by decide +kernel) (by decide +kernel)
set_option maxRecDepth 20000 in
theorem gX5_bears_X5_in : GoodIn wsX5_bears (va_wsS RX5 59 yX5_in wsX5_in) := goodIn_app (goodIn_of _ (by decide +kernel)) ggX5_bears_X5_in
set_option maxRecDepth 20000 in
theorem ggX5_bears_X5_folds : GoodIn wsX5_bears wsX5_folds := goodIn_r _ [15, 16, 17, 18, 19, 20, 2, 21, 22, 23, 24, 25, 26, 6, 27, 28, 29, 30, 31, 32, 33, 34, 35, 36, 37, 38, 39, 40, 41, 42, 43, 44, 45, 46, 47, 48, 49, 50, 51, 52] (by decide +kernel) (by decide +kernel)
set_option maxRecDepth 20000 in
theorem gX5_bears_X5_folds : GoodIn wsX5_bears (wsV RX5 84 RX5 yX5_folds wsX5_folds) := goodIn_app (goodIn_of _ (by decide +kernel)) ggX5_bears_X5_folds
theorem dX5_bears_0 : decode cX5_bears 0 = .ok (.aload_n 0, 1) := by decide +kernel
theorem dX5_bears_1 : decode cX5_bears 1 = .ok (.iload_n 1, 1) := by decide +kernel
theorem dX5_bears_2 : decode cX5_bears 2 = .ok (.invokevirtual 90, 3) := by decide +kernel
theorem dX5_bears_5 : decode cX5_bears 5 = .ok (.ifCond .eq 22, 3) := by decide +kernel
theorem dX5_bears_8 : decode cX5_bears 8 = .ok (.aload_n 0, 1) := by decide +kernel
theorem dX5_bears_9 : decode cX5_bears 9 = .ok (.iload_n 2, 1) := by decide +kernel
theorem dX5_bears_10 : decode cX5_bears 10 = .ok (.iconst 0, 1) := by decide +kernel
theorem dX5_bears_11 : decode cX5_bears 11 = .ok (.bipush 20, 2) := by decide +kernel
theorem dX5_bears_13 : decode cX5_bears 13 = .ok (.invokestatic 59, 3) := by decide +kernel
theorem dX5_bears_16 : decode cX5_bears 16 = .ok (.ifCond .eq 7, 3) := by decide +kernel
theorem dX5_bears_19 : decode cX5_bears 19 = .ok (.iconst 0, 1) := by decide +kernel
theorem dX5_bears_20 : decode cX5_bears 20 = .ok (.goto 4, 3) := by decide +kernel
theorem dX5_bears_23 : decode cX5_bears 23 = .ok (.iconst 2, 1) := by decide +kernel
theorem dX5_bears_24 : decode cX5_bears 24 = .ok (.putfield 52, 3) := by decide +kernel
theorem dX5_bears_27 : decode cX5_bears 27 = .ok (.aload_n 0, 1) := by decide +kernel
theorem dX5_bears_28 : decode cX5_bears 28 = .ok (.getfield 52, 3) := by decide +kernel
theorem dX5_bears_31 : decode cX5_bears 31 = .ok (.ifCond .le 5, 3) := by decide +kernel
theorem dX5_bears_34 : decode cX5_bears 34 = .ok (.iconst 0, 1) := by decide +kernel
theorem dX5_bears_35 : decode cX5_bears 35 = .ok (.ireturn, 1) := by decide +kernel
theorem dX5_bears_36 : decode cX5_bears 36 = .ok (.aload_n 0, 1) := by decide +kernel
theorem dX5_bears_37 : decode cX5_bears 37 = .ok (.iload_n 1, 1) := by decide +kernel
theorem dX5_bears_38 : decode cX5_bears 38 = .ok (.invokevirtual 84, 3) := by decide +kernel
theorem dX5_bears_41 : decode cX5_bears 41 = .ok (.bipush 40, 2) := by decide +kernel
theorem dX5_bears_43 : decode cX5_bears 43 = .ok (.iconst 2, 1) := by decide +kernel
theorem dX5_bears_44 : decode cX5_bears 44 = .ok (.iload_n 2, 1) := by decide +kernel
theorem dX5_bears_45 : decode cX5_bears 45 = .ok (.imul, 1) := by decide +kernel
theorem dX5_bears_46 : decode cX5_bears 46 = .ok (.isub, 1) := by decide +kernel
theorem dX5_bears_47 : decode cX5_bears 47 = .ok (.istore_n 3, 1) := by decide +kernel
theorem dX5_bears_48 : decode cX5_bears 48 = .ok (.aload_n 0, 1) := by decide +kernel
theorem dX5_bears_49 : decode cX5_bears 49 = .ok (.getfield 70, 3) := by decide +kernel
theorem dX5_bears_52 : decode cX5_bears 52 = .ok (.iload_n 3, 1) := by decide +kernel
theorem dX5_bears_53 : decode cX5_bears 53 = .ok (.iconst 1, 1) := by decide +kernel
theorem dX5_bears_54 : decode cX5_bears 54 = .ok (.if_icmp .ge 7, 3) := by decide +kernel
theorem dX5_bears_57 : decode cX5_bears 57 = .ok (.iconst 1, 1) := by decide +kernel
theorem dX5_bears_58 : decode cX5_bears 58 = .ok (.goto 4, 3) := by decide +kernel
theorem dX5_bears_61 : decode cX5_bears 61 = .ok (.iload_n 3, 1) := by decide +kernel
theorem dX5_bears_62 : decode cX5_bears 62 = .ok (.if_icmp .gt 7, 3) := by decide +kernel
theorem dX5_bears_65 : decode cX5_bears 65 = .ok (.iconst 1, 1) := by decide +kernel
theorem dX5_bears_66 : decode cX5_bears 66 = .ok (.goto 4, 3) := by decide +kernel
theorem dX5_bears_69 : decode cX5_bears 69 = .ok (.iconst 0, 1) := by decide +kernel
theorem dX5_bears_70 : decode cX5_bears 70 = .ok (.ireturn, 1) := by decide +kernel
set_option maxRecDepth 20000 in
theorem ggX5_kindsFor_X5_used : GoodIn wsX5_kindsFor wsX5_used := goodIn_r _ [6, 1, 7, 14, 15, 16, 17, 18, 19, 20, 21, 22, 23, 24, 25, 26, 27, 28, 29, 30, 31, 32, 33] (by decide +kernel) (by decide +kernel)
set_option maxRecDepth 20000 in
theorem gX5_kindsFor_X5_used : GoodIn wsX5_kindsFor (wsV RX5 94 RX5 yX5_used wsX5_used) := goodIn_app (goodIn_of _ (by decide +kernel)) ggX5_kindsFor_X5_used
set_option maxRecDepth 20000 in
theorem ggX5_kindsFor_X5_ownKinds : GoodIn wsX5_kindsFor wsX5_ownKinds := goodIn_r _ [11, 12, 13, 14, 15, 16, 17, 18, 19, 20, 21, 22, 23, 24, 25, 26, 27, 28, 29, 30, 31, 32, 33] (by decide +kernel) (by decide +kernel)
set_option maxRecDepth 20000 in
theorem gX5_kindsFor_X5_ownKinds : GoodIn wsX5_kindsFor (wsV RX5 87 RX5 yX5_ownKinds wsX5_ownKinds) := goodIn_app (goodIn_of _ (by decide +kernel)) ggX5_kindsFor_X5_ownKinds
theorem dX5_kindsFor_0 : decode cX5_kindsFor 0 = .ok (.iconst 0, 1) := by decide +kernel
theorem dX5_kindsFor_1 : decode cX5_kindsFor 1 = .ok (.istore_n 2, 1) := by decide +kernel
theorem dX5_kindsFor_2 : decode cX5_kindsFor 2 = .ok (.iconst 0, 1) := by decide +kernel
theorem dX5_kindsFor_3 : decode cX5_kindsFor 3 = .ok (.istore_n 3, 1) := by decide +kernel
theorem dX5_kindsFor_4 : decode cX5_kindsFor 4 = .ok (.iload_n 3, 1) := by decide +kernel
theorem dX5_kindsFor_5 : decode cX5_kindsFor 5 = .ok (.aload_n 0, 1) := by decide +kernel
theorem dX5_kindsFor_6 : decode cX5_kindsFor 6 = .ok (.getfield 56, 3) := by decide +kernel
theorem dX5_kindsFor_9 : decode cX5_kindsFor 9 = .ok (.if_icmp .ge 34, 3) := by decide +kernel
theorem dX5_kindsFor_12 : decode cX5_kindsFor 12 = .ok (.iload_n 2, 1) := by decide +kernel
theorem dX5_kindsFor_13 : decode cX5_kindsFor 13 = .ok (.aload_n 0, 1) := by decide +kernel
theorem dX5_kindsFor_14 : decode cX5_kindsFor 14 = .ok (.iload_n 1, 1) := by decide +kernel
theorem dX5_kindsFor_15 : decode cX5_kindsFor 15 = .ok (.invokevirtual 94, 3) := by decide +kernel
theorem dX5_kindsFor_18 : decode cX5_kindsFor 18 = .ok (.iload_n 3, 1) := by decide +kernel
theorem dX5_kindsFor_19 : decode cX5_kindsFor 19 = .ok (.ishr, 1) := by decide +kernel
theorem dX5_kindsFor_20 : decode cX5_kindsFor 20 = .ok (.iconst 1, 1) := by decide +kernel
theorem dX5_kindsFor_21 : decode cX5_kindsFor 21 = .ok (.iand, 1) := by decide +kernel
theorem dX5_kindsFor_22 : decode cX5_kindsFor 22 = .ok (.iconst 1, 1) := by decide +kernel
theorem dX5_kindsFor_23 : decode cX5_kindsFor 23 = .ok (.if_icmp .ne 11, 3) := by decide +kernel
theorem dX5_kindsFor_26 : decode cX5_kindsFor 26 = .ok (.aload_n 0, 1) := by decide +kernel
theorem dX5_kindsFor_27 : decode cX5_kindsFor 27 = .ok (.iload_n 3, 1) := by decide +kernel
theorem dX5_kindsFor_28 : decode cX5_kindsFor 28 = .ok (.invokevirtual 87, 3) := by decide +kernel
theorem dX5_kindsFor_31 : decode cX5_kindsFor 31 = .ok (.goto 4, 3) := by decide +kernel
theorem dX5_kindsFor_34 : decode cX5_kindsFor 34 = .ok (.iconst 0, 1) := by decide +kernel
theorem dX5_kindsFor_35 : decode cX5_kindsFor 35 = .ok (.ior, 1) := by decide +kernel
theorem dX5_kindsFor_36 : decode cX5_kindsFor 36 = .ok (.istore_n 2, 1) := by decide +kernel
theorem dX5_kindsFor_37 : decode cX5_kindsFor 37 = .ok (.iinc 3 1, 3) := by decide +kernel
theorem dX5_kindsFor_40 : decode cX5_kindsFor 40 = .ok (.goto (-36), 3) := by decide +kernel
theorem dX5_kindsFor_43 : decode cX5_kindsFor 43 = .ok (.iload_n 2, 1) := by decide +kernel
theorem dX5_kindsFor_44 : decode cX5_kindsFor 44 = .ok (.ireturn, 1) := by decide +kernel
set_option maxRecDepth 20000 in
theorem ggX5_kindsOf_X5_isModel : GoodIn wsX5_kindsOf wsX5_isModel := goodIn_r _ [5, 6, 7, 8, 9, 4, 10, 26, 27, 28, 29, 30, 31, 32, 33, 34, 35, 36, 37, 38, 39, 40, 41, 42, 43, 44, 45] (by decide +kernel) (by decide +kernel)
set_option maxRecDepth 20000 in
theorem gX5_kindsOf_X5_isModel : GoodIn wsX5_kindsOf (wsV RX5 90 RX5 yX5_isModel wsX5_isModel) := goodIn_app (goodIn_of _ (by decide +kernel)) ggX5_kindsOf_X5_isModel
set_option maxRecDepth 20000 in
theorem ggX5_kindsOf_X5_kindsFor : GoodIn wsX5_kindsOf wsX5_kindsFor := goodIn_r _ [14, 6, 15, 16, 17, 4, 18, 19, 20, 21, 22, 23, 24, 25, 26, 27, 28, 29, 30, 31, 32, 33, 34, 35, 36, 37, 38, 39, 40, 41, 42, 43, 44, 45] (by decide +kernel) (by decide +kernel)
set_option maxRecDepth 20000 in
theorem gX5_kindsOf_X5_kindsFor : GoodIn wsX5_kindsOf (wsV RX5 114 RX5 yX5_kindsFor wsX5_kindsFor) := goodIn_app (goodIn_of _ (by decide +kernel)) ggX5_kindsOf_X5_kindsFor
theorem dX5_kindsOf_0 : decode cX5_kindsOf 0 = .ok (.aload_n 0, 1) := by decide +kernel
theorem dX5_kindsOf_1 : decode cX5_kindsOf 1 = .ok (.iload_n 1, 1) := by decide +kernel
theorem dX5_kindsOf_2 : decode cX5_kindsOf 2 = .ok (.invokevirtual 90, 3) := by decide +kernel
theorem dX5_kindsOf_5 : decode cX5_kindsOf 5 = .ok (.ifCond .eq 11, 3) := by decide +kernel
theorem dX5_kindsOf_8 : decode cX5_kindsOf 8 = .ok (.aload_n 0, 1) := by decide +kernel
theorem dX5_kindsOf_9 : decode cX5_kindsOf 9 = .ok (.iload_n 1, 1) := by decide +kernel
theorem dX5_kindsOf_10 : decode cX5_kindsOf 10 = .ok (.invokevirtual 114, 3) := by decide +kernel
theorem dX5_kindsOf_13 : decode cX5_kindsOf 13 = .ok (.goto 4, 3) := by decide +kernel
theorem dX5_kindsOf_16 : decode cX5_kindsOf 16 = .ok (.iconst 0, 1) := by decide +kernel
theorem dX5_kindsOf_17 : decode cX5_kindsOf 17 = .ok (.ireturn, 1) := by decide +kernel
set_option maxRecDepth 20000 in
theorem ggX5_isExam_X5_in : GoodIn wsX5_isExam wsX5_in := goodIn_r _ [6] (by decide +kernel) (by decide +kernel)
set_option maxRecDepth 20000 in
theorem gX5_isExam_X5_in : GoodIn wsX5_isExam (va_wsS RX5 59 yX5_in wsX5_in) := goodIn_app (goodIn_of _ (by decide +kernel)) ggX5_isExam_X5_in
theorem dX5_isExam_0 : decode cX5_isExam 0 = .ok (.aload_n 0, 1) := by decide +kernel
theorem dX5_isExam_1 : decode cX5_isExam 1 = .ok (.iload_n 1, 1) := by decide +kernel
theorem dX5_isExam_2 : decode cX5_isExam 2 = .ok (.iconst 0, 1) := by decide +kernel
theorem dX5_isExam_3 : decode cX5_isExam 3 = .ok (.iconst 5, 1) := by decide +kernel
theorem dX5_isExam_4 : decode cX5_isExam 4 = .ok (.invokestatic 59, 3) := by decide +kernel
theorem dX5_isExam_7 : decode cX5_isExam 7 = .ok (.ifCond .eq 21, 3) := by decide +kernel
theorem dX5_isExam_10 : decode cX5_isExam 10 = .ok (.iload_n 2, 1) := by decide +kernel
theorem dX5_isExam_11 : decode cX5_isExam 11 = .ok (.iconst 0, 1) := by decide +kernel
theorem dX5_isExam_12 : decode cX5_isExam 12 = .ok (.aload_n 0, 1) := by decide +kernel
theorem dX5_isExam_13 : decode cX5_isExam 13 = .ok (.getfield 56, 3) := by decide +kernel
theorem dX5_isExam_16 : decode cX5_isExam 16 = .ok (.iconst 1, 1) := by decide +kernel
theorem dX5_isExam_17 : decode cX5_isExam 17 = .ok (.isub, 1) := by decide +kernel
theorem dX5_isExam_18 : decode cX5_isExam 18 = .ok (.invokestatic 59, 3) := by decide +kernel
theorem dX5_isExam_21 : decode cX5_isExam 21 = .ok (.ifCond .eq 7, 3) := by decide +kernel
theorem dX5_isExam_24 : decode cX5_isExam 24 = .ok (.iconst 0, 1) := by decide +kernel
theorem dX5_isExam_25 : decode cX5_isExam 25 = .ok (.goto 4, 3) := by decide +kernel
theorem dX5_isExam_28 : decode cX5_isExam 28 = .ok (.iconst 1, 1) := by decide +kernel
theorem dX5_isExam_29 : decode cX5_isExam 29 = .ok (.putfield 52, 3) := by decide +kernel
theorem dX5_isExam_32 : decode cX5_isExam 32 = .ok (.aload_n 0, 1) := by decide +kernel
theorem dX5_isExam_33 : decode cX5_isExam 33 = .ok (.getfield 52, 3) := by decide +kernel
theorem dX5_isExam_36 : decode cX5_isExam 36 = .ok (.ifCond .ne 7, 3) := by decide +kernel
theorem dX5_isExam_39 : decode cX5_isExam 39 = .ok (.iconst 1, 1) := by decide +kernel
theorem dX5_isExam_40 : decode cX5_isExam 40 = .ok (.goto 4, 3) := by decide +kernel
theorem dX5_isExam_43 : decode cX5_isExam 43 = .ok (.iconst 0, 1) := by decide +kernel
theorem dX5_isExam_44 : decode cX5_isExam 44 = .ok (.ireturn, 1) := by decide +kernel
set_option maxRecDepth 20000 in
theorem ggX5_mayFold_X5_isExam : GoodIn wsX5_mayFold wsX5_isExam := goodIn_r _ [6, 7, 8, 9, 10, 5, 11, 27, 28, 29, 30, 31, 32, 33, 34, 35, 36, 37, 38, 39, 40, 41, 42, 43, 44, 45, 46] (by decide +kernel) (by decide +kernel)
set_option maxRecDepth 20000 in
theorem gX5_mayFold_X5_isExam : GoodIn wsX5_mayFold (wsV RX5 117 RX5 yX5_isExam wsX5_isExam) := goodIn_app (goodIn_of _ (by decide +kernel)) ggX5_mayFold_X5_isExam
set_option maxRecDepth 20000 in
theorem ggX5_mayFold_X5_kindsFor : GoodIn wsX5_mayFold wsX5_kindsFor := goodIn_r _ [15, 7, 16, 17, 18, 5, 19, 20, 21, 22, 23, 24, 25, 26, 27, 28, 29, 30, 31, 32, 33, 34, 35, 36, 37, 38, 39, 40, 41, 42, 43, 44, 45, 46] (by decide +kernel) (by decide +kernel)
set_option maxRecDepth 20000 in
theorem gX5_mayFold_X5_kindsFor : GoodIn wsX5_mayFold (wsV RX5 114 RX5 yX5_kindsFor wsX5_kindsFor) := goodIn_app (goodIn_of _ (by decide +kernel)) ggX5_mayFold_X5_kindsFor
theorem dX5_mayFold_0 : decode cX5_mayFold 0 = .ok (.aload_n 0, 1) := by decide +kernel
theorem dX5_mayFold_1 : decode cX5_mayFold 1 = .ok (.iload_n 1, 1) := by decide +kernel
theorem dX5_mayFold_2 : decode cX5_mayFold 2 = .ok (.iload_n 2, 1) := by decide +kernel
theorem dX5_mayFold_3 : decode cX5_mayFold 3 = .ok (.invokevirtual 117, 3) := by decide +kernel
theorem dX5_mayFold_6 : decode cX5_mayFold 6 = .ok (.ifCond .eq 24, 3) := by decide +kernel
theorem dX5_mayFold_9 : decode cX5_mayFold 9 = .ok (.aload_n 0, 1) := by decide +kernel
theorem dX5_mayFold_10 : decode cX5_mayFold 10 = .ok (.iload_n 2, 1) := by decide +kernel
theorem dX5_mayFold_11 : decode cX5_mayFold 11 = .ok (.invokevirtual 114, 3) := by decide +kernel
theorem dX5_mayFold_14 : decode cX5_mayFold 14 = .ok (.aload_n 0, 1) := by decide +kernel
theorem dX5_mayFold_15 : decode cX5_mayFold 15 = .ok (.getfield 34, 3) := by decide +kernel
theorem dX5_mayFold_18 : decode cX5_mayFold 18 = .ok (.iload_n 1, 1) := by decide +kernel
theorem dX5_mayFold_19 : decode cX5_mayFold 19 = .ok (.iaload, 1) := by decide +kernel
theorem dX5_mayFold_20 : decode cX5_mayFold 20 = .ok (.iconst (-1), 1) := by decide +kernel
theorem dX5_mayFold_21 : decode cX5_mayFold 21 = .ok (.ixor, 1) := by decide +kernel
theorem dX5_mayFold_22 : decode cX5_mayFold 22 = .ok (.iand, 1) := by decide +kernel
theorem dX5_mayFold_23 : decode cX5_mayFold 23 = .ok (.ifCond .ne 7, 3) := by decide +kernel
theorem dX5_mayFold_26 : decode cX5_mayFold 26 = .ok (.iconst 1, 1) := by decide +kernel
theorem dX5_mayFold_27 : decode cX5_mayFold 27 = .ok (.goto 4, 3) := by decide +kernel
theorem dX5_mayFold_30 : decode cX5_mayFold 30 = .ok (.iconst 0, 1) := by decide +kernel
theorem dX5_mayFold_31 : decode cX5_mayFold 31 = .ok (.ireturn, 1) := by decide +kernel
set_option maxRecDepth 20000 in
theorem ggX5_lessons_X5_isExam : GoodIn wsX5_lessons wsX5_isExam := goodIn_r _ [7, 8, 9, 10, 11, 6, 12, 31, 32, 33, 34, 35, 36, 37, 38, 39, 40, 41, 42, 43, 44, 45, 46, 47, 48, 49, 50] (by decide +kernel) (by decide +kernel)
set_option maxRecDepth 20000 in
theorem gX5_lessons_X5_isExam : GoodIn wsX5_lessons (wsV RX5 117 RX5 yX5_isExam wsX5_isExam) := goodIn_app (goodIn_of _ (by decide +kernel)) ggX5_lessons_X5_isExam
set_option maxRecDepth 20000 in
theorem ggX5_lessons_X5_kindsFor : GoodIn wsX5_lessons wsX5_kindsFor := goodIn_r _ [16, 8, 17, 18, 19, 6, 20, 21, 22, 23, 24, 25, 26, 27, 31, 32, 33, 34, 35, 36, 37, 38, 39, 40, 41, 42, 43, 44, 45, 46, 47, 48, 49, 50] (by decide +kernel) (by decide +kernel)
set_option maxRecDepth 20000 in
theorem gX5_lessons_X5_kindsFor : GoodIn wsX5_lessons (wsV RX5 114 RX5 yX5_kindsFor wsX5_kindsFor) := goodIn_app (goodIn_of _ (by decide +kernel)) ggX5_lessons_X5_kindsFor
set_option maxRecDepth 20000 in
theorem ggX5_lessons_X5_bits : GoodIn wsX5_lessons wsX5_bits := goodIn_r _ [30] (by decide +kernel) (by decide +kernel)
set_option maxRecDepth 20000 in
theorem gX5_lessons_X5_bits : GoodIn wsX5_lessons (va_wsS RX5 104 yX5_bits wsX5_bits) := goodIn_app (goodIn_of _ (by decide +kernel)) ggX5_lessons_X5_bits
theorem dX5_lessons_0 : decode cX5_lessons 0 = .ok (.aload_n 0, 1) := by decide +kernel
theorem dX5_lessons_1 : decode cX5_lessons 1 = .ok (.iload_n 1, 1) := by decide +kernel
theorem dX5_lessons_2 : decode cX5_lessons 2 = .ok (.iload_n 2, 1) := by decide +kernel
theorem dX5_lessons_3 : decode cX5_lessons 3 = .ok (.invokevirtual 117, 3) := by decide +kernel
theorem dX5_lessons_6 : decode cX5_lessons 6 = .ok (.ifCond .ne 5, 3) := by decide +kernel
theorem dX5_lessons_9 : decode cX5_lessons 9 = .ok (.iconst 0, 1) := by decide +kernel
theorem dX5_lessons_10 : decode cX5_lessons 10 = .ok (.ireturn, 1) := by decide +kernel
theorem dX5_lessons_11 : decode cX5_lessons 11 = .ok (.aload_n 0, 1) := by decide +kernel
theorem dX5_lessons_12 : decode cX5_lessons 12 = .ok (.iload_n 2, 1) := by decide +kernel
theorem dX5_lessons_13 : decode cX5_lessons 13 = .ok (.invokevirtual 114, 3) := by decide +kernel
theorem dX5_lessons_16 : decode cX5_lessons 16 = .ok (.aload_n 0, 1) := by decide +kernel
theorem dX5_lessons_17 : decode cX5_lessons 17 = .ok (.getfield 34, 3) := by decide +kernel
theorem dX5_lessons_20 : decode cX5_lessons 20 = .ok (.iload_n 1, 1) := by decide +kernel
theorem dX5_lessons_21 : decode cX5_lessons 21 = .ok (.iaload, 1) := by decide +kernel
theorem dX5_lessons_22 : decode cX5_lessons 22 = .ok (.iconst (-1), 1) := by decide +kernel
theorem dX5_lessons_23 : decode cX5_lessons 23 = .ok (.ixor, 1) := by decide +kernel
theorem dX5_lessons_24 : decode cX5_lessons 24 = .ok (.iand, 1) := by decide +kernel
theorem dX5_lessons_25 : decode cX5_lessons 25 = .ok (.istore_n 3, 1) := by decide +kernel
theorem dX5_lessons_26 : decode cX5_lessons 26 = .ok (.iconst 0, 1) := by decide +kernel
theorem dX5_lessons_27 : decode cX5_lessons 27 = .ok (.istore 4, 2) := by decide +kernel
theorem dX5_lessons_29 : decode cX5_lessons 29 = .ok (.iload 4, 2) := by decide +kernel
theorem dX5_lessons_31 : decode cX5_lessons 31 = .ok (.bipush 8, 2) := by decide +kernel
theorem dX5_lessons_33 : decode cX5_lessons 33 = .ok (.if_icmp .ge 58, 3) := by decide +kernel
theorem dX5_lessons_36 : decode cX5_lessons 36 = .ok (.iconst 0, 1) := by decide +kernel
theorem dX5_lessons_37 : decode cX5_lessons 37 = .ok (.istore 5, 2) := by decide +kernel
theorem dX5_lessons_39 : decode cX5_lessons 39 = .ok (.iload 5, 2) := by decide +kernel
theorem dX5_lessons_41 : decode cX5_lessons 41 = .ok (.bipush 8, 2) := by decide +kernel
theorem dX5_lessons_43 : decode cX5_lessons 43 = .ok (.if_icmp .ge 42, 3) := by decide +kernel
theorem dX5_lessons_46 : decode cX5_lessons 46 = .ok (.iload_n 3, 1) := by decide +kernel
theorem dX5_lessons_47 : decode cX5_lessons 47 = .ok (.iload_n 3, 1) := by decide +kernel
theorem dX5_lessons_48 : decode cX5_lessons 48 = .ok (.iload 5, 2) := by decide +kernel
theorem dX5_lessons_50 : decode cX5_lessons 50 = .ok (.ishr, 1) := by decide +kernel
theorem dX5_lessons_51 : decode cX5_lessons 51 = .ok (.iconst 1, 1) := by decide +kernel
theorem dX5_lessons_52 : decode cX5_lessons 52 = .ok (.iand, 1) := by decide +kernel
theorem dX5_lessons_53 : decode cX5_lessons 53 = .ok (.iconst 1, 1) := by decide +kernel
theorem dX5_lessons_54 : decode cX5_lessons 54 = .ok (.if_icmp .ne 22, 3) := by decide +kernel
theorem dX5_lessons_57 : decode cX5_lessons 57 = .ok (.aload_n 0, 1) := by decide +kernel
theorem dX5_lessons_58 : decode cX5_lessons 58 = .ok (.getfield 7, 3) := by decide +kernel
theorem dX5_lessons_61 : decode cX5_lessons 61 = .ok (.iload 5, 2) := by decide +kernel
theorem dX5_lessons_63 : decode cX5_lessons 63 = .ok (.iaload, 1) := by decide +kernel
theorem dX5_lessons_64 : decode cX5_lessons 64 = .ok (.aload_n 0, 1) := by decide +kernel
theorem dX5_lessons_65 : decode cX5_lessons 65 = .ok (.getfield 34, 3) := by decide +kernel
theorem dX5_lessons_68 : decode cX5_lessons 68 = .ok (.iload_n 1, 1) := by decide +kernel
theorem dX5_lessons_69 : decode cX5_lessons 69 = .ok (.iaload, 1) := by decide +kernel
theorem dX5_lessons_70 : decode cX5_lessons 70 = .ok (.iconst (-1), 1) := by decide +kernel
theorem dX5_lessons_71 : decode cX5_lessons 71 = .ok (.ixor, 1) := by decide +kernel
theorem dX5_lessons_72 : decode cX5_lessons 72 = .ok (.iand, 1) := by decide +kernel
theorem dX5_lessons_73 : decode cX5_lessons 73 = .ok (.goto 4, 3) := by decide +kernel
theorem dX5_lessons_76 : decode cX5_lessons 76 = .ok (.iconst 0, 1) := by decide +kernel
theorem dX5_lessons_77 : decode cX5_lessons 77 = .ok (.ior, 1) := by decide +kernel
theorem dX5_lessons_78 : decode cX5_lessons 78 = .ok (.istore_n 3, 1) := by decide +kernel
theorem dX5_lessons_79 : decode cX5_lessons 79 = .ok (.iinc 5 1, 3) := by decide +kernel
theorem dX5_lessons_82 : decode cX5_lessons 82 = .ok (.goto (-43), 3) := by decide +kernel
theorem dX5_lessons_85 : decode cX5_lessons 85 = .ok (.iinc 4 1, 3) := by decide +kernel
theorem dX5_lessons_88 : decode cX5_lessons 88 = .ok (.goto (-59), 3) := by decide +kernel
theorem dX5_lessons_91 : decode cX5_lessons 91 = .ok (.iload_n 3, 1) := by decide +kernel
theorem dX5_lessons_92 : decode cX5_lessons 92 = .ok (.invokestatic 104, 3) := by decide +kernel
theorem dX5_lessons_95 : decode cX5_lessons 95 = .ok (.ireturn, 1) := by decide +kernel
set_option maxRecDepth 20000 in
theorem ggX5_credit_X5_in : GoodIn wsX5_credit wsX5_in := goodIn_r _ [7] (by decide +kernel) (by decide +kernel)
set_option maxRecDepth 20000 in
theorem gX5_credit_X5_in : GoodIn wsX5_credit (va_wsS RX5 59 yX5_in wsX5_in) := goodIn_app (goodIn_of _ (by decide +kernel)) ggX5_credit_X5_in
set_option maxRecDepth 20000 in
theorem ggX5_credit_X5_used : GoodIn wsX5_credit wsX5_used := goodIn_r _ [11, 2, 12, 13, 14, 15, 16, 17, 18, 19, 20, 21, 22, 23, 24, 25, 26, 27, 28, 29, 30, 31, 32] (by decide +kernel) (by decide +kernel)
set_option maxRecDepth 20000 in
theorem gX5_credit_X5_used : GoodIn wsX5_credit (wsV RX5 94 RX5 yX5_used wsX5_used) := goodIn_app (goodIn_of _ (by decide +kernel)) ggX5_credit_X5_used
theorem dX5_credit_0 : decode cX5_credit 0 = .ok (.aload_n 0, 1) := by decide +kernel
theorem dX5_credit_1 : decode cX5_credit 1 = .ok (.iload_n 1, 1) := by decide +kernel
theorem dX5_credit_2 : decode cX5_credit 2 = .ok (.iconst 0, 1) := by decide +kernel
theorem dX5_credit_3 : decode cX5_credit 3 = .ok (.bipush 9, 2) := by decide +kernel
theorem dX5_credit_5 : decode cX5_credit 5 = .ok (.invokestatic 59, 3) := by decide +kernel
theorem dX5_credit_8 : decode cX5_credit 8 = .ok (.ifCond .eq 7, 3) := by decide +kernel
theorem dX5_credit_11 : decode cX5_credit 11 = .ok (.iconst 0, 1) := by decide +kernel
theorem dX5_credit_12 : decode cX5_credit 12 = .ok (.goto 4, 3) := by decide +kernel
theorem dX5_credit_15 : decode cX5_credit 15 = .ok (.iconst 1, 1) := by decide +kernel
theorem dX5_credit_16 : decode cX5_credit 16 = .ok (.putfield 52, 3) := by decide +kernel
theorem dX5_credit_19 : decode cX5_credit 19 = .ok (.iconst 0, 1) := by decide +kernel
theorem dX5_credit_20 : decode cX5_credit 20 = .ok (.istore_n 2, 1) := by decide +kernel
theorem dX5_credit_21 : decode cX5_credit 21 = .ok (.iconst 0, 1) := by decide +kernel
theorem dX5_credit_22 : decode cX5_credit 22 = .ok (.istore_n 3, 1) := by decide +kernel
theorem dX5_credit_23 : decode cX5_credit 23 = .ok (.iload_n 3, 1) := by decide +kernel
theorem dX5_credit_24 : decode cX5_credit 24 = .ok (.aload_n 0, 1) := by decide +kernel
theorem dX5_credit_25 : decode cX5_credit 25 = .ok (.getfield 56, 3) := by decide +kernel
theorem dX5_credit_28 : decode cX5_credit 28 = .ok (.if_icmp .ge 103, 3) := by decide +kernel
theorem dX5_credit_31 : decode cX5_credit 31 = .ok (.aload_n 0, 1) := by decide +kernel
theorem dX5_credit_32 : decode cX5_credit 32 = .ok (.getfield 52, 3) := by decide +kernel
theorem dX5_credit_35 : decode cX5_credit 35 = .ok (.ifCond .ne 96, 3) := by decide +kernel
theorem dX5_credit_38 : decode cX5_credit 38 = .ok (.iconst 0, 1) := by decide +kernel
theorem dX5_credit_39 : decode cX5_credit 39 = .ok (.istore 4, 2) := by decide +kernel
theorem dX5_credit_41 : decode cX5_credit 41 = .ok (.iconst 0, 1) := by decide +kernel
theorem dX5_credit_42 : decode cX5_credit 42 = .ok (.istore 5, 2) := by decide +kernel
theorem dX5_credit_44 : decode cX5_credit 44 = .ok (.iload 5, 2) := by decide +kernel
theorem dX5_credit_46 : decode cX5_credit 46 = .ok (.aload_n 0, 1) := by decide +kernel
theorem dX5_credit_47 : decode cX5_credit 47 = .ok (.getfield 56, 3) := by decide +kernel
theorem dX5_credit_50 : decode cX5_credit 50 = .ok (.if_icmp .ge 52, 3) := by decide +kernel
theorem dX5_credit_53 : decode cX5_credit 53 = .ok (.iload 4, 2) := by decide +kernel
theorem dX5_credit_55 : decode cX5_credit 55 = .ok (.ifCond .ne 34, 3) := by decide +kernel
theorem dX5_credit_58 : decode cX5_credit 58 = .ok (.iload 5, 2) := by decide +kernel
theorem dX5_credit_60 : decode cX5_credit 60 = .ok (.iload_n 3, 1) := by decide +kernel
theorem dX5_credit_61 : decode cX5_credit 61 = .ok (.if_icmp .eq 32, 3) := by decide +kernel
theorem dX5_credit_64 : decode cX5_credit 64 = .ok (.aload_n 0, 1) := by decide +kernel
theorem dX5_credit_65 : decode cX5_credit 65 = .ok (.iload_n 3, 1) := by decide +kernel
theorem dX5_credit_66 : decode cX5_credit 66 = .ok (.invokevirtual 94, 3) := by decide +kernel
theorem dX5_credit_69 : decode cX5_credit 69 = .ok (.iload 5, 2) := by decide +kernel
theorem dX5_credit_71 : decode cX5_credit 71 = .ok (.ishr, 1) := by decide +kernel
theorem dX5_credit_72 : decode cX5_credit 72 = .ok (.iconst 1, 1) := by decide +kernel
theorem dX5_credit_73 : decode cX5_credit 73 = .ok (.iand, 1) := by decide +kernel
theorem dX5_credit_74 : decode cX5_credit 74 = .ok (.iconst 1, 1) := by decide +kernel
theorem dX5_credit_75 : decode cX5_credit 75 = .ok (.if_icmp .ne 18, 3) := by decide +kernel
theorem dX5_credit_78 : decode cX5_credit 78 = .ok (.aload_n 0, 1) := by decide +kernel
theorem dX5_credit_79 : decode cX5_credit 79 = .ok (.getfield 13, 3) := by decide +kernel
theorem dX5_credit_82 : decode cX5_credit 82 = .ok (.iload 5, 2) := by decide +kernel
theorem dX5_credit_84 : decode cX5_credit 84 = .ok (.iaload, 1) := by decide +kernel
theorem dX5_credit_85 : decode cX5_credit 85 = .ok (.iload_n 1, 1) := by decide +kernel
theorem dX5_credit_86 : decode cX5_credit 86 = .ok (.if_icmp .ne 7, 3) := by decide +kernel
theorem dX5_credit_89 : decode cX5_credit 89 = .ok (.iconst 1, 1) := by decide +kernel
theorem dX5_credit_90 : decode cX5_credit 90 = .ok (.goto 4, 3) := by decide +kernel
theorem dX5_credit_93 : decode cX5_credit 93 = .ok (.iconst 0, 1) := by decide +kernel
theorem dX5_credit_94 : decode cX5_credit 94 = .ok (.istore 4, 2) := by decide +kernel
theorem dX5_credit_96 : decode cX5_credit 96 = .ok (.iinc 5 1, 3) := by decide +kernel
theorem dX5_credit_99 : decode cX5_credit 99 = .ok (.goto (-55), 3) := by decide +kernel
theorem dX5_credit_102 : decode cX5_credit 102 = .ok (.iload_n 2, 1) := by decide +kernel
theorem dX5_credit_103 : decode cX5_credit 103 = .ok (.iload 4, 2) := by decide +kernel
theorem dX5_credit_105 : decode cX5_credit 105 = .ok (.ifCond .eq 17, 3) := by decide +kernel
theorem dX5_credit_108 : decode cX5_credit 108 = .ok (.aload_n 0, 1) := by decide +kernel
theorem dX5_credit_109 : decode cX5_credit 109 = .ok (.getfield 13, 3) := by decide +kernel
theorem dX5_credit_112 : decode cX5_credit 112 = .ok (.iload_n 3, 1) := by decide +kernel
theorem dX5_credit_113 : decode cX5_credit 113 = .ok (.iaload, 1) := by decide +kernel
theorem dX5_credit_114 : decode cX5_credit 114 = .ok (.iload_n 1, 1) := by decide +kernel
theorem dX5_credit_115 : decode cX5_credit 115 = .ok (.if_icmp .eq 7, 3) := by decide +kernel
theorem dX5_credit_118 : decode cX5_credit 118 = .ok (.iconst 1, 1) := by decide +kernel
theorem dX5_credit_119 : decode cX5_credit 119 = .ok (.goto 4, 3) := by decide +kernel
theorem dX5_credit_122 : decode cX5_credit 122 = .ok (.iconst 0, 1) := by decide +kernel
theorem dX5_credit_123 : decode cX5_credit 123 = .ok (.iadd, 1) := by decide +kernel
theorem dX5_credit_124 : decode cX5_credit 124 = .ok (.istore_n 2, 1) := by decide +kernel
theorem dX5_credit_125 : decode cX5_credit 125 = .ok (.iinc 3 1, 3) := by decide +kernel
theorem dX5_credit_128 : decode cX5_credit 128 = .ok (.goto (-105), 3) := by decide +kernel
theorem dX5_credit_131 : decode cX5_credit 131 = .ok (.iload_n 2, 1) := by decide +kernel
theorem dX5_credit_132 : decode cX5_credit 132 = .ok (.ireturn, 1) := by decide +kernel
theorem dX5_fewest_0 : decode cX5_fewest 0 = .ok (.aload_n 0, 1) := by decide +kernel
theorem dX5_fewest_1 : decode cX5_fewest 1 = .ok (.getfield 49, 3) := by decide +kernel
theorem dX5_fewest_4 : decode cX5_fewest 4 = .ok (.iconst 0, 1) := by decide +kernel
theorem dX5_fewest_5 : decode cX5_fewest 5 = .ok (.iconst 0, 1) := by decide +kernel
theorem dX5_fewest_6 : decode cX5_fewest 6 = .ok (.iastore, 1) := by decide +kernel
theorem dX5_fewest_7 : decode cX5_fewest 7 = .ok (.iconst 1, 1) := by decide +kernel
theorem dX5_fewest_8 : decode cX5_fewest 8 = .ok (.istore_n 1, 1) := by decide +kernel
theorem dX5_fewest_9 : decode cX5_fewest 9 = .ok (.iload_n 1, 1) := by decide +kernel
theorem dX5_fewest_10 : decode cX5_fewest 10 = .ok (.aload_n 0, 1) := by decide +kernel
theorem dX5_fewest_11 : decode cX5_fewest 11 = .ok (.getfield 98, 3) := by decide +kernel
theorem dX5_fewest_14 : decode cX5_fewest 14 = .ok (.if_icmp .gt 107, 3) := by decide +kernel
theorem dX5_fewest_17 : decode cX5_fewest 17 = .ok (.aload_n 0, 1) := by decide +kernel
theorem dX5_fewest_18 : decode cX5_fewest 18 = .ok (.getfield 49, 3) := by decide +kernel
theorem dX5_fewest_21 : decode cX5_fewest 21 = .ok (.iload_n 1, 1) := by decide +kernel
theorem dX5_fewest_22 : decode cX5_fewest 22 = .ok (.iconst (-1), 1) := by decide +kernel
theorem dX5_fewest_23 : decode cX5_fewest 23 = .ok (.iastore, 1) := by decide +kernel
theorem dX5_fewest_24 : decode cX5_fewest 24 = .ok (.iconst 1, 1) := by decide +kernel
theorem dX5_fewest_25 : decode cX5_fewest 25 = .ok (.istore_n 2, 1) := by decide +kernel
theorem dX5_fewest_26 : decode cX5_fewest 26 = .ok (.iload_n 2, 1) := by decide +kernel
theorem dX5_fewest_27 : decode cX5_fewest 27 = .ok (.bipush 20, 2) := by decide +kernel
theorem dX5_fewest_29 : decode cX5_fewest 29 = .ok (.if_icmp .gt 86, 3) := by decide +kernel
theorem dX5_fewest_32 : decode cX5_fewest 32 = .ok (.iload_n 2, 1) := by decide +kernel
theorem dX5_fewest_33 : decode cX5_fewest 33 = .ok (.iload_n 1, 1) := by decide +kernel
theorem dX5_fewest_34 : decode cX5_fewest 34 = .ok (.if_icmp .gt 81, 3) := by decide +kernel
theorem dX5_fewest_37 : decode cX5_fewest 37 = .ok (.aload_n 0, 1) := by decide +kernel
theorem dX5_fewest_38 : decode cX5_fewest 38 = .ok (.getfield 101, 3) := by decide +kernel
theorem dX5_fewest_41 : decode cX5_fewest 41 = .ok (.iload_n 2, 1) := by decide +kernel
theorem dX5_fewest_42 : decode cX5_fewest 42 = .ok (.iconst 1, 1) := by decide +kernel
theorem dX5_fewest_43 : decode cX5_fewest 43 = .ok (.isub, 1) := by decide +kernel
theorem dX5_fewest_44 : decode cX5_fewest 44 = .ok (.ishr, 1) := by decide +kernel
theorem dX5_fewest_45 : decode cX5_fewest 45 = .ok (.iconst 1, 1) := by decide +kernel
theorem dX5_fewest_46 : decode cX5_fewest 46 = .ok (.iand, 1) := by decide +kernel
theorem dX5_fewest_47 : decode cX5_fewest 47 = .ok (.iconst 1, 1) := by decide +kernel
theorem dX5_fewest_48 : decode cX5_fewest 48 = .ok (.if_icmp .ne 14, 3) := by decide +kernel
theorem dX5_fewest_51 : decode cX5_fewest 51 = .ok (.aload_n 0, 1) := by decide +kernel
theorem dX5_fewest_52 : decode cX5_fewest 52 = .ok (.getfield 49, 3) := by decide +kernel
theorem dX5_fewest_55 : decode cX5_fewest 55 = .ok (.iload_n 1, 1) := by decide +kernel
theorem dX5_fewest_56 : decode cX5_fewest 56 = .ok (.iload_n 2, 1) := by decide +kernel
theorem dX5_fewest_57 : decode cX5_fewest 57 = .ok (.isub, 1) := by decide +kernel
theorem dX5_fewest_58 : decode cX5_fewest 58 = .ok (.iaload, 1) := by decide +kernel
theorem dX5_fewest_59 : decode cX5_fewest 59 = .ok (.goto 4, 3) := by decide +kernel
theorem dX5_fewest_62 : decode cX5_fewest 62 = .ok (.iconst (-1), 1) := by decide +kernel
theorem dX5_fewest_63 : decode cX5_fewest 63 = .ok (.istore_n 3, 1) := by decide +kernel
theorem dX5_fewest_64 : decode cX5_fewest 64 = .ok (.aload_n 0, 1) := by decide +kernel
theorem dX5_fewest_65 : decode cX5_fewest 65 = .ok (.getfield 49, 3) := by decide +kernel
theorem dX5_fewest_68 : decode cX5_fewest 68 = .ok (.iload_n 1, 1) := by decide +kernel
theorem dX5_fewest_69 : decode cX5_fewest 69 = .ok (.iload_n 3, 1) := by decide +kernel
theorem dX5_fewest_70 : decode cX5_fewest 70 = .ok (.iconst (-1), 1) := by decide +kernel
theorem dX5_fewest_71 : decode cX5_fewest 71 = .ok (.if_icmp .eq 31, 3) := by decide +kernel
theorem dX5_fewest_74 : decode cX5_fewest 74 = .ok (.aload_n 0, 1) := by decide +kernel
theorem dX5_fewest_75 : decode cX5_fewest 75 = .ok (.getfield 49, 3) := by decide +kernel
theorem dX5_fewest_78 : decode cX5_fewest 78 = .ok (.iload_n 1, 1) := by decide +kernel
theorem dX5_fewest_79 : decode cX5_fewest 79 = .ok (.iaload, 1) := by decide +kernel
theorem dX5_fewest_80 : decode cX5_fewest 80 = .ok (.iconst (-1), 1) := by decide +kernel
theorem dX5_fewest_81 : decode cX5_fewest 81 = .ok (.if_icmp .eq 15, 3) := by decide +kernel
theorem dX5_fewest_84 : decode cX5_fewest 84 = .ok (.iload_n 3, 1) := by decide +kernel
theorem dX5_fewest_85 : decode cX5_fewest 85 = .ok (.iconst 1, 1) := by decide +kernel
theorem dX5_fewest_86 : decode cX5_fewest 86 = .ok (.iadd, 1) := by decide +kernel
theorem dX5_fewest_87 : decode cX5_fewest 87 = .ok (.aload_n 0, 1) := by decide +kernel
theorem dX5_fewest_88 : decode cX5_fewest 88 = .ok (.getfield 49, 3) := by decide +kernel
theorem dX5_fewest_91 : decode cX5_fewest 91 = .ok (.iload_n 1, 1) := by decide +kernel
theorem dX5_fewest_92 : decode cX5_fewest 92 = .ok (.iaload, 1) := by decide +kernel
theorem dX5_fewest_93 : decode cX5_fewest 93 = .ok (.if_icmp .ge 9, 3) := by decide +kernel
theorem dX5_fewest_96 : decode cX5_fewest 96 = .ok (.iload_n 3, 1) := by decide +kernel
theorem dX5_fewest_97 : decode cX5_fewest 97 = .ok (.iconst 1, 1) := by decide +kernel
theorem dX5_fewest_98 : decode cX5_fewest 98 = .ok (.iadd, 1) := by decide +kernel
theorem dX5_fewest_99 : decode cX5_fewest 99 = .ok (.goto 9, 3) := by decide +kernel
theorem dX5_fewest_102 : decode cX5_fewest 102 = .ok (.aload_n 0, 1) := by decide +kernel
theorem dX5_fewest_103 : decode cX5_fewest 103 = .ok (.getfield 49, 3) := by decide +kernel
theorem dX5_fewest_106 : decode cX5_fewest 106 = .ok (.iload_n 1, 1) := by decide +kernel
theorem dX5_fewest_107 : decode cX5_fewest 107 = .ok (.iaload, 1) := by decide +kernel
theorem dX5_fewest_108 : decode cX5_fewest 108 = .ok (.iastore, 1) := by decide +kernel
theorem dX5_fewest_109 : decode cX5_fewest 109 = .ok (.iinc 2 1, 3) := by decide +kernel
theorem dX5_fewest_112 : decode cX5_fewest 112 = .ok (.goto (-86), 3) := by decide +kernel
theorem dX5_fewest_115 : decode cX5_fewest 115 = .ok (.iinc 1 1, 3) := by decide +kernel
theorem dX5_fewest_118 : decode cX5_fewest 118 = .ok (.goto (-109), 3) := by decide +kernel
theorem dX5_fewest_121 : decode cX5_fewest 121 = .ok (.return_, 1) := by decide +kernel
set_option maxRecDepth 20000 in
theorem ggX5_fewestPieces_X5_fewest : GoodIn wsX5_fewestPieces wsX5_fewest := goodIn_r _ [8, 2, 3, 9, 10, 11, 12, 13, 14, 15, 16, 17, 18, 19, 20, 21, 22, 23, 24, 25, 26, 27, 28, 29] (by decide +kernel) (by decide +kernel)
set_option maxRecDepth 20000 in
theorem gX5_fewestPieces_X5_fewest : GoodIn wsX5_fewestPieces (wsV RX5 120 RX5 yX5_fewest wsX5_fewest) := goodIn_app (goodIn_of _ (by decide +kernel)) ggX5_fewestPieces_X5_fewest
theorem dX5_fewestPieces_0 : decode cX5_fewestPieces 0 = .ok (.aload_n 0, 1) := by decide +kernel
theorem dX5_fewestPieces_1 : decode cX5_fewestPieces 1 = .ok (.iconst 0, 1) := by decide +kernel
theorem dX5_fewestPieces_2 : decode cX5_fewestPieces 2 = .ok (.putfield 52, 3) := by decide +kernel
theorem dX5_fewestPieces_5 : decode cX5_fewestPieces 5 = .ok (.aload_n 0, 1) := by decide +kernel
theorem dX5_fewestPieces_6 : decode cX5_fewestPieces 6 = .ok (.invokevirtual 120, 3) := by decide +kernel
theorem dX5_fewestPieces_9 : decode cX5_fewestPieces 9 = .ok (.aload_n 0, 1) := by decide +kernel
theorem dX5_fewestPieces_10 : decode cX5_fewestPieces 10 = .ok (.getfield 49, 3) := by decide +kernel
theorem dX5_fewestPieces_13 : decode cX5_fewestPieces 13 = .ok (.aload_n 0, 1) := by decide +kernel
theorem dX5_fewestPieces_14 : decode cX5_fewestPieces 14 = .ok (.getfield 98, 3) := by decide +kernel
theorem dX5_fewestPieces_17 : decode cX5_fewestPieces 17 = .ok (.iaload, 1) := by decide +kernel
theorem dX5_fewestPieces_18 : decode cX5_fewestPieces 18 = .ok (.ireturn, 1) := by decide +kernel
theorem dX5_ways_0 : decode cX5_ways 0 = .ok (.aload_n 0, 1) := by decide +kernel
theorem dX5_ways_1 : decode cX5_ways 1 = .ok (.iconst 0, 1) := by decide +kernel
theorem dX5_ways_2 : decode cX5_ways 2 = .ok (.putfield 52, 3) := by decide +kernel
theorem dX5_ways_5 : decode cX5_ways 5 = .ok (.iconst 0, 1) := by decide +kernel
theorem dX5_ways_6 : decode cX5_ways 6 = .ok (.istore_n 1, 1) := by decide +kernel
theorem dX5_ways_7 : decode cX5_ways 7 = .ok (.iload_n 1, 1) := by decide +kernel
theorem dX5_ways_8 : decode cX5_ways 8 = .ok (.aload_n 0, 1) := by decide +kernel
theorem dX5_ways_9 : decode cX5_ways 9 = .ok (.getfield 98, 3) := by decide +kernel
theorem dX5_ways_12 : decode cX5_ways 12 = .ok (.if_icmp .gt 24, 3) := by decide +kernel
theorem dX5_ways_15 : decode cX5_ways 15 = .ok (.aload_n 0, 1) := by decide +kernel
theorem dX5_ways_16 : decode cX5_ways 16 = .ok (.getfield 49, 3) := by decide +kernel
theorem dX5_ways_19 : decode cX5_ways 19 = .ok (.iload_n 1, 1) := by decide +kernel
theorem dX5_ways_20 : decode cX5_ways 20 = .ok (.iload_n 1, 1) := by decide +kernel
theorem dX5_ways_21 : decode cX5_ways 21 = .ok (.ifCond .ne 7, 3) := by decide +kernel
theorem dX5_ways_24 : decode cX5_ways 24 = .ok (.iconst 1, 1) := by decide +kernel
theorem dX5_ways_25 : decode cX5_ways 25 = .ok (.goto 4, 3) := by decide +kernel
theorem dX5_ways_28 : decode cX5_ways 28 = .ok (.iconst 0, 1) := by decide +kernel
theorem dX5_ways_29 : decode cX5_ways 29 = .ok (.iastore, 1) := by decide +kernel
theorem dX5_ways_30 : decode cX5_ways 30 = .ok (.iinc 1 1, 3) := by decide +kernel
theorem dX5_ways_33 : decode cX5_ways 33 = .ok (.goto (-26), 3) := by decide +kernel
theorem dX5_ways_36 : decode cX5_ways 36 = .ok (.iconst 1, 1) := by decide +kernel
theorem dX5_ways_37 : decode cX5_ways 37 = .ok (.istore_n 1, 1) := by decide +kernel
theorem dX5_ways_38 : decode cX5_ways 38 = .ok (.iload_n 1, 1) := by decide +kernel
theorem dX5_ways_39 : decode cX5_ways 39 = .ok (.bipush 20, 2) := by decide +kernel
theorem dX5_ways_41 : decode cX5_ways 41 = .ok (.if_icmp .gt 63, 3) := by decide +kernel
theorem dX5_ways_44 : decode cX5_ways 44 = .ok (.iload_n 1, 1) := by decide +kernel
theorem dX5_ways_45 : decode cX5_ways 45 = .ok (.istore_n 2, 1) := by decide +kernel
theorem dX5_ways_46 : decode cX5_ways 46 = .ok (.iload_n 2, 1) := by decide +kernel
theorem dX5_ways_47 : decode cX5_ways 47 = .ok (.aload_n 0, 1) := by decide +kernel
theorem dX5_ways_48 : decode cX5_ways 48 = .ok (.getfield 98, 3) := by decide +kernel
theorem dX5_ways_51 : decode cX5_ways 51 = .ok (.if_icmp .gt 47, 3) := by decide +kernel
theorem dX5_ways_54 : decode cX5_ways 54 = .ok (.aload_n 0, 1) := by decide +kernel
theorem dX5_ways_55 : decode cX5_ways 55 = .ok (.getfield 101, 3) := by decide +kernel
theorem dX5_ways_58 : decode cX5_ways 58 = .ok (.iload_n 1, 1) := by decide +kernel
theorem dX5_ways_59 : decode cX5_ways 59 = .ok (.iconst 1, 1) := by decide +kernel
theorem dX5_ways_60 : decode cX5_ways 60 = .ok (.isub, 1) := by decide +kernel
theorem dX5_ways_61 : decode cX5_ways 61 = .ok (.ishr, 1) := by decide +kernel
theorem dX5_ways_62 : decode cX5_ways 62 = .ok (.iconst 1, 1) := by decide +kernel
theorem dX5_ways_63 : decode cX5_ways 63 = .ok (.iand, 1) := by decide +kernel
theorem dX5_ways_64 : decode cX5_ways 64 = .ok (.iconst 1, 1) := by decide +kernel
theorem dX5_ways_65 : decode cX5_ways 65 = .ok (.if_icmp .ne 33, 3) := by decide +kernel
theorem dX5_ways_68 : decode cX5_ways 68 = .ok (.aload_n 0, 1) := by decide +kernel
theorem dX5_ways_69 : decode cX5_ways 69 = .ok (.getfield 49, 3) := by decide +kernel
theorem dX5_ways_72 : decode cX5_ways 72 = .ok (.iload_n 2, 1) := by decide +kernel
theorem dX5_ways_73 : decode cX5_ways 73 = .ok (.aload_n 0, 1) := by decide +kernel
theorem dX5_ways_74 : decode cX5_ways 74 = .ok (.getfield 49, 3) := by decide +kernel
theorem dX5_ways_77 : decode cX5_ways 77 = .ok (.iload_n 2, 1) := by decide +kernel
theorem dX5_ways_78 : decode cX5_ways 78 = .ok (.iaload, 1) := by decide +kernel
theorem dX5_ways_79 : decode cX5_ways 79 = .ok (.aload_n 0, 1) := by decide +kernel
theorem dX5_ways_80 : decode cX5_ways 80 = .ok (.getfield 49, 3) := by decide +kernel
theorem dX5_ways_83 : decode cX5_ways 83 = .ok (.iload_n 2, 1) := by decide +kernel
theorem dX5_ways_84 : decode cX5_ways 84 = .ok (.iload_n 1, 1) := by decide +kernel
theorem dX5_ways_85 : decode cX5_ways 85 = .ok (.isub, 1) := by decide +kernel
theorem dX5_ways_86 : decode cX5_ways 86 = .ok (.iaload, 1) := by decide +kernel
theorem dX5_ways_87 : decode cX5_ways 87 = .ok (.iadd, 1) := by decide +kernel
theorem dX5_ways_88 : decode cX5_ways 88 = .ok (.ldc 123, 2) := by decide +kernel
theorem dX5_ways_90 : decode cX5_ways 90 = .ok (.irem, 1) := by decide +kernel
theorem dX5_ways_91 : decode cX5_ways 91 = .ok (.iastore, 1) := by decide +kernel
theorem dX5_ways_92 : decode cX5_ways 92 = .ok (.iinc 2 1, 3) := by decide +kernel
theorem dX5_ways_95 : decode cX5_ways 95 = .ok (.goto (-49), 3) := by decide +kernel
theorem dX5_ways_98 : decode cX5_ways 98 = .ok (.iinc 1 1, 3) := by decide +kernel
theorem dX5_ways_101 : decode cX5_ways 101 = .ok (.goto (-63), 3) := by decide +kernel
theorem dX5_ways_104 : decode cX5_ways 104 = .ok (.aload_n 0, 1) := by decide +kernel
theorem dX5_ways_105 : decode cX5_ways 105 = .ok (.getfield 49, 3) := by decide +kernel
theorem dX5_ways_108 : decode cX5_ways 108 = .ok (.aload_n 0, 1) := by decide +kernel
theorem dX5_ways_109 : decode cX5_ways 109 = .ok (.getfield 98, 3) := by decide +kernel
theorem dX5_ways_112 : decode cX5_ways 112 = .ok (.iaload, 1) := by decide +kernel
theorem dX5_ways_113 : decode cX5_ways 113 = .ok (.ireturn, 1) := by decide +kernel
set_option maxRecDepth 20000 in
theorem ggX5_leastRest_X5_fewest : GoodIn wsX5_leastRest wsX5_fewest := goodIn_r _ [8, 2, 3, 9, 10, 11, 12, 13, 14, 15, 16, 17, 18, 19, 20, 21, 22, 23, 24, 25, 26, 27, 28, 29] (by decide +kernel) (by decide +kernel)
set_option maxRecDepth 20000 in
theorem gX5_leastRest_X5_fewest : GoodIn wsX5_leastRest (wsV RX5 120 RX5 yX5_fewest wsX5_fewest) := goodIn_app (goodIn_of _ (by decide +kernel)) ggX5_leastRest_X5_fewest
theorem dX5_leastRest_0 : decode cX5_leastRest 0 = .ok (.aload_n 0, 1) := by decide +kernel
theorem dX5_leastRest_1 : decode cX5_leastRest 1 = .ok (.iconst 0, 1) := by decide +kernel
theorem dX5_leastRest_2 : decode cX5_leastRest 2 = .ok (.putfield 52, 3) := by decide +kernel
theorem dX5_leastRest_5 : decode cX5_leastRest 5 = .ok (.aload_n 0, 1) := by decide +kernel
theorem dX5_leastRest_6 : decode cX5_leastRest 6 = .ok (.invokevirtual 120, 3) := by decide +kernel
theorem dX5_leastRest_9 : decode cX5_leastRest 9 = .ok (.iconst 0, 1) := by decide +kernel
theorem dX5_leastRest_10 : decode cX5_leastRest 10 = .ok (.istore_n 1, 1) := by decide +kernel
theorem dX5_leastRest_11 : decode cX5_leastRest 11 = .ok (.aload_n 0, 1) := by decide +kernel
theorem dX5_leastRest_12 : decode cX5_leastRest 12 = .ok (.getfield 49, 3) := by decide +kernel
theorem dX5_leastRest_15 : decode cX5_leastRest 15 = .ok (.aload_n 0, 1) := by decide +kernel
theorem dX5_leastRest_16 : decode cX5_leastRest 16 = .ok (.getfield 98, 3) := by decide +kernel
theorem dX5_leastRest_19 : decode cX5_leastRest 19 = .ok (.iload_n 1, 1) := by decide +kernel
theorem dX5_leastRest_20 : decode cX5_leastRest 20 = .ok (.isub, 1) := by decide +kernel
theorem dX5_leastRest_21 : decode cX5_leastRest 21 = .ok (.iaload, 1) := by decide +kernel
theorem dX5_leastRest_22 : decode cX5_leastRest 22 = .ok (.iconst (-1), 1) := by decide +kernel
theorem dX5_leastRest_23 : decode cX5_leastRest 23 = .ok (.if_icmp .ne 9, 3) := by decide +kernel
theorem dX5_leastRest_26 : decode cX5_leastRest 26 = .ok (.iinc 1 1, 3) := by decide +kernel
theorem dX5_leastRest_29 : decode cX5_leastRest 29 = .ok (.goto (-18), 3) := by decide +kernel
theorem dX5_leastRest_32 : decode cX5_leastRest 32 = .ok (.iload_n 1, 1) := by decide +kernel
theorem dX5_leastRest_33 : decode cX5_leastRest 33 = .ok (.ireturn, 1) := by decide +kernel
theorem dJ6_bitCount_0f7a4_0 : decode cJ6_bitCount_0f7a4 0 = .ok (.iload_n 0, 1) := by decide +kernel
theorem dJ6_bitCount_0f7a4_1 : decode cJ6_bitCount_0f7a4 1 = .ok (.iload_n 0, 1) := by decide +kernel
theorem dJ6_bitCount_0f7a4_2 : decode cJ6_bitCount_0f7a4 2 = .ok (.iconst 1, 1) := by decide +kernel
theorem dJ6_bitCount_0f7a4_3 : decode cJ6_bitCount_0f7a4 3 = .ok (.iushr, 1) := by decide +kernel
theorem dJ6_bitCount_0f7a4_4 : decode cJ6_bitCount_0f7a4 4 = .ok (.ldc_w 265, 3) := by decide +kernel
theorem dJ6_bitCount_0f7a4_7 : decode cJ6_bitCount_0f7a4 7 = .ok (.iand, 1) := by decide +kernel
theorem dJ6_bitCount_0f7a4_8 : decode cJ6_bitCount_0f7a4 8 = .ok (.isub, 1) := by decide +kernel
theorem dJ6_bitCount_0f7a4_9 : decode cJ6_bitCount_0f7a4 9 = .ok (.istore_n 0, 1) := by decide +kernel
theorem dJ6_bitCount_0f7a4_10 : decode cJ6_bitCount_0f7a4 10 = .ok (.iload_n 0, 1) := by decide +kernel
theorem dJ6_bitCount_0f7a4_11 : decode cJ6_bitCount_0f7a4 11 = .ok (.ldc_w 266, 3) := by decide +kernel
theorem dJ6_bitCount_0f7a4_14 : decode cJ6_bitCount_0f7a4 14 = .ok (.iand, 1) := by decide +kernel
theorem dJ6_bitCount_0f7a4_15 : decode cJ6_bitCount_0f7a4 15 = .ok (.iload_n 0, 1) := by decide +kernel
theorem dJ6_bitCount_0f7a4_16 : decode cJ6_bitCount_0f7a4 16 = .ok (.iconst 2, 1) := by decide +kernel
theorem dJ6_bitCount_0f7a4_17 : decode cJ6_bitCount_0f7a4 17 = .ok (.iushr, 1) := by decide +kernel
theorem dJ6_bitCount_0f7a4_18 : decode cJ6_bitCount_0f7a4 18 = .ok (.ldc_w 266, 3) := by decide +kernel
theorem dJ6_bitCount_0f7a4_21 : decode cJ6_bitCount_0f7a4 21 = .ok (.iand, 1) := by decide +kernel
theorem dJ6_bitCount_0f7a4_22 : decode cJ6_bitCount_0f7a4 22 = .ok (.iadd, 1) := by decide +kernel
theorem dJ6_bitCount_0f7a4_23 : decode cJ6_bitCount_0f7a4 23 = .ok (.istore_n 0, 1) := by decide +kernel
theorem dJ6_bitCount_0f7a4_24 : decode cJ6_bitCount_0f7a4 24 = .ok (.iload_n 0, 1) := by decide +kernel
theorem dJ6_bitCount_0f7a4_25 : decode cJ6_bitCount_0f7a4 25 = .ok (.iload_n 0, 1) := by decide +kernel
theorem dJ6_bitCount_0f7a4_26 : decode cJ6_bitCount_0f7a4 26 = .ok (.iconst 4, 1) := by decide +kernel
theorem dJ6_bitCount_0f7a4_27 : decode cJ6_bitCount_0f7a4 27 = .ok (.iushr, 1) := by decide +kernel
theorem dJ6_bitCount_0f7a4_28 : decode cJ6_bitCount_0f7a4 28 = .ok (.iadd, 1) := by decide +kernel
theorem dJ6_bitCount_0f7a4_29 : decode cJ6_bitCount_0f7a4 29 = .ok (.ldc_w 267, 3) := by decide +kernel
theorem dJ6_bitCount_0f7a4_32 : decode cJ6_bitCount_0f7a4 32 = .ok (.iand, 1) := by decide +kernel
theorem dJ6_bitCount_0f7a4_33 : decode cJ6_bitCount_0f7a4 33 = .ok (.istore_n 0, 1) := by decide +kernel
theorem dJ6_bitCount_0f7a4_34 : decode cJ6_bitCount_0f7a4 34 = .ok (.iload_n 0, 1) := by decide +kernel
theorem dJ6_bitCount_0f7a4_35 : decode cJ6_bitCount_0f7a4 35 = .ok (.iload_n 0, 1) := by decide +kernel
theorem dJ6_bitCount_0f7a4_36 : decode cJ6_bitCount_0f7a4 36 = .ok (.bipush 8, 2) := by decide +kernel
theorem dJ6_bitCount_0f7a4_38 : decode cJ6_bitCount_0f7a4 38 = .ok (.iushr, 1) := by decide +kernel
theorem dJ6_bitCount_0f7a4_39 : decode cJ6_bitCount_0f7a4 39 = .ok (.iadd, 1) := by decide +kernel
theorem dJ6_bitCount_0f7a4_40 : decode cJ6_bitCount_0f7a4 40 = .ok (.istore_n 0, 1) := by decide +kernel
theorem dJ6_bitCount_0f7a4_41 : decode cJ6_bitCount_0f7a4 41 = .ok (.iload_n 0, 1) := by decide +kernel
theorem dJ6_bitCount_0f7a4_42 : decode cJ6_bitCount_0f7a4 42 = .ok (.iload_n 0, 1) := by decide +kernel
theorem dJ6_bitCount_0f7a4_43 : decode cJ6_bitCount_0f7a4 43 = .ok (.bipush 16, 2) := by decide +kernel
theorem dJ6_bitCount_0f7a4_45 : decode cJ6_bitCount_0f7a4 45 = .ok (.iushr, 1) := by decide +kernel
theorem dJ6_bitCount_0f7a4_46 : decode cJ6_bitCount_0f7a4 46 = .ok (.iadd, 1) := by decide +kernel
theorem dJ6_bitCount_0f7a4_47 : decode cJ6_bitCount_0f7a4 47 = .ok (.istore_n 0, 1) := by decide +kernel
theorem dJ6_bitCount_0f7a4_48 : decode cJ6_bitCount_0f7a4 48 = .ok (.iload_n 0, 1) := by decide +kernel
theorem dJ6_bitCount_0f7a4_49 : decode cJ6_bitCount_0f7a4 49 = .ok (.bipush 63, 2) := by decide +kernel
theorem dJ6_bitCount_0f7a4_51 : decode cJ6_bitCount_0f7a4 51 = .ok (.iand, 1) := by decide +kernel
theorem dJ6_bitCount_0f7a4_52 : decode cJ6_bitCount_0f7a4 52 = .ok (.ireturn, 1) := by decide +kernel
theorem dJ9_max_7cf53_0 : decode cJ9_max_7cf53 0 = .ok (.iload_n 0, 1) := by decide +kernel
theorem dJ9_max_7cf53_1 : decode cJ9_max_7cf53 1 = .ok (.iload_n 1, 1) := by decide +kernel
theorem dJ9_max_7cf53_2 : decode cJ9_max_7cf53 2 = .ok (.if_icmp .lt 7, 3) := by decide +kernel
theorem dJ9_max_7cf53_5 : decode cJ9_max_7cf53 5 = .ok (.iload_n 0, 1) := by decide +kernel
theorem dJ9_max_7cf53_6 : decode cJ9_max_7cf53 6 = .ok (.goto 4, 3) := by decide +kernel
theorem dJ9_max_7cf53_9 : decode cJ9_max_7cf53 9 = .ok (.iload_n 1, 1) := by decide +kernel
theorem dJ9_max_7cf53_10 : decode cJ9_max_7cf53 10 = .ok (.ireturn, 1) := by decide +kernel
theorem dJ9_min_7cf53_0 : decode cJ9_min_7cf53 0 = .ok (.iload_n 0, 1) := by decide +kernel
theorem dJ9_min_7cf53_1 : decode cJ9_min_7cf53 1 = .ok (.iload_n 1, 1) := by decide +kernel
theorem dJ9_min_7cf53_2 : decode cJ9_min_7cf53 2 = .ok (.if_icmp .gt 7, 3) := by decide +kernel
theorem dJ9_min_7cf53_5 : decode cJ9_min_7cf53 5 = .ok (.iload_n 0, 1) := by decide +kernel
theorem dJ9_min_7cf53_6 : decode cJ9_min_7cf53 6 = .ok (.goto 4, 3) := by decide +kernel
theorem dJ9_min_7cf53_9 : decode cJ9_min_7cf53 9 = .ok (.iload_n 1, 1) := by decide +kernel
theorem dJ9_min_7cf53_10 : decode cJ9_min_7cf53 10 = .ok (.ireturn, 1) := by decide +kernel
set_option maxRecDepth 20000 in
theorem ggL_setNeeds_X4_setNeeds : GoodIn wsL_setNeeds wsX4_setNeeds := goodIn_ca (goodIn_ca (goodIn_r _ [7, 8, 9, 10, 11, 12, 13, 6, 14, 15, 16, 17, 18, 19, 20, 21, 22, 23, 24, 25, 26, 27, 28, 29, 30] (by decide +kernel) (by decide +kernel)) (goodIn_sub (fun _ h => List.mem_cons_of_mem _ (List.mem_append_left _ (List.mem_append_right _ h))) (by decide +kernel))) (goodIn_sub (fun _ h => List.mem_cons_of_mem _ (List.mem_append_right _ h)) (by decide +kernel))
set_option maxRecDepth 20000 in
theorem gL_setNeeds_X4_setNeeds : GoodIn wsL_setNeeds (wsV RL 7 RX4 yX4_setNeeds wsX4_setNeeds) := goodIn_app (goodIn_of _ (by decide +kernel)) ggL_setNeeds_X4_setNeeds
theorem dL_setNeeds_0 : decode cL_setNeeds 0 = .ok (.aload_n 3, 1) := by decide +kernel
theorem dL_setNeeds_1 : decode cL_setNeeds 1 = .ok (.iconst 0, 1) := by decide +kernel
theorem dL_setNeeds_2 : decode cL_setNeeds 2 = .ok (.aload_n 0, 1) := by decide +kernel
theorem dL_setNeeds_3 : decode cL_setNeeds 3 = .ok (.iload_n 1, 1) := by decide +kernel
theorem dL_setNeeds_4 : decode cL_setNeeds 4 = .ok (.iload_n 2, 1) := by decide +kernel
theorem dL_setNeeds_5 : decode cL_setNeeds 5 = .ok (.invokevirtual 7, 3) := by decide +kernel
theorem dL_setNeeds_8 : decode cL_setNeeds 8 = .ok (.i2l, 1) := by decide +kernel
theorem dL_setNeeds_9 : decode cL_setNeeds 9 = .ok (.lastore, 1) := by decide +kernel
theorem dL_setNeeds_10 : decode cL_setNeeds 10 = .ok (.goto 11, 3) := by decide +kernel
theorem dL_setNeeds_13 : decode cL_setNeeds 13 = .ok (.astore 4, 2) := by decide +kernel
theorem dL_setNeeds_15 : decode cL_setNeeds 15 = .ok (.iconst 1, 1) := by decide +kernel
theorem dL_setNeeds_16 : decode cL_setNeeds 16 = .ok (.ireturn, 1) := by decide +kernel
theorem dL_setNeeds_17 : decode cL_setNeeds 17 = .ok (.astore 4, 2) := by decide +kernel
theorem dL_setNeeds_19 : decode cL_setNeeds 19 = .ok (.iconst 2, 1) := by decide +kernel
theorem dL_setNeeds_20 : decode cL_setNeeds 20 = .ok (.ireturn, 1) := by decide +kernel
theorem dL_setNeeds_21 : decode cL_setNeeds 21 = .ok (.iconst 0, 1) := by decide +kernel
theorem dL_setNeeds_22 : decode cL_setNeeds 22 = .ok (.ireturn, 1) := by decide +kernel
set_option maxRecDepth 20000 in
theorem ggL_addModel_X4_addModel : GoodIn wsL_addModel wsX4_addModel := goodIn_ca (goodIn_ca (goodIn_ca (goodIn_r _ [8, 9, 10, 11, 12, 13, 14, 15, 16, 17, 18, 19, 20, 7, 21, 22, 23, 24, 25, 26, 27, 28, 29, 30, 31, 32, 33, 34, 35, 36, 37, 38, 39, 40, 41, 42, 43, 44, 45, 46, 47, 48, 49, 50, 51, 52, 53, 54, 55, 56, 57, 58, 59, 60, 61, 62, 63, 64, 65, 66, 67, 68, 69, 70, 71, 72, 73, 74, 75, 76, 77, 78, 79, 80, 81, 82] (by decide +kernel) (by decide +kernel)) (goodIn_sub (fun _ h => List.mem_cons_of_mem _ (List.mem_append_left _ (List.mem_append_left _ (List.mem_append_right _ h)))) (by decide +kernel))) (goodIn_sub (fun _ h => List.mem_cons_of_mem _ (List.mem_append_left _ (List.mem_append_right _ h))) (by decide +kernel))) (goodIn_sub (fun _ h => List.mem_cons_of_mem _ (List.mem_append_right _ h)) (by decide +kernel))
set_option maxRecDepth 20000 in
theorem gL_addModel_X4_addModel : GoodIn wsL_addModel (wsV RL 17 RX4 yX4_addModel wsX4_addModel) := goodIn_app (goodIn_of _ (by decide +kernel)) ggL_addModel_X4_addModel
theorem dL_addModel_0 : decode cL_addModel 0 = .ok (.aload_n 3, 1) := by decide +kernel
theorem dL_addModel_1 : decode cL_addModel 1 = .ok (.iconst 0, 1) := by decide +kernel
theorem dL_addModel_2 : decode cL_addModel 2 = .ok (.aload_n 0, 1) := by decide +kernel
theorem dL_addModel_3 : decode cL_addModel 3 = .ok (.iload_n 1, 1) := by decide +kernel
theorem dL_addModel_4 : decode cL_addModel 4 = .ok (.iload_n 2, 1) := by decide +kernel
theorem dL_addModel_5 : decode cL_addModel 5 = .ok (.invokevirtual 17, 3) := by decide +kernel
theorem dL_addModel_8 : decode cL_addModel 8 = .ok (.i2l, 1) := by decide +kernel
theorem dL_addModel_9 : decode cL_addModel 9 = .ok (.lastore, 1) := by decide +kernel
theorem dL_addModel_10 : decode cL_addModel 10 = .ok (.goto 15, 3) := by decide +kernel
theorem dL_addModel_13 : decode cL_addModel 13 = .ok (.astore 4, 2) := by decide +kernel
theorem dL_addModel_15 : decode cL_addModel 15 = .ok (.iconst 1, 1) := by decide +kernel
theorem dL_addModel_16 : decode cL_addModel 16 = .ok (.ireturn, 1) := by decide +kernel
theorem dL_addModel_17 : decode cL_addModel 17 = .ok (.astore 4, 2) := by decide +kernel
theorem dL_addModel_19 : decode cL_addModel 19 = .ok (.iconst 2, 1) := by decide +kernel
theorem dL_addModel_20 : decode cL_addModel 20 = .ok (.ireturn, 1) := by decide +kernel
theorem dL_addModel_21 : decode cL_addModel 21 = .ok (.astore 4, 2) := by decide +kernel
theorem dL_addModel_23 : decode cL_addModel 23 = .ok (.iconst 3, 1) := by decide +kernel
theorem dL_addModel_24 : decode cL_addModel 24 = .ok (.ireturn, 1) := by decide +kernel
theorem dL_addModel_25 : decode cL_addModel 25 = .ok (.iconst 0, 1) := by decide +kernel
theorem dL_addModel_26 : decode cL_addModel 26 = .ok (.ireturn, 1) := by decide +kernel
set_option maxRecDepth 20000 in
theorem ggL_fold_X4_fold : GoodIn wsL_fold wsX4_fold := goodIn_ca (goodIn_ca (goodIn_ca (goodIn_r _ [8, 9, 10, 11, 12, 13, 14, 15, 16, 17, 18, 19, 7, 20, 21, 22, 23, 24, 25, 26, 27, 28, 29, 30, 31, 32, 33, 34, 35, 36, 37, 38, 39, 40, 41, 42, 43, 44, 45, 46, 47, 48, 49, 50, 51, 52, 53, 54, 55, 56, 57, 58, 59, 60, 61, 62, 63, 64, 65, 66, 67, 68, 69, 70, 71, 72, 73, 74, 75, 76, 77, 78, 79, 80, 81, 82, 83, 84, 85, 86, 87, 88, 89, 90, 91, 92, 93, 94, 95, 96, 97, 98, 99, 100, 101, 102, 103, 104, 105, 106, 107, 108] (by decide +kernel) (by decide +kernel)) (goodIn_sub (fun _ h => List.mem_cons_of_mem _ (List.mem_append_left _ (List.mem_append_left _ (List.mem_append_right _ h)))) (by decide +kernel))) (goodIn_sub (fun _ h => List.mem_cons_of_mem _ (List.mem_append_left _ (List.mem_append_right _ h))) (by decide +kernel))) (goodIn_sub (fun _ h => List.mem_cons_of_mem _ (List.mem_append_right _ h)) (by decide +kernel))
set_option maxRecDepth 20000 in
theorem gL_fold_X4_fold : GoodIn wsL_fold (wsV RL 22 RX4 yX4_fold wsX4_fold) := goodIn_app (goodIn_of _ (by decide +kernel)) ggL_fold_X4_fold
theorem dL_fold_0 : decode cL_fold 0 = .ok (.aload 5, 2) := by decide +kernel
theorem dL_fold_2 : decode cL_fold 2 = .ok (.iconst 0, 1) := by decide +kernel
theorem dL_fold_3 : decode cL_fold 3 = .ok (.aload_n 0, 1) := by decide +kernel
theorem dL_fold_4 : decode cL_fold 4 = .ok (.iload_n 1, 1) := by decide +kernel
theorem dL_fold_5 : decode cL_fold 5 = .ok (.iload_n 2, 1) := by decide +kernel
theorem dL_fold_6 : decode cL_fold 6 = .ok (.iload_n 3, 1) := by decide +kernel
theorem dL_fold_7 : decode cL_fold 7 = .ok (.iload 4, 2) := by decide +kernel
theorem dL_fold_9 : decode cL_fold 9 = .ok (.invokevirtual 22, 3) := by decide +kernel
theorem dL_fold_12 : decode cL_fold 12 = .ok (.i2l, 1) := by decide +kernel
theorem dL_fold_13 : decode cL_fold 13 = .ok (.lastore, 1) := by decide +kernel
theorem dL_fold_14 : decode cL_fold 14 = .ok (.goto 15, 3) := by decide +kernel
theorem dL_fold_17 : decode cL_fold 17 = .ok (.astore 6, 2) := by decide +kernel
theorem dL_fold_19 : decode cL_fold 19 = .ok (.iconst 1, 1) := by decide +kernel
theorem dL_fold_20 : decode cL_fold 20 = .ok (.ireturn, 1) := by decide +kernel
theorem dL_fold_21 : decode cL_fold 21 = .ok (.astore 6, 2) := by decide +kernel
theorem dL_fold_23 : decode cL_fold 23 = .ok (.iconst 2, 1) := by decide +kernel
theorem dL_fold_24 : decode cL_fold 24 = .ok (.ireturn, 1) := by decide +kernel
theorem dL_fold_25 : decode cL_fold 25 = .ok (.astore 6, 2) := by decide +kernel
theorem dL_fold_27 : decode cL_fold 27 = .ok (.iconst 3, 1) := by decide +kernel
theorem dL_fold_28 : decode cL_fold 28 = .ok (.ireturn, 1) := by decide +kernel
theorem dL_fold_29 : decode cL_fold 29 = .ok (.iconst 0, 1) := by decide +kernel
theorem dL_fold_30 : decode cL_fold 30 = .ok (.ireturn, 1) := by decide +kernel
set_option maxRecDepth 20000 in
theorem ggL_unfold_X4_unfold : GoodIn wsL_unfold wsX4_unfold := goodIn_ca (goodIn_ca (goodIn_r _ [7, 8, 9, 10, 11, 12, 13, 6, 14, 15, 16, 17, 18, 19, 20, 21, 22, 23, 24, 25, 26, 27, 28, 29, 30, 31, 32, 33, 34, 35, 36, 37, 38, 39, 40, 41, 42, 43, 44, 45, 46, 47, 48, 49, 50, 51, 52, 53, 54, 55, 56, 57, 58, 59, 60, 61, 62, 63, 64, 65, 66, 67, 68, 69, 70, 71, 72, 73, 74, 75, 76, 77, 78, 79, 80, 81, 82, 83, 84, 85, 86, 87, 88, 89, 90, 91, 92, 93, 94, 95, 96] (by decide +kernel) (by decide +kernel)) (goodIn_sub (fun _ h => List.mem_cons_of_mem _ (List.mem_append_left _ (List.mem_append_right _ h))) (by decide +kernel))) (goodIn_sub (fun _ h => List.mem_cons_of_mem _ (List.mem_append_right _ h)) (by decide +kernel))
set_option maxRecDepth 20000 in
theorem gL_unfold_X4_unfold : GoodIn wsL_unfold (wsV RL 26 RX4 yX4_unfold wsX4_unfold) := goodIn_app (goodIn_of _ (by decide +kernel)) ggL_unfold_X4_unfold
theorem dL_unfold_0 : decode cL_unfold 0 = .ok (.aload_n 2, 1) := by decide +kernel
theorem dL_unfold_1 : decode cL_unfold 1 = .ok (.iconst 0, 1) := by decide +kernel
theorem dL_unfold_2 : decode cL_unfold 2 = .ok (.aload_n 0, 1) := by decide +kernel
theorem dL_unfold_3 : decode cL_unfold 3 = .ok (.iload_n 1, 1) := by decide +kernel
theorem dL_unfold_4 : decode cL_unfold 4 = .ok (.invokevirtual 26, 3) := by decide +kernel
theorem dL_unfold_7 : decode cL_unfold 7 = .ok (.i2l, 1) := by decide +kernel
theorem dL_unfold_8 : decode cL_unfold 8 = .ok (.lastore, 1) := by decide +kernel
theorem dL_unfold_9 : decode cL_unfold 9 = .ok (.goto 9, 3) := by decide +kernel
theorem dL_unfold_12 : decode cL_unfold 12 = .ok (.astore_n 3, 1) := by decide +kernel
theorem dL_unfold_13 : decode cL_unfold 13 = .ok (.iconst 1, 1) := by decide +kernel
theorem dL_unfold_14 : decode cL_unfold 14 = .ok (.ireturn, 1) := by decide +kernel
theorem dL_unfold_15 : decode cL_unfold 15 = .ok (.astore_n 3, 1) := by decide +kernel
theorem dL_unfold_16 : decode cL_unfold 16 = .ok (.iconst 2, 1) := by decide +kernel
theorem dL_unfold_17 : decode cL_unfold 17 = .ok (.ireturn, 1) := by decide +kernel
theorem dL_unfold_18 : decode cL_unfold 18 = .ok (.iconst 0, 1) := by decide +kernel
theorem dL_unfold_19 : decode cL_unfold 19 = .ok (.ireturn, 1) := by decide +kernel
set_option maxRecDepth 20000 in
theorem ggL_use_X4_use : GoodIn wsL_use wsX4_use := goodIn_ca (goodIn_ca (goodIn_r _ [7, 8, 9, 10, 11, 12, 13, 6, 14, 15, 16, 17, 18, 19, 20, 21, 22, 23, 24, 25, 26, 27, 28, 29, 30, 31, 32, 33, 34, 35] (by decide +kernel) (by decide +kernel)) (goodIn_sub (fun _ h => List.mem_cons_of_mem _ (List.mem_append_left _ (List.mem_append_right _ h))) (by decide +kernel))) (goodIn_sub (fun _ h => List.mem_cons_of_mem _ (List.mem_append_right _ h)) (by decide +kernel))
set_option maxRecDepth 20000 in
theorem gL_use_X4_use : GoodIn wsL_use (wsV RL 30 RX4 yX4_use wsX4_use) := goodIn_app (goodIn_of _ (by decide +kernel)) ggL_use_X4_use
theorem dL_use_0 : decode cL_use 0 = .ok (.aload_n 3, 1) := by decide +kernel
theorem dL_use_1 : decode cL_use 1 = .ok (.iconst 0, 1) := by decide +kernel
theorem dL_use_2 : decode cL_use 2 = .ok (.aload_n 0, 1) := by decide +kernel
theorem dL_use_3 : decode cL_use 3 = .ok (.iload_n 1, 1) := by decide +kernel
theorem dL_use_4 : decode cL_use 4 = .ok (.iload_n 2, 1) := by decide +kernel
theorem dL_use_5 : decode cL_use 5 = .ok (.invokevirtual 30, 3) := by decide +kernel
theorem dL_use_8 : decode cL_use 8 = .ok (.ifCond .eq 7, 3) := by decide +kernel
theorem dL_use_11 : decode cL_use 11 = .ok (.lconst 1, 1) := by decide +kernel
theorem dL_use_12 : decode cL_use 12 = .ok (.goto 4, 3) := by decide +kernel
theorem dL_use_15 : decode cL_use 15 = .ok (.lconst 0, 1) := by decide +kernel
theorem dL_use_16 : decode cL_use 16 = .ok (.lastore, 1) := by decide +kernel
theorem dL_use_17 : decode cL_use 17 = .ok (.goto 11, 3) := by decide +kernel
theorem dL_use_20 : decode cL_use 20 = .ok (.astore 4, 2) := by decide +kernel
theorem dL_use_22 : decode cL_use 22 = .ok (.iconst 1, 1) := by decide +kernel
theorem dL_use_23 : decode cL_use 23 = .ok (.ireturn, 1) := by decide +kernel
theorem dL_use_24 : decode cL_use 24 = .ok (.astore 4, 2) := by decide +kernel
theorem dL_use_26 : decode cL_use 26 = .ok (.iconst 2, 1) := by decide +kernel
theorem dL_use_27 : decode cL_use 27 = .ok (.ireturn, 1) := by decide +kernel
theorem dL_use_28 : decode cL_use 28 = .ok (.iconst 0, 1) := by decide +kernel
theorem dL_use_29 : decode cL_use 29 = .ok (.ireturn, 1) := by decide +kernel
set_option maxRecDepth 20000 in
theorem ggL_setRoll_X4_setRoll : GoodIn wsL_setRoll wsX4_setRoll := goodIn_ca (goodIn_r _ [6, 7, 8, 9, 10, 11, 12, 13, 14, 15, 16, 17, 18, 19, 20, 21, 22, 23, 24] (by decide +kernel) (by decide +kernel)) (goodIn_sub (fun _ h => List.mem_cons_of_mem _ (List.mem_append_right _ h)) (by decide +kernel))
set_option maxRecDepth 20000 in
theorem gL_setRoll_X4_setRoll : GoodIn wsL_setRoll (wsV RL 34 RX4 yX4_setRoll wsX4_setRoll) := goodIn_app (goodIn_of _ (by decide +kernel)) ggL_setRoll_X4_setRoll
theorem dL_setRoll_0 : decode cL_setRoll 0 = .ok (.aload_n 3, 1) := by decide +kernel
theorem dL_setRoll_1 : decode cL_setRoll 1 = .ok (.iconst 0, 1) := by decide +kernel
theorem dL_setRoll_2 : decode cL_setRoll 2 = .ok (.aload_n 0, 1) := by decide +kernel
theorem dL_setRoll_3 : decode cL_setRoll 3 = .ok (.iload_n 1, 1) := by decide +kernel
theorem dL_setRoll_4 : decode cL_setRoll 4 = .ok (.iload_n 2, 1) := by decide +kernel
theorem dL_setRoll_5 : decode cL_setRoll 5 = .ok (.invokevirtual 34, 3) := by decide +kernel
theorem dL_setRoll_8 : decode cL_setRoll 8 = .ok (.i2l, 1) := by decide +kernel
theorem dL_setRoll_9 : decode cL_setRoll 9 = .ok (.lastore, 1) := by decide +kernel
theorem dL_setRoll_10 : decode cL_setRoll 10 = .ok (.goto 7, 3) := by decide +kernel
theorem dL_setRoll_13 : decode cL_setRoll 13 = .ok (.astore 4, 2) := by decide +kernel
theorem dL_setRoll_15 : decode cL_setRoll 15 = .ok (.iconst 1, 1) := by decide +kernel
theorem dL_setRoll_16 : decode cL_setRoll 16 = .ok (.ireturn, 1) := by decide +kernel
theorem dL_setRoll_17 : decode cL_setRoll 17 = .ok (.iconst 0, 1) := by decide +kernel
theorem dL_setRoll_18 : decode cL_setRoll 18 = .ok (.ireturn, 1) := by decide +kernel
set_option maxRecDepth 20000 in
theorem ggL_teach_X4_teach : GoodIn wsL_teach wsX4_teach := goodIn_ca (goodIn_ca (goodIn_r _ [7, 8, 9, 10, 11, 12, 13, 14, 6, 15, 16, 17, 18, 19, 20, 21, 22, 23, 24, 25, 26, 27, 28, 29, 30, 31, 32, 33, 34, 35, 36, 37, 38, 39] (by decide +kernel) (by decide +kernel)) (goodIn_sub (fun _ h => List.mem_cons_of_mem _ (List.mem_append_left _ (List.mem_append_right _ h))) (by decide +kernel))) (goodIn_sub (fun _ h => List.mem_cons_of_mem _ (List.mem_append_right _ h)) (by decide +kernel))
set_option maxRecDepth 20000 in
theorem gL_teach_X4_teach : GoodIn wsL_teach (wsV RL 37 RX4 yX4_teach wsX4_teach) := goodIn_app (goodIn_of _ (by decide +kernel)) ggL_teach_X4_teach
theorem dL_teach_0 : decode cL_teach 0 = .ok (.aload_n 3, 1) := by decide +kernel
theorem dL_teach_1 : decode cL_teach 1 = .ok (.iconst 0, 1) := by decide +kernel
theorem dL_teach_2 : decode cL_teach 2 = .ok (.aload_n 0, 1) := by decide +kernel
theorem dL_teach_3 : decode cL_teach 3 = .ok (.iload_n 1, 1) := by decide +kernel
theorem dL_teach_4 : decode cL_teach 4 = .ok (.iload_n 2, 1) := by decide +kernel
theorem dL_teach_5 : decode cL_teach 5 = .ok (.invokevirtual 37, 3) := by decide +kernel
theorem dL_teach_8 : decode cL_teach 8 = .ok (.i2l, 1) := by decide +kernel
theorem dL_teach_9 : decode cL_teach 9 = .ok (.lastore, 1) := by decide +kernel
theorem dL_teach_10 : decode cL_teach 10 = .ok (.goto 11, 3) := by decide +kernel
theorem dL_teach_13 : decode cL_teach 13 = .ok (.astore 4, 2) := by decide +kernel
theorem dL_teach_15 : decode cL_teach 15 = .ok (.iconst 1, 1) := by decide +kernel
theorem dL_teach_16 : decode cL_teach 16 = .ok (.ireturn, 1) := by decide +kernel
theorem dL_teach_17 : decode cL_teach 17 = .ok (.astore 4, 2) := by decide +kernel
theorem dL_teach_19 : decode cL_teach 19 = .ok (.iconst 2, 1) := by decide +kernel
theorem dL_teach_20 : decode cL_teach 20 = .ok (.ireturn, 1) := by decide +kernel
theorem dL_teach_21 : decode cL_teach 21 = .ok (.iconst 0, 1) := by decide +kernel
theorem dL_teach_22 : decode cL_teach 22 = .ok (.ireturn, 1) := by decide +kernel
set_option maxRecDepth 20000 in
theorem ggL_steps_X4_steps : GoodIn wsL_steps wsX4_steps := goodIn_ca (goodIn_r _ [6, 7, 8, 9, 10, 5, 11, 12, 13, 14, 15, 16, 17, 18, 19, 20, 21, 22, 23, 24, 25, 26, 27, 28, 29, 30, 31, 32, 33, 34] (by decide +kernel) (by decide +kernel)) (goodIn_sub (fun _ h => List.mem_cons_of_mem _ (List.mem_append_right _ h)) (by decide +kernel))
set_option maxRecDepth 20000 in
theorem gL_steps_X4_steps : GoodIn wsL_steps (wsV RL 40 RX4 yX4_steps wsX4_steps) := goodIn_app (goodIn_of _ (by decide +kernel)) ggL_steps_X4_steps
theorem dL_steps_0 : decode cL_steps 0 = .ok (.aload_n 2, 1) := by decide +kernel
theorem dL_steps_1 : decode cL_steps 1 = .ok (.iconst 0, 1) := by decide +kernel
theorem dL_steps_2 : decode cL_steps 2 = .ok (.aload_n 0, 1) := by decide +kernel
theorem dL_steps_3 : decode cL_steps 3 = .ok (.iload_n 1, 1) := by decide +kernel
theorem dL_steps_4 : decode cL_steps 4 = .ok (.invokevirtual 40, 3) := by decide +kernel
theorem dL_steps_7 : decode cL_steps 7 = .ok (.i2l, 1) := by decide +kernel
theorem dL_steps_8 : decode cL_steps 8 = .ok (.lastore, 1) := by decide +kernel
theorem dL_steps_9 : decode cL_steps 9 = .ok (.goto 6, 3) := by decide +kernel
theorem dL_steps_12 : decode cL_steps 12 = .ok (.astore_n 3, 1) := by decide +kernel
theorem dL_steps_13 : decode cL_steps 13 = .ok (.iconst 1, 1) := by decide +kernel
theorem dL_steps_14 : decode cL_steps 14 = .ok (.ireturn, 1) := by decide +kernel
theorem dL_steps_15 : decode cL_steps 15 = .ok (.iconst 0, 1) := by decide +kernel
theorem dL_steps_16 : decode cL_steps 16 = .ok (.ireturn, 1) := by decide +kernel
set_option maxRecDepth 20000 in
theorem ggL_places_X4_places : GoodIn wsL_places wsX4_places := goodIn_ca (goodIn_r _ [6, 7, 8, 9, 10, 11, 5, 12, 13, 14, 15, 16, 17, 18, 19, 20, 21, 22, 23, 24, 25, 26, 27, 28, 29, 30, 31, 32, 33, 34, 35, 36, 37, 38, 39, 40, 41] (by decide +kernel) (by decide +kernel)) (goodIn_sub (fun _ h => List.mem_cons_of_mem _ (List.mem_append_right _ h)) (by decide +kernel))
set_option maxRecDepth 20000 in
theorem gL_places_X4_places : GoodIn wsL_places (wsV RL 43 RX4 yX4_places wsX4_places) := goodIn_app (goodIn_of _ (by decide +kernel)) ggL_places_X4_places
theorem dL_places_0 : decode cL_places 0 = .ok (.aload_n 2, 1) := by decide +kernel
theorem dL_places_1 : decode cL_places 1 = .ok (.iconst 0, 1) := by decide +kernel
theorem dL_places_2 : decode cL_places 2 = .ok (.aload_n 0, 1) := by decide +kernel
theorem dL_places_3 : decode cL_places 3 = .ok (.iload_n 1, 1) := by decide +kernel
theorem dL_places_4 : decode cL_places 4 = .ok (.invokevirtual 43, 3) := by decide +kernel
theorem dL_places_7 : decode cL_places 7 = .ok (.i2l, 1) := by decide +kernel
theorem dL_places_8 : decode cL_places 8 = .ok (.lastore, 1) := by decide +kernel
theorem dL_places_9 : decode cL_places 9 = .ok (.goto 6, 3) := by decide +kernel
theorem dL_places_12 : decode cL_places 12 = .ok (.astore_n 3, 1) := by decide +kernel
theorem dL_places_13 : decode cL_places 13 = .ok (.iconst 1, 1) := by decide +kernel
theorem dL_places_14 : decode cL_places 14 = .ok (.ireturn, 1) := by decide +kernel
theorem dL_places_15 : decode cL_places 15 = .ok (.iconst 0, 1) := by decide +kernel
theorem dL_places_16 : decode cL_places 16 = .ok (.ireturn, 1) := by decide +kernel
set_option maxRecDepth 20000 in
theorem ggL_layers_X4_layers : GoodIn wsL_layers wsX4_layers := goodIn_ca (goodIn_r _ [6, 7, 8, 9, 10, 5, 11, 12, 13, 14, 15, 16, 17, 18, 19, 20, 21, 22, 23, 24, 25, 26, 27, 28, 29, 30, 31, 32, 33, 34, 35, 36, 37, 38, 39, 40, 41, 42, 43, 44, 45, 46, 47, 48, 49, 50, 51, 52, 53, 54, 55, 56, 57, 58, 59] (by decide +kernel) (by decide +kernel)) (goodIn_sub (fun _ h => List.mem_cons_of_mem _ (List.mem_append_right _ h)) (by decide +kernel))
set_option maxRecDepth 20000 in
theorem gL_layers_X4_layers : GoodIn wsL_layers (wsV RL 46 RX4 yX4_layers wsX4_layers) := goodIn_app (goodIn_of _ (by decide +kernel)) ggL_layers_X4_layers
theorem dL_layers_0 : decode cL_layers 0 = .ok (.aload_n 2, 1) := by decide +kernel
theorem dL_layers_1 : decode cL_layers 1 = .ok (.iconst 0, 1) := by decide +kernel
theorem dL_layers_2 : decode cL_layers 2 = .ok (.aload_n 0, 1) := by decide +kernel
theorem dL_layers_3 : decode cL_layers 3 = .ok (.iload_n 1, 1) := by decide +kernel
theorem dL_layers_4 : decode cL_layers 4 = .ok (.invokevirtual 46, 3) := by decide +kernel
theorem dL_layers_7 : decode cL_layers 7 = .ok (.i2l, 1) := by decide +kernel
theorem dL_layers_8 : decode cL_layers 8 = .ok (.lastore, 1) := by decide +kernel
theorem dL_layers_9 : decode cL_layers 9 = .ok (.goto 6, 3) := by decide +kernel
theorem dL_layers_12 : decode cL_layers 12 = .ok (.astore_n 3, 1) := by decide +kernel
theorem dL_layers_13 : decode cL_layers 13 = .ok (.iconst 1, 1) := by decide +kernel
theorem dL_layers_14 : decode cL_layers 14 = .ok (.ireturn, 1) := by decide +kernel
theorem dL_layers_15 : decode cL_layers 15 = .ok (.iconst 0, 1) := by decide +kernel
theorem dL_layers_16 : decode cL_layers 16 = .ok (.ireturn, 1) := by decide +kernel
set_option maxRecDepth 20000 in
theorem ggL_cellAt_X4_cellAt : GoodIn wsL_cellAt wsX4_cellAt := goodIn_ca (goodIn_r _ [6, 7, 8, 9, 10, 11, 12, 13, 5, 14, 15, 16, 17, 18, 19, 20, 21, 22, 23, 24, 25, 26, 27, 28, 29, 30, 31, 32, 33, 34, 35, 36, 37, 38, 39, 40, 41, 42, 43, 44, 45, 46, 47, 48, 49, 50, 51, 52, 53, 54, 55, 56, 57, 58] (by decide +kernel) (by decide +kernel)) (goodIn_sub (fun _ h => List.mem_cons_of_mem _ (List.mem_append_right _ h)) (by decide +kernel))
set_option maxRecDepth 20000 in
theorem gL_cellAt_X4_cellAt : GoodIn wsL_cellAt (wsV RL 49 RX4 yX4_cellAt wsX4_cellAt) := goodIn_app (goodIn_of _ (by decide +kernel)) ggL_cellAt_X4_cellAt
theorem dL_cellAt_0 : decode cL_cellAt 0 = .ok (.aload 4, 2) := by decide +kernel
theorem dL_cellAt_2 : decode cL_cellAt 2 = .ok (.iconst 0, 1) := by decide +kernel
theorem dL_cellAt_3 : decode cL_cellAt 3 = .ok (.aload_n 0, 1) := by decide +kernel
theorem dL_cellAt_4 : decode cL_cellAt 4 = .ok (.iload_n 1, 1) := by decide +kernel
theorem dL_cellAt_5 : decode cL_cellAt 5 = .ok (.iload_n 2, 1) := by decide +kernel
theorem dL_cellAt_6 : decode cL_cellAt 6 = .ok (.iload_n 3, 1) := by decide +kernel
theorem dL_cellAt_7 : decode cL_cellAt 7 = .ok (.invokevirtual 49, 3) := by decide +kernel
theorem dL_cellAt_10 : decode cL_cellAt 10 = .ok (.i2l, 1) := by decide +kernel
theorem dL_cellAt_11 : decode cL_cellAt 11 = .ok (.lastore, 1) := by decide +kernel
theorem dL_cellAt_12 : decode cL_cellAt 12 = .ok (.goto 7, 3) := by decide +kernel
theorem dL_cellAt_15 : decode cL_cellAt 15 = .ok (.astore 5, 2) := by decide +kernel
theorem dL_cellAt_17 : decode cL_cellAt 17 = .ok (.iconst 1, 1) := by decide +kernel
theorem dL_cellAt_18 : decode cL_cellAt 18 = .ok (.ireturn, 1) := by decide +kernel
theorem dL_cellAt_19 : decode cL_cellAt 19 = .ok (.iconst 0, 1) := by decide +kernel
theorem dL_cellAt_20 : decode cL_cellAt 20 = .ok (.ireturn, 1) := by decide +kernel
set_option maxRecDepth 20000 in
theorem ggL_placeOf_X4_placeOf : GoodIn wsL_placeOf wsX4_placeOf := goodIn_ca (goodIn_r _ [6, 7, 8, 9, 10, 11, 5, 12, 13, 14, 15, 16, 17, 18, 19, 20, 21, 22, 23, 24, 25, 26, 27, 28, 29, 30, 31, 32, 33, 34, 35, 36, 37, 38, 39, 40, 41, 42, 43, 44, 45, 46, 47, 48, 49, 50, 51, 52, 53, 54, 55, 56, 57, 58, 59, 60, 61, 62, 63, 64, 65, 66] (by decide +kernel) (by decide +kernel)) (goodIn_sub (fun _ h => List.mem_cons_of_mem _ (List.mem_append_right _ h)) (by decide +kernel))
set_option maxRecDepth 20000 in
theorem gL_placeOf_X4_placeOf : GoodIn wsL_placeOf (wsV RL 53 RX4 yX4_placeOf wsX4_placeOf) := goodIn_app (goodIn_of _ (by decide +kernel)) ggL_placeOf_X4_placeOf
theorem dL_placeOf_0 : decode cL_placeOf 0 = .ok (.aload_n 3, 1) := by decide +kernel
theorem dL_placeOf_1 : decode cL_placeOf 1 = .ok (.iconst 0, 1) := by decide +kernel
theorem dL_placeOf_2 : decode cL_placeOf 2 = .ok (.aload_n 0, 1) := by decide +kernel
theorem dL_placeOf_3 : decode cL_placeOf 3 = .ok (.iload_n 1, 1) := by decide +kernel
theorem dL_placeOf_4 : decode cL_placeOf 4 = .ok (.iload_n 2, 1) := by decide +kernel
theorem dL_placeOf_5 : decode cL_placeOf 5 = .ok (.invokevirtual 53, 3) := by decide +kernel
theorem dL_placeOf_8 : decode cL_placeOf 8 = .ok (.i2l, 1) := by decide +kernel
theorem dL_placeOf_9 : decode cL_placeOf 9 = .ok (.lastore, 1) := by decide +kernel
theorem dL_placeOf_10 : decode cL_placeOf 10 = .ok (.goto 7, 3) := by decide +kernel
theorem dL_placeOf_13 : decode cL_placeOf 13 = .ok (.astore 4, 2) := by decide +kernel
theorem dL_placeOf_15 : decode cL_placeOf 15 = .ok (.iconst 1, 1) := by decide +kernel
theorem dL_placeOf_16 : decode cL_placeOf 16 = .ok (.ireturn, 1) := by decide +kernel
theorem dL_placeOf_17 : decode cL_placeOf 17 = .ok (.iconst 0, 1) := by decide +kernel
theorem dL_placeOf_18 : decode cL_placeOf 18 = .ok (.ireturn, 1) := by decide +kernel
set_option maxRecDepth 20000 in
theorem ggL_isTurned_X4_isTurned : GoodIn wsL_isTurned wsX4_isTurned := goodIn_ca (goodIn_r _ [6, 7, 8, 9, 10, 11, 5, 12, 13, 14, 15, 16, 17, 18, 19, 20, 21, 22, 23, 24, 25, 26, 27, 28, 29, 30, 31, 32, 33, 34, 35, 36, 37, 38, 39, 40, 41, 42, 43, 44, 45, 46, 47, 48, 49, 50, 51, 52, 53, 54, 55, 56, 57, 58, 59, 60, 61, 62, 63, 64, 65, 66] (by decide +kernel) (by decide +kernel)) (goodIn_sub (fun _ h => List.mem_cons_of_mem _ (List.mem_append_right _ h)) (by decide +kernel))
set_option maxRecDepth 20000 in
theorem gL_isTurned_X4_isTurned : GoodIn wsL_isTurned (wsV RL 56 RX4 yX4_isTurned wsX4_isTurned) := goodIn_app (goodIn_of _ (by decide +kernel)) ggL_isTurned_X4_isTurned
theorem dL_isTurned_0 : decode cL_isTurned 0 = .ok (.aload_n 3, 1) := by decide +kernel
theorem dL_isTurned_1 : decode cL_isTurned 1 = .ok (.iconst 0, 1) := by decide +kernel
theorem dL_isTurned_2 : decode cL_isTurned 2 = .ok (.aload_n 0, 1) := by decide +kernel
theorem dL_isTurned_3 : decode cL_isTurned 3 = .ok (.iload_n 1, 1) := by decide +kernel
theorem dL_isTurned_4 : decode cL_isTurned 4 = .ok (.iload_n 2, 1) := by decide +kernel
theorem dL_isTurned_5 : decode cL_isTurned 5 = .ok (.invokevirtual 56, 3) := by decide +kernel
theorem dL_isTurned_8 : decode cL_isTurned 8 = .ok (.ifCond .eq 7, 3) := by decide +kernel
theorem dL_isTurned_11 : decode cL_isTurned 11 = .ok (.lconst 1, 1) := by decide +kernel
theorem dL_isTurned_12 : decode cL_isTurned 12 = .ok (.goto 4, 3) := by decide +kernel
theorem dL_isTurned_15 : decode cL_isTurned 15 = .ok (.lconst 0, 1) := by decide +kernel
theorem dL_isTurned_16 : decode cL_isTurned 16 = .ok (.lastore, 1) := by decide +kernel
theorem dL_isTurned_17 : decode cL_isTurned 17 = .ok (.goto 7, 3) := by decide +kernel
theorem dL_isTurned_20 : decode cL_isTurned 20 = .ok (.astore 4, 2) := by decide +kernel
theorem dL_isTurned_22 : decode cL_isTurned 22 = .ok (.iconst 1, 1) := by decide +kernel
theorem dL_isTurned_23 : decode cL_isTurned 23 = .ok (.ireturn, 1) := by decide +kernel
theorem dL_isTurned_24 : decode cL_isTurned 24 = .ok (.iconst 0, 1) := by decide +kernel
theorem dL_isTurned_25 : decode cL_isTurned 25 = .ok (.ireturn, 1) := by decide +kernel
set_option maxRecDepth 20000 in
theorem ggL_layersByFollowing_X4_layersByFollowing : GoodIn wsL_layersByFollowing wsX4_layersByFollowing := goodIn_ca (goodIn_r _ [6, 7, 8, 9, 10, 11, 12, 13, 14, 15, 16, 17, 5, 18, 19, 20, 21, 22, 23, 24, 25, 26, 27, 28, 29, 30, 31, 32, 33, 34, 35, 36, 37, 38, 39, 40, 41, 42, 43, 44, 45, 46, 47, 48, 49, 50, 51, 52, 53, 54, 55, 56, 57, 58, 59, 60, 61, 62, 63, 64] (by decide +kernel) (by decide +kernel)) (goodIn_sub (fun _ h => List.mem_cons_of_mem _ (List.mem_append_right _ h)) (by decide +kernel))
set_option maxRecDepth 20000 in
theorem gL_layersByFollowing_X4_layersByFollowing : GoodIn wsL_layersByFollowing (wsV RL 59 RX4 yX4_layersByFollowing wsX4_layersByFollowing) := goodIn_app (goodIn_of _ (by decide +kernel)) ggL_layersByFollowing_X4_layersByFollowing
theorem dL_layersByFollowing_0 : decode cL_layersByFollowing 0 = .ok (.aload_n 2, 1) := by decide +kernel
theorem dL_layersByFollowing_1 : decode cL_layersByFollowing 1 = .ok (.iconst 0, 1) := by decide +kernel
theorem dL_layersByFollowing_2 : decode cL_layersByFollowing 2 = .ok (.aload_n 0, 1) := by decide +kernel
theorem dL_layersByFollowing_3 : decode cL_layersByFollowing 3 = .ok (.iload_n 1, 1) := by decide +kernel
theorem dL_layersByFollowing_4 : decode cL_layersByFollowing 4 = .ok (.invokevirtual 59, 3) := by decide +kernel
theorem dL_layersByFollowing_7 : decode cL_layersByFollowing 7 = .ok (.i2l, 1) := by decide +kernel
theorem dL_layersByFollowing_8 : decode cL_layersByFollowing 8 = .ok (.lastore, 1) := by decide +kernel
theorem dL_layersByFollowing_9 : decode cL_layersByFollowing 9 = .ok (.goto 6, 3) := by decide +kernel
theorem dL_layersByFollowing_12 : decode cL_layersByFollowing 12 = .ok (.astore_n 3, 1) := by decide +kernel
theorem dL_layersByFollowing_13 : decode cL_layersByFollowing 13 = .ok (.iconst 1, 1) := by decide +kernel
theorem dL_layersByFollowing_14 : decode cL_layersByFollowing 14 = .ok (.ireturn, 1) := by decide +kernel
theorem dL_layersByFollowing_15 : decode cL_layersByFollowing 15 = .ok (.iconst 0, 1) := by decide +kernel
theorem dL_layersByFollowing_16 : decode cL_layersByFollowing 16 = .ok (.ireturn, 1) := by decide +kernel
set_option maxRecDepth 20000 in
theorem ggL_bears_X4_bears : GoodIn wsL_bears wsX4_bears := goodIn_ca (goodIn_ca (goodIn_r _ [7, 8, 9, 10, 11, 12, 13, 14, 15, 16, 17, 6, 18, 19, 20, 21, 22, 23, 24, 25, 26, 27, 28, 29, 30, 31, 32, 33, 34, 35, 36, 37, 38, 39, 40, 41, 42, 43, 44, 45, 46, 47, 48, 49, 50, 51, 52, 53, 54, 55, 56, 57, 58, 59, 60, 61, 62, 63] (by decide +kernel) (by decide +kernel)) (goodIn_sub (fun _ h => List.mem_cons_of_mem _ (List.mem_append_left _ (List.mem_append_right _ h))) (by decide +kernel))) (goodIn_sub (fun _ h => List.mem_cons_of_mem _ (List.mem_append_right _ h)) (by decide +kernel))
set_option maxRecDepth 20000 in
theorem gL_bears_X4_bears : GoodIn wsL_bears (wsV RL 62 RX4 yX4_bears wsX4_bears) := goodIn_app (goodIn_of _ (by decide +kernel)) ggL_bears_X4_bears
theorem dL_bears_0 : decode cL_bears 0 = .ok (.aload_n 3, 1) := by decide +kernel
theorem dL_bears_1 : decode cL_bears 1 = .ok (.iconst 0, 1) := by decide +kernel
theorem dL_bears_2 : decode cL_bears 2 = .ok (.aload_n 0, 1) := by decide +kernel
theorem dL_bears_3 : decode cL_bears 3 = .ok (.iload_n 1, 1) := by decide +kernel
theorem dL_bears_4 : decode cL_bears 4 = .ok (.iload_n 2, 1) := by decide +kernel
theorem dL_bears_5 : decode cL_bears 5 = .ok (.invokevirtual 62, 3) := by decide +kernel
theorem dL_bears_8 : decode cL_bears 8 = .ok (.ifCond .eq 7, 3) := by decide +kernel
theorem dL_bears_11 : decode cL_bears 11 = .ok (.lconst 1, 1) := by decide +kernel
theorem dL_bears_12 : decode cL_bears 12 = .ok (.goto 4, 3) := by decide +kernel
theorem dL_bears_15 : decode cL_bears 15 = .ok (.lconst 0, 1) := by decide +kernel
theorem dL_bears_16 : decode cL_bears 16 = .ok (.lastore, 1) := by decide +kernel
theorem dL_bears_17 : decode cL_bears 17 = .ok (.goto 11, 3) := by decide +kernel
theorem dL_bears_20 : decode cL_bears 20 = .ok (.astore 4, 2) := by decide +kernel
theorem dL_bears_22 : decode cL_bears 22 = .ok (.iconst 1, 1) := by decide +kernel
theorem dL_bears_23 : decode cL_bears 23 = .ok (.ireturn, 1) := by decide +kernel
theorem dL_bears_24 : decode cL_bears 24 = .ok (.astore 4, 2) := by decide +kernel
theorem dL_bears_26 : decode cL_bears 26 = .ok (.iconst 2, 1) := by decide +kernel
theorem dL_bears_27 : decode cL_bears 27 = .ok (.ireturn, 1) := by decide +kernel
theorem dL_bears_28 : decode cL_bears 28 = .ok (.iconst 0, 1) := by decide +kernel
theorem dL_bears_29 : decode cL_bears 29 = .ok (.ireturn, 1) := by decide +kernel
set_option maxRecDepth 20000 in
theorem ggL_kindsOf_X4_kindsOf : GoodIn wsL_kindsOf wsX4_kindsOf := goodIn_ca (goodIn_r _ [6, 7, 8, 9, 5, 10, 11, 12, 13, 14, 15, 16, 17, 18, 19, 20, 21, 22, 23, 24, 25, 26, 27, 28, 29, 30, 31, 32, 33, 34, 35, 36, 37, 38, 39, 40, 41, 42, 43, 44, 45, 46, 47, 48, 49, 50, 51, 52, 53, 54, 55] (by decide +kernel) (by decide +kernel)) (goodIn_sub (fun _ h => List.mem_cons_of_mem _ (List.mem_append_right _ h)) (by decide +kernel))
set_option maxRecDepth 20000 in
theorem gL_kindsOf_X4_kindsOf : GoodIn wsL_kindsOf (wsV RL 65 RX4 yX4_kindsOf wsX4_kindsOf) := goodIn_app (goodIn_of _ (by decide +kernel)) ggL_kindsOf_X4_kindsOf
theorem dL_kindsOf_0 : decode cL_kindsOf 0 = .ok (.aload_n 2, 1) := by decide +kernel
theorem dL_kindsOf_1 : decode cL_kindsOf 1 = .ok (.iconst 0, 1) := by decide +kernel
theorem dL_kindsOf_2 : decode cL_kindsOf 2 = .ok (.aload_n 0, 1) := by decide +kernel
theorem dL_kindsOf_3 : decode cL_kindsOf 3 = .ok (.iload_n 1, 1) := by decide +kernel
theorem dL_kindsOf_4 : decode cL_kindsOf 4 = .ok (.invokevirtual 65, 3) := by decide +kernel
theorem dL_kindsOf_7 : decode cL_kindsOf 7 = .ok (.i2l, 1) := by decide +kernel
theorem dL_kindsOf_8 : decode cL_kindsOf 8 = .ok (.lastore, 1) := by decide +kernel
theorem dL_kindsOf_9 : decode cL_kindsOf 9 = .ok (.goto 6, 3) := by decide +kernel
theorem dL_kindsOf_12 : decode cL_kindsOf 12 = .ok (.astore_n 3, 1) := by decide +kernel
theorem dL_kindsOf_13 : decode cL_kindsOf 13 = .ok (.iconst 1, 1) := by decide +kernel
theorem dL_kindsOf_14 : decode cL_kindsOf 14 = .ok (.ireturn, 1) := by decide +kernel
theorem dL_kindsOf_15 : decode cL_kindsOf 15 = .ok (.iconst 0, 1) := by decide +kernel
theorem dL_kindsOf_16 : decode cL_kindsOf 16 = .ok (.ireturn, 1) := by decide +kernel
set_option maxRecDepth 20000 in
theorem ggL_mayFold_X4_mayFold : GoodIn wsL_mayFold wsX4_mayFold := goodIn_ca (goodIn_r _ [6, 7, 8, 9, 10, 5, 11, 12, 13, 14, 15, 16, 17, 18, 19, 20, 21, 22, 23, 24, 25, 26, 27, 28, 29, 30, 31, 32, 33, 34, 35, 36, 37, 38, 39, 40, 41, 42, 43, 44, 45, 46, 47, 48, 49, 50, 51, 52, 53, 54, 55, 56, 57, 58, 59, 60, 61, 62, 63] (by decide +kernel) (by decide +kernel)) (goodIn_sub (fun _ h => List.mem_cons_of_mem _ (List.mem_append_right _ h)) (by decide +kernel))
set_option maxRecDepth 20000 in
theorem gL_mayFold_X4_mayFold : GoodIn wsL_mayFold (wsV RL 68 RX4 yX4_mayFold wsX4_mayFold) := goodIn_app (goodIn_of _ (by decide +kernel)) ggL_mayFold_X4_mayFold
theorem dL_mayFold_0 : decode cL_mayFold 0 = .ok (.aload_n 3, 1) := by decide +kernel
theorem dL_mayFold_1 : decode cL_mayFold 1 = .ok (.iconst 0, 1) := by decide +kernel
theorem dL_mayFold_2 : decode cL_mayFold 2 = .ok (.aload_n 0, 1) := by decide +kernel
theorem dL_mayFold_3 : decode cL_mayFold 3 = .ok (.iload_n 1, 1) := by decide +kernel
theorem dL_mayFold_4 : decode cL_mayFold 4 = .ok (.iload_n 2, 1) := by decide +kernel
theorem dL_mayFold_5 : decode cL_mayFold 5 = .ok (.invokevirtual 68, 3) := by decide +kernel
theorem dL_mayFold_8 : decode cL_mayFold 8 = .ok (.ifCond .eq 7, 3) := by decide +kernel
theorem dL_mayFold_11 : decode cL_mayFold 11 = .ok (.lconst 1, 1) := by decide +kernel
theorem dL_mayFold_12 : decode cL_mayFold 12 = .ok (.goto 4, 3) := by decide +kernel
theorem dL_mayFold_15 : decode cL_mayFold 15 = .ok (.lconst 0, 1) := by decide +kernel
theorem dL_mayFold_16 : decode cL_mayFold 16 = .ok (.lastore, 1) := by decide +kernel
theorem dL_mayFold_17 : decode cL_mayFold 17 = .ok (.goto 7, 3) := by decide +kernel
theorem dL_mayFold_20 : decode cL_mayFold 20 = .ok (.astore 4, 2) := by decide +kernel
theorem dL_mayFold_22 : decode cL_mayFold 22 = .ok (.iconst 1, 1) := by decide +kernel
theorem dL_mayFold_23 : decode cL_mayFold 23 = .ok (.ireturn, 1) := by decide +kernel
theorem dL_mayFold_24 : decode cL_mayFold 24 = .ok (.iconst 0, 1) := by decide +kernel
theorem dL_mayFold_25 : decode cL_mayFold 25 = .ok (.ireturn, 1) := by decide +kernel
set_option maxRecDepth 20000 in
theorem ggL_lessons_X4_lessons : GoodIn wsL_lessons wsX4_lessons := goodIn_ca (goodIn_r _ [6, 7, 8, 9, 10, 11, 5, 12, 13, 14, 15, 16, 17, 18, 19, 20, 21, 22, 23, 24, 25, 26, 27, 28, 29, 30, 31, 32, 33, 34, 35, 36, 37, 38, 39, 40, 41, 42, 43, 44, 45, 46, 47, 48, 49, 50, 51, 52, 53, 54, 55, 56, 57, 58, 59, 60, 61, 62, 63, 64, 65, 66, 67, 68] (by decide +kernel) (by decide +kernel)) (goodIn_sub (fun _ h => List.mem_cons_of_mem _ (List.mem_append_right _ h)) (by decide +kernel))
set_option maxRecDepth 20000 in
theorem gL_lessons_X4_lessons : GoodIn wsL_lessons (wsV RL 71 RX4 yX4_lessons wsX4_lessons) := goodIn_app (goodIn_of _ (by decide +kernel)) ggL_lessons_X4_lessons
theorem dL_lessons_0 : decode cL_lessons 0 = .ok (.aload_n 3, 1) := by decide +kernel
theorem dL_lessons_1 : decode cL_lessons 1 = .ok (.iconst 0, 1) := by decide +kernel
theorem dL_lessons_2 : decode cL_lessons 2 = .ok (.aload_n 0, 1) := by decide +kernel
theorem dL_lessons_3 : decode cL_lessons 3 = .ok (.iload_n 1, 1) := by decide +kernel
theorem dL_lessons_4 : decode cL_lessons 4 = .ok (.iload_n 2, 1) := by decide +kernel
theorem dL_lessons_5 : decode cL_lessons 5 = .ok (.invokevirtual 71, 3) := by decide +kernel
theorem dL_lessons_8 : decode cL_lessons 8 = .ok (.i2l, 1) := by decide +kernel
theorem dL_lessons_9 : decode cL_lessons 9 = .ok (.lastore, 1) := by decide +kernel
theorem dL_lessons_10 : decode cL_lessons 10 = .ok (.goto 7, 3) := by decide +kernel
theorem dL_lessons_13 : decode cL_lessons 13 = .ok (.astore 4, 2) := by decide +kernel
theorem dL_lessons_15 : decode cL_lessons 15 = .ok (.iconst 1, 1) := by decide +kernel
theorem dL_lessons_16 : decode cL_lessons 16 = .ok (.ireturn, 1) := by decide +kernel
theorem dL_lessons_17 : decode cL_lessons 17 = .ok (.iconst 0, 1) := by decide +kernel
theorem dL_lessons_18 : decode cL_lessons 18 = .ok (.ireturn, 1) := by decide +kernel
set_option maxRecDepth 20000 in
theorem ggL_credit_X4_credit : GoodIn wsL_credit wsX4_credit := goodIn_ca (goodIn_r _ [6, 7, 8, 9, 10, 5, 11, 12, 13, 14, 15, 16, 17, 18, 19, 20, 21, 22, 23, 24, 25, 26, 27, 28, 29, 30, 31, 32, 33, 34, 35, 36, 37, 38, 39, 40, 41, 42, 43, 44, 45, 46, 47, 48, 49, 50, 51, 52, 53] (by decide +kernel) (by decide +kernel)) (goodIn_sub (fun _ h => List.mem_cons_of_mem _ (List.mem_append_right _ h)) (by decide +kernel))
set_option maxRecDepth 20000 in
theorem gL_credit_X4_credit : GoodIn wsL_credit (wsV RL 74 RX4 yX4_credit wsX4_credit) := goodIn_app (goodIn_of _ (by decide +kernel)) ggL_credit_X4_credit
theorem dL_credit_0 : decode cL_credit 0 = .ok (.aload_n 2, 1) := by decide +kernel
theorem dL_credit_1 : decode cL_credit 1 = .ok (.iconst 0, 1) := by decide +kernel
theorem dL_credit_2 : decode cL_credit 2 = .ok (.aload_n 0, 1) := by decide +kernel
theorem dL_credit_3 : decode cL_credit 3 = .ok (.iload_n 1, 1) := by decide +kernel
theorem dL_credit_4 : decode cL_credit 4 = .ok (.invokevirtual 74, 3) := by decide +kernel
theorem dL_credit_7 : decode cL_credit 7 = .ok (.i2l, 1) := by decide +kernel
theorem dL_credit_8 : decode cL_credit 8 = .ok (.lastore, 1) := by decide +kernel
theorem dL_credit_9 : decode cL_credit 9 = .ok (.goto 6, 3) := by decide +kernel
theorem dL_credit_12 : decode cL_credit 12 = .ok (.astore_n 3, 1) := by decide +kernel
theorem dL_credit_13 : decode cL_credit 13 = .ok (.iconst 1, 1) := by decide +kernel
theorem dL_credit_14 : decode cL_credit 14 = .ok (.ireturn, 1) := by decide +kernel
theorem dL_credit_15 : decode cL_credit 15 = .ok (.iconst 0, 1) := by decide +kernel
theorem dL_credit_16 : decode cL_credit 16 = .ok (.ireturn, 1) := by decide +kernel
set_option maxRecDepth 20000 in
theorem ggL_law_X4_init : GoodIn wsL_law wsX4_init := goodIn_r _ [9, 10, 11, 12, 13, 14, 15, 16, 17, 18, 19, 20, 21, 22, 23, 24, 25, 26, 27, 28, 29, 30, 31, 32, 33, 34, 35, 36, 37, 38, 39, 40, 41, 573, 574, 575, 576, 577, 578, 579, 580, 601, 602, 603, 604, 605, 606, 607] (by decide +kernel) (by decide +kernel)
set_option maxRecDepth 20000 in
theorem gL_law_X4_init : GoodIn wsL_law (wsX4_init) := ggL_law_X4_init
set_option maxRecDepth 20000 in
theorem ggL_law_X5_init : GoodIn wsL_law wsX5_init := goodIn_r _ [44, 45, 11, 12, 13, 46, 47, 48, 49, 50, 51, 52, 53, 54, 55, 56, 57, 58, 59, 581, 582, 583, 584, 585, 586, 587, 588, 589, 590, 591, 592, 593, 594, 595, 596, 597, 598, 599, 600] (by decide +kernel) (by decide +kernel)
set_option maxRecDepth 20000 in
theorem gL_law_X5_init : GoodIn wsL_law (wsX5_init) := ggL_law_X5_init
set_option maxRecDepth 20000 in
theorem ggL_law_L_setNeeds : GoodIn wsL_law wsL_setNeeds := goodIn_ca (goodIn_ca (goodIn_r _ [63, 64, 65, 66, 67, 68, 2, 69, 70, 71, 14, 72, 73, 74, 75, 76, 77, 78, 79, 80, 81, 82, 83, 573, 574, 575, 576, 577, 578, 579, 580] (by decide +kernel) (by decide +kernel)) (goodIn_sub (fun _ h => List.mem_append_left _ (List.mem_append_left _ (List.mem_append_right _ h))) (by decide +kernel))) (goodIn_sub (fun _ h => List.mem_append_left _ (List.mem_append_right _ h)) (by decide +kernel))
set_option maxRecDepth 20000 in
theorem gL_law_L_setNeeds : GoodIn wsL_law (va_wsS RL 81 yL_setNeeds wsL_setNeeds) := goodIn_app (goodIn_of _ (by decide +kernel)) ggL_law_L_setNeeds
set_option maxRecDepth 20000 in
theorem ggL_law_X5_setNeeds : GoodIn wsL_law wsX5_setNeeds := goodIn_r _ [87, 88, 46, 89, 90, 5, 91, 92, 93, 94, 95, 96, 97, 98, 99, 581, 582, 583, 584, 585, 586, 587, 588, 589, 590, 591, 592, 593, 594, 595, 596, 597, 598, 599, 600] (by decide +kernel) (by decide +kernel)
set_option maxRecDepth 20000 in
theorem gL_law_X5_setNeeds : GoodIn wsL_law (wsV RL 86 RX5 yX5_setNeeds wsX5_setNeeds) := goodIn_app (goodIn_of _ (by decide +kernel)) ggL_law_X5_setNeeds
set_option maxRecDepth 20000 in
theorem ggL_law_X5_thrown : GoodIn wsL_law wsX5_thrown := goodIn_r _ [103, 88, 581, 582, 583, 584, 585, 586, 587, 588, 589, 590, 591, 592, 593, 594, 595, 596, 597, 598, 599, 600] (by decide +kernel) (by decide +kernel)
set_option maxRecDepth 20000 in
theorem gL_law_X5_thrown : GoodIn wsL_law (wsV RL 87 RX5 yX5_thrown wsX5_thrown) := goodIn_app (goodIn_of _ (by decide +kernel)) ggL_law_X5_thrown
set_option maxRecDepth 20000 in
theorem ggL_law_L_addModel : GoodIn wsL_law wsL_addModel := goodIn_ca (goodIn_ca (goodIn_ca (goodIn_r _ [106, 64, 65, 107, 108, 109, 110, 2, 111, 70, 71, 112, 113, 19, 17, 16, 114, 115, 116, 117, 118, 119, 76, 77, 120, 121, 122, 123, 11, 12, 13, 124, 125, 126, 127, 128, 129, 130, 131, 132, 133, 134, 135, 136, 137, 138, 139, 140, 141, 142, 143, 144, 145, 146, 147, 148, 149, 150, 151, 152, 153, 154, 573, 574, 575, 576, 577, 578, 579, 580, 608, 609, 610, 611, 612, 613, 614, 615, 616, 617, 618, 619, 620] (by decide +kernel) (by decide +kernel)) (goodIn_sub (fun _ h => List.mem_append_left _ (List.mem_append_left _ (List.mem_append_right _ h))) (by decide +kernel))) (goodIn_sub (fun _ h => List.mem_append_right _ h) (by decide +kernel))) (goodIn_sub (fun _ h => List.mem_append_left _ (List.mem_append_right _ h)) (by decide +kernel))
set_option maxRecDepth 20000 in
theorem gL_law_L_addModel : GoodIn wsL_law (va_wsS RL 91 yL_addModel wsL_addModel) := goodIn_app (goodIn_of _ (by decide +kernel)) ggL_law_L_addModel
set_option maxRecDepth 20000 in
theorem ggL_law_X5_addModel : GoodIn wsL_law wsX5_addModel := goodIn_r _ [158, 159, 88, 47, 48, 89, 90, 5, 91, 581, 582, 583, 584, 585, 586, 587, 588, 589, 590, 591, 592, 593, 594, 595, 596, 597, 598, 599, 600] (by decide +kernel) (by decide +kernel)
set_option maxRecDepth 20000 in
theorem gL_law_X5_addModel : GoodIn wsL_law (wsV RL 93 RX5 yX5_addModel wsX5_addModel) := goodIn_app (goodIn_of _ (by decide +kernel)) ggL_law_X5_addModel
set_option maxRecDepth 20000 in
theorem ggL_law_L_fold : GoodIn wsL_law wsL_fold := goodIn_ca (goodIn_ca (goodIn_ca (goodIn_r _ [162, 64, 65, 107, 163, 164, 165, 2, 166, 70, 71, 112, 113, 167, 168, 169, 14, 170, 171, 172, 173, 76, 77, 17, 174, 175, 176, 177, 19, 72, 73, 74, 75, 178, 179, 180, 115, 181, 128, 124, 182, 183, 184, 185, 186, 187, 188, 125, 127, 134, 189, 190, 191, 133, 192, 143, 148, 149, 150, 151, 152, 153, 154, 142, 141, 193, 194, 195, 196, 139, 197, 198, 199, 200, 201, 202, 203, 204, 138, 140, 205, 206, 207, 208, 209, 210, 211, 212, 608, 609, 610, 611, 612, 613, 614, 615, 616, 617, 618, 619, 620, 573, 574, 575, 576, 577, 578, 579, 580] (by decide +kernel) (by decide +kernel)) (goodIn_sub (fun _ h => List.mem_append_left _ (List.mem_append_left _ (List.mem_append_right _ h))) (by decide +kernel))) (goodIn_sub (fun _ h => List.mem_append_right _ h) (by decide +kernel))) (goodIn_sub (fun _ h => List.mem_append_left _ (List.mem_append_right _ h)) (by decide +kernel))
set_option maxRecDepth 20000 in
theorem gL_law_L_fold : GoodIn wsL_law (va_wsS RL 94 yL_fold wsL_fold) := goodIn_app (goodIn_of _ (by decide +kernel)) ggL_law_L_fold
set_option maxRecDepth 20000 in
theorem ggL_law_X5_fold : GoodIn wsL_law wsX5_fold := goodIn_r _ [216, 159, 88, 217, 49, 46, 51, 52, 53, 89, 90, 5, 91, 218, 219, 220, 221, 48, 55, 56, 57, 222, 223, 224, 225, 226, 58, 227, 228, 229, 230, 96, 97, 98, 99, 231, 232, 233, 234, 581, 582, 583, 584, 585, 586, 587, 588, 589, 590, 591, 592, 593, 594, 595, 596, 597, 598, 599, 600] (by decide +kernel) (by decide +kernel)
set_option maxRecDepth 20000 in
theorem gL_law_X5_fold : GoodIn wsL_law (wsV RL 97 RX5 yX5_fold wsX5_fold) := goodIn_app (goodIn_of _ (by decide +kernel)) ggL_law_X5_fold
set_option maxRecDepth 20000 in
theorem ggL_law_L_unfold : GoodIn wsL_law wsL_unfold := goodIn_ca (goodIn_ca (goodIn_r _ [237, 64, 107, 238, 239, 240, 2, 241, 112, 113, 169, 170, 171, 172, 173, 76, 77, 17, 174, 175, 176, 177, 19, 242, 243, 244, 115, 245, 128, 134, 130, 125, 127, 124, 144, 145, 146, 133, 147, 148, 149, 150, 151, 152, 153, 154, 143, 138, 139, 189, 190, 191, 192, 142, 141, 193, 194, 195, 196, 197, 198, 199, 200, 201, 202, 203, 204, 140, 205, 206, 207, 208, 209, 210, 211, 212, 608, 609, 610, 611, 612, 613, 614, 573, 574, 575, 576, 577, 578, 579, 580, 615, 616, 617, 618, 619, 620] (by decide +kernel) (by decide +kernel)) (goodIn_sub (fun _ h => List.mem_append_right _ h) (by decide +kernel))) (goodIn_sub (fun _ h => List.mem_append_left _ (List.mem_append_right _ h)) (by decide +kernel))
set_option maxRecDepth 20000 in
theorem gL_law_L_unfold : GoodIn wsL_law (va_wsS RL 98 yL_unfold wsL_unfold) := goodIn_app (goodIn_of _ (by decide +kernel)) ggL_law_L_unfold
set_option maxRecDepth 20000 in
theorem ggL_law_X5_unfold : GoodIn wsL_law wsX5_unfold := goodIn_r _ [249, 49, 51, 250, 251, 252, 5, 253, 159, 88, 89, 90, 91, 96, 97, 98, 99, 581, 582, 583, 584, 585, 586, 587, 588, 589, 590, 591, 592, 593, 594, 595, 596, 597, 598, 599, 600] (by decide +kernel) (by decide +kernel)
set_option maxRecDepth 20000 in
theorem gL_law_X5_unfold : GoodIn wsL_law (wsV RL 101 RX5 yX5_unfold wsX5_unfold) := goodIn_app (goodIn_of _ (by decide +kernel)) ggL_law_X5_unfold
set_option maxRecDepth 20000 in
theorem ggL_law_L_use : GoodIn wsL_law wsL_use := goodIn_ca (goodIn_ca (goodIn_r _ [256, 64, 65, 257, 258, 259, 2, 260, 70, 71, 18, 174, 175, 176, 177, 76, 77, 19, 261, 262, 263, 264, 78, 79, 80, 81, 82, 83, 573, 574, 575, 576, 577, 578, 579, 580] (by decide +kernel) (by decide +kernel)) (goodIn_sub (fun _ h => List.mem_append_left _ (List.mem_append_left _ (List.mem_append_right _ h))) (by decide +kernel))) (goodIn_sub (fun _ h => List.mem_append_left _ (List.mem_append_right _ h)) (by decide +kernel))
set_option maxRecDepth 20000 in
theorem gL_law_L_use : GoodIn wsL_law (va_wsS RL 102 yL_use wsL_use) := goodIn_app (goodIn_of _ (by decide +kernel)) ggL_law_L_use
set_option maxRecDepth 20000 in
theorem ggL_law_X5_use : GoodIn wsL_law wsX5_use := goodIn_r _ [268, 159, 88, 50, 89, 90, 5, 91, 269, 270, 271, 272, 581, 582, 583, 584, 585, 586, 587, 588, 589, 590, 591, 592, 593, 594, 595, 596, 597, 598, 599, 600] (by decide +kernel) (by decide +kernel)
set_option maxRecDepth 20000 in
theorem gL_law_X5_use : GoodIn wsL_law (wsV RL 104 RX5 yX5_use wsX5_use) := goodIn_app (goodIn_of _ (by decide +kernel)) ggL_law_X5_use
set_option maxRecDepth 20000 in
theorem ggL_law_L_setRoll : GoodIn wsL_law wsL_setRoll := goodIn_ca (goodIn_r _ [275, 65, 276, 277, 278, 2, 279, 70, 71, 280, 28, 281, 282, 573, 574, 575, 576, 577, 578, 579, 580, 604, 605, 606, 607] (by decide +kernel) (by decide +kernel)) (goodIn_sub (fun _ h => List.mem_append_left _ (List.mem_append_left _ (List.mem_append_right _ h))) (by decide +kernel))
set_option maxRecDepth 20000 in
theorem gL_law_L_setRoll : GoodIn wsL_law (va_wsS RL 105 yL_setRoll wsL_setRoll) := goodIn_app (goodIn_of _ (by decide +kernel)) ggL_law_L_setRoll
set_option maxRecDepth 20000 in
theorem ggL_law_X5_setRoll : GoodIn wsL_law wsX5_setRoll := goodIn_r _ [286, 287, 88, 288, 289, 89, 90, 5, 91, 581, 582, 583, 584, 585, 586, 587, 588, 589, 590, 591, 592, 593, 594, 595, 596, 597, 598, 599, 600] (by decide +kernel) (by decide +kernel)
set_option maxRecDepth 20000 in
theorem gL_law_X5_setRoll : GoodIn wsL_law (wsV RL 107 RX5 yX5_setRoll wsX5_setRoll) := goodIn_app (goodIn_of _ (by decide +kernel)) ggL_law_X5_setRoll
set_option maxRecDepth 20000 in
theorem ggL_law_L_teach : GoodIn wsL_law wsL_teach := goodIn_ca (goodIn_ca (goodIn_r _ [292, 64, 107, 293, 294, 295, 2, 296, 112, 113, 15, 14, 297, 298, 299, 300, 76, 77, 72, 73, 74, 75, 182, 183, 184, 301, 302, 303, 304, 305, 306, 307, 573, 574, 575, 576, 577, 578, 579, 580] (by decide +kernel) (by decide +kernel)) (goodIn_sub (fun _ h => List.mem_append_right _ h) (by decide +kernel))) (goodIn_sub (fun _ h => List.mem_append_left _ (List.mem_append_right _ h)) (by decide +kernel))
set_option maxRecDepth 20000 in
theorem gL_law_L_teach : GoodIn wsL_law (va_wsS RL 108 yL_teach wsL_teach) := goodIn_app (goodIn_of _ (by decide +kernel)) ggL_law_L_teach
set_option maxRecDepth 20000 in
theorem ggL_law_X5_teach : GoodIn wsL_law wsX5_teach := goodIn_r _ [311, 46, 54, 88, 89, 90, 5, 91, 312, 313, 314, 581, 582, 583, 584, 585, 586, 587, 588, 589, 590, 591, 592, 593, 594, 595, 596, 597, 598, 599, 600] (by decide +kernel) (by decide +kernel)
set_option maxRecDepth 20000 in
theorem gL_law_X5_teach : GoodIn wsL_law (wsV RL 110 RX5 yX5_teach wsX5_teach) := goodIn_app (goodIn_of _ (by decide +kernel)) ggL_law_X5_teach
set_option maxRecDepth 20000 in
theorem ggL_law_X4_models : GoodIn wsL_law wsX4_models := goodIn_r _ [318, 19, 573, 574, 575, 576, 577, 578, 579, 580] (by decide +kernel) (by decide +kernel)
set_option maxRecDepth 20000 in
theorem gL_law_X4_models : GoodIn wsL_law (wsV RL 111 RX4 yX4_models wsX4_models) := goodIn_app (goodIn_of _ (by decide +kernel)) ggL_law_X4_models
set_option maxRecDepth 20000 in
theorem ggL_law_X5_models : GoodIn wsL_law wsX5_models := goodIn_r _ [322, 88, 159, 581, 582, 583, 584, 585, 586, 587, 588, 589, 590, 591, 592, 593, 594, 595, 596, 597, 598, 599, 600] (by decide +kernel) (by decide +kernel)
set_option maxRecDepth 20000 in
theorem gL_law_X5_models : GoodIn wsL_law (wsV RL 114 RX5 yX5_models wsX5_models) := goodIn_app (goodIn_of _ (by decide +kernel)) ggL_law_X5_models
set_option maxRecDepth 20000 in
theorem ggL_law_L_steps : GoodIn wsL_law wsL_steps := goodIn_ca (goodIn_r _ [325, 64, 326, 327, 328, 2, 329, 169, 170, 171, 172, 173, 76, 77, 17, 174, 175, 176, 177, 19, 608, 609, 610, 611, 612, 613, 614, 573, 574, 575, 576, 577, 578, 579, 580] (by decide +kernel) (by decide +kernel)) (goodIn_sub (fun _ h => List.mem_append_left _ (List.mem_append_right _ h)) (by decide +kernel))
set_option maxRecDepth 20000 in
theorem gL_law_L_steps : GoodIn wsL_law (va_wsS RL 115 yL_steps wsL_steps) := goodIn_app (goodIn_of _ (by decide +kernel)) ggL_law_L_steps
set_option maxRecDepth 20000 in
theorem ggL_law_X5_steps : GoodIn wsL_law wsX5_steps := goodIn_r _ [333, 49, 250, 251, 252, 5, 253, 159, 88, 89, 90, 91, 581, 582, 583, 584, 585, 586, 587, 588, 589, 590, 591, 592, 593, 594, 595, 596, 597, 598, 599, 600] (by decide +kernel) (by decide +kernel)
set_option maxRecDepth 20000 in
theorem gL_law_X5_steps : GoodIn wsL_law (wsV RL 117 RX5 yX5_steps wsX5_steps) := goodIn_app (goodIn_of _ (by decide +kernel)) ggL_law_X5_steps
set_option maxRecDepth 20000 in
theorem ggL_law_L_places : GoodIn wsL_law wsL_places := goodIn_ca (goodIn_r _ [336, 64, 337, 338, 339, 2, 340, 167, 168, 170, 171, 172, 173, 76, 77, 17, 174, 175, 176, 177, 19, 608, 609, 610, 611, 612, 613, 614, 615, 616, 617, 618, 619, 620, 573, 574, 575, 576, 577, 578, 579, 580] (by decide +kernel) (by decide +kernel)) (goodIn_sub (fun _ h => List.mem_append_left _ (List.mem_append_right _ h)) (by decide +kernel))
set_option maxRecDepth 20000 in
theorem gL_law_L_places : GoodIn wsL_law (va_wsS RL 118 yL_places wsL_places) := goodIn_app (goodIn_of _ (by decide +kernel)) ggL_law_L_places
set_option maxRecDepth 20000 in
theorem ggL_law_X5_places : GoodIn wsL_law wsX5_places := goodIn_r _ [344, 217, 250, 251, 252, 5, 253, 159, 88, 89, 90, 91, 218, 219, 220, 221, 48, 55, 56, 57, 222, 49, 52, 53, 223, 224, 225, 226, 58, 227, 228, 229, 230, 581, 582, 583, 584, 585, 586, 587, 588, 589, 590, 591, 592, 593, 594, 595, 596, 597, 598, 599, 600] (by decide +kernel) (by decide +kernel)
set_option maxRecDepth 20000 in
theorem gL_law_X5_places : GoodIn wsL_law (wsV RL 120 RX5 yX5_places wsX5_places) := goodIn_app (goodIn_of _ (by decide +kernel)) ggL_law_X5_places
set_option maxRecDepth 20000 in
theorem ggL_law_L_layers : GoodIn wsL_law wsL_layers := goodIn_ca (goodIn_r _ [347, 64, 348, 349, 350, 2, 351, 167, 170, 171, 172, 173, 76, 77, 17, 174, 175, 176, 177, 19, 352, 353, 354, 133, 355, 143, 152, 153, 150, 154, 356, 357, 358, 359, 139, 197, 198, 199, 200, 608, 609, 610, 611, 612, 613, 614, 573, 574, 575, 576, 577, 578, 579, 580, 615, 616, 617, 618, 619, 620] (by decide +kernel) (by decide +kernel)) (goodIn_sub (fun _ h => List.mem_append_left _ (List.mem_append_right _ h)) (by decide +kernel))
set_option maxRecDepth 20000 in
theorem gL_law_L_layers : GoodIn wsL_law (va_wsS RL 121 yL_layers wsL_layers) := goodIn_app (goodIn_of _ (by decide +kernel)) ggL_law_L_layers
set_option maxRecDepth 20000 in
theorem ggL_law_X5_layers : GoodIn wsL_law wsX5_layers := goodIn_r _ [363, 250, 251, 252, 5, 253, 159, 88, 89, 90, 91, 364, 365, 366, 367, 217, 58, 218, 219, 220, 221, 48, 55, 56, 57, 222, 49, 52, 53, 223, 224, 225, 226, 227, 228, 229, 230, 581, 582, 583, 584, 585, 586, 587, 588, 589, 590, 591, 592, 593, 594, 595, 596, 597, 598, 599, 600] (by decide +kernel) (by decide +kernel)
set_option maxRecDepth 20000 in
theorem gL_law_X5_layers : GoodIn wsL_law (wsV RL 123 RX5 yX5_layers wsX5_layers) := goodIn_app (goodIn_of _ (by decide +kernel)) ggL_law_X5_layers
set_option maxRecDepth 20000 in
theorem ggL_law_L_cellAt : GoodIn wsL_law wsL_cellAt := goodIn_ca (goodIn_r _ [370, 64, 371, 372, 373, 2, 374, 76, 77, 167, 168, 170, 171, 172, 173, 17, 174, 175, 176, 177, 19, 375, 357, 358, 133, 359, 139, 197, 198, 199, 200, 143, 376, 377, 378, 379, 138, 356, 608, 609, 610, 611, 612, 613, 614, 615, 616, 617, 618, 619, 620, 573, 574, 575, 576, 577, 578, 579, 580] (by decide +kernel) (by decide +kernel)) (goodIn_sub (fun _ h => List.mem_append_left _ (List.mem_append_right _ h)) (by decide +kernel))
set_option maxRecDepth 20000 in
theorem gL_law_L_cellAt : GoodIn wsL_law (va_wsS RL 124 yL_cellAt wsL_cellAt) := goodIn_app (goodIn_of _ (by decide +kernel)) ggL_law_L_cellAt
set_option maxRecDepth 20000 in
theorem ggL_law_X5_cellAt : GoodIn wsL_law wsX5_cellAt := goodIn_r _ [383, 48, 55, 56, 250, 251, 252, 5, 253, 159, 88, 89, 90, 91, 218, 219, 220, 221, 57, 217, 222, 49, 52, 53, 223, 224, 225, 226, 58, 227, 228, 229, 230, 96, 97, 98, 99, 581, 582, 583, 584, 585, 586, 587, 588, 589, 590, 591, 592, 593, 594, 595, 596, 597, 598, 599, 600] (by decide +kernel) (by decide +kernel)
set_option maxRecDepth 20000 in
theorem gL_law_X5_cellAt : GoodIn wsL_law (wsV RL 127 RX5 yX5_cellAt wsX5_cellAt) := goodIn_app (goodIn_of _ (by decide +kernel)) ggL_law_X5_cellAt
set_option maxRecDepth 20000 in
theorem ggL_law_L_placeOf : GoodIn wsL_law wsL_placeOf := goodIn_ca (goodIn_r _ [386, 64, 387, 388, 389, 2, 390, 23, 391, 170, 171, 172, 173, 76, 77, 17, 174, 175, 176, 177, 19, 392, 393, 394, 395, 396, 397, 398, 399, 22, 400, 32, 33, 401, 34, 402, 403, 404, 405, 406, 407, 408, 409, 149, 150, 151, 410, 153, 154, 573, 574, 575, 576, 577, 578, 579, 580, 601, 602, 603, 608, 609, 610, 611, 612, 613, 614] (by decide +kernel) (by decide +kernel)) (goodIn_sub (fun _ h => List.mem_append_left _ (List.mem_append_right _ h)) (by decide +kernel))
set_option maxRecDepth 20000 in
theorem gL_law_L_placeOf : GoodIn wsL_law (va_wsS RL 128 yL_placeOf wsL_placeOf) := goodIn_app (goodIn_of _ (by decide +kernel)) ggL_law_L_placeOf
set_option maxRecDepth 20000 in
theorem ggL_law_X5_placeOf : GoodIn wsL_law wsX5_placeOf := goodIn_r _ [414, 55, 415, 416, 417, 5, 418, 159, 48, 88, 89, 90, 91, 218, 219, 220, 221, 56, 57, 217, 222, 49, 52, 53, 223, 224, 225, 226, 58, 227, 228, 229, 230, 581, 582, 583, 584, 585, 586, 587, 588, 589, 590, 591, 592, 593, 594, 595, 596, 597, 598, 599, 600] (by decide +kernel) (by decide +kernel)
set_option maxRecDepth 20000 in
theorem gL_law_X5_placeOf : GoodIn wsL_law (wsV RL 130 RX5 yX5_placeOf wsX5_placeOf) := goodIn_app (goodIn_of _ (by decide +kernel)) ggL_law_X5_placeOf
set_option maxRecDepth 20000 in
theorem ggL_law_L_isTurned : GoodIn wsL_law wsL_isTurned := goodIn_ca (goodIn_r _ [421, 64, 422, 423, 424, 2, 425, 23, 426, 170, 171, 172, 173, 76, 77, 17, 174, 175, 176, 177, 19, 392, 393, 394, 395, 396, 397, 398, 399, 22, 400, 32, 33, 401, 34, 402, 403, 404, 405, 406, 407, 408, 409, 149, 150, 151, 410, 153, 154, 573, 574, 575, 576, 577, 578, 579, 580, 601, 602, 603, 608, 609, 610, 611, 612, 613, 614] (by decide +kernel) (by decide +kernel)) (goodIn_sub (fun _ h => List.mem_append_left _ (List.mem_append_right _ h)) (by decide +kernel))
set_option maxRecDepth 20000 in
theorem gL_law_L_isTurned : GoodIn wsL_law (va_wsS RL 131 yL_isTurned wsL_isTurned) := goodIn_app (goodIn_of _ (by decide +kernel)) ggL_law_L_isTurned
set_option maxRecDepth 20000 in
theorem ggL_law_X5_isTurned : GoodIn wsL_law wsX5_isTurned := goodIn_r _ [430, 57, 415, 416, 417, 5, 418, 159, 48, 88, 89, 90, 91, 218, 219, 220, 221, 55, 56, 217, 222, 49, 52, 53, 223, 224, 225, 226, 58, 227, 228, 229, 230, 581, 582, 583, 584, 585, 586, 587, 588, 589, 590, 591, 592, 593, 594, 595, 596, 597, 598, 599, 600] (by decide +kernel) (by decide +kernel)
set_option maxRecDepth 20000 in
theorem gL_law_X5_isTurned : GoodIn wsL_law (wsV RL 133 RX5 yX5_isTurned wsX5_isTurned) := goodIn_app (goodIn_of _ (by decide +kernel)) ggL_law_X5_isTurned
set_option maxRecDepth 20000 in
theorem ggL_law_L_layersByFollowing : GoodIn wsL_law wsL_layersByFollowing := goodIn_ca (goodIn_r _ [433, 64, 434, 435, 436, 2, 437, 24, 396, 23, 391, 438, 153, 150, 154, 170, 171, 172, 173, 76, 77, 17, 174, 175, 176, 177, 19, 397, 398, 399, 22, 400, 32, 33, 401, 34, 402, 403, 404, 405, 406, 407, 408, 409, 149, 151, 410, 573, 574, 575, 576, 577, 578, 579, 580, 608, 609, 610, 611, 612, 613, 614, 601, 602, 603] (by decide +kernel) (by decide +kernel)) (goodIn_sub (fun _ h => List.mem_append_left _ (List.mem_append_right _ h)) (by decide +kernel))
set_option maxRecDepth 20000 in
theorem gL_law_L_layersByFollowing : GoodIn wsL_law (va_wsS RL 134 yL_layersByFollowing wsL_layersByFollowing) := goodIn_app (goodIn_of _ (by decide +kernel)) ggL_law_L_layersByFollowing
set_option maxRecDepth 20000 in
theorem ggL_law_X5_layersByFollowing : GoodIn wsL_law wsX5_layersByFollowing := goodIn_r _ [442, 250, 251, 252, 5, 253, 159, 88, 89, 90, 91, 364, 365, 366, 367, 217, 58, 218, 219, 220, 221, 48, 55, 56, 57, 222, 49, 52, 53, 223, 224, 225, 226, 227, 228, 229, 230, 581, 582, 583, 584, 585, 586, 587, 588, 589, 590, 591, 592, 593, 594, 595, 596, 597, 598, 599, 600] (by decide +kernel) (by decide +kernel)
set_option maxRecDepth 20000 in
theorem gL_law_X5_layersByFollowing : GoodIn wsL_law (wsV RL 136 RX5 yX5_layersByFollowing wsX5_layersByFollowing) := goodIn_app (goodIn_of _ (by decide +kernel)) ggL_law_X5_layersByFollowing
set_option maxRecDepth 20000 in
theorem ggL_law_L_bears : GoodIn wsL_law wsL_bears := goodIn_ca (goodIn_ca (goodIn_r _ [445, 64, 65, 446, 447, 448, 2, 449, 70, 71, 438, 153, 150, 154, 167, 170, 171, 172, 173, 76, 77, 17, 174, 175, 176, 177, 19, 352, 353, 354, 133, 355, 143, 152, 356, 357, 358, 359, 139, 197, 198, 199, 200, 608, 609, 610, 611, 612, 613, 614, 573, 574, 575, 576, 577, 578, 579, 580, 615, 616, 617, 618, 619, 620] (by decide +kernel) (by decide +kernel)) (goodIn_sub (fun _ h => List.mem_append_left _ (List.mem_append_left _ (List.mem_append_right _ h))) (by decide +kernel))) (goodIn_sub (fun _ h => List.mem_append_left _ (List.mem_append_right _ h)) (by decide +kernel))
set_option maxRecDepth 20000 in
theorem gL_law_L_bears : GoodIn wsL_law (va_wsS RL 137 yL_bears wsL_bears) := goodIn_app (goodIn_of _ (by decide +kernel)) ggL_law_L_bears
set_option maxRecDepth 20000 in
theorem ggL_law_X5_bears : GoodIn wsL_law wsX5_bears := goodIn_r _ [453, 88, 222, 250, 251, 252, 5, 253, 159, 89, 90, 91, 218, 219, 220, 221, 48, 55, 56, 57, 217, 49, 52, 53, 223, 224, 225, 226, 58, 227, 228, 229, 230, 581, 582, 583, 584, 585, 586, 587, 588, 589, 590, 591, 592, 593, 594, 595, 596, 597, 598, 599, 600] (by decide +kernel) (by decide +kernel)
set_option maxRecDepth 20000 in
theorem gL_law_X5_bears : GoodIn wsL_law (wsV RL 139 RX5 yX5_bears wsX5_bears) := goodIn_app (goodIn_of _ (by decide +kernel)) ggL_law_X5_bears
set_option maxRecDepth 20000 in
theorem ggL_law_L_kindsOf : GoodIn wsL_law wsL_kindsOf := goodIn_ca (goodIn_r _ [456, 64, 457, 458, 459, 2, 460, 174, 175, 176, 177, 76, 77, 19, 461, 462, 463, 464, 261, 262, 263, 264, 18, 78, 79, 80, 81, 82, 83, 170, 171, 172, 173, 17, 178, 179, 180, 115, 181, 128, 124, 573, 574, 575, 576, 577, 578, 579, 580, 608, 609, 610, 611, 612, 613, 614] (by decide +kernel) (by decide +kernel)) (goodIn_sub (fun _ h => List.mem_append_left _ (List.mem_append_right _ h)) (by decide +kernel))
set_option maxRecDepth 20000 in
theorem gL_law_L_kindsOf : GoodIn wsL_law (va_wsS RL 140 yL_kindsOf wsL_kindsOf) := goodIn_app (goodIn_of _ (by decide +kernel)) ggL_law_L_kindsOf
set_option maxRecDepth 20000 in
theorem ggL_law_X5_kindsOf : GoodIn wsL_law wsX5_kindsOf := goodIn_r _ [468, 250, 251, 252, 5, 253, 159, 88, 89, 90, 91, 469, 470, 471, 472, 269, 270, 271, 272, 50, 231, 232, 233, 234, 49, 51, 581, 582, 583, 584, 585, 586, 587, 588, 589, 590, 591, 592, 593, 594, 595, 596, 597, 598, 599, 600] (by decide +kernel) (by decide +kernel)
set_option maxRecDepth 20000 in
theorem gL_law_X5_kindsOf : GoodIn wsL_law (wsV RL 142 RX5 yX5_kindsOf wsX5_kindsOf) := goodIn_app (goodIn_of _ (by decide +kernel)) ggL_law_X5_kindsOf
set_option maxRecDepth 20000 in
theorem ggL_law_L_mayFold : GoodIn wsL_law wsL_mayFold := goodIn_ca (goodIn_r _ [475, 64, 476, 477, 478, 2, 479, 15, 297, 298, 299, 300, 76, 77, 174, 175, 176, 177, 19, 461, 462, 463, 464, 261, 262, 263, 264, 18, 78, 79, 80, 81, 82, 83, 170, 171, 172, 173, 17, 178, 179, 180, 115, 181, 128, 124, 182, 183, 184, 573, 574, 575, 576, 577, 578, 579, 580, 608, 609, 610, 611, 612, 613, 614] (by decide +kernel) (by decide +kernel)) (goodIn_sub (fun _ h => List.mem_append_left _ (List.mem_append_right _ h)) (by decide +kernel))
set_option maxRecDepth 20000 in
theorem gL_law_L_mayFold : GoodIn wsL_law (va_wsS RL 143 yL_mayFold wsL_mayFold) := goodIn_app (goodIn_of _ (by decide +kernel)) ggL_law_L_mayFold
set_option maxRecDepth 20000 in
theorem ggL_law_X5_mayFold : GoodIn wsL_law wsX5_mayFold := goodIn_r _ [483, 54, 484, 485, 486, 5, 487, 159, 88, 89, 90, 91, 469, 470, 471, 472, 269, 270, 271, 272, 50, 231, 232, 233, 234, 49, 51, 581, 582, 583, 584, 585, 586, 587, 588, 589, 590, 591, 592, 593, 594, 595, 596, 597, 598, 599, 600] (by decide +kernel) (by decide +kernel)
set_option maxRecDepth 20000 in
theorem gL_law_X5_mayFold : GoodIn wsL_law (wsV RL 145 RX5 yX5_mayFold wsX5_mayFold) := goodIn_app (goodIn_of _ (by decide +kernel)) ggL_law_X5_mayFold
set_option maxRecDepth 20000 in
theorem ggL_law_L_lessons : GoodIn wsL_law wsL_lessons := goodIn_ca (goodIn_r _ [490, 64, 491, 492, 493, 2, 494, 15, 14, 297, 298, 299, 300, 76, 77, 174, 175, 176, 177, 19, 461, 462, 463, 464, 261, 262, 263, 264, 18, 78, 79, 80, 81, 82, 83, 170, 171, 172, 173, 17, 178, 179, 180, 115, 181, 128, 124, 301, 302, 303, 304, 305, 306, 307, 573, 574, 575, 576, 577, 578, 579, 580, 608, 609, 610, 611, 612, 613, 614] (by decide +kernel) (by decide +kernel)) (goodIn_sub (fun _ h => List.mem_append_left _ (List.mem_append_right _ h)) (by decide +kernel))
set_option maxRecDepth 20000 in
theorem gL_law_L_lessons : GoodIn wsL_law (va_wsS RL 146 yL_lessons wsL_lessons) := goodIn_app (goodIn_of _ (by decide +kernel)) ggL_law_L_lessons
set_option maxRecDepth 20000 in
theorem ggL_law_X5_lessons : GoodIn wsL_law wsX5_lessons := goodIn_r _ [498, 54, 46, 484, 485, 486, 5, 487, 159, 88, 89, 90, 91, 469, 470, 471, 472, 269, 270, 271, 272, 50, 231, 232, 233, 234, 49, 51, 312, 313, 314, 581, 582, 583, 584, 585, 586, 587, 588, 589, 590, 591, 592, 593, 594, 595, 596, 597, 598, 599, 600] (by decide +kernel) (by decide +kernel)
set_option maxRecDepth 20000 in
theorem gL_law_X5_lessons : GoodIn wsL_law (wsV RL 148 RX5 yX5_lessons wsX5_lessons) := goodIn_app (goodIn_of _ (by decide +kernel)) ggL_law_X5_lessons
set_option maxRecDepth 20000 in
theorem ggL_law_L_credit : GoodIn wsL_law wsL_credit := goodIn_ca (goodIn_r _ [501, 64, 502, 503, 504, 2, 505, 19, 116, 117, 118, 119, 76, 77, 506, 507, 508, 509, 510, 170, 171, 172, 173, 17, 174, 175, 176, 177, 81, 82, 83, 261, 262, 263, 264, 18, 78, 79, 80, 573, 574, 575, 576, 577, 578, 579, 580, 608, 609, 610, 611, 612, 613, 614] (by decide +kernel) (by decide +kernel)) (goodIn_sub (fun _ h => List.mem_append_left _ (List.mem_append_right _ h)) (by decide +kernel))
set_option maxRecDepth 20000 in
theorem gL_law_L_credit : GoodIn wsL_law (va_wsS RL 149 yL_credit wsL_credit) := goodIn_app (goodIn_of _ (by decide +kernel)) ggL_law_L_credit
set_option maxRecDepth 20000 in
theorem ggL_law_X5_credit : GoodIn wsL_law wsX5_credit := goodIn_r _ [514, 88, 159, 47, 89, 90, 5, 91, 269, 270, 271, 272, 50, 581, 582, 583, 584, 585, 586, 587, 588, 589, 590, 591, 592, 593, 594, 595, 596, 597, 598, 599, 600] (by decide +kernel) (by decide +kernel)
set_option maxRecDepth 20000 in
theorem gL_law_X5_credit : GoodIn wsL_law (wsV RL 151 RX5 yX5_credit wsX5_credit) := goodIn_app (goodIn_of _ (by decide +kernel)) ggL_law_X5_credit
set_option maxRecDepth 20000 in
theorem ggL_law_X4_fewestPieces : GoodIn wsL_law wsX4_fewestPieces := goodIn_r _ [518, 28, 519, 520, 521, 27, 522, 40, 38, 523, 524, 525, 526, 527, 528, 529, 530, 531, 532, 533, 534, 39, 82, 2, 83, 573, 574, 575, 576, 577, 578, 579, 580, 604, 605, 606, 607] (by decide +kernel) (by decide +kernel)
set_option maxRecDepth 20000 in
theorem gL_law_X4_fewestPieces : GoodIn wsL_law (wsV RL 152 RX4 yX4_fewestPieces wsX4_fewestPieces) := goodIn_app (goodIn_of _ (by decide +kernel)) ggL_law_X4_fewestPieces
set_option maxRecDepth 20000 in
theorem ggL_law_X5_fewestPieces : GoodIn wsL_law wsX5_fewestPieces := goodIn_r _ [538, 88, 59, 288, 539, 540, 541, 5, 542, 289, 581, 582, 583, 584, 585, 586, 587, 588, 589, 590, 591, 592, 593, 594, 595, 596, 597, 598, 599, 600] (by decide +kernel) (by decide +kernel)
set_option maxRecDepth 20000 in
theorem gL_law_X5_fewestPieces : GoodIn wsL_law (wsV RL 155 RX5 yX5_fewestPieces wsX5_fewestPieces) := goodIn_app (goodIn_of _ (by decide +kernel)) ggL_law_X5_fewestPieces
set_option maxRecDepth 20000 in
theorem ggL_law_X4_ways : GoodIn wsL_law wsX4_ways := goodIn_r _ [546, 28, 547, 548, 549, 27, 550, 41, 38, 531, 532, 533, 534, 39, 82, 2, 83, 551, 552, 553, 554, 555, 573, 574, 575, 576, 577, 578, 579, 580, 604, 605, 606, 607] (by decide +kernel) (by decide +kernel)
set_option maxRecDepth 20000 in
theorem gL_law_X4_ways : GoodIn wsL_law (wsV RL 156 RX4 yX4_ways wsX4_ways) := goodIn_app (goodIn_of _ (by decide +kernel)) ggL_law_X4_ways
set_option maxRecDepth 20000 in
theorem ggL_law_X5_ways : GoodIn wsL_law wsX5_ways := goodIn_r _ [559, 88, 288, 59, 289, 560, 581, 582, 583, 584, 585, 586, 587, 588, 589, 590, 591, 592, 593, 594, 595, 596, 597, 598, 599, 600] (by decide +kernel) (by decide +kernel)
set_option maxRecDepth 20000 in
theorem gL_law_X5_ways : GoodIn wsL_law (wsV RL 159 RX5 yX5_ways wsX5_ways) := goodIn_app (goodIn_of _ (by decide +kernel)) ggL_law_X5_ways
set_option maxRecDepth 20000 in
theorem ggL_law_X4_leastRest : GoodIn wsL_law wsX4_leastRest := goodIn_r _ [564, 28, 565, 566, 567, 27, 568, 38, 40, 523, 524, 525, 526, 527, 528, 529, 530, 531, 532, 533, 534, 39, 82, 2, 83, 573, 574, 575, 576, 577, 578, 579, 580, 604, 605, 606, 607] (by decide +kernel) (by decide +kernel)
set_option maxRecDepth 20000 in
theorem gL_law_X4_leastRest : GoodIn wsL_law (wsV RL 160 RX4 yX4_leastRest wsX4_leastRest) := goodIn_app (goodIn_of _ (by decide +kernel)) ggL_law_X4_leastRest
set_option maxRecDepth 20000 in
theorem ggL_law_X5_leastRest : GoodIn wsL_law wsX5_leastRest := goodIn_r _ [572, 88, 59, 288, 539, 540, 541, 5, 542, 289, 581, 582, 583, 584, 585, 586, 587, 588, 589, 590, 591, 592, 593, 594, 595, 596, 597, 598, 599, 600] (by decide +kernel) (by decide +kernel)
set_option maxRecDepth 20000 in
theorem gL_law_X5_leastRest : GoodIn wsL_law (wsV RL 163 RX5 yX5_leastRest wsX5_leastRest) := goodIn_app (goodIn_of _ (by decide +kernel)) ggL_law_X5_leastRest
theorem dL_law_0 : decode cL_law 0 = .ok (.new 8, 3) := by decide +kernel
theorem dL_law_3 : decode cL_law 3 = .ok (.dup, 1) := by decide +kernel
theorem dL_law_4 : decode cL_law 4 = .ok (.invokespecial 77, 3) := by decide +kernel
theorem dL_law_7 : decode cL_law 7 = .ok (.astore_n 1, 1) := by decide +kernel
theorem dL_law_8 : decode cL_law 8 = .ok (.new 78, 3) := by decide +kernel
theorem dL_law_11 : decode cL_law 11 = .ok (.dup, 1) := by decide +kernel
theorem dL_law_12 : decode cL_law 12 = .ok (.invokespecial 80, 3) := by decide +kernel
theorem dL_law_15 : decode cL_law 15 = .ok (.astore_n 2, 1) := by decide +kernel
theorem dL_law_16 : decode cL_law 16 = .ok (.iconst 1, 1) := by decide +kernel
theorem dL_law_17 : decode cL_law 17 = .ok (.newarray .long, 2) := by decide +kernel
theorem dL_law_19 : decode cL_law 19 = .ok (.astore_n 3, 1) := by decide +kernel
theorem dL_law_20 : decode cL_law 20 = .ok (.iconst 0, 1) := by decide +kernel
theorem dL_law_21 : decode cL_law 21 = .ok (.istore 4, 2) := by decide +kernel
theorem dL_law_23 : decode cL_law 23 = .ok (.iload 4, 2) := by decide +kernel
theorem dL_law_25 : decode cL_law 25 = .ok (.aload_n 0, 1) := by decide +kernel
theorem dL_law_26 : decode cL_law 26 = .ok (.arraylength, 1) := by decide +kernel
theorem dL_law_27 : decode cL_law 27 = .ok (.iconst 5, 1) := by decide +kernel
theorem dL_law_28 : decode cL_law 28 = .ok (.isub, 1) := by decide +kernel
theorem dL_law_29 : decode cL_law 29 = .ok (.if_icmp .gt 1461, 3) := by decide +kernel
theorem dL_law_32 : decode cL_law 32 = .ok (.aload_n 0, 1) := by decide +kernel
theorem dL_law_33 : decode cL_law 33 = .ok (.iload 4, 2) := by decide +kernel
theorem dL_law_35 : decode cL_law 35 = .ok (.iaload, 1) := by decide +kernel
theorem dL_law_36 : decode cL_law 36 = .ok (.bipush 31, 2) := by decide +kernel
theorem dL_law_38 : decode cL_law 38 = .ok (.iand, 1) := by decide +kernel
theorem dL_law_39 : decode cL_law 39 = .ok (.tableswitch 1445 0 22 #[105, 173, 241, 349, 405, 480, 548, 616, 629, 685, 741, 797, 877, 945, 1020, 1076, 1151, 1207, 1282, 1350, 1406, 1419, 1432], 105) := by decide +kernel
theorem dL_law_144 : decode cL_law 144 = .ok (.aload_n 1, 1) := by decide +kernel
theorem dL_law_145 : decode cL_law 145 = .ok (.aload_n 0, 1) := by decide +kernel
theorem dL_law_146 : decode cL_law 146 = .ok (.iload 4, 2) := by decide +kernel
theorem dL_law_148 : decode cL_law 148 = .ok (.iconst 1, 1) := by decide +kernel
theorem dL_law_149 : decode cL_law 149 = .ok (.iadd, 1) := by decide +kernel
theorem dL_law_150 : decode cL_law 150 = .ok (.iaload, 1) := by decide +kernel
theorem dL_law_151 : decode cL_law 151 = .ok (.aload_n 0, 1) := by decide +kernel
theorem dL_law_152 : decode cL_law 152 = .ok (.iload 4, 2) := by decide +kernel
theorem dL_law_154 : decode cL_law 154 = .ok (.iconst 2, 1) := by decide +kernel
theorem dL_law_155 : decode cL_law 155 = .ok (.iadd, 1) := by decide +kernel
theorem dL_law_156 : decode cL_law 156 = .ok (.iaload, 1) := by decide +kernel
theorem dL_law_157 : decode cL_law 157 = .ok (.aload_n 3, 1) := by decide +kernel
theorem dL_law_158 : decode cL_law 158 = .ok (.invokestatic 81, 3) := by decide +kernel
theorem dL_law_161 : decode cL_law 161 = .ok (.istore 5, 2) := by decide +kernel
theorem dL_law_163 : decode cL_law 163 = .ok (.aload_n 2, 1) := by decide +kernel
theorem dL_law_164 : decode cL_law 164 = .ok (.aload_n 0, 1) := by decide +kernel
theorem dL_law_165 : decode cL_law 165 = .ok (.iload 4, 2) := by decide +kernel
theorem dL_law_167 : decode cL_law 167 = .ok (.iconst 1, 1) := by decide +kernel
theorem dL_law_168 : decode cL_law 168 = .ok (.iadd, 1) := by decide +kernel
theorem dL_law_169 : decode cL_law 169 = .ok (.iaload, 1) := by decide +kernel
theorem dL_law_170 : decode cL_law 170 = .ok (.aload_n 0, 1) := by decide +kernel
theorem dL_law_171 : decode cL_law 171 = .ok (.iload 4, 2) := by decide +kernel
theorem dL_law_173 : decode cL_law 173 = .ok (.iconst 2, 1) := by decide +kernel
theorem dL_law_174 : decode cL_law 174 = .ok (.iadd, 1) := by decide +kernel
theorem dL_law_175 : decode cL_law 175 = .ok (.iaload, 1) := by decide +kernel
theorem dL_law_176 : decode cL_law 176 = .ok (.invokevirtual 86, 3) := by decide +kernel
theorem dL_law_179 : decode cL_law 179 = .ok (.istore 6, 2) := by decide +kernel
theorem dL_law_181 : decode cL_law 181 = .ok (.aload_n 2, 1) := by decide +kernel
theorem dL_law_182 : decode cL_law 182 = .ok (.invokevirtual 87, 3) := by decide +kernel
theorem dL_law_185 : decode cL_law 185 = .ok (.iload 5, 2) := by decide +kernel
theorem dL_law_187 : decode cL_law 187 = .ok (.if_icmp .eq 5, 3) := by decide +kernel
theorem dL_law_190 : decode cL_law 190 = .ok (.iconst 0, 1) := by decide +kernel
theorem dL_law_191 : decode cL_law 191 = .ok (.ireturn, 1) := by decide +kernel
theorem dL_law_192 : decode cL_law 192 = .ok (.iload 5, 2) := by decide +kernel
theorem dL_law_194 : decode cL_law 194 = .ok (.ifCond .ne 15, 3) := by decide +kernel
theorem dL_law_197 : decode cL_law 197 = .ok (.aload_n 3, 1) := by decide +kernel
theorem dL_law_198 : decode cL_law 198 = .ok (.iconst 0, 1) := by decide +kernel
theorem dL_law_199 : decode cL_law 199 = .ok (.laload, 1) := by decide +kernel
theorem dL_law_200 : decode cL_law 200 = .ok (.iload 6, 2) := by decide +kernel
theorem dL_law_202 : decode cL_law 202 = .ok (.i2l, 1) := by decide +kernel
theorem dL_law_203 : decode cL_law 203 = .ok (.lcmp, 1) := by decide +kernel
theorem dL_law_204 : decode cL_law 204 = .ok (.ifCond .eq 5, 3) := by decide +kernel
theorem dL_law_207 : decode cL_law 207 = .ok (.iconst 0, 1) := by decide +kernel
theorem dL_law_208 : decode cL_law 208 = .ok (.ireturn, 1) := by decide +kernel
theorem dL_law_209 : decode cL_law 209 = .ok (.goto 1275, 3) := by decide +kernel
theorem dL_law_212 : decode cL_law 212 = .ok (.aload_n 1, 1) := by decide +kernel
theorem dL_law_213 : decode cL_law 213 = .ok (.aload_n 0, 1) := by decide +kernel
theorem dL_law_214 : decode cL_law 214 = .ok (.iload 4, 2) := by decide +kernel
theorem dL_law_216 : decode cL_law 216 = .ok (.iconst 1, 1) := by decide +kernel
theorem dL_law_217 : decode cL_law 217 = .ok (.iadd, 1) := by decide +kernel
theorem dL_law_218 : decode cL_law 218 = .ok (.iaload, 1) := by decide +kernel
theorem dL_law_219 : decode cL_law 219 = .ok (.aload_n 0, 1) := by decide +kernel
theorem dL_law_220 : decode cL_law 220 = .ok (.iload 4, 2) := by decide +kernel
theorem dL_law_222 : decode cL_law 222 = .ok (.iconst 2, 1) := by decide +kernel
theorem dL_law_223 : decode cL_law 223 = .ok (.iadd, 1) := by decide +kernel
theorem dL_law_224 : decode cL_law 224 = .ok (.iaload, 1) := by decide +kernel
theorem dL_law_225 : decode cL_law 225 = .ok (.aload_n 3, 1) := by decide +kernel
theorem dL_law_226 : decode cL_law 226 = .ok (.invokestatic 91, 3) := by decide +kernel
theorem dL_law_229 : decode cL_law 229 = .ok (.istore 5, 2) := by decide +kernel
theorem dL_law_231 : decode cL_law 231 = .ok (.aload_n 2, 1) := by decide +kernel
theorem dL_law_232 : decode cL_law 232 = .ok (.aload_n 0, 1) := by decide +kernel
theorem dL_law_233 : decode cL_law 233 = .ok (.iload 4, 2) := by decide +kernel
theorem dL_law_235 : decode cL_law 235 = .ok (.iconst 1, 1) := by decide +kernel
theorem dL_law_236 : decode cL_law 236 = .ok (.iadd, 1) := by decide +kernel
theorem dL_law_237 : decode cL_law 237 = .ok (.iaload, 1) := by decide +kernel
theorem dL_law_238 : decode cL_law 238 = .ok (.aload_n 0, 1) := by decide +kernel
theorem dL_law_239 : decode cL_law 239 = .ok (.iload 4, 2) := by decide +kernel
theorem dL_law_241 : decode cL_law 241 = .ok (.iconst 2, 1) := by decide +kernel
theorem dL_law_242 : decode cL_law 242 = .ok (.iadd, 1) := by decide +kernel
theorem dL_law_243 : decode cL_law 243 = .ok (.iaload, 1) := by decide +kernel
theorem dL_law_244 : decode cL_law 244 = .ok (.invokevirtual 93, 3) := by decide +kernel
theorem dL_law_247 : decode cL_law 247 = .ok (.istore 6, 2) := by decide +kernel
theorem dL_law_249 : decode cL_law 249 = .ok (.aload_n 2, 1) := by decide +kernel
theorem dL_law_250 : decode cL_law 250 = .ok (.invokevirtual 87, 3) := by decide +kernel
theorem dL_law_253 : decode cL_law 253 = .ok (.iload 5, 2) := by decide +kernel
theorem dL_law_255 : decode cL_law 255 = .ok (.if_icmp .eq 5, 3) := by decide +kernel
theorem dL_law_258 : decode cL_law 258 = .ok (.iconst 0, 1) := by decide +kernel
theorem dL_law_259 : decode cL_law 259 = .ok (.ireturn, 1) := by decide +kernel
theorem dL_law_260 : decode cL_law 260 = .ok (.iload 5, 2) := by decide +kernel
theorem dL_law_262 : decode cL_law 262 = .ok (.ifCond .ne 15, 3) := by decide +kernel
theorem dL_law_265 : decode cL_law 265 = .ok (.aload_n 3, 1) := by decide +kernel
theorem dL_law_266 : decode cL_law 266 = .ok (.iconst 0, 1) := by decide +kernel
theorem dL_law_267 : decode cL_law 267 = .ok (.laload, 1) := by decide +kernel
theorem dL_law_268 : decode cL_law 268 = .ok (.iload 6, 2) := by decide +kernel
theorem dL_law_270 : decode cL_law 270 = .ok (.i2l, 1) := by decide +kernel
theorem dL_law_271 : decode cL_law 271 = .ok (.lcmp, 1) := by decide +kernel
theorem dL_law_272 : decode cL_law 272 = .ok (.ifCond .eq 5, 3) := by decide +kernel
theorem dL_law_275 : decode cL_law 275 = .ok (.iconst 0, 1) := by decide +kernel
theorem dL_law_276 : decode cL_law 276 = .ok (.ireturn, 1) := by decide +kernel
theorem dL_law_277 : decode cL_law 277 = .ok (.goto 1207, 3) := by decide +kernel
theorem dL_law_280 : decode cL_law 280 = .ok (.aload_n 1, 1) := by decide +kernel
theorem dL_law_281 : decode cL_law 281 = .ok (.aload_n 0, 1) := by decide +kernel
theorem dL_law_282 : decode cL_law 282 = .ok (.iload 4, 2) := by decide +kernel
theorem dL_law_284 : decode cL_law 284 = .ok (.iconst 1, 1) := by decide +kernel
theorem dL_law_285 : decode cL_law 285 = .ok (.iadd, 1) := by decide +kernel
theorem dL_law_286 : decode cL_law 286 = .ok (.iaload, 1) := by decide +kernel
theorem dL_law_287 : decode cL_law 287 = .ok (.aload_n 0, 1) := by decide +kernel
theorem dL_law_288 : decode cL_law 288 = .ok (.iload 4, 2) := by decide +kernel
theorem dL_law_290 : decode cL_law 290 = .ok (.iconst 2, 1) := by decide +kernel
theorem dL_law_291 : decode cL_law 291 = .ok (.iadd, 1) := by decide +kernel
theorem dL_law_292 : decode cL_law 292 = .ok (.iaload, 1) := by decide +kernel
theorem dL_law_293 : decode cL_law 293 = .ok (.aload_n 0, 1) := by decide +kernel
theorem dL_law_294 : decode cL_law 294 = .ok (.iload 4, 2) := by decide +kernel
theorem dL_law_296 : decode cL_law 296 = .ok (.iconst 3, 1) := by decide +kernel
theorem dL_law_297 : decode cL_law 297 = .ok (.iadd, 1) := by decide +kernel
theorem dL_law_298 : decode cL_law 298 = .ok (.iaload, 1) := by decide +kernel
theorem dL_law_299 : decode cL_law 299 = .ok (.aload_n 0, 1) := by decide +kernel
theorem dL_law_300 : decode cL_law 300 = .ok (.iload 4, 2) := by decide +kernel
theorem dL_law_302 : decode cL_law 302 = .ok (.iconst 4, 1) := by decide +kernel
theorem dL_law_303 : decode cL_law 303 = .ok (.iadd, 1) := by decide +kernel
theorem dL_law_304 : decode cL_law 304 = .ok (.iaload, 1) := by decide +kernel
theorem dL_law_305 : decode cL_law 305 = .ok (.ifCond .eq 7, 3) := by decide +kernel
theorem dL_law_308 : decode cL_law 308 = .ok (.iconst 1, 1) := by decide +kernel
theorem dL_law_309 : decode cL_law 309 = .ok (.goto 4, 3) := by decide +kernel
theorem dL_law_312 : decode cL_law 312 = .ok (.iconst 0, 1) := by decide +kernel
theorem dL_law_313 : decode cL_law 313 = .ok (.aload_n 3, 1) := by decide +kernel
theorem dL_law_314 : decode cL_law 314 = .ok (.invokestatic 94, 3) := by decide +kernel
theorem dL_law_317 : decode cL_law 317 = .ok (.istore 5, 2) := by decide +kernel
theorem dL_law_319 : decode cL_law 319 = .ok (.aload_n 2, 1) := by decide +kernel
theorem dL_law_320 : decode cL_law 320 = .ok (.aload_n 0, 1) := by decide +kernel
theorem dL_law_321 : decode cL_law 321 = .ok (.iload 4, 2) := by decide +kernel
theorem dL_law_323 : decode cL_law 323 = .ok (.iconst 1, 1) := by decide +kernel
theorem dL_law_324 : decode cL_law 324 = .ok (.iadd, 1) := by decide +kernel
theorem dL_law_325 : decode cL_law 325 = .ok (.iaload, 1) := by decide +kernel
theorem dL_law_326 : decode cL_law 326 = .ok (.aload_n 0, 1) := by decide +kernel
theorem dL_law_327 : decode cL_law 327 = .ok (.iload 4, 2) := by decide +kernel
theorem dL_law_329 : decode cL_law 329 = .ok (.iconst 2, 1) := by decide +kernel
theorem dL_law_330 : decode cL_law 330 = .ok (.iadd, 1) := by decide +kernel
theorem dL_law_331 : decode cL_law 331 = .ok (.iaload, 1) := by decide +kernel
theorem dL_law_332 : decode cL_law 332 = .ok (.aload_n 0, 1) := by decide +kernel
theorem dL_law_333 : decode cL_law 333 = .ok (.iload 4, 2) := by decide +kernel
theorem dL_law_335 : decode cL_law 335 = .ok (.iconst 3, 1) := by decide +kernel
theorem dL_law_336 : decode cL_law 336 = .ok (.iadd, 1) := by decide +kernel
theorem dL_law_337 : decode cL_law 337 = .ok (.iaload, 1) := by decide +kernel
theorem dL_law_338 : decode cL_law 338 = .ok (.aload_n 0, 1) := by decide +kernel
theorem dL_law_339 : decode cL_law 339 = .ok (.iload 4, 2) := by decide +kernel
theorem dL_law_341 : decode cL_law 341 = .ok (.iconst 4, 1) := by decide +kernel
theorem dL_law_342 : decode cL_law 342 = .ok (.iadd, 1) := by decide +kernel
theorem dL_law_343 : decode cL_law 343 = .ok (.iaload, 1) := by decide +kernel
theorem dL_law_344 : decode cL_law 344 = .ok (.ifCond .eq 7, 3) := by decide +kernel
theorem dL_law_347 : decode cL_law 347 = .ok (.iconst 1, 1) := by decide +kernel
theorem dL_law_348 : decode cL_law 348 = .ok (.goto 4, 3) := by decide +kernel
theorem dL_law_351 : decode cL_law 351 = .ok (.iconst 0, 1) := by decide +kernel
theorem dL_law_352 : decode cL_law 352 = .ok (.invokevirtual 97, 3) := by decide +kernel
theorem dL_law_355 : decode cL_law 355 = .ok (.istore 6, 2) := by decide +kernel
theorem dL_law_357 : decode cL_law 357 = .ok (.aload_n 2, 1) := by decide +kernel
theorem dL_law_358 : decode cL_law 358 = .ok (.invokevirtual 87, 3) := by decide +kernel
theorem dL_law_361 : decode cL_law 361 = .ok (.iload 5, 2) := by decide +kernel
theorem dL_law_363 : decode cL_law 363 = .ok (.if_icmp .eq 5, 3) := by decide +kernel
theorem dL_law_366 : decode cL_law 366 = .ok (.iconst 0, 1) := by decide +kernel
theorem dL_law_367 : decode cL_law 367 = .ok (.ireturn, 1) := by decide +kernel
theorem dL_law_368 : decode cL_law 368 = .ok (.iload 5, 2) := by decide +kernel
theorem dL_law_370 : decode cL_law 370 = .ok (.ifCond .ne 15, 3) := by decide +kernel
theorem dL_law_373 : decode cL_law 373 = .ok (.aload_n 3, 1) := by decide +kernel
theorem dL_law_374 : decode cL_law 374 = .ok (.iconst 0, 1) := by decide +kernel
theorem dL_law_375 : decode cL_law 375 = .ok (.laload, 1) := by decide +kernel
theorem dL_law_376 : decode cL_law 376 = .ok (.iload 6, 2) := by decide +kernel
theorem dL_law_378 : decode cL_law 378 = .ok (.i2l, 1) := by decide +kernel
theorem dL_law_379 : decode cL_law 379 = .ok (.lcmp, 1) := by decide +kernel
theorem dL_law_380 : decode cL_law 380 = .ok (.ifCond .eq 5, 3) := by decide +kernel
theorem dL_law_383 : decode cL_law 383 = .ok (.iconst 0, 1) := by decide +kernel
theorem dL_law_384 : decode cL_law 384 = .ok (.ireturn, 1) := by decide +kernel
theorem dL_law_385 : decode cL_law 385 = .ok (.goto 1099, 3) := by decide +kernel
theorem dL_law_388 : decode cL_law 388 = .ok (.aload_n 1, 1) := by decide +kernel
theorem dL_law_389 : decode cL_law 389 = .ok (.aload_n 0, 1) := by decide +kernel
theorem dL_law_390 : decode cL_law 390 = .ok (.iload 4, 2) := by decide +kernel
theorem dL_law_392 : decode cL_law 392 = .ok (.iconst 1, 1) := by decide +kernel
theorem dL_law_393 : decode cL_law 393 = .ok (.iadd, 1) := by decide +kernel
theorem dL_law_394 : decode cL_law 394 = .ok (.iaload, 1) := by decide +kernel
theorem dL_law_395 : decode cL_law 395 = .ok (.aload_n 3, 1) := by decide +kernel
theorem dL_law_396 : decode cL_law 396 = .ok (.invokestatic 98, 3) := by decide +kernel
theorem dL_law_399 : decode cL_law 399 = .ok (.istore 5, 2) := by decide +kernel
theorem dL_law_401 : decode cL_law 401 = .ok (.aload_n 2, 1) := by decide +kernel
theorem dL_law_402 : decode cL_law 402 = .ok (.aload_n 0, 1) := by decide +kernel
theorem dL_law_403 : decode cL_law 403 = .ok (.iload 4, 2) := by decide +kernel
theorem dL_law_405 : decode cL_law 405 = .ok (.iconst 1, 1) := by decide +kernel
theorem dL_law_406 : decode cL_law 406 = .ok (.iadd, 1) := by decide +kernel
theorem dL_law_407 : decode cL_law 407 = .ok (.iaload, 1) := by decide +kernel
theorem dL_law_408 : decode cL_law 408 = .ok (.invokevirtual 101, 3) := by decide +kernel
theorem dL_law_411 : decode cL_law 411 = .ok (.istore 6, 2) := by decide +kernel
theorem dL_law_413 : decode cL_law 413 = .ok (.aload_n 2, 1) := by decide +kernel
theorem dL_law_414 : decode cL_law 414 = .ok (.invokevirtual 87, 3) := by decide +kernel
theorem dL_law_417 : decode cL_law 417 = .ok (.iload 5, 2) := by decide +kernel
theorem dL_law_419 : decode cL_law 419 = .ok (.if_icmp .eq 5, 3) := by decide +kernel
theorem dL_law_422 : decode cL_law 422 = .ok (.iconst 0, 1) := by decide +kernel
theorem dL_law_423 : decode cL_law 423 = .ok (.ireturn, 1) := by decide +kernel
theorem dL_law_424 : decode cL_law 424 = .ok (.iload 5, 2) := by decide +kernel
theorem dL_law_426 : decode cL_law 426 = .ok (.ifCond .ne 15, 3) := by decide +kernel
theorem dL_law_429 : decode cL_law 429 = .ok (.aload_n 3, 1) := by decide +kernel
theorem dL_law_430 : decode cL_law 430 = .ok (.iconst 0, 1) := by decide +kernel
theorem dL_law_431 : decode cL_law 431 = .ok (.laload, 1) := by decide +kernel
theorem dL_law_432 : decode cL_law 432 = .ok (.iload 6, 2) := by decide +kernel
theorem dL_law_434 : decode cL_law 434 = .ok (.i2l, 1) := by decide +kernel
theorem dL_law_435 : decode cL_law 435 = .ok (.lcmp, 1) := by decide +kernel
theorem dL_law_436 : decode cL_law 436 = .ok (.ifCond .eq 5, 3) := by decide +kernel
theorem dL_law_439 : decode cL_law 439 = .ok (.iconst 0, 1) := by decide +kernel
theorem dL_law_440 : decode cL_law 440 = .ok (.ireturn, 1) := by decide +kernel
theorem dL_law_441 : decode cL_law 441 = .ok (.goto 1043, 3) := by decide +kernel
theorem dL_law_444 : decode cL_law 444 = .ok (.aload_n 1, 1) := by decide +kernel
theorem dL_law_445 : decode cL_law 445 = .ok (.aload_n 0, 1) := by decide +kernel
theorem dL_law_446 : decode cL_law 446 = .ok (.iload 4, 2) := by decide +kernel
theorem dL_law_448 : decode cL_law 448 = .ok (.iconst 1, 1) := by decide +kernel
theorem dL_law_449 : decode cL_law 449 = .ok (.iadd, 1) := by decide +kernel
theorem dL_law_450 : decode cL_law 450 = .ok (.iaload, 1) := by decide +kernel
theorem dL_law_451 : decode cL_law 451 = .ok (.aload_n 0, 1) := by decide +kernel
theorem dL_law_452 : decode cL_law 452 = .ok (.iload 4, 2) := by decide +kernel
theorem dL_law_454 : decode cL_law 454 = .ok (.iconst 2, 1) := by decide +kernel
theorem dL_law_455 : decode cL_law 455 = .ok (.iadd, 1) := by decide +kernel
theorem dL_law_456 : decode cL_law 456 = .ok (.iaload, 1) := by decide +kernel
theorem dL_law_457 : decode cL_law 457 = .ok (.aload_n 3, 1) := by decide +kernel
theorem dL_law_458 : decode cL_law 458 = .ok (.invokestatic 102, 3) := by decide +kernel
theorem dL_law_461 : decode cL_law 461 = .ok (.istore 5, 2) := by decide +kernel
theorem dL_law_463 : decode cL_law 463 = .ok (.aload_n 2, 1) := by decide +kernel
theorem dL_law_464 : decode cL_law 464 = .ok (.aload_n 0, 1) := by decide +kernel
theorem dL_law_465 : decode cL_law 465 = .ok (.iload 4, 2) := by decide +kernel
theorem dL_law_467 : decode cL_law 467 = .ok (.iconst 1, 1) := by decide +kernel
theorem dL_law_468 : decode cL_law 468 = .ok (.iadd, 1) := by decide +kernel
theorem dL_law_469 : decode cL_law 469 = .ok (.iaload, 1) := by decide +kernel
theorem dL_law_470 : decode cL_law 470 = .ok (.aload_n 0, 1) := by decide +kernel
theorem dL_law_471 : decode cL_law 471 = .ok (.iload 4, 2) := by decide +kernel
theorem dL_law_473 : decode cL_law 473 = .ok (.iconst 2, 1) := by decide +kernel
theorem dL_law_474 : decode cL_law 474 = .ok (.iadd, 1) := by decide +kernel
theorem dL_law_475 : decode cL_law 475 = .ok (.iaload, 1) := by decide +kernel
theorem dL_law_476 : decode cL_law 476 = .ok (.invokevirtual 104, 3) := by decide +kernel
theorem dL_law_479 : decode cL_law 479 = .ok (.istore 6, 2) := by decide +kernel
theorem dL_law_481 : decode cL_law 481 = .ok (.aload_n 2, 1) := by decide +kernel
theorem dL_law_482 : decode cL_law 482 = .ok (.invokevirtual 87, 3) := by decide +kernel
theorem dL_law_485 : decode cL_law 485 = .ok (.iload 5, 2) := by decide +kernel
theorem dL_law_487 : decode cL_law 487 = .ok (.if_icmp .eq 5, 3) := by decide +kernel
theorem dL_law_490 : decode cL_law 490 = .ok (.iconst 0, 1) := by decide +kernel
theorem dL_law_491 : decode cL_law 491 = .ok (.ireturn, 1) := by decide +kernel
theorem dL_law_492 : decode cL_law 492 = .ok (.iload 5, 2) := by decide +kernel
theorem dL_law_494 : decode cL_law 494 = .ok (.ifCond .ne 22, 3) := by decide +kernel
theorem dL_law_497 : decode cL_law 497 = .ok (.aload_n 3, 1) := by decide +kernel
theorem dL_law_498 : decode cL_law 498 = .ok (.iconst 0, 1) := by decide +kernel
theorem dL_law_499 : decode cL_law 499 = .ok (.laload, 1) := by decide +kernel
theorem dL_law_500 : decode cL_law 500 = .ok (.iload 6, 2) := by decide +kernel
theorem dL_law_502 : decode cL_law 502 = .ok (.ifCond .eq 7, 3) := by decide +kernel
theorem dL_law_505 : decode cL_law 505 = .ok (.lconst 1, 1) := by decide +kernel
theorem dL_law_506 : decode cL_law 506 = .ok (.goto 4, 3) := by decide +kernel
theorem dL_law_509 : decode cL_law 509 = .ok (.lconst 0, 1) := by decide +kernel
theorem dL_law_510 : decode cL_law 510 = .ok (.lcmp, 1) := by decide +kernel
theorem dL_law_511 : decode cL_law 511 = .ok (.ifCond .eq 5, 3) := by decide +kernel
theorem dL_law_514 : decode cL_law 514 = .ok (.iconst 0, 1) := by decide +kernel
theorem dL_law_515 : decode cL_law 515 = .ok (.ireturn, 1) := by decide +kernel
theorem dL_law_516 : decode cL_law 516 = .ok (.goto 968, 3) := by decide +kernel
theorem dL_law_519 : decode cL_law 519 = .ok (.aload_n 1, 1) := by decide +kernel
theorem dL_law_520 : decode cL_law 520 = .ok (.aload_n 0, 1) := by decide +kernel
theorem dL_law_521 : decode cL_law 521 = .ok (.iload 4, 2) := by decide +kernel
theorem dL_law_523 : decode cL_law 523 = .ok (.iconst 1, 1) := by decide +kernel
theorem dL_law_524 : decode cL_law 524 = .ok (.iadd, 1) := by decide +kernel
theorem dL_law_525 : decode cL_law 525 = .ok (.iaload, 1) := by decide +kernel
theorem dL_law_526 : decode cL_law 526 = .ok (.aload_n 0, 1) := by decide +kernel
theorem dL_law_527 : decode cL_law 527 = .ok (.iload 4, 2) := by decide +kernel
theorem dL_law_529 : decode cL_law 529 = .ok (.iconst 2, 1) := by decide +kernel
theorem dL_law_530 : decode cL_law 530 = .ok (.iadd, 1) := by decide +kernel
theorem dL_law_531 : decode cL_law 531 = .ok (.iaload, 1) := by decide +kernel
theorem dL_law_532 : decode cL_law 532 = .ok (.aload_n 3, 1) := by decide +kernel
theorem dL_law_533 : decode cL_law 533 = .ok (.invokestatic 105, 3) := by decide +kernel
theorem dL_law_536 : decode cL_law 536 = .ok (.istore 5, 2) := by decide +kernel
theorem dL_law_538 : decode cL_law 538 = .ok (.aload_n 2, 1) := by decide +kernel
theorem dL_law_539 : decode cL_law 539 = .ok (.aload_n 0, 1) := by decide +kernel
theorem dL_law_540 : decode cL_law 540 = .ok (.iload 4, 2) := by decide +kernel
theorem dL_law_542 : decode cL_law 542 = .ok (.iconst 1, 1) := by decide +kernel
theorem dL_law_543 : decode cL_law 543 = .ok (.iadd, 1) := by decide +kernel
theorem dL_law_544 : decode cL_law 544 = .ok (.iaload, 1) := by decide +kernel
theorem dL_law_545 : decode cL_law 545 = .ok (.aload_n 0, 1) := by decide +kernel
theorem dL_law_546 : decode cL_law 546 = .ok (.iload 4, 2) := by decide +kernel
theorem dL_law_548 : decode cL_law 548 = .ok (.iconst 2, 1) := by decide +kernel
theorem dL_law_549 : decode cL_law 549 = .ok (.iadd, 1) := by decide +kernel
theorem dL_law_550 : decode cL_law 550 = .ok (.iaload, 1) := by decide +kernel
theorem dL_law_551 : decode cL_law 551 = .ok (.invokevirtual 107, 3) := by decide +kernel
theorem dL_law_554 : decode cL_law 554 = .ok (.istore 6, 2) := by decide +kernel
theorem dL_law_556 : decode cL_law 556 = .ok (.aload_n 2, 1) := by decide +kernel
theorem dL_law_557 : decode cL_law 557 = .ok (.invokevirtual 87, 3) := by decide +kernel
theorem dL_law_560 : decode cL_law 560 = .ok (.iload 5, 2) := by decide +kernel
theorem dL_law_562 : decode cL_law 562 = .ok (.if_icmp .eq 5, 3) := by decide +kernel
theorem dL_law_565 : decode cL_law 565 = .ok (.iconst 0, 1) := by decide +kernel
theorem dL_law_566 : decode cL_law 566 = .ok (.ireturn, 1) := by decide +kernel
theorem dL_law_567 : decode cL_law 567 = .ok (.iload 5, 2) := by decide +kernel
theorem dL_law_569 : decode cL_law 569 = .ok (.ifCond .ne 15, 3) := by decide +kernel
theorem dL_law_572 : decode cL_law 572 = .ok (.aload_n 3, 1) := by decide +kernel
theorem dL_law_573 : decode cL_law 573 = .ok (.iconst 0, 1) := by decide +kernel
theorem dL_law_574 : decode cL_law 574 = .ok (.laload, 1) := by decide +kernel
theorem dL_law_575 : decode cL_law 575 = .ok (.iload 6, 2) := by decide +kernel
theorem dL_law_577 : decode cL_law 577 = .ok (.i2l, 1) := by decide +kernel
theorem dL_law_578 : decode cL_law 578 = .ok (.lcmp, 1) := by decide +kernel
theorem dL_law_579 : decode cL_law 579 = .ok (.ifCond .eq 5, 3) := by decide +kernel
theorem dL_law_582 : decode cL_law 582 = .ok (.iconst 0, 1) := by decide +kernel
theorem dL_law_583 : decode cL_law 583 = .ok (.ireturn, 1) := by decide +kernel
theorem dL_law_584 : decode cL_law 584 = .ok (.goto 900, 3) := by decide +kernel
theorem dL_law_587 : decode cL_law 587 = .ok (.aload_n 1, 1) := by decide +kernel
theorem dL_law_588 : decode cL_law 588 = .ok (.aload_n 0, 1) := by decide +kernel
theorem dL_law_589 : decode cL_law 589 = .ok (.iload 4, 2) := by decide +kernel
theorem dL_law_591 : decode cL_law 591 = .ok (.iconst 1, 1) := by decide +kernel
theorem dL_law_592 : decode cL_law 592 = .ok (.iadd, 1) := by decide +kernel
theorem dL_law_593 : decode cL_law 593 = .ok (.iaload, 1) := by decide +kernel
theorem dL_law_594 : decode cL_law 594 = .ok (.aload_n 0, 1) := by decide +kernel
theorem dL_law_595 : decode cL_law 595 = .ok (.iload 4, 2) := by decide +kernel
theorem dL_law_597 : decode cL_law 597 = .ok (.iconst 2, 1) := by decide +kernel
theorem dL_law_598 : decode cL_law 598 = .ok (.iadd, 1) := by decide +kernel
theorem dL_law_599 : decode cL_law 599 = .ok (.iaload, 1) := by decide +kernel
theorem dL_law_600 : decode cL_law 600 = .ok (.aload_n 3, 1) := by decide +kernel
theorem dL_law_601 : decode cL_law 601 = .ok (.invokestatic 108, 3) := by decide +kernel
theorem dL_law_604 : decode cL_law 604 = .ok (.istore 5, 2) := by decide +kernel
theorem dL_law_606 : decode cL_law 606 = .ok (.aload_n 2, 1) := by decide +kernel
theorem dL_law_607 : decode cL_law 607 = .ok (.aload_n 0, 1) := by decide +kernel
theorem dL_law_608 : decode cL_law 608 = .ok (.iload 4, 2) := by decide +kernel
theorem dL_law_610 : decode cL_law 610 = .ok (.iconst 1, 1) := by decide +kernel
theorem dL_law_611 : decode cL_law 611 = .ok (.iadd, 1) := by decide +kernel
theorem dL_law_612 : decode cL_law 612 = .ok (.iaload, 1) := by decide +kernel
theorem dL_law_613 : decode cL_law 613 = .ok (.aload_n 0, 1) := by decide +kernel
theorem dL_law_614 : decode cL_law 614 = .ok (.iload 4, 2) := by decide +kernel
theorem dL_law_616 : decode cL_law 616 = .ok (.iconst 2, 1) := by decide +kernel
theorem dL_law_617 : decode cL_law 617 = .ok (.iadd, 1) := by decide +kernel
theorem dL_law_618 : decode cL_law 618 = .ok (.iaload, 1) := by decide +kernel
theorem dL_law_619 : decode cL_law 619 = .ok (.invokevirtual 110, 3) := by decide +kernel
theorem dL_law_622 : decode cL_law 622 = .ok (.istore 6, 2) := by decide +kernel
theorem dL_law_624 : decode cL_law 624 = .ok (.aload_n 2, 1) := by decide +kernel
theorem dL_law_625 : decode cL_law 625 = .ok (.invokevirtual 87, 3) := by decide +kernel
theorem dL_law_628 : decode cL_law 628 = .ok (.iload 5, 2) := by decide +kernel
theorem dL_law_630 : decode cL_law 630 = .ok (.if_icmp .eq 5, 3) := by decide +kernel
theorem dL_law_633 : decode cL_law 633 = .ok (.iconst 0, 1) := by decide +kernel
theorem dL_law_634 : decode cL_law 634 = .ok (.ireturn, 1) := by decide +kernel
theorem dL_law_635 : decode cL_law 635 = .ok (.iload 5, 2) := by decide +kernel
theorem dL_law_637 : decode cL_law 637 = .ok (.ifCond .ne 15, 3) := by decide +kernel
theorem dL_law_640 : decode cL_law 640 = .ok (.aload_n 3, 1) := by decide +kernel
theorem dL_law_641 : decode cL_law 641 = .ok (.iconst 0, 1) := by decide +kernel
theorem dL_law_642 : decode cL_law 642 = .ok (.laload, 1) := by decide +kernel
theorem dL_law_643 : decode cL_law 643 = .ok (.iload 6, 2) := by decide +kernel
theorem dL_law_645 : decode cL_law 645 = .ok (.i2l, 1) := by decide +kernel
theorem dL_law_646 : decode cL_law 646 = .ok (.lcmp, 1) := by decide +kernel
theorem dL_law_647 : decode cL_law 647 = .ok (.ifCond .eq 5, 3) := by decide +kernel
theorem dL_law_650 : decode cL_law 650 = .ok (.iconst 0, 1) := by decide +kernel
theorem dL_law_651 : decode cL_law 651 = .ok (.ireturn, 1) := by decide +kernel
theorem dL_law_652 : decode cL_law 652 = .ok (.goto 832, 3) := by decide +kernel
theorem dL_law_655 : decode cL_law 655 = .ok (.aload_n 1, 1) := by decide +kernel
theorem dL_law_656 : decode cL_law 656 = .ok (.invokevirtual 111, 3) := by decide +kernel
theorem dL_law_659 : decode cL_law 659 = .ok (.aload_n 2, 1) := by decide +kernel
theorem dL_law_660 : decode cL_law 660 = .ok (.invokevirtual 114, 3) := by decide +kernel
theorem dL_law_663 : decode cL_law 663 = .ok (.if_icmp .eq 821, 3) := by decide +kernel
theorem dL_law_666 : decode cL_law 666 = .ok (.iconst 0, 1) := by decide +kernel
theorem dL_law_667 : decode cL_law 667 = .ok (.ireturn, 1) := by decide +kernel
theorem dL_law_668 : decode cL_law 668 = .ok (.aload_n 1, 1) := by decide +kernel
theorem dL_law_669 : decode cL_law 669 = .ok (.aload_n 0, 1) := by decide +kernel
theorem dL_law_670 : decode cL_law 670 = .ok (.iload 4, 2) := by decide +kernel
theorem dL_law_672 : decode cL_law 672 = .ok (.iconst 1, 1) := by decide +kernel
theorem dL_law_673 : decode cL_law 673 = .ok (.iadd, 1) := by decide +kernel
theorem dL_law_674 : decode cL_law 674 = .ok (.iaload, 1) := by decide +kernel
theorem dL_law_675 : decode cL_law 675 = .ok (.aload_n 3, 1) := by decide +kernel
theorem dL_law_676 : decode cL_law 676 = .ok (.invokestatic 115, 3) := by decide +kernel
theorem dL_law_679 : decode cL_law 679 = .ok (.istore 5, 2) := by decide +kernel
theorem dL_law_681 : decode cL_law 681 = .ok (.aload_n 2, 1) := by decide +kernel
theorem dL_law_682 : decode cL_law 682 = .ok (.aload_n 0, 1) := by decide +kernel
theorem dL_law_683 : decode cL_law 683 = .ok (.iload 4, 2) := by decide +kernel
theorem dL_law_685 : decode cL_law 685 = .ok (.iconst 1, 1) := by decide +kernel
theorem dL_law_686 : decode cL_law 686 = .ok (.iadd, 1) := by decide +kernel
theorem dL_law_687 : decode cL_law 687 = .ok (.iaload, 1) := by decide +kernel
theorem dL_law_688 : decode cL_law 688 = .ok (.invokevirtual 117, 3) := by decide +kernel
theorem dL_law_691 : decode cL_law 691 = .ok (.istore 6, 2) := by decide +kernel
theorem dL_law_693 : decode cL_law 693 = .ok (.aload_n 2, 1) := by decide +kernel
theorem dL_law_694 : decode cL_law 694 = .ok (.invokevirtual 87, 3) := by decide +kernel
theorem dL_law_697 : decode cL_law 697 = .ok (.iload 5, 2) := by decide +kernel
theorem dL_law_699 : decode cL_law 699 = .ok (.if_icmp .eq 5, 3) := by decide +kernel
theorem dL_law_702 : decode cL_law 702 = .ok (.iconst 0, 1) := by decide +kernel
theorem dL_law_703 : decode cL_law 703 = .ok (.ireturn, 1) := by decide +kernel
theorem dL_law_704 : decode cL_law 704 = .ok (.iload 5, 2) := by decide +kernel
theorem dL_law_706 : decode cL_law 706 = .ok (.ifCond .ne 15, 3) := by decide +kernel
theorem dL_law_709 : decode cL_law 709 = .ok (.aload_n 3, 1) := by decide +kernel
theorem dL_law_710 : decode cL_law 710 = .ok (.iconst 0, 1) := by decide +kernel
theorem dL_law_711 : decode cL_law 711 = .ok (.laload, 1) := by decide +kernel
theorem dL_law_712 : decode cL_law 712 = .ok (.iload 6, 2) := by decide +kernel
theorem dL_law_714 : decode cL_law 714 = .ok (.i2l, 1) := by decide +kernel
theorem dL_law_715 : decode cL_law 715 = .ok (.lcmp, 1) := by decide +kernel
theorem dL_law_716 : decode cL_law 716 = .ok (.ifCond .eq 5, 3) := by decide +kernel
theorem dL_law_719 : decode cL_law 719 = .ok (.iconst 0, 1) := by decide +kernel
theorem dL_law_720 : decode cL_law 720 = .ok (.ireturn, 1) := by decide +kernel
theorem dL_law_721 : decode cL_law 721 = .ok (.goto 763, 3) := by decide +kernel
theorem dL_law_724 : decode cL_law 724 = .ok (.aload_n 1, 1) := by decide +kernel
theorem dL_law_725 : decode cL_law 725 = .ok (.aload_n 0, 1) := by decide +kernel
theorem dL_law_726 : decode cL_law 726 = .ok (.iload 4, 2) := by decide +kernel
theorem dL_law_728 : decode cL_law 728 = .ok (.iconst 1, 1) := by decide +kernel
theorem dL_law_729 : decode cL_law 729 = .ok (.iadd, 1) := by decide +kernel
theorem dL_law_730 : decode cL_law 730 = .ok (.iaload, 1) := by decide +kernel
theorem dL_law_731 : decode cL_law 731 = .ok (.aload_n 3, 1) := by decide +kernel
theorem dL_law_732 : decode cL_law 732 = .ok (.invokestatic 118, 3) := by decide +kernel
theorem dL_law_735 : decode cL_law 735 = .ok (.istore 5, 2) := by decide +kernel
theorem dL_law_737 : decode cL_law 737 = .ok (.aload_n 2, 1) := by decide +kernel
theorem dL_law_738 : decode cL_law 738 = .ok (.aload_n 0, 1) := by decide +kernel
theorem dL_law_739 : decode cL_law 739 = .ok (.iload 4, 2) := by decide +kernel
theorem dL_law_741 : decode cL_law 741 = .ok (.iconst 1, 1) := by decide +kernel
theorem dL_law_742 : decode cL_law 742 = .ok (.iadd, 1) := by decide +kernel
theorem dL_law_743 : decode cL_law 743 = .ok (.iaload, 1) := by decide +kernel
theorem dL_law_744 : decode cL_law 744 = .ok (.invokevirtual 120, 3) := by decide +kernel
theorem dL_law_747 : decode cL_law 747 = .ok (.istore 6, 2) := by decide +kernel
theorem dL_law_749 : decode cL_law 749 = .ok (.aload_n 2, 1) := by decide +kernel
theorem dL_law_750 : decode cL_law 750 = .ok (.invokevirtual 87, 3) := by decide +kernel
theorem dL_law_753 : decode cL_law 753 = .ok (.iload 5, 2) := by decide +kernel
theorem dL_law_755 : decode cL_law 755 = .ok (.if_icmp .eq 5, 3) := by decide +kernel
theorem dL_law_758 : decode cL_law 758 = .ok (.iconst 0, 1) := by decide +kernel
theorem dL_law_759 : decode cL_law 759 = .ok (.ireturn, 1) := by decide +kernel
theorem dL_law_760 : decode cL_law 760 = .ok (.iload 5, 2) := by decide +kernel
theorem dL_law_762 : decode cL_law 762 = .ok (.ifCond .ne 15, 3) := by decide +kernel
theorem dL_law_765 : decode cL_law 765 = .ok (.aload_n 3, 1) := by decide +kernel
theorem dL_law_766 : decode cL_law 766 = .ok (.iconst 0, 1) := by decide +kernel
theorem dL_law_767 : decode cL_law 767 = .ok (.laload, 1) := by decide +kernel
theorem dL_law_768 : decode cL_law 768 = .ok (.iload 6, 2) := by decide +kernel
theorem dL_law_770 : decode cL_law 770 = .ok (.i2l, 1) := by decide +kernel
theorem dL_law_771 : decode cL_law 771 = .ok (.lcmp, 1) := by decide +kernel
theorem dL_law_772 : decode cL_law 772 = .ok (.ifCond .eq 5, 3) := by decide +kernel
theorem dL_law_775 : decode cL_law 775 = .ok (.iconst 0, 1) := by decide +kernel
theorem dL_law_776 : decode cL_law 776 = .ok (.ireturn, 1) := by decide +kernel
theorem dL_law_777 : decode cL_law 777 = .ok (.goto 707, 3) := by decide +kernel
theorem dL_law_780 : decode cL_law 780 = .ok (.aload_n 1, 1) := by decide +kernel
theorem dL_law_781 : decode cL_law 781 = .ok (.aload_n 0, 1) := by decide +kernel
theorem dL_law_782 : decode cL_law 782 = .ok (.iload 4, 2) := by decide +kernel
theorem dL_law_784 : decode cL_law 784 = .ok (.iconst 1, 1) := by decide +kernel
theorem dL_law_785 : decode cL_law 785 = .ok (.iadd, 1) := by decide +kernel
theorem dL_law_786 : decode cL_law 786 = .ok (.iaload, 1) := by decide +kernel
theorem dL_law_787 : decode cL_law 787 = .ok (.aload_n 3, 1) := by decide +kernel
theorem dL_law_788 : decode cL_law 788 = .ok (.invokestatic 121, 3) := by decide +kernel
theorem dL_law_791 : decode cL_law 791 = .ok (.istore 5, 2) := by decide +kernel
theorem dL_law_793 : decode cL_law 793 = .ok (.aload_n 2, 1) := by decide +kernel
theorem dL_law_794 : decode cL_law 794 = .ok (.aload_n 0, 1) := by decide +kernel
theorem dL_law_795 : decode cL_law 795 = .ok (.iload 4, 2) := by decide +kernel
theorem dL_law_797 : decode cL_law 797 = .ok (.iconst 1, 1) := by decide +kernel
theorem dL_law_798 : decode cL_law 798 = .ok (.iadd, 1) := by decide +kernel
theorem dL_law_799 : decode cL_law 799 = .ok (.iaload, 1) := by decide +kernel
theorem dL_law_800 : decode cL_law 800 = .ok (.invokevirtual 123, 3) := by decide +kernel
theorem dL_law_803 : decode cL_law 803 = .ok (.istore 6, 2) := by decide +kernel
theorem dL_law_805 : decode cL_law 805 = .ok (.aload_n 2, 1) := by decide +kernel
theorem dL_law_806 : decode cL_law 806 = .ok (.invokevirtual 87, 3) := by decide +kernel
theorem dL_law_809 : decode cL_law 809 = .ok (.iload 5, 2) := by decide +kernel
theorem dL_law_811 : decode cL_law 811 = .ok (.if_icmp .eq 5, 3) := by decide +kernel
theorem dL_law_814 : decode cL_law 814 = .ok (.iconst 0, 1) := by decide +kernel
theorem dL_law_815 : decode cL_law 815 = .ok (.ireturn, 1) := by decide +kernel
theorem dL_law_816 : decode cL_law 816 = .ok (.iload 5, 2) := by decide +kernel
theorem dL_law_818 : decode cL_law 818 = .ok (.ifCond .ne 15, 3) := by decide +kernel
theorem dL_law_821 : decode cL_law 821 = .ok (.aload_n 3, 1) := by decide +kernel
theorem dL_law_822 : decode cL_law 822 = .ok (.iconst 0, 1) := by decide +kernel
theorem dL_law_823 : decode cL_law 823 = .ok (.laload, 1) := by decide +kernel
theorem dL_law_824 : decode cL_law 824 = .ok (.iload 6, 2) := by decide +kernel
theorem dL_law_826 : decode cL_law 826 = .ok (.i2l, 1) := by decide +kernel
theorem dL_law_827 : decode cL_law 827 = .ok (.lcmp, 1) := by decide +kernel
theorem dL_law_828 : decode cL_law 828 = .ok (.ifCond .eq 5, 3) := by decide +kernel
theorem dL_law_831 : decode cL_law 831 = .ok (.iconst 0, 1) := by decide +kernel
theorem dL_law_832 : decode cL_law 832 = .ok (.ireturn, 1) := by decide +kernel
theorem dL_law_833 : decode cL_law 833 = .ok (.goto 651, 3) := by decide +kernel
theorem dL_law_836 : decode cL_law 836 = .ok (.aload_n 1, 1) := by decide +kernel
theorem dL_law_837 : decode cL_law 837 = .ok (.aload_n 0, 1) := by decide +kernel
theorem dL_law_838 : decode cL_law 838 = .ok (.iload 4, 2) := by decide +kernel
theorem dL_law_840 : decode cL_law 840 = .ok (.iconst 1, 1) := by decide +kernel
theorem dL_law_841 : decode cL_law 841 = .ok (.iadd, 1) := by decide +kernel
theorem dL_law_842 : decode cL_law 842 = .ok (.iaload, 1) := by decide +kernel
theorem dL_law_843 : decode cL_law 843 = .ok (.aload_n 0, 1) := by decide +kernel
theorem dL_law_844 : decode cL_law 844 = .ok (.iload 4, 2) := by decide +kernel
theorem dL_law_846 : decode cL_law 846 = .ok (.iconst 2, 1) := by decide +kernel
theorem dL_law_847 : decode cL_law 847 = .ok (.iadd, 1) := by decide +kernel
theorem dL_law_848 : decode cL_law 848 = .ok (.iaload, 1) := by decide +kernel
theorem dL_law_849 : decode cL_law 849 = .ok (.aload_n 0, 1) := by decide +kernel
theorem dL_law_850 : decode cL_law 850 = .ok (.iload 4, 2) := by decide +kernel
theorem dL_law_852 : decode cL_law 852 = .ok (.iconst 3, 1) := by decide +kernel
theorem dL_law_853 : decode cL_law 853 = .ok (.iadd, 1) := by decide +kernel
theorem dL_law_854 : decode cL_law 854 = .ok (.iaload, 1) := by decide +kernel
theorem dL_law_855 : decode cL_law 855 = .ok (.aload_n 3, 1) := by decide +kernel
theorem dL_law_856 : decode cL_law 856 = .ok (.invokestatic 124, 3) := by decide +kernel
theorem dL_law_859 : decode cL_law 859 = .ok (.istore 5, 2) := by decide +kernel
theorem dL_law_861 : decode cL_law 861 = .ok (.aload_n 2, 1) := by decide +kernel
theorem dL_law_862 : decode cL_law 862 = .ok (.aload_n 0, 1) := by decide +kernel
theorem dL_law_863 : decode cL_law 863 = .ok (.iload 4, 2) := by decide +kernel
theorem dL_law_865 : decode cL_law 865 = .ok (.iconst 1, 1) := by decide +kernel
theorem dL_law_866 : decode cL_law 866 = .ok (.iadd, 1) := by decide +kernel
theorem dL_law_867 : decode cL_law 867 = .ok (.iaload, 1) := by decide +kernel
theorem dL_law_868 : decode cL_law 868 = .ok (.aload_n 0, 1) := by decide +kernel
theorem dL_law_869 : decode cL_law 869 = .ok (.iload 4, 2) := by decide +kernel
theorem dL_law_871 : decode cL_law 871 = .ok (.iconst 2, 1) := by decide +kernel
theorem dL_law_872 : decode cL_law 872 = .ok (.iadd, 1) := by decide +kernel
theorem dL_law_873 : decode cL_law 873 = .ok (.iaload, 1) := by decide +kernel
theorem dL_law_874 : decode cL_law 874 = .ok (.aload_n 0, 1) := by decide +kernel
theorem dL_law_875 : decode cL_law 875 = .ok (.iload 4, 2) := by decide +kernel
theorem dL_law_877 : decode cL_law 877 = .ok (.iconst 3, 1) := by decide +kernel
theorem dL_law_878 : decode cL_law 878 = .ok (.iadd, 1) := by decide +kernel
theorem dL_law_879 : decode cL_law 879 = .ok (.iaload, 1) := by decide +kernel
theorem dL_law_880 : decode cL_law 880 = .ok (.invokevirtual 127, 3) := by decide +kernel
theorem dL_law_883 : decode cL_law 883 = .ok (.istore 6, 2) := by decide +kernel
theorem dL_law_885 : decode cL_law 885 = .ok (.aload_n 2, 1) := by decide +kernel
theorem dL_law_886 : decode cL_law 886 = .ok (.invokevirtual 87, 3) := by decide +kernel
theorem dL_law_889 : decode cL_law 889 = .ok (.iload 5, 2) := by decide +kernel
theorem dL_law_891 : decode cL_law 891 = .ok (.if_icmp .eq 5, 3) := by decide +kernel
theorem dL_law_894 : decode cL_law 894 = .ok (.iconst 0, 1) := by decide +kernel
theorem dL_law_895 : decode cL_law 895 = .ok (.ireturn, 1) := by decide +kernel
theorem dL_law_896 : decode cL_law 896 = .ok (.iload 5, 2) := by decide +kernel
theorem dL_law_898 : decode cL_law 898 = .ok (.ifCond .ne 15, 3) := by decide +kernel
theorem dL_law_901 : decode cL_law 901 = .ok (.aload_n 3, 1) := by decide +kernel
theorem dL_law_902 : decode cL_law 902 = .ok (.iconst 0, 1) := by decide +kernel
theorem dL_law_903 : decode cL_law 903 = .ok (.laload, 1) := by decide +kernel
theorem dL_law_904 : decode cL_law 904 = .ok (.iload 6, 2) := by decide +kernel
theorem dL_law_906 : decode cL_law 906 = .ok (.i2l, 1) := by decide +kernel
theorem dL_law_907 : decode cL_law 907 = .ok (.lcmp, 1) := by decide +kernel
theorem dL_law_908 : decode cL_law 908 = .ok (.ifCond .eq 5, 3) := by decide +kernel
theorem dL_law_911 : decode cL_law 911 = .ok (.iconst 0, 1) := by decide +kernel
theorem dL_law_912 : decode cL_law 912 = .ok (.ireturn, 1) := by decide +kernel
theorem dL_law_913 : decode cL_law 913 = .ok (.goto 571, 3) := by decide +kernel
theorem dL_law_916 : decode cL_law 916 = .ok (.aload_n 1, 1) := by decide +kernel
theorem dL_law_917 : decode cL_law 917 = .ok (.aload_n 0, 1) := by decide +kernel
theorem dL_law_918 : decode cL_law 918 = .ok (.iload 4, 2) := by decide +kernel
theorem dL_law_920 : decode cL_law 920 = .ok (.iconst 1, 1) := by decide +kernel
theorem dL_law_921 : decode cL_law 921 = .ok (.iadd, 1) := by decide +kernel
theorem dL_law_922 : decode cL_law 922 = .ok (.iaload, 1) := by decide +kernel
theorem dL_law_923 : decode cL_law 923 = .ok (.aload_n 0, 1) := by decide +kernel
theorem dL_law_924 : decode cL_law 924 = .ok (.iload 4, 2) := by decide +kernel
theorem dL_law_926 : decode cL_law 926 = .ok (.iconst 2, 1) := by decide +kernel
theorem dL_law_927 : decode cL_law 927 = .ok (.iadd, 1) := by decide +kernel
theorem dL_law_928 : decode cL_law 928 = .ok (.iaload, 1) := by decide +kernel
theorem dL_law_929 : decode cL_law 929 = .ok (.aload_n 3, 1) := by decide +kernel
theorem dL_law_930 : decode cL_law 930 = .ok (.invokestatic 128, 3) := by decide +kernel
theorem dL_law_933 : decode cL_law 933 = .ok (.istore 5, 2) := by decide +kernel
theorem dL_law_935 : decode cL_law 935 = .ok (.aload_n 2, 1) := by decide +kernel
theorem dL_law_936 : decode cL_law 936 = .ok (.aload_n 0, 1) := by decide +kernel
theorem dL_law_937 : decode cL_law 937 = .ok (.iload 4, 2) := by decide +kernel
theorem dL_law_939 : decode cL_law 939 = .ok (.iconst 1, 1) := by decide +kernel
theorem dL_law_940 : decode cL_law 940 = .ok (.iadd, 1) := by decide +kernel
theorem dL_law_941 : decode cL_law 941 = .ok (.iaload, 1) := by decide +kernel
theorem dL_law_942 : decode cL_law 942 = .ok (.aload_n 0, 1) := by decide +kernel
theorem dL_law_943 : decode cL_law 943 = .ok (.iload 4, 2) := by decide +kernel
theorem dL_law_945 : decode cL_law 945 = .ok (.iconst 2, 1) := by decide +kernel
theorem dL_law_946 : decode cL_law 946 = .ok (.iadd, 1) := by decide +kernel
theorem dL_law_947 : decode cL_law 947 = .ok (.iaload, 1) := by decide +kernel
theorem dL_law_948 : decode cL_law 948 = .ok (.invokevirtual 130, 3) := by decide +kernel
theorem dL_law_951 : decode cL_law 951 = .ok (.istore 6, 2) := by decide +kernel
theorem dL_law_953 : decode cL_law 953 = .ok (.aload_n 2, 1) := by decide +kernel
theorem dL_law_954 : decode cL_law 954 = .ok (.invokevirtual 87, 3) := by decide +kernel
theorem dL_law_957 : decode cL_law 957 = .ok (.iload 5, 2) := by decide +kernel
theorem dL_law_959 : decode cL_law 959 = .ok (.if_icmp .eq 5, 3) := by decide +kernel
theorem dL_law_962 : decode cL_law 962 = .ok (.iconst 0, 1) := by decide +kernel
theorem dL_law_963 : decode cL_law 963 = .ok (.ireturn, 1) := by decide +kernel
theorem dL_law_964 : decode cL_law 964 = .ok (.iload 5, 2) := by decide +kernel
theorem dL_law_966 : decode cL_law 966 = .ok (.ifCond .ne 15, 3) := by decide +kernel
theorem dL_law_969 : decode cL_law 969 = .ok (.aload_n 3, 1) := by decide +kernel
theorem dL_law_970 : decode cL_law 970 = .ok (.iconst 0, 1) := by decide +kernel
theorem dL_law_971 : decode cL_law 971 = .ok (.laload, 1) := by decide +kernel
theorem dL_law_972 : decode cL_law 972 = .ok (.iload 6, 2) := by decide +kernel
theorem dL_law_974 : decode cL_law 974 = .ok (.i2l, 1) := by decide +kernel
theorem dL_law_975 : decode cL_law 975 = .ok (.lcmp, 1) := by decide +kernel
theorem dL_law_976 : decode cL_law 976 = .ok (.ifCond .eq 5, 3) := by decide +kernel
theorem dL_law_979 : decode cL_law 979 = .ok (.iconst 0, 1) := by decide +kernel
theorem dL_law_980 : decode cL_law 980 = .ok (.ireturn, 1) := by decide +kernel
theorem dL_law_981 : decode cL_law 981 = .ok (.goto 503, 3) := by decide +kernel
theorem dL_law_984 : decode cL_law 984 = .ok (.aload_n 1, 1) := by decide +kernel
theorem dL_law_985 : decode cL_law 985 = .ok (.aload_n 0, 1) := by decide +kernel
theorem dL_law_986 : decode cL_law 986 = .ok (.iload 4, 2) := by decide +kernel
theorem dL_law_988 : decode cL_law 988 = .ok (.iconst 1, 1) := by decide +kernel
theorem dL_law_989 : decode cL_law 989 = .ok (.iadd, 1) := by decide +kernel
theorem dL_law_990 : decode cL_law 990 = .ok (.iaload, 1) := by decide +kernel
theorem dL_law_991 : decode cL_law 991 = .ok (.aload_n 0, 1) := by decide +kernel
theorem dL_law_992 : decode cL_law 992 = .ok (.iload 4, 2) := by decide +kernel
theorem dL_law_994 : decode cL_law 994 = .ok (.iconst 2, 1) := by decide +kernel
theorem dL_law_995 : decode cL_law 995 = .ok (.iadd, 1) := by decide +kernel
theorem dL_law_996 : decode cL_law 996 = .ok (.iaload, 1) := by decide +kernel
theorem dL_law_997 : decode cL_law 997 = .ok (.aload_n 3, 1) := by decide +kernel
theorem dL_law_998 : decode cL_law 998 = .ok (.invokestatic 131, 3) := by decide +kernel
theorem dL_law_1001 : decode cL_law 1001 = .ok (.istore 5, 2) := by decide +kernel
theorem dL_law_1003 : decode cL_law 1003 = .ok (.aload_n 2, 1) := by decide +kernel
theorem dL_law_1004 : decode cL_law 1004 = .ok (.aload_n 0, 1) := by decide +kernel
theorem dL_law_1005 : decode cL_law 1005 = .ok (.iload 4, 2) := by decide +kernel
theorem dL_law_1007 : decode cL_law 1007 = .ok (.iconst 1, 1) := by decide +kernel
theorem dL_law_1008 : decode cL_law 1008 = .ok (.iadd, 1) := by decide +kernel
theorem dL_law_1009 : decode cL_law 1009 = .ok (.iaload, 1) := by decide +kernel
theorem dL_law_1010 : decode cL_law 1010 = .ok (.aload_n 0, 1) := by decide +kernel
theorem dL_law_1011 : decode cL_law 1011 = .ok (.iload 4, 2) := by decide +kernel
theorem dL_law_1013 : decode cL_law 1013 = .ok (.iconst 2, 1) := by decide +kernel
theorem dL_law_1014 : decode cL_law 1014 = .ok (.iadd, 1) := by decide +kernel
theorem dL_law_1015 : decode cL_law 1015 = .ok (.iaload, 1) := by decide +kernel
theorem dL_law_1016 : decode cL_law 1016 = .ok (.invokevirtual 133, 3) := by decide +kernel
theorem dL_law_1019 : decode cL_law 1019 = .ok (.istore 6, 2) := by decide +kernel
theorem dL_law_1021 : decode cL_law 1021 = .ok (.aload_n 2, 1) := by decide +kernel
theorem dL_law_1022 : decode cL_law 1022 = .ok (.invokevirtual 87, 3) := by decide +kernel
theorem dL_law_1025 : decode cL_law 1025 = .ok (.iload 5, 2) := by decide +kernel
theorem dL_law_1027 : decode cL_law 1027 = .ok (.if_icmp .eq 5, 3) := by decide +kernel
theorem dL_law_1030 : decode cL_law 1030 = .ok (.iconst 0, 1) := by decide +kernel
theorem dL_law_1031 : decode cL_law 1031 = .ok (.ireturn, 1) := by decide +kernel
theorem dL_law_1032 : decode cL_law 1032 = .ok (.iload 5, 2) := by decide +kernel
theorem dL_law_1034 : decode cL_law 1034 = .ok (.ifCond .ne 22, 3) := by decide +kernel
theorem dL_law_1037 : decode cL_law 1037 = .ok (.aload_n 3, 1) := by decide +kernel
theorem dL_law_1038 : decode cL_law 1038 = .ok (.iconst 0, 1) := by decide +kernel
theorem dL_law_1039 : decode cL_law 1039 = .ok (.laload, 1) := by decide +kernel
theorem dL_law_1040 : decode cL_law 1040 = .ok (.iload 6, 2) := by decide +kernel
theorem dL_law_1042 : decode cL_law 1042 = .ok (.ifCond .eq 7, 3) := by decide +kernel
theorem dL_law_1045 : decode cL_law 1045 = .ok (.lconst 1, 1) := by decide +kernel
theorem dL_law_1046 : decode cL_law 1046 = .ok (.goto 4, 3) := by decide +kernel
theorem dL_law_1049 : decode cL_law 1049 = .ok (.lconst 0, 1) := by decide +kernel
theorem dL_law_1050 : decode cL_law 1050 = .ok (.lcmp, 1) := by decide +kernel
theorem dL_law_1051 : decode cL_law 1051 = .ok (.ifCond .eq 5, 3) := by decide +kernel
theorem dL_law_1054 : decode cL_law 1054 = .ok (.iconst 0, 1) := by decide +kernel
theorem dL_law_1055 : decode cL_law 1055 = .ok (.ireturn, 1) := by decide +kernel
theorem dL_law_1056 : decode cL_law 1056 = .ok (.goto 428, 3) := by decide +kernel
theorem dL_law_1059 : decode cL_law 1059 = .ok (.aload_n 1, 1) := by decide +kernel
theorem dL_law_1060 : decode cL_law 1060 = .ok (.aload_n 0, 1) := by decide +kernel
theorem dL_law_1061 : decode cL_law 1061 = .ok (.iload 4, 2) := by decide +kernel
theorem dL_law_1063 : decode cL_law 1063 = .ok (.iconst 1, 1) := by decide +kernel
theorem dL_law_1064 : decode cL_law 1064 = .ok (.iadd, 1) := by decide +kernel
theorem dL_law_1065 : decode cL_law 1065 = .ok (.iaload, 1) := by decide +kernel
theorem dL_law_1066 : decode cL_law 1066 = .ok (.aload_n 3, 1) := by decide +kernel
theorem dL_law_1067 : decode cL_law 1067 = .ok (.invokestatic 134, 3) := by decide +kernel
theorem dL_law_1070 : decode cL_law 1070 = .ok (.istore 5, 2) := by decide +kernel
theorem dL_law_1072 : decode cL_law 1072 = .ok (.aload_n 2, 1) := by decide +kernel
theorem dL_law_1073 : decode cL_law 1073 = .ok (.aload_n 0, 1) := by decide +kernel
theorem dL_law_1074 : decode cL_law 1074 = .ok (.iload 4, 2) := by decide +kernel
theorem dL_law_1076 : decode cL_law 1076 = .ok (.iconst 1, 1) := by decide +kernel
theorem dL_law_1077 : decode cL_law 1077 = .ok (.iadd, 1) := by decide +kernel
theorem dL_law_1078 : decode cL_law 1078 = .ok (.iaload, 1) := by decide +kernel
theorem dL_law_1079 : decode cL_law 1079 = .ok (.invokevirtual 136, 3) := by decide +kernel
theorem dL_law_1082 : decode cL_law 1082 = .ok (.istore 6, 2) := by decide +kernel
theorem dL_law_1084 : decode cL_law 1084 = .ok (.aload_n 2, 1) := by decide +kernel
theorem dL_law_1085 : decode cL_law 1085 = .ok (.invokevirtual 87, 3) := by decide +kernel
theorem dL_law_1088 : decode cL_law 1088 = .ok (.iload 5, 2) := by decide +kernel
theorem dL_law_1090 : decode cL_law 1090 = .ok (.if_icmp .eq 5, 3) := by decide +kernel
theorem dL_law_1093 : decode cL_law 1093 = .ok (.iconst 0, 1) := by decide +kernel
theorem dL_law_1094 : decode cL_law 1094 = .ok (.ireturn, 1) := by decide +kernel
theorem dL_law_1095 : decode cL_law 1095 = .ok (.iload 5, 2) := by decide +kernel
theorem dL_law_1097 : decode cL_law 1097 = .ok (.ifCond .ne 15, 3) := by decide +kernel
theorem dL_law_1100 : decode cL_law 1100 = .ok (.aload_n 3, 1) := by decide +kernel
theorem dL_law_1101 : decode cL_law 1101 = .ok (.iconst 0, 1) := by decide +kernel
theorem dL_law_1102 : decode cL_law 1102 = .ok (.laload, 1) := by decide +kernel
theorem dL_law_1103 : decode cL_law 1103 = .ok (.iload 6, 2) := by decide +kernel
theorem dL_law_1105 : decode cL_law 1105 = .ok (.i2l, 1) := by decide +kernel
theorem dL_law_1106 : decode cL_law 1106 = .ok (.lcmp, 1) := by decide +kernel
theorem dL_law_1107 : decode cL_law 1107 = .ok (.ifCond .eq 5, 3) := by decide +kernel
theorem dL_law_1110 : decode cL_law 1110 = .ok (.iconst 0, 1) := by decide +kernel
theorem dL_law_1111 : decode cL_law 1111 = .ok (.ireturn, 1) := by decide +kernel
theorem dL_law_1112 : decode cL_law 1112 = .ok (.goto 372, 3) := by decide +kernel
theorem dL_law_1115 : decode cL_law 1115 = .ok (.aload_n 1, 1) := by decide +kernel
theorem dL_law_1116 : decode cL_law 1116 = .ok (.aload_n 0, 1) := by decide +kernel
theorem dL_law_1117 : decode cL_law 1117 = .ok (.iload 4, 2) := by decide +kernel
theorem dL_law_1119 : decode cL_law 1119 = .ok (.iconst 1, 1) := by decide +kernel
theorem dL_law_1120 : decode cL_law 1120 = .ok (.iadd, 1) := by decide +kernel
theorem dL_law_1121 : decode cL_law 1121 = .ok (.iaload, 1) := by decide +kernel
theorem dL_law_1122 : decode cL_law 1122 = .ok (.aload_n 0, 1) := by decide +kernel
theorem dL_law_1123 : decode cL_law 1123 = .ok (.iload 4, 2) := by decide +kernel
theorem dL_law_1125 : decode cL_law 1125 = .ok (.iconst 2, 1) := by decide +kernel
theorem dL_law_1126 : decode cL_law 1126 = .ok (.iadd, 1) := by decide +kernel
theorem dL_law_1127 : decode cL_law 1127 = .ok (.iaload, 1) := by decide +kernel
theorem dL_law_1128 : decode cL_law 1128 = .ok (.aload_n 3, 1) := by decide +kernel
theorem dL_law_1129 : decode cL_law 1129 = .ok (.invokestatic 137, 3) := by decide +kernel
theorem dL_law_1132 : decode cL_law 1132 = .ok (.istore 5, 2) := by decide +kernel
theorem dL_law_1134 : decode cL_law 1134 = .ok (.aload_n 2, 1) := by decide +kernel
theorem dL_law_1135 : decode cL_law 1135 = .ok (.aload_n 0, 1) := by decide +kernel
theorem dL_law_1136 : decode cL_law 1136 = .ok (.iload 4, 2) := by decide +kernel
theorem dL_law_1138 : decode cL_law 1138 = .ok (.iconst 1, 1) := by decide +kernel
theorem dL_law_1139 : decode cL_law 1139 = .ok (.iadd, 1) := by decide +kernel
theorem dL_law_1140 : decode cL_law 1140 = .ok (.iaload, 1) := by decide +kernel
theorem dL_law_1141 : decode cL_law 1141 = .ok (.aload_n 0, 1) := by decide +kernel
theorem dL_law_1142 : decode cL_law 1142 = .ok (.iload 4, 2) := by decide +kernel
theorem dL_law_1144 : decode cL_law 1144 = .ok (.iconst 2, 1) := by decide +kernel
theorem dL_law_1145 : decode cL_law 1145 = .ok (.iadd, 1) := by decide +kernel
theorem dL_law_1146 : decode cL_law 1146 = .ok (.iaload, 1) := by decide +kernel
theorem dL_law_1147 : decode cL_law 1147 = .ok (.invokevirtual 139, 3) := by decide +kernel
theorem dL_law_1150 : decode cL_law 1150 = .ok (.istore 6, 2) := by decide +kernel
theorem dL_law_1152 : decode cL_law 1152 = .ok (.aload_n 2, 1) := by decide +kernel
theorem dL_law_1153 : decode cL_law 1153 = .ok (.invokevirtual 87, 3) := by decide +kernel
theorem dL_law_1156 : decode cL_law 1156 = .ok (.iload 5, 2) := by decide +kernel
theorem dL_law_1158 : decode cL_law 1158 = .ok (.if_icmp .eq 5, 3) := by decide +kernel
theorem dL_law_1161 : decode cL_law 1161 = .ok (.iconst 0, 1) := by decide +kernel
theorem dL_law_1162 : decode cL_law 1162 = .ok (.ireturn, 1) := by decide +kernel
theorem dL_law_1163 : decode cL_law 1163 = .ok (.iload 5, 2) := by decide +kernel
theorem dL_law_1165 : decode cL_law 1165 = .ok (.ifCond .ne 22, 3) := by decide +kernel
theorem dL_law_1168 : decode cL_law 1168 = .ok (.aload_n 3, 1) := by decide +kernel
theorem dL_law_1169 : decode cL_law 1169 = .ok (.iconst 0, 1) := by decide +kernel
theorem dL_law_1170 : decode cL_law 1170 = .ok (.laload, 1) := by decide +kernel
theorem dL_law_1171 : decode cL_law 1171 = .ok (.iload 6, 2) := by decide +kernel
theorem dL_law_1173 : decode cL_law 1173 = .ok (.ifCond .eq 7, 3) := by decide +kernel
theorem dL_law_1176 : decode cL_law 1176 = .ok (.lconst 1, 1) := by decide +kernel
theorem dL_law_1177 : decode cL_law 1177 = .ok (.goto 4, 3) := by decide +kernel
theorem dL_law_1180 : decode cL_law 1180 = .ok (.lconst 0, 1) := by decide +kernel
theorem dL_law_1181 : decode cL_law 1181 = .ok (.lcmp, 1) := by decide +kernel
theorem dL_law_1182 : decode cL_law 1182 = .ok (.ifCond .eq 5, 3) := by decide +kernel
theorem dL_law_1185 : decode cL_law 1185 = .ok (.iconst 0, 1) := by decide +kernel
theorem dL_law_1186 : decode cL_law 1186 = .ok (.ireturn, 1) := by decide +kernel
theorem dL_law_1187 : decode cL_law 1187 = .ok (.goto 297, 3) := by decide +kernel
theorem dL_law_1190 : decode cL_law 1190 = .ok (.aload_n 1, 1) := by decide +kernel
theorem dL_law_1191 : decode cL_law 1191 = .ok (.aload_n 0, 1) := by decide +kernel
theorem dL_law_1192 : decode cL_law 1192 = .ok (.iload 4, 2) := by decide +kernel
theorem dL_law_1194 : decode cL_law 1194 = .ok (.iconst 1, 1) := by decide +kernel
theorem dL_law_1195 : decode cL_law 1195 = .ok (.iadd, 1) := by decide +kernel
theorem dL_law_1196 : decode cL_law 1196 = .ok (.iaload, 1) := by decide +kernel
theorem dL_law_1197 : decode cL_law 1197 = .ok (.aload_n 3, 1) := by decide +kernel
theorem dL_law_1198 : decode cL_law 1198 = .ok (.invokestatic 140, 3) := by decide +kernel
theorem dL_law_1201 : decode cL_law 1201 = .ok (.istore 5, 2) := by decide +kernel
theorem dL_law_1203 : decode cL_law 1203 = .ok (.aload_n 2, 1) := by decide +kernel
theorem dL_law_1204 : decode cL_law 1204 = .ok (.aload_n 0, 1) := by decide +kernel
theorem dL_law_1205 : decode cL_law 1205 = .ok (.iload 4, 2) := by decide +kernel
theorem dL_law_1207 : decode cL_law 1207 = .ok (.iconst 1, 1) := by decide +kernel
theorem dL_law_1208 : decode cL_law 1208 = .ok (.iadd, 1) := by decide +kernel
theorem dL_law_1209 : decode cL_law 1209 = .ok (.iaload, 1) := by decide +kernel
theorem dL_law_1210 : decode cL_law 1210 = .ok (.invokevirtual 142, 3) := by decide +kernel
theorem dL_law_1213 : decode cL_law 1213 = .ok (.istore 6, 2) := by decide +kernel
theorem dL_law_1215 : decode cL_law 1215 = .ok (.aload_n 2, 1) := by decide +kernel
theorem dL_law_1216 : decode cL_law 1216 = .ok (.invokevirtual 87, 3) := by decide +kernel
theorem dL_law_1219 : decode cL_law 1219 = .ok (.iload 5, 2) := by decide +kernel
theorem dL_law_1221 : decode cL_law 1221 = .ok (.if_icmp .eq 5, 3) := by decide +kernel
theorem dL_law_1224 : decode cL_law 1224 = .ok (.iconst 0, 1) := by decide +kernel
theorem dL_law_1225 : decode cL_law 1225 = .ok (.ireturn, 1) := by decide +kernel
theorem dL_law_1226 : decode cL_law 1226 = .ok (.iload 5, 2) := by decide +kernel
theorem dL_law_1228 : decode cL_law 1228 = .ok (.ifCond .ne 15, 3) := by decide +kernel
theorem dL_law_1231 : decode cL_law 1231 = .ok (.aload_n 3, 1) := by decide +kernel
theorem dL_law_1232 : decode cL_law 1232 = .ok (.iconst 0, 1) := by decide +kernel
theorem dL_law_1233 : decode cL_law 1233 = .ok (.laload, 1) := by decide +kernel
theorem dL_law_1234 : decode cL_law 1234 = .ok (.iload 6, 2) := by decide +kernel
theorem dL_law_1236 : decode cL_law 1236 = .ok (.i2l, 1) := by decide +kernel
theorem dL_law_1237 : decode cL_law 1237 = .ok (.lcmp, 1) := by decide +kernel
theorem dL_law_1238 : decode cL_law 1238 = .ok (.ifCond .eq 5, 3) := by decide +kernel
theorem dL_law_1241 : decode cL_law 1241 = .ok (.iconst 0, 1) := by decide +kernel
theorem dL_law_1242 : decode cL_law 1242 = .ok (.ireturn, 1) := by decide +kernel
theorem dL_law_1243 : decode cL_law 1243 = .ok (.goto 241, 3) := by decide +kernel
theorem dL_law_1246 : decode cL_law 1246 = .ok (.aload_n 1, 1) := by decide +kernel
theorem dL_law_1247 : decode cL_law 1247 = .ok (.aload_n 0, 1) := by decide +kernel
theorem dL_law_1248 : decode cL_law 1248 = .ok (.iload 4, 2) := by decide +kernel
theorem dL_law_1250 : decode cL_law 1250 = .ok (.iconst 1, 1) := by decide +kernel
theorem dL_law_1251 : decode cL_law 1251 = .ok (.iadd, 1) := by decide +kernel
theorem dL_law_1252 : decode cL_law 1252 = .ok (.iaload, 1) := by decide +kernel
theorem dL_law_1253 : decode cL_law 1253 = .ok (.aload_n 0, 1) := by decide +kernel
theorem dL_law_1254 : decode cL_law 1254 = .ok (.iload 4, 2) := by decide +kernel
theorem dL_law_1256 : decode cL_law 1256 = .ok (.iconst 2, 1) := by decide +kernel
theorem dL_law_1257 : decode cL_law 1257 = .ok (.iadd, 1) := by decide +kernel
theorem dL_law_1258 : decode cL_law 1258 = .ok (.iaload, 1) := by decide +kernel
theorem dL_law_1259 : decode cL_law 1259 = .ok (.aload_n 3, 1) := by decide +kernel
theorem dL_law_1260 : decode cL_law 1260 = .ok (.invokestatic 143, 3) := by decide +kernel
theorem dL_law_1263 : decode cL_law 1263 = .ok (.istore 5, 2) := by decide +kernel
theorem dL_law_1265 : decode cL_law 1265 = .ok (.aload_n 2, 1) := by decide +kernel
theorem dL_law_1266 : decode cL_law 1266 = .ok (.aload_n 0, 1) := by decide +kernel
theorem dL_law_1267 : decode cL_law 1267 = .ok (.iload 4, 2) := by decide +kernel
theorem dL_law_1269 : decode cL_law 1269 = .ok (.iconst 1, 1) := by decide +kernel
theorem dL_law_1270 : decode cL_law 1270 = .ok (.iadd, 1) := by decide +kernel
theorem dL_law_1271 : decode cL_law 1271 = .ok (.iaload, 1) := by decide +kernel
theorem dL_law_1272 : decode cL_law 1272 = .ok (.aload_n 0, 1) := by decide +kernel
theorem dL_law_1273 : decode cL_law 1273 = .ok (.iload 4, 2) := by decide +kernel
theorem dL_law_1275 : decode cL_law 1275 = .ok (.iconst 2, 1) := by decide +kernel
theorem dL_law_1276 : decode cL_law 1276 = .ok (.iadd, 1) := by decide +kernel
theorem dL_law_1277 : decode cL_law 1277 = .ok (.iaload, 1) := by decide +kernel
theorem dL_law_1278 : decode cL_law 1278 = .ok (.invokevirtual 145, 3) := by decide +kernel
theorem dL_law_1281 : decode cL_law 1281 = .ok (.istore 6, 2) := by decide +kernel
theorem dL_law_1283 : decode cL_law 1283 = .ok (.aload_n 2, 1) := by decide +kernel
theorem dL_law_1284 : decode cL_law 1284 = .ok (.invokevirtual 87, 3) := by decide +kernel
theorem dL_law_1287 : decode cL_law 1287 = .ok (.iload 5, 2) := by decide +kernel
theorem dL_law_1289 : decode cL_law 1289 = .ok (.if_icmp .eq 5, 3) := by decide +kernel
theorem dL_law_1292 : decode cL_law 1292 = .ok (.iconst 0, 1) := by decide +kernel
theorem dL_law_1293 : decode cL_law 1293 = .ok (.ireturn, 1) := by decide +kernel
theorem dL_law_1294 : decode cL_law 1294 = .ok (.iload 5, 2) := by decide +kernel
theorem dL_law_1296 : decode cL_law 1296 = .ok (.ifCond .ne 22, 3) := by decide +kernel
theorem dL_law_1299 : decode cL_law 1299 = .ok (.aload_n 3, 1) := by decide +kernel
theorem dL_law_1300 : decode cL_law 1300 = .ok (.iconst 0, 1) := by decide +kernel
theorem dL_law_1301 : decode cL_law 1301 = .ok (.laload, 1) := by decide +kernel
theorem dL_law_1302 : decode cL_law 1302 = .ok (.iload 6, 2) := by decide +kernel
theorem dL_law_1304 : decode cL_law 1304 = .ok (.ifCond .eq 7, 3) := by decide +kernel
theorem dL_law_1307 : decode cL_law 1307 = .ok (.lconst 1, 1) := by decide +kernel
theorem dL_law_1308 : decode cL_law 1308 = .ok (.goto 4, 3) := by decide +kernel
theorem dL_law_1311 : decode cL_law 1311 = .ok (.lconst 0, 1) := by decide +kernel
theorem dL_law_1312 : decode cL_law 1312 = .ok (.lcmp, 1) := by decide +kernel
theorem dL_law_1313 : decode cL_law 1313 = .ok (.ifCond .eq 5, 3) := by decide +kernel
theorem dL_law_1316 : decode cL_law 1316 = .ok (.iconst 0, 1) := by decide +kernel
theorem dL_law_1317 : decode cL_law 1317 = .ok (.ireturn, 1) := by decide +kernel
theorem dL_law_1318 : decode cL_law 1318 = .ok (.goto 166, 3) := by decide +kernel
theorem dL_law_1321 : decode cL_law 1321 = .ok (.aload_n 1, 1) := by decide +kernel
theorem dL_law_1322 : decode cL_law 1322 = .ok (.aload_n 0, 1) := by decide +kernel
theorem dL_law_1323 : decode cL_law 1323 = .ok (.iload 4, 2) := by decide +kernel
theorem dL_law_1325 : decode cL_law 1325 = .ok (.iconst 1, 1) := by decide +kernel
theorem dL_law_1326 : decode cL_law 1326 = .ok (.iadd, 1) := by decide +kernel
theorem dL_law_1327 : decode cL_law 1327 = .ok (.iaload, 1) := by decide +kernel
theorem dL_law_1328 : decode cL_law 1328 = .ok (.aload_n 0, 1) := by decide +kernel
theorem dL_law_1329 : decode cL_law 1329 = .ok (.iload 4, 2) := by decide +kernel
theorem dL_law_1331 : decode cL_law 1331 = .ok (.iconst 2, 1) := by decide +kernel
theorem dL_law_1332 : decode cL_law 1332 = .ok (.iadd, 1) := by decide +kernel
theorem dL_law_1333 : decode cL_law 1333 = .ok (.iaload, 1) := by decide +kernel
theorem dL_law_1334 : decode cL_law 1334 = .ok (.aload_n 3, 1) := by decide +kernel
theorem dL_law_1335 : decode cL_law 1335 = .ok (.invokestatic 146, 3) := by decide +kernel
theorem dL_law_1338 : decode cL_law 1338 = .ok (.istore 5, 2) := by decide +kernel
theorem dL_law_1340 : decode cL_law 1340 = .ok (.aload_n 2, 1) := by decide +kernel
theorem dL_law_1341 : decode cL_law 1341 = .ok (.aload_n 0, 1) := by decide +kernel
theorem dL_law_1342 : decode cL_law 1342 = .ok (.iload 4, 2) := by decide +kernel
theorem dL_law_1344 : decode cL_law 1344 = .ok (.iconst 1, 1) := by decide +kernel
theorem dL_law_1345 : decode cL_law 1345 = .ok (.iadd, 1) := by decide +kernel
theorem dL_law_1346 : decode cL_law 1346 = .ok (.iaload, 1) := by decide +kernel
theorem dL_law_1347 : decode cL_law 1347 = .ok (.aload_n 0, 1) := by decide +kernel
theorem dL_law_1348 : decode cL_law 1348 = .ok (.iload 4, 2) := by decide +kernel
theorem dL_law_1350 : decode cL_law 1350 = .ok (.iconst 2, 1) := by decide +kernel
theorem dL_law_1351 : decode cL_law 1351 = .ok (.iadd, 1) := by decide +kernel
theorem dL_law_1352 : decode cL_law 1352 = .ok (.iaload, 1) := by decide +kernel
theorem dL_law_1353 : decode cL_law 1353 = .ok (.invokevirtual 148, 3) := by decide +kernel
theorem dL_law_1356 : decode cL_law 1356 = .ok (.istore 6, 2) := by decide +kernel
theorem dL_law_1358 : decode cL_law 1358 = .ok (.aload_n 2, 1) := by decide +kernel
theorem dL_law_1359 : decode cL_law 1359 = .ok (.invokevirtual 87, 3) := by decide +kernel
theorem dL_law_1362 : decode cL_law 1362 = .ok (.iload 5, 2) := by decide +kernel
theorem dL_law_1364 : decode cL_law 1364 = .ok (.if_icmp .eq 5, 3) := by decide +kernel
theorem dL_law_1367 : decode cL_law 1367 = .ok (.iconst 0, 1) := by decide +kernel
theorem dL_law_1368 : decode cL_law 1368 = .ok (.ireturn, 1) := by decide +kernel
theorem dL_law_1369 : decode cL_law 1369 = .ok (.iload 5, 2) := by decide +kernel
theorem dL_law_1371 : decode cL_law 1371 = .ok (.ifCond .ne 15, 3) := by decide +kernel
theorem dL_law_1374 : decode cL_law 1374 = .ok (.aload_n 3, 1) := by decide +kernel
theorem dL_law_1375 : decode cL_law 1375 = .ok (.iconst 0, 1) := by decide +kernel
theorem dL_law_1376 : decode cL_law 1376 = .ok (.laload, 1) := by decide +kernel
theorem dL_law_1377 : decode cL_law 1377 = .ok (.iload 6, 2) := by decide +kernel
theorem dL_law_1379 : decode cL_law 1379 = .ok (.i2l, 1) := by decide +kernel
theorem dL_law_1380 : decode cL_law 1380 = .ok (.lcmp, 1) := by decide +kernel
theorem dL_law_1381 : decode cL_law 1381 = .ok (.ifCond .eq 5, 3) := by decide +kernel
theorem dL_law_1384 : decode cL_law 1384 = .ok (.iconst 0, 1) := by decide +kernel
theorem dL_law_1385 : decode cL_law 1385 = .ok (.ireturn, 1) := by decide +kernel
theorem dL_law_1386 : decode cL_law 1386 = .ok (.goto 98, 3) := by decide +kernel
theorem dL_law_1389 : decode cL_law 1389 = .ok (.aload_n 1, 1) := by decide +kernel
theorem dL_law_1390 : decode cL_law 1390 = .ok (.aload_n 0, 1) := by decide +kernel
theorem dL_law_1391 : decode cL_law 1391 = .ok (.iload 4, 2) := by decide +kernel
theorem dL_law_1393 : decode cL_law 1393 = .ok (.iconst 1, 1) := by decide +kernel
theorem dL_law_1394 : decode cL_law 1394 = .ok (.iadd, 1) := by decide +kernel
theorem dL_law_1395 : decode cL_law 1395 = .ok (.iaload, 1) := by decide +kernel
theorem dL_law_1396 : decode cL_law 1396 = .ok (.aload_n 3, 1) := by decide +kernel
theorem dL_law_1397 : decode cL_law 1397 = .ok (.invokestatic 149, 3) := by decide +kernel
theorem dL_law_1400 : decode cL_law 1400 = .ok (.istore 5, 2) := by decide +kernel
theorem dL_law_1402 : decode cL_law 1402 = .ok (.aload_n 2, 1) := by decide +kernel
theorem dL_law_1403 : decode cL_law 1403 = .ok (.aload_n 0, 1) := by decide +kernel
theorem dL_law_1404 : decode cL_law 1404 = .ok (.iload 4, 2) := by decide +kernel
theorem dL_law_1406 : decode cL_law 1406 = .ok (.iconst 1, 1) := by decide +kernel
theorem dL_law_1407 : decode cL_law 1407 = .ok (.iadd, 1) := by decide +kernel
theorem dL_law_1408 : decode cL_law 1408 = .ok (.iaload, 1) := by decide +kernel
theorem dL_law_1409 : decode cL_law 1409 = .ok (.invokevirtual 151, 3) := by decide +kernel
theorem dL_law_1412 : decode cL_law 1412 = .ok (.istore 6, 2) := by decide +kernel
theorem dL_law_1414 : decode cL_law 1414 = .ok (.aload_n 2, 1) := by decide +kernel
theorem dL_law_1415 : decode cL_law 1415 = .ok (.invokevirtual 87, 3) := by decide +kernel
theorem dL_law_1418 : decode cL_law 1418 = .ok (.iload 5, 2) := by decide +kernel
theorem dL_law_1420 : decode cL_law 1420 = .ok (.if_icmp .eq 5, 3) := by decide +kernel
theorem dL_law_1423 : decode cL_law 1423 = .ok (.iconst 0, 1) := by decide +kernel
theorem dL_law_1424 : decode cL_law 1424 = .ok (.ireturn, 1) := by decide +kernel
theorem dL_law_1425 : decode cL_law 1425 = .ok (.iload 5, 2) := by decide +kernel
theorem dL_law_1427 : decode cL_law 1427 = .ok (.ifCond .ne 15, 3) := by decide +kernel
theorem dL_law_1430 : decode cL_law 1430 = .ok (.aload_n 3, 1) := by decide +kernel
theorem dL_law_1431 : decode cL_law 1431 = .ok (.iconst 0, 1) := by decide +kernel
theorem dL_law_1432 : decode cL_law 1432 = .ok (.laload, 1) := by decide +kernel
theorem dL_law_1433 : decode cL_law 1433 = .ok (.iload 6, 2) := by decide +kernel
theorem dL_law_1435 : decode cL_law 1435 = .ok (.i2l, 1) := by decide +kernel
theorem dL_law_1436 : decode cL_law 1436 = .ok (.lcmp, 1) := by decide +kernel
theorem dL_law_1437 : decode cL_law 1437 = .ok (.ifCond .eq 5, 3) := by decide +kernel
theorem dL_law_1440 : decode cL_law 1440 = .ok (.iconst 0, 1) := by decide +kernel
theorem dL_law_1441 : decode cL_law 1441 = .ok (.ireturn, 1) := by decide +kernel
theorem dL_law_1442 : decode cL_law 1442 = .ok (.goto 42, 3) := by decide +kernel
theorem dL_law_1445 : decode cL_law 1445 = .ok (.aload_n 1, 1) := by decide +kernel
theorem dL_law_1446 : decode cL_law 1446 = .ok (.invokevirtual 152, 3) := by decide +kernel
theorem dL_law_1449 : decode cL_law 1449 = .ok (.aload_n 2, 1) := by decide +kernel
theorem dL_law_1450 : decode cL_law 1450 = .ok (.invokevirtual 155, 3) := by decide +kernel
theorem dL_law_1453 : decode cL_law 1453 = .ok (.if_icmp .eq 31, 3) := by decide +kernel
theorem dL_law_1456 : decode cL_law 1456 = .ok (.iconst 0, 1) := by decide +kernel
theorem dL_law_1457 : decode cL_law 1457 = .ok (.ireturn, 1) := by decide +kernel
theorem dL_law_1458 : decode cL_law 1458 = .ok (.aload_n 1, 1) := by decide +kernel
theorem dL_law_1459 : decode cL_law 1459 = .ok (.invokevirtual 156, 3) := by decide +kernel
theorem dL_law_1462 : decode cL_law 1462 = .ok (.aload_n 2, 1) := by decide +kernel
theorem dL_law_1463 : decode cL_law 1463 = .ok (.invokevirtual 159, 3) := by decide +kernel
theorem dL_law_1466 : decode cL_law 1466 = .ok (.if_icmp .eq 18, 3) := by decide +kernel
theorem dL_law_1469 : decode cL_law 1469 = .ok (.iconst 0, 1) := by decide +kernel
theorem dL_law_1470 : decode cL_law 1470 = .ok (.ireturn, 1) := by decide +kernel
theorem dL_law_1471 : decode cL_law 1471 = .ok (.aload_n 1, 1) := by decide +kernel
theorem dL_law_1472 : decode cL_law 1472 = .ok (.invokevirtual 160, 3) := by decide +kernel
theorem dL_law_1475 : decode cL_law 1475 = .ok (.aload_n 2, 1) := by decide +kernel
theorem dL_law_1476 : decode cL_law 1476 = .ok (.invokevirtual 163, 3) := by decide +kernel
theorem dL_law_1479 : decode cL_law 1479 = .ok (.if_icmp .eq 5, 3) := by decide +kernel
theorem dL_law_1482 : decode cL_law 1482 = .ok (.iconst 0, 1) := by decide +kernel
theorem dL_law_1483 : decode cL_law 1483 = .ok (.ireturn, 1) := by decide +kernel
theorem dL_law_1484 : decode cL_law 1484 = .ok (.iinc 4 5, 3) := by decide +kernel
theorem dL_law_1487 : decode cL_law 1487 = .ok (.goto (-1464), 3) := by decide +kernel
theorem dL_law_1490 : decode cL_law 1490 = .ok (.iconst 1, 1) := by decide +kernel
theorem dL_law_1491 : decode cL_law 1491 = .ok (.ireturn, 1) := by decide +kernel
