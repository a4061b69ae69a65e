theorem dL_low_0 : decode cL_low 0 = .ok (.iload_n 0, 1) := by decide +kernel
theorem dL_low_1 : decode cL_low 1 = .ok (.ldc 7, 2) := by decide +kernel
theorem dL_low_3 : decode cL_low 3 = .ok (.iand, 1) := by decide +kernel
theorem dL_low_4 : decode cL_low 4 = .ok (.iload_n 1, 1) := by decide +kernel
theorem dL_low_5 : decode cL_low 5 = .ok (.irem, 1) := by decide +kernel
theorem dL_low_6 : decode cL_low 6 = .ok (.ireturn, 1) := by decide +kernel
theorem dL_cell_0 : decode cL_cell 0 = .ok (.iload_n 1, 1) := by decide +kernel
theorem dL_cell_1 : decode cL_cell 1 = .ok (.aload_n 0, 1) := by decide +kernel
theorem dL_cell_2 : decode cL_cell 2 = .ok (.arraylength, 1) := by decide +kernel
theorem dL_cell_3 : decode cL_cell 3 = .ok (.if_icmp .ge 9, 3) := by decide +kernel
theorem dL_cell_6 : decode cL_cell 6 = .ok (.aload_n 0, 1) := by decide +kernel
theorem dL_cell_7 : decode cL_cell 7 = .ok (.iload_n 1, 1) := by decide +kernel
theorem dL_cell_8 : decode cL_cell 8 = .ok (.iaload, 1) := by decide +kernel
theorem dL_cell_9 : decode cL_cell 9 = .ok (.goto 11, 3) := by decide +kernel
theorem dL_cell_12 : decode cL_cell 12 = .ok (.ldc 8, 2) := by decide +kernel
theorem dL_cell_14 : decode cL_cell 14 = .ok (.iload_n 1, 1) := by decide +kernel
theorem dL_cell_15 : decode cL_cell 15 = .ok (.imul, 1) := by decide +kernel
theorem dL_cell_16 : decode cL_cell 16 = .ok (.sipush 977, 3) := by decide +kernel
theorem dL_cell_19 : decode cL_cell 19 = .ok (.iadd, 1) := by decide +kernel
theorem dL_cell_20 : decode cL_cell 20 = .ok (.ireturn, 1) := by decide +kernel
set_option maxRecDepth 20000 in
theorem ggL_needs_X4_setNeeds : GoodIn wsL_needs wsX4_setNeeds := goodIn_ca (goodIn_ca (goodIn_r _ [6, 7, 8, 9, 10, 11, 12, 5, 13, 14, 15, 16, 17, 18, 19, 20, 21, 22, 23, 24, 25, 26, 27, 28, 29] (by decide +kernel) (by decide +kernel)) (goodIn_sub (fun _ h => List.mem_cons_of_mem _ (List.mem_append_left _ (List.mem_append_right _ h))) (by decide +kernel))) (goodIn_sub (fun _ h => List.mem_cons_of_mem _ (List.mem_append_right _ h)) (by decide +kernel))
set_option maxRecDepth 20000 in
theorem gL_needs_X4_setNeeds : GoodIn wsL_needs (wsV RL 9 RX4 yX4_setNeeds wsX4_setNeeds) := goodIn_app (goodIn_of _ (by decide +kernel)) ggL_needs_X4_setNeeds
theorem dL_needs_0 : decode cL_needs 0 = .ok (.aload_n 0, 1) := by decide +kernel
theorem dL_needs_1 : decode cL_needs 1 = .ok (.iload_n 1, 1) := by decide +kernel
theorem dL_needs_2 : decode cL_needs 2 = .ok (.iload_n 2, 1) := by decide +kernel
theorem dL_needs_3 : decode cL_needs 3 = .ok (.invokevirtual 9, 3) := by decide +kernel
theorem dL_needs_6 : decode cL_needs 6 = .ok (.ireturn, 1) := by decide +kernel
theorem dL_needs_7 : decode cL_needs 7 = .ok (.astore_n 3, 1) := by decide +kernel
theorem dL_needs_8 : decode cL_needs 8 = .ok (.bipush (-2), 2) := by decide +kernel
theorem dL_needs_10 : decode cL_needs 10 = .ok (.ireturn, 1) := by decide +kernel
set_option maxRecDepth 20000 in
theorem ggL_fold_X4_fold : GoodIn wsL_fold wsX4_fold := goodIn_ca (goodIn_ca (goodIn_ca (goodIn_r _ [6, 7, 8, 9, 10, 11, 12, 13, 14, 15, 16, 17, 5, 18, 19, 20, 21, 22, 23, 24, 25, 26, 27, 28, 29, 30, 31, 32, 33, 34, 35, 36, 37, 38, 39, 40, 41, 42, 43, 44, 45, 46, 47, 48, 49, 50, 51, 52, 53, 54, 55, 56, 57, 58, 59, 60, 61, 62, 63, 64, 65, 66, 67, 68, 69, 70, 71, 72, 73, 74, 75, 76, 77, 78, 79, 80, 81, 82, 83, 84, 85, 86, 87, 88, 89, 90, 91, 92, 93, 94, 95, 96, 97, 98, 99, 100, 101, 102, 103, 104, 105, 106] (by decide +kernel) (by decide +kernel)) (goodIn_sub (fun _ h => List.mem_cons_of_mem _ (List.mem_append_left _ (List.mem_append_left _ (List.mem_append_right _ h)))) (by decide +kernel))) (goodIn_sub (fun _ h => List.mem_cons_of_mem _ (List.mem_append_left _ (List.mem_append_right _ h))) (by decide +kernel))) (goodIn_sub (fun _ h => List.mem_cons_of_mem _ (List.mem_append_right _ h)) (by decide +kernel))
set_option maxRecDepth 20000 in
theorem gL_fold_X4_fold : GoodIn wsL_fold (wsV RL 17 RX4 yX4_fold wsX4_fold) := goodIn_app (goodIn_of _ (by decide +kernel)) ggL_fold_X4_fold
theorem dL_fold_0 : decode cL_fold 0 = .ok (.aload_n 0, 1) := by decide +kernel
theorem dL_fold_1 : decode cL_fold 1 = .ok (.iload_n 1, 1) := by decide +kernel
theorem dL_fold_2 : decode cL_fold 2 = .ok (.iload_n 2, 1) := by decide +kernel
theorem dL_fold_3 : decode cL_fold 3 = .ok (.iload_n 3, 1) := by decide +kernel
theorem dL_fold_4 : decode cL_fold 4 = .ok (.iload 4, 2) := by decide +kernel
theorem dL_fold_6 : decode cL_fold 6 = .ok (.invokevirtual 17, 3) := by decide +kernel
theorem dL_fold_9 : decode cL_fold 9 = .ok (.ireturn, 1) := by decide +kernel
theorem dL_fold_10 : decode cL_fold 10 = .ok (.astore 5, 2) := by decide +kernel
theorem dL_fold_12 : decode cL_fold 12 = .ok (.bipush (-3), 2) := by decide +kernel
theorem dL_fold_14 : decode cL_fold 14 = .ok (.ireturn, 1) := by decide +kernel
set_option maxRecDepth 20000 in
theorem ggL_unfold_X4_unfold : GoodIn wsL_unfold wsX4_unfold := goodIn_ca (goodIn_ca (goodIn_r _ [6, 7, 8, 9, 10, 11, 12, 5, 13, 14, 15, 16, 17, 18, 19, 20, 21, 22, 23, 24, 25, 26, 27, 28, 29, 30, 31, 32, 33, 34, 35, 36, 37, 38, 39, 40, 41, 42, 43, 44, 45, 46, 47, 48, 49, 50, 51, 52, 53, 54, 55, 56, 57, 58, 59, 60, 61, 62, 63, 64, 65, 66, 67, 68, 69, 70, 71, 72, 73, 74, 75, 76, 77, 78, 79, 80, 81, 82, 83, 84, 85, 86, 87, 88, 89, 90, 91, 92, 93, 94, 95] (by decide +kernel) (by decide +kernel)) (goodIn_sub (fun _ h => List.mem_cons_of_mem _ (List.mem_append_left _ (List.mem_append_right _ h))) (by decide +kernel))) (goodIn_sub (fun _ h => List.mem_cons_of_mem _ (List.mem_append_right _ h)) (by decide +kernel))
set_option maxRecDepth 20000 in
theorem gL_unfold_X4_unfold : GoodIn wsL_unfold (wsV RL 23 RX4 yX4_unfold wsX4_unfold) := goodIn_app (goodIn_of _ (by decide +kernel)) ggL_unfold_X4_unfold
theorem dL_unfold_0 : decode cL_unfold 0 = .ok (.aload_n 0, 1) := by decide +kernel
theorem dL_unfold_1 : decode cL_unfold 1 = .ok (.iload_n 1, 1) := by decide +kernel
theorem dL_unfold_2 : decode cL_unfold 2 = .ok (.invokevirtual 23, 3) := by decide +kernel
theorem dL_unfold_5 : decode cL_unfold 5 = .ok (.ireturn, 1) := by decide +kernel
theorem dL_unfold_6 : decode cL_unfold 6 = .ok (.astore_n 2, 1) := by decide +kernel
theorem dL_unfold_7 : decode cL_unfold 7 = .ok (.bipush (-3), 2) := by decide +kernel
theorem dL_unfold_9 : decode cL_unfold 9 = .ok (.ireturn, 1) := by decide +kernel
set_option maxRecDepth 20000 in
theorem ggL_use_X4_use : GoodIn wsL_use wsX4_use := goodIn_ca (goodIn_ca (goodIn_r _ [6, 7, 8, 9, 10, 11, 12, 5, 13, 14, 15, 16, 17, 18, 19, 20, 21, 22, 23, 24, 25, 26, 27, 28, 29, 30, 31, 32, 33, 34] (by decide +kernel) (by decide +kernel)) (goodIn_sub (fun _ h => List.mem_cons_of_mem _ (List.mem_append_left _ (List.mem_append_right _ h))) (by decide +kernel))) (goodIn_sub (fun _ h => List.mem_cons_of_mem _ (List.mem_append_right _ h)) (by decide +kernel))
set_option maxRecDepth 20000 in
theorem gL_use_X4_use : GoodIn wsL_use (wsV RL 27 RX4 yX4_use wsX4_use) := goodIn_app (goodIn_of _ (by decide +kernel)) ggL_use_X4_use
theorem dL_use_0 : decode cL_use 0 = .ok (.aload_n 0, 1) := by decide +kernel
theorem dL_use_1 : decode cL_use 1 = .ok (.iload_n 1, 1) := by decide +kernel
theorem dL_use_2 : decode cL_use 2 = .ok (.iload_n 2, 1) := by decide +kernel
theorem dL_use_3 : decode cL_use 3 = .ok (.invokevirtual 27, 3) := by decide +kernel
theorem dL_use_6 : decode cL_use 6 = .ok (.ifCond .eq 7, 3) := by decide +kernel
theorem dL_use_9 : decode cL_use 9 = .ok (.iconst 1, 1) := by decide +kernel
theorem dL_use_10 : decode cL_use 10 = .ok (.goto 4, 3) := by decide +kernel
theorem dL_use_13 : decode cL_use 13 = .ok (.iconst 0, 1) := by decide +kernel
theorem dL_use_14 : decode cL_use 14 = .ok (.ireturn, 1) := by decide +kernel
theorem dL_use_15 : decode cL_use 15 = .ok (.astore_n 3, 1) := by decide +kernel
theorem dL_use_16 : decode cL_use 16 = .ok (.bipush (-2), 2) := by decide +kernel
theorem dL_use_18 : decode cL_use 18 = .ok (.ireturn, 1) := by decide +kernel
set_option maxRecDepth 20000 in
theorem ggL_teach_X4_teach : GoodIn wsL_teach wsX4_teach := goodIn_ca (goodIn_ca (goodIn_r _ [6, 7, 8, 9, 10, 11, 12, 13, 5, 14, 15, 16, 17, 18, 19, 20, 21, 22, 23, 24, 25, 26, 27, 28, 29, 30, 31, 32, 33, 34, 35, 36, 37, 38] (by decide +kernel) (by decide +kernel)) (goodIn_sub (fun _ h => List.mem_cons_of_mem _ (List.mem_append_left _ (List.mem_append_right _ h))) (by decide +kernel))) (goodIn_sub (fun _ h => List.mem_cons_of_mem _ (List.mem_append_right _ h)) (by decide +kernel))
set_option maxRecDepth 20000 in
theorem gL_teach_X4_teach : GoodIn wsL_teach (wsV RL 31 RX4 yX4_teach wsX4_teach) := goodIn_app (goodIn_of _ (by decide +kernel)) ggL_teach_X4_teach
theorem dL_teach_0 : decode cL_teach 0 = .ok (.aload_n 0, 1) := by decide +kernel
theorem dL_teach_1 : decode cL_teach 1 = .ok (.iload_n 1, 1) := by decide +kernel
theorem dL_teach_2 : decode cL_teach 2 = .ok (.iload_n 2, 1) := by decide +kernel
theorem dL_teach_3 : decode cL_teach 3 = .ok (.invokevirtual 31, 3) := by decide +kernel
theorem dL_teach_6 : decode cL_teach 6 = .ok (.ireturn, 1) := by decide +kernel
theorem dL_teach_7 : decode cL_teach 7 = .ok (.astore_n 3, 1) := by decide +kernel
theorem dL_teach_8 : decode cL_teach 8 = .ok (.bipush (-3), 2) := by decide +kernel
theorem dL_teach_10 : decode cL_teach 10 = .ok (.ireturn, 1) := by decide +kernel
set_option maxRecDepth 20000 in
theorem ggL_strip_X4_places : GoodIn wsL_strip wsX4_places := goodIn_ca (goodIn_r _ [5, 6, 7, 8, 9, 10, 4, 11, 12, 13, 14, 15, 16, 17, 18, 19, 106, 107, 108, 109, 110, 111, 112, 113, 114, 115, 116, 117, 118, 119, 120, 121, 122, 123, 124, 125, 126] (by decide +kernel) (by decide +kernel)) (goodIn_sub (fun _ h => List.mem_cons_of_mem _ (List.mem_append_left _ (List.mem_append_right _ h))) (by decide +kernel))
set_option maxRecDepth 20000 in
theorem gL_strip_X4_places : GoodIn wsL_strip (wsV RL 34 RX4 yX4_places wsX4_places) := goodIn_app (goodIn_of _ (by decide +kernel)) ggL_strip_X4_places
set_option maxRecDepth 20000 in
theorem ggL_strip_X4_layers : GoodIn wsL_strip wsX4_layers := goodIn_ca (goodIn_r _ [23, 6, 8, 9, 10, 4, 11, 12, 13, 14, 15, 16, 17, 18, 19, 24, 25, 26, 27, 28, 29, 30, 31, 32, 33, 34, 35, 36, 37, 38, 39, 40, 41, 42, 106, 107, 108, 109, 110, 111, 112, 119, 120, 121, 122, 123, 124, 125, 126, 113, 114, 115, 116, 117, 118] (by decide +kernel) (by decide +kernel)) (goodIn_sub (fun _ h => List.mem_cons_of_mem _ (List.mem_append_left _ (List.mem_append_right _ h))) (by decide +kernel))
set_option maxRecDepth 20000 in
theorem gL_strip_X4_layers : GoodIn wsL_strip (wsV RL 37 RX4 yX4_layers wsX4_layers) := goodIn_app (goodIn_of _ (by decide +kernel)) ggL_strip_X4_layers
set_option maxRecDepth 20000 in
theorem ggL_strip_X4_layersByFollowing : GoodIn wsL_strip wsX4_layersByFollowing := goodIn_ca (goodIn_r _ [46, 47, 48, 49, 50, 51, 31, 32, 33, 8, 9, 10, 4, 11, 12, 13, 14, 15, 16, 17, 18, 19, 52, 53, 54, 55, 56, 57, 58, 59, 60, 61, 62, 63, 64, 65, 66, 67, 68, 69, 70, 71, 119, 120, 121, 122, 123, 124, 125, 126, 106, 107, 108, 109, 110, 111, 112, 127, 128, 129] (by decide +kernel) (by decide +kernel)) (goodIn_sub (fun _ h => List.mem_cons_of_mem _ (List.mem_append_left _ (List.mem_append_right _ h))) (by decide +kernel))
set_option maxRecDepth 20000 in
theorem gL_strip_X4_layersByFollowing : GoodIn wsL_strip (wsV RL 40 RX4 yX4_layersByFollowing wsX4_layersByFollowing) := goodIn_app (goodIn_of _ (by decide +kernel)) ggL_strip_X4_layersByFollowing
set_option maxRecDepth 20000 in
theorem ggL_strip_X4_bears : GoodIn wsL_strip wsX4_bears := goodIn_ca (goodIn_ca (goodIn_r _ [75, 76, 77, 51, 31, 32, 33, 6, 8, 9, 10, 4, 11, 12, 13, 14, 15, 16, 17, 18, 19, 24, 25, 26, 27, 28, 29, 30, 34, 35, 36, 37, 38, 39, 40, 41, 42, 106, 107, 108, 109, 110, 111, 112, 119, 120, 121, 122, 123, 124, 125, 126, 113, 114, 115, 116, 117, 118] (by decide +kernel) (by decide +kernel)) (goodIn_sub (fun _ h => List.mem_cons_of_mem _ (List.mem_append_right _ h)) (by decide +kernel))) (goodIn_sub (fun _ h => List.mem_cons_of_mem _ (List.mem_append_left _ (List.mem_append_right _ h))) (by decide +kernel))
set_option maxRecDepth 20000 in
theorem gL_strip_X4_bears : GoodIn wsL_strip (wsV RL 43 RX4 yX4_bears wsX4_bears) := goodIn_app (goodIn_of _ (by decide +kernel)) ggL_strip_X4_bears
set_option maxRecDepth 20000 in
theorem ggL_strip_X4_steps : GoodIn wsL_strip wsX4_steps := goodIn_ca (goodIn_r _ [81, 82, 8, 9, 10, 4, 11, 12, 13, 14, 15, 16, 17, 18, 19, 106, 107, 108, 109, 110, 111, 112, 119, 120, 121, 122, 123, 124, 125, 126] (by decide +kernel) (by decide +kernel)) (goodIn_sub (fun _ h => List.mem_cons_of_mem _ (List.mem_append_left _ (List.mem_append_right _ h))) (by decide +kernel))
set_option maxRecDepth 20000 in
theorem gL_strip_X4_steps : GoodIn wsL_strip (wsV RL 46 RX4 yX4_steps wsX4_steps) := goodIn_app (goodIn_of _ (by decide +kernel)) ggL_strip_X4_steps
set_option maxRecDepth 20000 in
theorem ggL_strip_X4_placeOf : GoodIn wsL_strip wsX4_placeOf := goodIn_ca (goodIn_r _ [86, 49, 50, 8, 9, 10, 4, 11, 12, 13, 14, 15, 16, 17, 18, 19, 87, 88, 89, 90, 48, 52, 53, 54, 55, 56, 57, 58, 59, 60, 61, 62, 63, 64, 65, 66, 67, 68, 69, 32, 70, 71, 31, 33, 119, 120, 121, 122, 123, 124, 125, 126, 127, 128, 129, 106, 107, 108, 109, 110, 111, 112] (by decide +kernel) (by decide +kernel)) (goodIn_sub (fun _ h => List.mem_cons_of_mem _ (List.mem_append_left _ (List.mem_append_right _ h))) (by decide +kernel))
set_option maxRecDepth 20000 in
theorem gL_strip_X4_placeOf : GoodIn wsL_strip (wsV RL 49 RX4 yX4_placeOf wsX4_placeOf) := goodIn_app (goodIn_of _ (by decide +kernel)) ggL_strip_X4_placeOf
set_option maxRecDepth 20000 in
theorem ggL_strip_X4_cellAt : GoodIn wsL_strip wsX4_cellAt := goodIn_ca (goodIn_r _ [94, 12, 13, 6, 7, 8, 9, 10, 4, 11, 14, 15, 16, 17, 18, 19, 95, 35, 36, 27, 37, 38, 39, 40, 41, 42, 29, 96, 97, 98, 99, 100, 34, 106, 107, 108, 109, 110, 111, 112, 113, 114, 115, 116, 117, 118, 119, 120, 121, 122, 123, 124, 125, 126] (by decide +kernel) (by decide +kernel)) (goodIn_sub (fun _ h => List.mem_cons_of_mem _ (List.mem_append_left _ (List.mem_append_right _ h))) (by decide +kernel))
set_option maxRecDepth 20000 in
theorem gL_strip_X4_cellAt : GoodIn wsL_strip (wsV RL 52 RX4 yX4_cellAt wsX4_cellAt) := goodIn_app (goodIn_of _ (by decide +kernel)) ggL_strip_X4_cellAt
set_option maxRecDepth 20000 in
theorem ggL_strip_X4_isTurned : GoodIn wsL_strip wsX4_isTurned := goodIn_ca (goodIn_r _ [104, 49, 105, 8, 9, 10, 4, 11, 12, 13, 14, 15, 16, 17, 18, 19, 87, 88, 89, 90, 48, 52, 53, 54, 55, 56, 57, 58, 59, 60, 61, 62, 63, 64, 65, 66, 67, 68, 69, 32, 70, 71, 31, 33, 119, 120, 121, 122, 123, 124, 125, 126, 127, 128, 129, 106, 107, 108, 109, 110, 111, 112] (by decide +kernel) (by decide +kernel)) (goodIn_sub (fun _ h => List.mem_cons_of_mem _ (List.mem_append_left _ (List.mem_append_right _ h))) (by decide +kernel))
set_option maxRecDepth 20000 in
theorem gL_strip_X4_isTurned : GoodIn wsL_strip (wsV RL 56 RX4 yX4_isTurned wsX4_isTurned) := goodIn_app (goodIn_of _ (by decide +kernel)) ggL_strip_X4_isTurned
theorem dL_strip_0 : decode cL_strip 0 = .ok (.aload_n 0, 1) := by decide +kernel
theorem dL_strip_1 : decode cL_strip 1 = .ok (.iload_n 1, 1) := by decide +kernel
theorem dL_strip_2 : decode cL_strip 2 = .ok (.invokevirtual 34, 3) := by decide +kernel
theorem dL_strip_5 : decode cL_strip 5 = .ok (.istore_n 3, 1) := by decide +kernel
theorem dL_strip_6 : decode cL_strip 6 = .ok (.aload_n 0, 1) := by decide +kernel
theorem dL_strip_7 : decode cL_strip 7 = .ok (.iload_n 1, 1) := by decide +kernel
theorem dL_strip_8 : decode cL_strip 8 = .ok (.invokevirtual 37, 3) := by decide +kernel
theorem dL_strip_11 : decode cL_strip 11 = .ok (.istore 4, 2) := by decide +kernel
theorem dL_strip_13 : decode cL_strip 13 = .ok (.iload_n 3, 1) := by decide +kernel
theorem dL_strip_14 : decode cL_strip 14 = .ok (.iconst 1, 1) := by decide +kernel
theorem dL_strip_15 : decode cL_strip 15 = .ok (.if_icmp .lt 69, 3) := by decide +kernel
theorem dL_strip_18 : decode cL_strip 18 = .ok (.iload_n 3, 1) := by decide +kernel
theorem dL_strip_19 : decode cL_strip 19 = .ok (.iload_n 2, 1) := by decide +kernel
theorem dL_strip_20 : decode cL_strip 20 = .ok (.if_icmp .gt 64, 3) := by decide +kernel
theorem dL_strip_23 : decode cL_strip 23 = .ok (.iload 4, 2) := by decide +kernel
theorem dL_strip_25 : decode cL_strip 25 = .ok (.aload_n 0, 1) := by decide +kernel
theorem dL_strip_26 : decode cL_strip 26 = .ok (.iload_n 1, 1) := by decide +kernel
theorem dL_strip_27 : decode cL_strip 27 = .ok (.invokevirtual 40, 3) := by decide +kernel
theorem dL_strip_30 : decode cL_strip 30 = .ok (.if_icmp .ne 54, 3) := by decide +kernel
theorem dL_strip_33 : decode cL_strip 33 = .ok (.iload 4, 2) := by decide +kernel
theorem dL_strip_35 : decode cL_strip 35 = .ok (.iload_n 2, 1) := by decide +kernel
theorem dL_strip_36 : decode cL_strip 36 = .ok (.iload_n 3, 1) := by decide +kernel
theorem dL_strip_37 : decode cL_strip 37 = .ok (.iadd, 1) := by decide +kernel
theorem dL_strip_38 : decode cL_strip 38 = .ok (.iconst 1, 1) := by decide +kernel
theorem dL_strip_39 : decode cL_strip 39 = .ok (.isub, 1) := by decide +kernel
theorem dL_strip_40 : decode cL_strip 40 = .ok (.iload_n 3, 1) := by decide +kernel
theorem dL_strip_41 : decode cL_strip 41 = .ok (.idiv, 1) := by decide +kernel
theorem dL_strip_42 : decode cL_strip 42 = .ok (.if_icmp .lt 42, 3) := by decide +kernel
theorem dL_strip_45 : decode cL_strip 45 = .ok (.iload 4, 2) := by decide +kernel
theorem dL_strip_47 : decode cL_strip 47 = .ok (.iload_n 2, 1) := by decide +kernel
theorem dL_strip_48 : decode cL_strip 48 = .ok (.if_icmp .gt 36, 3) := by decide +kernel
theorem dL_strip_51 : decode cL_strip 51 = .ok (.aload_n 0, 1) := by decide +kernel
theorem dL_strip_52 : decode cL_strip 52 = .ok (.iload_n 1, 1) := by decide +kernel
theorem dL_strip_53 : decode cL_strip 53 = .ok (.bipush 20, 2) := by decide +kernel
theorem dL_strip_55 : decode cL_strip 55 = .ok (.invokevirtual 43, 3) := by decide +kernel
theorem dL_strip_58 : decode cL_strip 58 = .ok (.iload 4, 2) := by decide +kernel
theorem dL_strip_60 : decode cL_strip 60 = .ok (.iconst 1, 1) := by decide +kernel
theorem dL_strip_61 : decode cL_strip 61 = .ok (.if_icmp .ne 15, 3) := by decide +kernel
theorem dL_strip_64 : decode cL_strip 64 = .ok (.aload_n 0, 1) := by decide +kernel
theorem dL_strip_65 : decode cL_strip 65 = .ok (.iload_n 1, 1) := by decide +kernel
theorem dL_strip_66 : decode cL_strip 66 = .ok (.invokevirtual 46, 3) := by decide +kernel
theorem dL_strip_69 : decode cL_strip 69 = .ok (.ifCond .ne 7, 3) := by decide +kernel
theorem dL_strip_72 : decode cL_strip 72 = .ok (.iconst 1, 1) := by decide +kernel
theorem dL_strip_73 : decode cL_strip 73 = .ok (.goto 4, 3) := by decide +kernel
theorem dL_strip_76 : decode cL_strip 76 = .ok (.iconst 0, 1) := by decide +kernel
theorem dL_strip_77 : decode cL_strip 77 = .ok (.if_icmp .ne 7, 3) := by decide +kernel
theorem dL_strip_80 : decode cL_strip 80 = .ok (.iconst 1, 1) := by decide +kernel
theorem dL_strip_81 : decode cL_strip 81 = .ok (.goto 4, 3) := by decide +kernel
theorem dL_strip_84 : decode cL_strip 84 = .ok (.iconst 0, 1) := by decide +kernel
theorem dL_strip_85 : decode cL_strip 85 = .ok (.istore 5, 2) := by decide +kernel
theorem dL_strip_87 : decode cL_strip 87 = .ok (.iconst 0, 1) := by decide +kernel
theorem dL_strip_88 : decode cL_strip 88 = .ok (.istore 6, 2) := by decide +kernel
theorem dL_strip_90 : decode cL_strip 90 = .ok (.iconst 0, 1) := by decide +kernel
theorem dL_strip_91 : decode cL_strip 91 = .ok (.istore 7, 2) := by decide +kernel
theorem dL_strip_93 : decode cL_strip 93 = .ok (.iload 7, 2) := by decide +kernel
theorem dL_strip_95 : decode cL_strip 95 = .ok (.iload_n 2, 1) := by decide +kernel
theorem dL_strip_96 : decode cL_strip 96 = .ok (.if_icmp .ge 115, 3) := by decide +kernel
theorem dL_strip_99 : decode cL_strip 99 = .ok (.iload 5, 2) := by decide +kernel
theorem dL_strip_101 : decode cL_strip 101 = .ok (.ifCond .eq 110, 3) := by decide +kernel
theorem dL_strip_104 : decode cL_strip 104 = .ok (.aload_n 0, 1) := by decide +kernel
theorem dL_strip_105 : decode cL_strip 105 = .ok (.iload_n 1, 1) := by decide +kernel
theorem dL_strip_106 : decode cL_strip 106 = .ok (.iload 7, 2) := by decide +kernel
theorem dL_strip_108 : decode cL_strip 108 = .ok (.invokevirtual 49, 3) := by decide +kernel
theorem dL_strip_111 : decode cL_strip 111 = .ok (.istore 8, 2) := by decide +kernel
theorem dL_strip_113 : decode cL_strip 113 = .ok (.iconst 0, 1) := by decide +kernel
theorem dL_strip_114 : decode cL_strip 114 = .ok (.istore 9, 2) := by decide +kernel
theorem dL_strip_116 : decode cL_strip 116 = .ok (.iload 9, 2) := by decide +kernel
theorem dL_strip_118 : decode cL_strip 118 = .ok (.iload 4, 2) := by decide +kernel
theorem dL_strip_120 : decode cL_strip 120 = .ok (.if_icmp .ge 42, 3) := by decide +kernel
theorem dL_strip_123 : decode cL_strip 123 = .ok (.iload 5, 2) := by decide +kernel
theorem dL_strip_125 : decode cL_strip 125 = .ok (.ifCond .eq 37, 3) := by decide +kernel
theorem dL_strip_128 : decode cL_strip 128 = .ok (.aload_n 0, 1) := by decide +kernel
theorem dL_strip_129 : decode cL_strip 129 = .ok (.iload_n 1, 1) := by decide +kernel
theorem dL_strip_130 : decode cL_strip 130 = .ok (.iload 8, 2) := by decide +kernel
theorem dL_strip_132 : decode cL_strip 132 = .ok (.iload 9, 2) := by decide +kernel
theorem dL_strip_134 : decode cL_strip 134 = .ok (.invokevirtual 52, 3) := by decide +kernel
theorem dL_strip_137 : decode cL_strip 137 = .ok (.iload 7, 2) := by decide +kernel
theorem dL_strip_139 : decode cL_strip 139 = .ok (.if_icmp .eq 23, 3) := by decide +kernel
theorem dL_strip_142 : decode cL_strip 142 = .ok (.iinc 9 1, 3) := by decide +kernel
theorem dL_strip_145 : decode cL_strip 145 = .ok (.iload 9, 2) := by decide +kernel
theorem dL_strip_147 : decode cL_strip 147 = .ok (.iload 4, 2) := by decide +kernel
theorem dL_strip_149 : decode cL_strip 149 = .ok (.if_icmp .ge 7, 3) := by decide +kernel
theorem dL_strip_152 : decode cL_strip 152 = .ok (.iconst 1, 1) := by decide +kernel
theorem dL_strip_153 : decode cL_strip 153 = .ok (.goto 4, 3) := by decide +kernel
theorem dL_strip_156 : decode cL_strip 156 = .ok (.iconst 0, 1) := by decide +kernel
theorem dL_strip_157 : decode cL_strip 157 = .ok (.istore 5, 2) := by decide +kernel
theorem dL_strip_159 : decode cL_strip 159 = .ok (.goto (-43), 3) := by decide +kernel
theorem dL_strip_162 : decode cL_strip 162 = .ok (.iload 6, 2) := by decide +kernel
theorem dL_strip_164 : decode cL_strip 164 = .ok (.aload_n 0, 1) := by decide +kernel
theorem dL_strip_165 : decode cL_strip 165 = .ok (.iload_n 1, 1) := by decide +kernel
theorem dL_strip_166 : decode cL_strip 166 = .ok (.iload 7, 2) := by decide +kernel
theorem dL_strip_168 : decode cL_strip 168 = .ok (.invokevirtual 56, 3) := by decide +kernel
theorem dL_strip_171 : decode cL_strip 171 = .ok (.ifCond .eq 7, 3) := by decide +kernel
theorem dL_strip_174 : decode cL_strip 174 = .ok (.iconst 1, 1) := by decide +kernel
theorem dL_strip_175 : decode cL_strip 175 = .ok (.goto 4, 3) := by decide +kernel
theorem dL_strip_178 : decode cL_strip 178 = .ok (.iconst 0, 1) := by decide +kernel
theorem dL_strip_179 : decode cL_strip 179 = .ok (.iadd, 1) := by decide +kernel
theorem dL_strip_180 : decode cL_strip 180 = .ok (.istore 6, 2) := by decide +kernel
theorem dL_strip_182 : decode cL_strip 182 = .ok (.iload 5, 2) := by decide +kernel
theorem dL_strip_184 : decode cL_strip 184 = .ok (.ifCond .eq 18, 3) := by decide +kernel
theorem dL_strip_187 : decode cL_strip 187 = .ok (.iload 8, 2) := by decide +kernel
theorem dL_strip_189 : decode cL_strip 189 = .ok (.ifCond .lt 13, 3) := by decide +kernel
theorem dL_strip_192 : decode cL_strip 192 = .ok (.iload 8, 2) := by decide +kernel
theorem dL_strip_194 : decode cL_strip 194 = .ok (.iload_n 3, 1) := by decide +kernel
theorem dL_strip_195 : decode cL_strip 195 = .ok (.if_icmp .ge 7, 3) := by decide +kernel
theorem dL_strip_198 : decode cL_strip 198 = .ok (.iconst 1, 1) := by decide +kernel
theorem dL_strip_199 : decode cL_strip 199 = .ok (.goto 4, 3) := by decide +kernel
theorem dL_strip_202 : decode cL_strip 202 = .ok (.iconst 0, 1) := by decide +kernel
theorem dL_strip_203 : decode cL_strip 203 = .ok (.istore 5, 2) := by decide +kernel
theorem dL_strip_205 : decode cL_strip 205 = .ok (.iinc 7 1, 3) := by decide +kernel
theorem dL_strip_208 : decode cL_strip 208 = .ok (.goto (-115), 3) := by decide +kernel
theorem dL_strip_211 : decode cL_strip 211 = .ok (.iload 5, 2) := by decide +kernel
theorem dL_strip_213 : decode cL_strip 213 = .ok (.ifCond .eq 20, 3) := by decide +kernel
theorem dL_strip_216 : decode cL_strip 216 = .ok (.aload_n 0, 1) := by decide +kernel
theorem dL_strip_217 : decode cL_strip 217 = .ok (.iload_n 1, 1) := by decide +kernel
theorem dL_strip_218 : decode cL_strip 218 = .ok (.invokevirtual 46, 3) := by decide +kernel
theorem dL_strip_221 : decode cL_strip 221 = .ok (.ifCond .gt 8, 3) := by decide +kernel
theorem dL_strip_224 : decode cL_strip 224 = .ok (.iload 6, 2) := by decide +kernel
theorem dL_strip_226 : decode cL_strip 226 = .ok (.ifCond .ne 7, 3) := by decide +kernel
theorem dL_strip_229 : decode cL_strip 229 = .ok (.iconst 1, 1) := by decide +kernel
theorem dL_strip_230 : decode cL_strip 230 = .ok (.goto 4, 3) := by decide +kernel
theorem dL_strip_233 : decode cL_strip 233 = .ok (.iconst 0, 1) := by decide +kernel
theorem dL_strip_234 : decode cL_strip 234 = .ok (.ireturn, 1) := by decide +kernel
set_option maxRecDepth 20000 in
theorem ggL_school_X4_lessons : GoodIn wsL_school wsX4_lessons := goodIn_ca (goodIn_r _ [5, 6, 7, 8, 9, 10, 4, 11, 12, 13, 14, 15, 16, 17, 18, 19, 20, 21, 22, 23, 24, 25, 26, 27, 28, 29, 30, 31, 32, 33, 34, 35, 36, 37, 38, 39, 40, 41, 42, 43, 44, 45, 46, 47, 48, 49, 50, 51, 52, 64, 65, 66, 67, 68, 69, 70, 71, 72, 73, 74, 75, 76, 77, 78] (by decide +kernel) (by decide +kernel)) (goodIn_sub (fun _ h => List.mem_cons_of_mem _ (List.mem_append_right _ h)) (by decide +kernel))
set_option maxRecDepth 20000 in
theorem gL_school_X4_lessons : GoodIn wsL_school (wsV RL 59 RX4 yX4_lessons wsX4_lessons) := goodIn_app (goodIn_of _ (by decide +kernel)) ggL_school_X4_lessons
set_option maxRecDepth 20000 in
theorem ggL_school_X4_mayFold : GoodIn wsL_school wsX4_mayFold := goodIn_ca (goodIn_r _ [56, 6, 8, 9, 10, 4, 11, 12, 13, 14, 15, 16, 17, 18, 19, 20, 21, 22, 23, 24, 25, 26, 27, 28, 29, 30, 31, 32, 33, 34, 35, 36, 37, 38, 39, 40, 41, 42, 43, 44, 45, 57, 58, 59, 64, 65, 66, 67, 68, 69, 70, 71, 72, 73, 74, 75, 76, 77, 78] (by decide +kernel) (by decide +kernel)) (goodIn_sub (fun _ h => List.mem_cons_of_mem _ (List.mem_append_right _ h)) (by decide +kernel))
set_option maxRecDepth 20000 in
theorem gL_school_X4_mayFold : GoodIn wsL_school (wsV RL 62 RX4 yX4_mayFold wsX4_mayFold) := goodIn_app (goodIn_of _ (by decide +kernel)) ggL_school_X4_mayFold
set_option maxRecDepth 20000 in
theorem ggL_school_X4_kindsOf : GoodIn wsL_school wsX4_kindsOf := goodIn_ca (goodIn_r _ [63, 14, 15, 16, 4, 17, 12, 13, 18, 19, 20, 21, 22, 23, 24, 25, 26, 27, 28, 29, 30, 31, 32, 33, 34, 35, 36, 37, 38, 39, 40, 41, 42, 43, 44, 45, 64, 65, 66, 67, 68, 69, 70, 71, 72, 73, 74, 75, 76, 77, 78] (by decide +kernel) (by decide +kernel)) (goodIn_sub (fun _ h => List.mem_cons_of_mem _ (List.mem_append_right _ h)) (by decide +kernel))
set_option maxRecDepth 20000 in
theorem gL_school_X4_kindsOf : GoodIn wsL_school (wsV RL 65 RX4 yX4_kindsOf wsX4_kindsOf) := goodIn_app (goodIn_of _ (by decide +kernel)) ggL_school_X4_kindsOf
theorem dL_school_0 : decode cL_school 0 = .ok (.aload_n 0, 1) := by decide +kernel
theorem dL_school_1 : decode cL_school 1 = .ok (.iload_n 1, 1) := by decide +kernel
theorem dL_school_2 : decode cL_school 2 = .ok (.iload_n 2, 1) := by decide +kernel
theorem dL_school_3 : decode cL_school 3 = .ok (.invokevirtual 59, 3) := by decide +kernel
theorem dL_school_6 : decode cL_school 6 = .ok (.istore_n 3, 1) := by decide +kernel
theorem dL_school_7 : decode cL_school 7 = .ok (.aload_n 0, 1) := by decide +kernel
theorem dL_school_8 : decode cL_school 8 = .ok (.iload_n 1, 1) := by decide +kernel
theorem dL_school_9 : decode cL_school 9 = .ok (.iload_n 2, 1) := by decide +kernel
theorem dL_school_10 : decode cL_school 10 = .ok (.invokevirtual 62, 3) := by decide +kernel
theorem dL_school_13 : decode cL_school 13 = .ok (.iload_n 3, 1) := by decide +kernel
theorem dL_school_14 : decode cL_school 14 = .ok (.ifCond .ne 7, 3) := by decide +kernel
theorem dL_school_17 : decode cL_school 17 = .ok (.iconst 1, 1) := by decide +kernel
theorem dL_school_18 : decode cL_school 18 = .ok (.goto 4, 3) := by decide +kernel
theorem dL_school_21 : decode cL_school 21 = .ok (.iconst 0, 1) := by decide +kernel
theorem dL_school_22 : decode cL_school 22 = .ok (.if_icmp .ne 48, 3) := by decide +kernel
theorem dL_school_25 : decode cL_school 25 = .ok (.iload_n 3, 1) := by decide +kernel
theorem dL_school_26 : decode cL_school 26 = .ok (.ifCond .lt 44, 3) := by decide +kernel
theorem dL_school_29 : decode cL_school 29 = .ok (.iload_n 3, 1) := by decide +kernel
theorem dL_school_30 : decode cL_school 30 = .ok (.bipush 8, 2) := by decide +kernel
theorem dL_school_32 : decode cL_school 32 = .ok (.if_icmp .gt 38, 3) := by decide +kernel
theorem dL_school_35 : decode cL_school 35 = .ok (.aload_n 0, 1) := by decide +kernel
theorem dL_school_36 : decode cL_school 36 = .ok (.iload_n 2, 1) := by decide +kernel
theorem dL_school_37 : decode cL_school 37 = .ok (.invokevirtual 65, 3) := by decide +kernel
theorem dL_school_40 : decode cL_school 40 = .ok (.ifCond .lt 30, 3) := by decide +kernel
theorem dL_school_43 : decode cL_school 43 = .ok (.aload_n 0, 1) := by decide +kernel
theorem dL_school_44 : decode cL_school 44 = .ok (.iload_n 2, 1) := by decide +kernel
theorem dL_school_45 : decode cL_school 45 = .ok (.invokevirtual 65, 3) := by decide +kernel
theorem dL_school_48 : decode cL_school 48 = .ok (.sipush 255, 3) := by decide +kernel
theorem dL_school_51 : decode cL_school 51 = .ok (.if_icmp .gt 19, 3) := by decide +kernel
theorem dL_school_54 : decode cL_school 54 = .ok (.aload_n 0, 1) := by decide +kernel
theorem dL_school_55 : decode cL_school 55 = .ok (.iload_n 2, 1) := by decide +kernel
theorem dL_school_56 : decode cL_school 56 = .ok (.invokevirtual 65, 3) := by decide +kernel
theorem dL_school_59 : decode cL_school 59 = .ok (.ifCond .ne 7, 3) := by decide +kernel
theorem dL_school_62 : decode cL_school 62 = .ok (.iload_n 3, 1) := by decide +kernel
theorem dL_school_63 : decode cL_school 63 = .ok (.ifCond .ne 7, 3) := by decide +kernel
theorem dL_school_66 : decode cL_school 66 = .ok (.iconst 1, 1) := by decide +kernel
theorem dL_school_67 : decode cL_school 67 = .ok (.goto 4, 3) := by decide +kernel
theorem dL_school_70 : decode cL_school 70 = .ok (.iconst 0, 1) := by decide +kernel
theorem dL_school_71 : decode cL_school 71 = .ok (.ireturn, 1) := by decide +kernel
set_option maxRecDepth 20000 in
theorem ggL_mill_X4_fewestPieces : GoodIn wsL_mill wsX4_fewestPieces := goodIn_r _ [5, 6, 7, 8, 9, 10, 11, 12, 13, 14, 15, 16, 17, 18, 19, 20, 21, 22, 23, 24, 25, 26, 27, 4, 28, 51, 52, 53, 54, 55, 56, 57, 58, 59, 60, 61, 62] (by decide +kernel) (by decide +kernel)
set_option maxRecDepth 20000 in
theorem gL_mill_X4_fewestPieces : GoodIn wsL_mill (wsV RL 68 RX4 yX4_fewestPieces wsX4_fewestPieces) := goodIn_app (goodIn_of _ (by decide +kernel)) ggL_mill_X4_fewestPieces
set_option maxRecDepth 20000 in
theorem ggL_mill_X4_leastRest : GoodIn wsL_mill wsX4_leastRest := goodIn_r _ [32, 6, 33, 34, 35, 10, 36, 13, 12, 14, 15, 16, 17, 18, 19, 20, 21, 22, 23, 24, 25, 26, 27, 4, 28, 51, 52, 53, 54, 55, 56, 57, 58, 59, 60, 61, 62] (by decide +kernel) (by decide +kernel)
set_option maxRecDepth 20000 in
theorem gL_mill_X4_leastRest : GoodIn wsL_mill (wsV RL 72 RX4 yX4_leastRest wsX4_leastRest) := goodIn_app (goodIn_of _ (by decide +kernel)) ggL_mill_X4_leastRest
set_option maxRecDepth 20000 in
theorem ggL_mill_X4_ways : GoodIn wsL_mill wsX4_ways := goodIn_r _ [40, 6, 41, 42, 43, 10, 44, 45, 13, 22, 23, 24, 25, 26, 27, 4, 28, 46, 47, 48, 49, 50, 51, 52, 53, 54, 55, 56, 57, 58, 59, 60, 61, 62] (by decide +kernel) (by decide +kernel)
set_option maxRecDepth 20000 in
theorem gL_mill_X4_ways : GoodIn wsL_mill (wsV RL 75 RX4 yX4_ways wsX4_ways) := goodIn_app (goodIn_of _ (by decide +kernel)) ggL_mill_X4_ways
theorem dL_mill_0 : decode cL_mill 0 = .ok (.aload_n 0, 1) := by decide +kernel
theorem dL_mill_1 : decode cL_mill 1 = .ok (.invokevirtual 68, 3) := by decide +kernel
theorem dL_mill_4 : decode cL_mill 4 = .ok (.istore_n 2, 1) := by decide +kernel
theorem dL_mill_5 : decode cL_mill 5 = .ok (.aload_n 0, 1) := by decide +kernel
theorem dL_mill_6 : decode cL_mill 6 = .ok (.invokevirtual 72, 3) := by decide +kernel
theorem dL_mill_9 : decode cL_mill 9 = .ok (.istore_n 3, 1) := by decide +kernel
theorem dL_mill_10 : decode cL_mill 10 = .ok (.iload_n 2, 1) := by decide +kernel
theorem dL_mill_11 : decode cL_mill 11 = .ok (.iconst (-1), 1) := by decide +kernel
theorem dL_mill_12 : decode cL_mill 12 = .ok (.if_icmp .ne 7, 3) := by decide +kernel
theorem dL_mill_15 : decode cL_mill 15 = .ok (.iconst 1, 1) := by decide +kernel
theorem dL_mill_16 : decode cL_mill 16 = .ok (.goto 4, 3) := by decide +kernel
theorem dL_mill_19 : decode cL_mill 19 = .ok (.iconst 0, 1) := by decide +kernel
theorem dL_mill_20 : decode cL_mill 20 = .ok (.iload_n 3, 1) := by decide +kernel
theorem dL_mill_21 : decode cL_mill 21 = .ok (.ifCond .le 7, 3) := by decide +kernel
theorem dL_mill_24 : decode cL_mill 24 = .ok (.iconst 1, 1) := by decide +kernel
theorem dL_mill_25 : decode cL_mill 25 = .ok (.goto 4, 3) := by decide +kernel
theorem dL_mill_28 : decode cL_mill 28 = .ok (.iconst 0, 1) := by decide +kernel
theorem dL_mill_29 : decode cL_mill 29 = .ok (.if_icmp .ne 45, 3) := by decide +kernel
theorem dL_mill_32 : decode cL_mill 32 = .ok (.iload_n 3, 1) := by decide +kernel
theorem dL_mill_33 : decode cL_mill 33 = .ok (.iload_n 1, 1) := by decide +kernel
theorem dL_mill_34 : decode cL_mill 34 = .ok (.if_icmp .gt 40, 3) := by decide +kernel
theorem dL_mill_37 : decode cL_mill 37 = .ok (.iload_n 2, 1) := by decide +kernel
theorem dL_mill_38 : decode cL_mill 38 = .ok (.iload_n 1, 1) := by decide +kernel
theorem dL_mill_39 : decode cL_mill 39 = .ok (.if_icmp .gt 35, 3) := by decide +kernel
theorem dL_mill_42 : decode cL_mill 42 = .ok (.iload_n 2, 1) := by decide +kernel
theorem dL_mill_43 : decode cL_mill 43 = .ok (.iconst (-1), 1) := by decide +kernel
theorem dL_mill_44 : decode cL_mill 44 = .ok (.if_icmp .ne 10, 3) := by decide +kernel
theorem dL_mill_47 : decode cL_mill 47 = .ok (.aload_n 0, 1) := by decide +kernel
theorem dL_mill_48 : decode cL_mill 48 = .ok (.invokevirtual 75, 3) := by decide +kernel
theorem dL_mill_51 : decode cL_mill 51 = .ok (.ifCond .ne 23, 3) := by decide +kernel
theorem dL_mill_54 : decode cL_mill 54 = .ok (.iload_n 1, 1) := by decide +kernel
theorem dL_mill_55 : decode cL_mill 55 = .ok (.ifCond .gt 15, 3) := by decide +kernel
theorem dL_mill_58 : decode cL_mill 58 = .ok (.iload_n 2, 1) := by decide +kernel
theorem dL_mill_59 : decode cL_mill 59 = .ok (.ifCond .ne 15, 3) := by decide +kernel
theorem dL_mill_62 : decode cL_mill 62 = .ok (.aload_n 0, 1) := by decide +kernel
theorem dL_mill_63 : decode cL_mill 63 = .ok (.invokevirtual 75, 3) := by decide +kernel
theorem dL_mill_66 : decode cL_mill 66 = .ok (.iconst 1, 1) := by decide +kernel
theorem dL_mill_67 : decode cL_mill 67 = .ok (.if_icmp .ne 7, 3) := by decide +kernel
theorem dL_mill_70 : decode cL_mill 70 = .ok (.iconst 1, 1) := by decide +kernel
theorem dL_mill_71 : decode cL_mill 71 = .ok (.goto 4, 3) := by decide +kernel
theorem dL_mill_74 : decode cL_mill 74 = .ok (.iconst 0, 1) := by decide +kernel
theorem dL_mill_75 : decode cL_mill 75 = .ok (.ireturn, 1) := by decide +kernel
set_option maxRecDepth 20000 in
theorem ggL_law_X4_init : GoodIn wsL_law wsX4_init := goodIn_r _ [7, 8, 9, 10, 3, 11, 12, 13, 14, 15, 16, 17, 18, 19, 20, 21, 22, 23, 24, 25, 26, 27, 28, 29, 30, 31, 32, 33, 34, 35, 36, 37, 38, 364, 365, 366, 367, 368, 369, 370, 371, 372, 373, 374, 375, 376, 377, 378] (by decide +kernel) (by decide +kernel)
set_option maxRecDepth 20000 in
theorem gL_law_X4_init : GoodIn wsL_law (wsX4_init) := ggL_law_X4_init
set_option maxRecDepth 20000 in
theorem ggL_law_L_mill : GoodIn wsL_law wsL_mill := goodIn_r _ [42, 43, 44, 45, 2, 46, 25, 47, 48, 49, 24, 50, 37, 35, 51, 52, 53, 54, 55, 56, 57, 58, 59, 60, 61, 62, 36, 63, 64, 65, 66, 67, 68, 69, 70, 71, 72, 73, 74, 75, 76, 77, 78, 79, 80, 38, 81, 82, 83, 84, 85, 364, 365, 366, 367, 368, 369, 370, 371, 375, 376, 377, 378] (by decide +kernel) (by decide +kernel)
set_option maxRecDepth 20000 in
theorem gL_law_L_mill : GoodIn wsL_law (va_wsS RL 79 yL_mill wsL_mill) := goodIn_app (goodIn_of _ (by decide +kernel)) ggL_law_L_mill
set_option maxRecDepth 20000 in
theorem ggL_law_X4_models : GoodIn wsL_law wsX4_models := goodIn_r _ [89, 16, 364, 365, 366, 367, 368, 369, 370, 371] (by decide +kernel) (by decide +kernel)
set_option maxRecDepth 20000 in
theorem gL_law_X4_models : GoodIn wsL_law (wsV RL 85 RX4 yX4_models wsX4_models) := goodIn_app (goodIn_of _ (by decide +kernel)) ggL_law_X4_models
set_option maxRecDepth 20000 in
theorem ggL_law_X4_credit : GoodIn wsL_law wsX4_credit := goodIn_ca (goodIn_r _ [93, 16, 94, 95, 96, 2, 97, 98, 99, 100, 101, 102, 103, 104, 105, 106, 107, 108, 14, 109, 110, 111, 112, 113, 63, 64, 114, 115, 116, 117, 15, 118, 119, 120, 364, 365, 366, 367, 368, 369, 370, 371, 379, 380, 381, 382, 383, 384, 385] (by decide +kernel) (by decide +kernel)) (goodIn_sub (fun _ h => List.mem_append_left _ (List.mem_append_left _ (List.mem_append_right _ h))) (by decide +kernel))
set_option maxRecDepth 20000 in
theorem gL_law_X4_credit : GoodIn wsL_law (wsV RL 88 RX4 yX4_credit wsX4_credit) := goodIn_app (goodIn_of _ (by decide +kernel)) ggL_law_X4_credit
set_option maxRecDepth 20000 in
theorem ggL_law_L_cell : GoodIn wsL_law wsL_cell := goodIn_r _ [123, 124] (by decide +kernel) (by decide +kernel)
set_option maxRecDepth 20000 in
theorem gL_law_L_cell : GoodIn wsL_law (va_wsS RL 91 yL_cell wsL_cell) := goodIn_app (goodIn_of _ (by decide +kernel)) ggL_law_L_cell
set_option maxRecDepth 20000 in
theorem ggL_law_L_low : GoodIn wsL_law wsL_low := goodIn_r _ [127, 128] (by decide +kernel) (by decide +kernel)
set_option maxRecDepth 20000 in
theorem gL_law_L_low : GoodIn wsL_law (va_wsS RL 95 yL_low wsL_low) := goodIn_app (goodIn_of _ (by decide +kernel)) ggL_law_L_low
set_option maxRecDepth 20000 in
theorem ggL_law_X4_addModel : GoodIn wsL_law wsX4_addModel := goodIn_ca (goodIn_ca (goodIn_ca (goodIn_r _ [132, 133, 134, 135, 136, 16, 14, 13, 137, 138, 94, 95, 96, 2, 97, 98, 99, 139, 140, 141, 142, 9, 10, 3, 143, 144, 145, 146, 147, 148, 149, 150, 151, 152, 153, 154, 155, 156, 157, 158, 159, 160, 161, 162, 163, 164, 165, 166, 167, 168, 169, 170, 171, 172, 173, 364, 365, 366, 367, 368, 369, 370, 371, 379, 380, 381, 382, 383, 384, 385, 386, 387, 388, 389, 390, 391] (by decide +kernel) (by decide +kernel)) (goodIn_sub (fun _ h => List.mem_append_left _ (List.mem_append_right _ h)) (by decide +kernel))) (goodIn_sub (fun _ h => List.mem_append_right _ h) (by decide +kernel))) (goodIn_sub (fun _ h => List.mem_append_left _ (List.mem_append_left _ (List.mem_append_right _ h))) (by decide +kernel))
set_option maxRecDepth 20000 in
theorem gL_law_X4_addModel : GoodIn wsL_law (wsV RL 98 RX4 yX4_addModel wsX4_addModel) := goodIn_app (goodIn_of _ (by decide +kernel)) ggL_law_X4_addModel
set_option maxRecDepth 20000 in
theorem ggL_law_X4_places : GoodIn wsL_law wsX4_places := goodIn_ca (goodIn_r _ [177, 178, 179, 105, 106, 107, 2, 108, 98, 99, 14, 109, 110, 111, 112, 16, 379, 380, 381, 382, 383, 384, 385, 386, 387, 388, 389, 390, 391, 364, 365, 366, 367, 368, 369, 370, 371] (by decide +kernel) (by decide +kernel)) (goodIn_sub (fun _ h => List.mem_append_left _ (List.mem_append_left _ (List.mem_append_right _ h))) (by decide +kernel))
set_option maxRecDepth 20000 in
theorem gL_law_X4_places : GoodIn wsL_law (wsV RL 34 RX4 yX4_places wsX4_places) := goodIn_app (goodIn_of _ (by decide +kernel)) ggL_law_X4_places
set_option maxRecDepth 20000 in
theorem ggL_law_L_fold : GoodIn wsL_law wsL_fold := goodIn_ca (goodIn_ca (goodIn_ca (goodIn_r _ [182, 183, 184, 185, 186, 2, 187, 133, 134, 135, 136, 178, 179, 188, 11, 105, 106, 107, 108, 98, 99, 14, 109, 110, 111, 112, 16, 189, 190, 191, 192, 193, 194, 195, 138, 196, 147, 143, 197, 198, 199, 200, 201, 202, 203, 144, 146, 153, 204, 205, 206, 152, 207, 162, 167, 168, 169, 170, 171, 172, 173, 161, 160, 208, 209, 210, 211, 158, 212, 213, 214, 215, 216, 217, 218, 219, 157, 159, 220, 221, 222, 223, 224, 225, 226, 227, 379, 380, 381, 382, 383, 384, 385, 386, 387, 388, 389, 390, 391, 364, 365, 366, 367, 368, 369, 370, 371] (by decide +kernel) (by decide +kernel)) (goodIn_sub (fun _ h => List.mem_append_left _ (List.mem_append_right _ h)) (by decide +kernel))) (goodIn_sub (fun _ h => List.mem_append_right _ h) (by decide +kernel))) (goodIn_sub (fun _ h => List.mem_append_left _ (List.mem_append_left _ (List.mem_append_right _ h))) (by decide +kernel))
set_option maxRecDepth 20000 in
theorem gL_law_L_fold : GoodIn wsL_law (va_wsS RL 101 yL_fold wsL_fold) := goodIn_app (goodIn_of _ (by decide +kernel)) ggL_law_L_fold
set_option maxRecDepth 20000 in
theorem ggL_law_X4_kindsOf : GoodIn wsL_law wsX4_kindsOf := goodIn_ca (goodIn_r _ [231, 109, 110, 111, 2, 112, 98, 99, 16, 232, 233, 234, 235, 114, 115, 116, 117, 15, 118, 119, 120, 113, 63, 64, 105, 106, 107, 108, 14, 193, 194, 195, 138, 196, 147, 143, 364, 365, 366, 367, 368, 369, 370, 371, 379, 380, 381, 382, 383, 384, 385] (by decide +kernel) (by decide +kernel)) (goodIn_sub (fun _ h => List.mem_append_left _ (List.mem_append_left _ (List.mem_append_right _ h))) (by decide +kernel))
set_option maxRecDepth 20000 in
theorem gL_law_X4_kindsOf : GoodIn wsL_law (wsV RL 65 RX4 yX4_kindsOf wsX4_kindsOf) := goodIn_app (goodIn_of _ (by decide +kernel)) ggL_law_X4_kindsOf
set_option maxRecDepth 20000 in
theorem ggL_law_X4_steps : GoodIn wsL_law wsX4_steps := goodIn_ca (goodIn_r _ [239, 188, 105, 106, 107, 2, 108, 98, 99, 14, 109, 110, 111, 112, 16, 379, 380, 381, 382, 383, 384, 385, 364, 365, 366, 367, 368, 369, 370, 371] (by decide +kernel) (by decide +kernel)) (goodIn_sub (fun _ h => List.mem_append_left _ (List.mem_append_left _ (List.mem_append_right _ h))) (by decide +kernel))
set_option maxRecDepth 20000 in
theorem gL_law_X4_steps : GoodIn wsL_law (wsV RL 46 RX4 yX4_steps wsX4_steps) := goodIn_app (goodIn_of _ (by decide +kernel)) ggL_law_X4_steps
set_option maxRecDepth 20000 in
theorem ggL_law_L_unfold : GoodIn wsL_law wsL_unfold := goodIn_ca (goodIn_ca (goodIn_r _ [242, 183, 243, 244, 245, 2, 246, 135, 136, 188, 105, 106, 107, 108, 98, 99, 14, 109, 110, 111, 112, 16, 247, 248, 249, 138, 250, 147, 153, 149, 144, 146, 143, 163, 164, 165, 152, 166, 167, 168, 169, 170, 171, 172, 173, 162, 157, 158, 204, 205, 206, 207, 161, 160, 208, 209, 210, 211, 212, 213, 214, 215, 216, 217, 218, 219, 159, 220, 221, 222, 223, 224, 225, 226, 227, 379, 380, 381, 382, 383, 384, 385, 364, 365, 366, 367, 368, 369, 370, 371, 386, 387, 388, 389, 390, 391] (by decide +kernel) (by decide +kernel)) (goodIn_sub (fun _ h => List.mem_append_right _ h) (by decide +kernel))) (goodIn_sub (fun _ h => List.mem_append_left _ (List.mem_append_left _ (List.mem_append_right _ h))) (by decide +kernel))
set_option maxRecDepth 20000 in
theorem gL_law_L_unfold : GoodIn wsL_law (va_wsS RL 104 yL_unfold wsL_unfold) := goodIn_app (goodIn_of _ (by decide +kernel)) ggL_law_L_unfold
set_option maxRecDepth 20000 in
theorem ggL_law_L_needs : GoodIn wsL_law wsL_needs := goodIn_ca (goodIn_ca (goodIn_r _ [253, 254, 255, 256, 257, 2, 258, 133, 134, 11, 189, 190, 191, 192, 98, 99, 118, 119, 120, 113, 63, 64, 364, 365, 366, 367, 368, 369, 370, 371] (by decide +kernel) (by decide +kernel)) (goodIn_sub (fun _ h => List.mem_append_left _ (List.mem_append_right _ h)) (by decide +kernel))) (goodIn_sub (fun _ h => List.mem_append_left _ (List.mem_append_left _ (List.mem_append_right _ h))) (by decide +kernel))
set_option maxRecDepth 20000 in
theorem gL_law_L_needs : GoodIn wsL_law (va_wsS RL 107 yL_needs wsL_needs) := goodIn_app (goodIn_of _ (by decide +kernel)) ggL_law_L_needs
set_option maxRecDepth 20000 in
theorem ggL_law_L_use : GoodIn wsL_law wsL_use := goodIn_ca (goodIn_ca (goodIn_r _ [261, 254, 262, 263, 264, 2, 265, 133, 134, 15, 109, 110, 111, 112, 98, 99, 16, 114, 115, 116, 117, 118, 119, 120, 113, 63, 64, 364, 365, 366, 367, 368, 369, 370, 371] (by decide +kernel) (by decide +kernel)) (goodIn_sub (fun _ h => List.mem_append_left _ (List.mem_append_right _ h)) (by decide +kernel))) (goodIn_sub (fun _ h => List.mem_append_left _ (List.mem_append_left _ (List.mem_append_right _ h))) (by decide +kernel))
set_option maxRecDepth 20000 in
theorem gL_law_L_use : GoodIn wsL_law (va_wsS RL 111 yL_use wsL_use) := goodIn_app (goodIn_of _ (by decide +kernel)) ggL_law_L_use
set_option maxRecDepth 20000 in
theorem ggL_law_L_teach : GoodIn wsL_law wsL_teach := goodIn_ca (goodIn_ca (goodIn_r _ [268, 183, 269, 270, 271, 2, 272, 135, 136, 12, 11, 273, 274, 275, 276, 98, 99, 189, 190, 191, 192, 197, 198, 199, 277, 278, 279, 280, 281, 282, 283, 364, 365, 366, 367, 368, 369, 370, 371] (by decide +kernel) (by decide +kernel)) (goodIn_sub (fun _ h => List.mem_append_right _ h) (by decide +kernel))) (goodIn_sub (fun _ h => List.mem_append_left _ (List.mem_append_left _ (List.mem_append_right _ h))) (by decide +kernel))
set_option maxRecDepth 20000 in
theorem gL_law_L_teach : GoodIn wsL_law (va_wsS RL 113 yL_teach wsL_teach) := goodIn_app (goodIn_of _ (by decide +kernel)) ggL_law_L_teach
set_option maxRecDepth 20000 in
theorem ggL_law_X4_setRoll : GoodIn wsL_law wsX4_setRoll := goodIn_ca (goodIn_r _ [287, 133, 134, 288, 25, 289, 290, 364, 365, 366, 367, 368, 369, 370, 371, 375, 376, 377, 378] (by decide +kernel) (by decide +kernel)) (goodIn_sub (fun _ h => List.mem_append_left _ (List.mem_append_right _ h)) (by decide +kernel))
set_option maxRecDepth 20000 in
theorem gL_law_X4_setRoll : GoodIn wsL_law (wsV RL 116 RX4 yX4_setRoll wsX4_setRoll) := goodIn_app (goodIn_of _ (by decide +kernel)) ggL_law_X4_setRoll
set_option maxRecDepth 20000 in
theorem ggL_law_L_school : GoodIn wsL_law wsL_school := goodIn_ca (goodIn_r _ [293, 294, 295, 296, 2, 297, 12, 11, 273, 274, 275, 276, 98, 99, 109, 110, 111, 112, 16, 232, 233, 234, 235, 114, 115, 116, 117, 15, 118, 119, 120, 113, 63, 64, 105, 106, 107, 108, 14, 193, 194, 195, 138, 196, 147, 143, 277, 278, 279, 280, 281, 282, 283, 298, 299, 300, 301, 197, 198, 199, 228, 229, 230, 231, 364, 365, 366, 367, 368, 369, 370, 371, 379, 380, 381, 382, 383, 384, 385] (by decide +kernel) (by decide +kernel)) (goodIn_sub (fun _ h => List.mem_append_left _ (List.mem_append_left _ (List.mem_append_right _ h))) (by decide +kernel))
set_option maxRecDepth 20000 in
theorem gL_law_L_school : GoodIn wsL_law (va_wsS RL 119 yL_school wsL_school) := goodIn_app (goodIn_of _ (by decide +kernel)) ggL_law_L_school
set_option maxRecDepth 20000 in
theorem ggL_law_L_strip : GoodIn wsL_law wsL_strip := goodIn_ca (goodIn_ca (goodIn_r _ [304, 174, 175, 176, 2, 177, 178, 179, 105, 106, 107, 108, 98, 99, 14, 109, 110, 111, 112, 16, 305, 306, 307, 308, 309, 310, 311, 152, 312, 162, 171, 172, 169, 173, 313, 314, 315, 316, 158, 212, 213, 214, 215, 317, 318, 319, 320, 21, 321, 20, 322, 323, 324, 325, 326, 19, 327, 29, 30, 328, 31, 329, 330, 331, 332, 333, 334, 335, 336, 168, 170, 337, 338, 339, 340, 341, 133, 134, 236, 237, 238, 239, 188, 342, 343, 344, 345, 346, 347, 348, 349, 350, 351, 352, 353, 354, 355, 356, 357, 358, 157, 359, 360, 361, 362, 363, 379, 380, 381, 382, 383, 384, 385, 386, 387, 388, 389, 390, 391, 364, 365, 366, 367, 368, 369, 370, 371, 372, 373, 374] (by decide +kernel) (by decide +kernel)) (goodIn_sub (fun _ h => List.mem_append_left _ (List.mem_append_left _ (List.mem_append_right _ h))) (by decide +kernel))) (goodIn_sub (fun _ h => List.mem_append_left _ (List.mem_append_right _ h)) (by decide +kernel))
set_option maxRecDepth 20000 in
theorem gL_law_L_strip : GoodIn wsL_law (va_wsS RL 123 yL_strip wsL_strip) := goodIn_app (goodIn_of _ (by decide +kernel)) ggL_law_L_strip
theorem dL_law_0 : decode cL_law 0 = .ok (.new 10, 3) := by decide +kernel
theorem dL_law_3 : decode cL_law 3 = .ok (.dup, 1) := by decide +kernel
theorem dL_law_4 : decode cL_law 4 = .ok (.invokespecial 78, 3) := by decide +kernel
theorem dL_law_7 : decode cL_law 7 = .ok (.astore_n 1, 1) := by decide +kernel
theorem dL_law_8 : decode cL_law 8 = .ok (.bipush 8, 2) := by decide +kernel
theorem dL_law_10 : decode cL_law 10 = .ok (.newarray .int, 2) := by decide +kernel
theorem dL_law_12 : decode cL_law 12 = .ok (.astore_n 2, 1) := by decide +kernel
theorem dL_law_13 : decode cL_law 13 = .ok (.iconst 0, 1) := by decide +kernel
theorem dL_law_14 : decode cL_law 14 = .ok (.istore_n 3, 1) := by decide +kernel
theorem dL_law_15 : decode cL_law 15 = .ok (.iconst 0, 1) := by decide +kernel
theorem dL_law_16 : decode cL_law 16 = .ok (.istore 4, 2) := by decide +kernel
theorem dL_law_18 : decode cL_law 18 = .ok (.aload_n 1, 1) := by decide +kernel
theorem dL_law_19 : decode cL_law 19 = .ok (.iconst 0, 1) := by decide +kernel
theorem dL_law_20 : decode cL_law 20 = .ok (.invokestatic 79, 3) := by decide +kernel
theorem dL_law_23 : decode cL_law 23 = .ok (.ifCond .eq 22, 3) := by decide +kernel
theorem dL_law_26 : decode cL_law 26 = .ok (.aload_n 1, 1) := by decide +kernel
theorem dL_law_27 : decode cL_law 27 = .ok (.invokevirtual 85, 3) := by decide +kernel
theorem dL_law_30 : decode cL_law 30 = .ok (.ifCond .ne 15, 3) := by decide +kernel
theorem dL_law_33 : decode cL_law 33 = .ok (.aload_n 1, 1) := by decide +kernel
theorem dL_law_34 : decode cL_law 34 = .ok (.iconst 0, 1) := by decide +kernel
theorem dL_law_35 : decode cL_law 35 = .ok (.invokevirtual 88, 3) := by decide +kernel
theorem dL_law_38 : decode cL_law 38 = .ok (.ifCond .ne 7, 3) := by decide +kernel
theorem dL_law_41 : decode cL_law 41 = .ok (.iconst 1, 1) := by decide +kernel
theorem dL_law_42 : decode cL_law 42 = .ok (.goto 4, 3) := by decide +kernel
theorem dL_law_45 : decode cL_law 45 = .ok (.iconst 0, 1) := by decide +kernel
theorem dL_law_46 : decode cL_law 46 = .ok (.istore 5, 2) := by decide +kernel
theorem dL_law_48 : decode cL_law 48 = .ok (.iconst 5, 1) := by decide +kernel
theorem dL_law_49 : decode cL_law 49 = .ok (.aload_n 0, 1) := by decide +kernel
theorem dL_law_50 : decode cL_law 50 = .ok (.iconst 0, 1) := by decide +kernel
theorem dL_law_51 : decode cL_law 51 = .ok (.invokestatic 91, 3) := by decide +kernel
theorem dL_law_54 : decode cL_law 54 = .ok (.bipush 45, 2) := by decide +kernel
theorem dL_law_56 : decode cL_law 56 = .ok (.invokestatic 95, 3) := by decide +kernel
theorem dL_law_59 : decode cL_law 59 = .ok (.iadd, 1) := by decide +kernel
theorem dL_law_60 : decode cL_law 60 = .ok (.istore 6, 2) := by decide +kernel
theorem dL_law_62 : decode cL_law 62 = .ok (.iconst 0, 1) := by decide +kernel
theorem dL_law_63 : decode cL_law 63 = .ok (.istore 7, 2) := by decide +kernel
theorem dL_law_65 : decode cL_law 65 = .ok (.iload 7, 2) := by decide +kernel
theorem dL_law_67 : decode cL_law 67 = .ok (.iload 6, 2) := by decide +kernel
theorem dL_law_69 : decode cL_law 69 = .ok (.if_icmp .ge 757, 3) := by decide +kernel
theorem dL_law_72 : decode cL_law 72 = .ok (.iload 5, 2) := by decide +kernel
theorem dL_law_74 : decode cL_law 74 = .ok (.ifCond .eq 752, 3) := by decide +kernel
theorem dL_law_77 : decode cL_law 77 = .ok (.aload_n 0, 1) := by decide +kernel
theorem dL_law_78 : decode cL_law 78 = .ok (.iconst 1, 1) := by decide +kernel
theorem dL_law_79 : decode cL_law 79 = .ok (.iload 7, 2) := by decide +kernel
theorem dL_law_81 : decode cL_law 81 = .ok (.iadd, 1) := by decide +kernel
theorem dL_law_82 : decode cL_law 82 = .ok (.invokestatic 91, 3) := by decide +kernel
theorem dL_law_85 : decode cL_law 85 = .ok (.istore 8, 2) := by decide +kernel
theorem dL_law_87 : decode cL_law 87 = .ok (.iload_n 3, 1) := by decide +kernel
theorem dL_law_88 : decode cL_law 88 = .ok (.ifCond .ne 7, 3) := by decide +kernel
theorem dL_law_91 : decode cL_law 91 = .ok (.iconst 0, 1) := by decide +kernel
theorem dL_law_92 : decode cL_law 92 = .ok (.goto 11, 3) := by decide +kernel
theorem dL_law_95 : decode cL_law 95 = .ok (.iload 8, 2) := by decide +kernel
theorem dL_law_97 : decode cL_law 97 = .ok (.iconst 3, 1) := by decide +kernel
theorem dL_law_98 : decode cL_law 98 = .ok (.ishr, 1) := by decide +kernel
theorem dL_law_99 : decode cL_law 99 = .ok (.iload_n 3, 1) := by decide +kernel
theorem dL_law_100 : decode cL_law 100 = .ok (.invokestatic 95, 3) := by decide +kernel
theorem dL_law_103 : decode cL_law 103 = .ok (.istore 9, 2) := by decide +kernel
theorem dL_law_105 : decode cL_law 105 = .ok (.iload_n 3, 1) := by decide +kernel
theorem dL_law_106 : decode cL_law 106 = .ok (.ifCond .ne 7, 3) := by decide +kernel
theorem dL_law_109 : decode cL_law 109 = .ok (.iconst 0, 1) := by decide +kernel
theorem dL_law_110 : decode cL_law 110 = .ok (.goto 12, 3) := by decide +kernel
theorem dL_law_113 : decode cL_law 113 = .ok (.iload 8, 2) := by decide +kernel
theorem dL_law_115 : decode cL_law 115 = .ok (.bipush 6, 2) := by decide +kernel
theorem dL_law_117 : decode cL_law 117 = .ok (.ishr, 1) := by decide +kernel
theorem dL_law_118 : decode cL_law 118 = .ok (.iload_n 3, 1) := by decide +kernel
theorem dL_law_119 : decode cL_law 119 = .ok (.invokestatic 95, 3) := by decide +kernel
theorem dL_law_122 : decode cL_law 122 = .ok (.istore 10, 2) := by decide +kernel
theorem dL_law_124 : decode cL_law 124 = .ok (.iload 8, 2) := by decide +kernel
theorem dL_law_126 : decode cL_law 126 = .ok (.bipush 9, 2) := by decide +kernel
theorem dL_law_128 : decode cL_law 128 = .ok (.ishr, 1) := by decide +kernel
theorem dL_law_129 : decode cL_law 129 = .ok (.bipush 8, 2) := by decide +kernel
theorem dL_law_131 : decode cL_law 131 = .ok (.invokestatic 95, 3) := by decide +kernel
theorem dL_law_134 : decode cL_law 134 = .ok (.istore 11, 2) := by decide +kernel
theorem dL_law_136 : decode cL_law 136 = .ok (.iload 8, 2) := by decide +kernel
theorem dL_law_138 : decode cL_law 138 = .ok (.bipush 12, 2) := by decide +kernel
theorem dL_law_140 : decode cL_law 140 = .ok (.ishr, 1) := by decide +kernel
theorem dL_law_141 : decode cL_law 141 = .ok (.bipush 6, 2) := by decide +kernel
theorem dL_law_143 : decode cL_law 143 = .ok (.invokestatic 95, 3) := by decide +kernel
theorem dL_law_146 : decode cL_law 146 = .ok (.istore 12, 2) := by decide +kernel
theorem dL_law_148 : decode cL_law 148 = .ok (.iload 8, 2) := by decide +kernel
theorem dL_law_150 : decode cL_law 150 = .ok (.bipush 20, 2) := by decide +kernel
theorem dL_law_152 : decode cL_law 152 = .ok (.ishr, 1) := by decide +kernel
theorem dL_law_153 : decode cL_law 153 = .ok (.bipush 16, 2) := by decide +kernel
theorem dL_law_155 : decode cL_law 155 = .ok (.invokestatic 95, 3) := by decide +kernel
theorem dL_law_158 : decode cL_law 158 = .ok (.istore 13, 2) := by decide +kernel
theorem dL_law_160 : decode cL_law 160 = .ok (.iload_n 3, 1) := by decide +kernel
theorem dL_law_161 : decode cL_law 161 = .ok (.ifCond .eq 15, 3) := by decide +kernel
theorem dL_law_164 : decode cL_law 164 = .ok (.iload 13, 2) := by decide +kernel
theorem dL_law_166 : decode cL_law 166 = .ok (.iconst 1, 1) := by decide +kernel
theorem dL_law_167 : decode cL_law 167 = .ok (.if_icmp .ge 82, 3) := by decide +kernel
theorem dL_law_170 : decode cL_law 170 = .ok (.iload_n 3, 1) := by decide +kernel
theorem dL_law_171 : decode cL_law 171 = .ok (.bipush 8, 2) := by decide +kernel
theorem dL_law_173 : decode cL_law 173 = .ok (.if_icmp .ge 76, 3) := by decide +kernel
theorem dL_law_176 : decode cL_law 176 = .ok (.aload_n 2, 1) := by decide +kernel
theorem dL_law_177 : decode cL_law 177 = .ok (.iload_n 3, 1) := by decide +kernel
theorem dL_law_178 : decode cL_law 178 = .ok (.iconst 2, 1) := by decide +kernel
theorem dL_law_179 : decode cL_law 179 = .ok (.iload 8, 2) := by decide +kernel
theorem dL_law_181 : decode cL_law 181 = .ok (.iload 8, 2) := by decide +kernel
theorem dL_law_183 : decode cL_law 183 = .ok (.bipush 17, 2) := by decide +kernel
theorem dL_law_185 : decode cL_law 185 = .ok (.ishr, 1) := by decide +kernel
theorem dL_law_186 : decode cL_law 186 = .ok (.iconst 2, 1) := by decide +kernel
theorem dL_law_187 : decode cL_law 187 = .ok (.invokestatic 95, 3) := by decide +kernel
theorem dL_law_190 : decode cL_law 190 = .ok (.ifCond .ne 8, 3) := by decide +kernel
theorem dL_law_193 : decode cL_law 193 = .ok (.bipush 17, 2) := by decide +kernel
theorem dL_law_195 : decode cL_law 195 = .ok (.goto 5, 3) := by decide +kernel
theorem dL_law_198 : decode cL_law 198 = .ok (.bipush 8, 2) := by decide +kernel
theorem dL_law_200 : decode cL_law 200 = .ok (.invokestatic 95, 3) := by decide +kernel
theorem dL_law_203 : decode cL_law 203 = .ok (.iadd, 1) := by decide +kernel
theorem dL_law_204 : decode cL_law 204 = .ok (.iastore, 1) := by decide +kernel
theorem dL_law_205 : decode cL_law 205 = .ok (.aload_n 1, 1) := by decide +kernel
theorem dL_law_206 : decode cL_law 206 = .ok (.iload 8, 2) := by decide +kernel
theorem dL_law_208 : decode cL_law 208 = .ok (.iconst 5, 1) := by decide +kernel
theorem dL_law_209 : decode cL_law 209 = .ok (.ishr, 1) := by decide +kernel
theorem dL_law_210 : decode cL_law 210 = .ok (.bipush 10, 2) := by decide +kernel
theorem dL_law_212 : decode cL_law 212 = .ok (.invokestatic 95, 3) := by decide +kernel
theorem dL_law_215 : decode cL_law 215 = .ok (.aload_n 2, 1) := by decide +kernel
theorem dL_law_216 : decode cL_law 216 = .ok (.iload_n 3, 1) := by decide +kernel
theorem dL_law_217 : decode cL_law 217 = .ok (.iaload, 1) := by decide +kernel
theorem dL_law_218 : decode cL_law 218 = .ok (.invokevirtual 98, 3) := by decide +kernel
theorem dL_law_221 : decode cL_law 221 = .ok (.iload_n 3, 1) := by decide +kernel
theorem dL_law_222 : decode cL_law 222 = .ok (.if_icmp .ne 18, 3) := by decide +kernel
theorem dL_law_225 : decode cL_law 225 = .ok (.aload_n 1, 1) := by decide +kernel
theorem dL_law_226 : decode cL_law 226 = .ok (.iload_n 3, 1) := by decide +kernel
theorem dL_law_227 : decode cL_law 227 = .ok (.invokevirtual 34, 3) := by decide +kernel
theorem dL_law_230 : decode cL_law 230 = .ok (.aload_n 2, 1) := by decide +kernel
theorem dL_law_231 : decode cL_law 231 = .ok (.iload_n 3, 1) := by decide +kernel
theorem dL_law_232 : decode cL_law 232 = .ok (.iaload, 1) := by decide +kernel
theorem dL_law_233 : decode cL_law 233 = .ok (.if_icmp .ne 7, 3) := by decide +kernel
theorem dL_law_236 : decode cL_law 236 = .ok (.iconst 1, 1) := by decide +kernel
theorem dL_law_237 : decode cL_law 237 = .ok (.goto 4, 3) := by decide +kernel
theorem dL_law_240 : decode cL_law 240 = .ok (.iconst 0, 1) := by decide +kernel
theorem dL_law_241 : decode cL_law 241 = .ok (.istore 5, 2) := by decide +kernel
theorem dL_law_243 : decode cL_law 243 = .ok (.iinc 3 1, 3) := by decide +kernel
theorem dL_law_246 : decode cL_law 246 = .ok (.goto 528, 3) := by decide +kernel
theorem dL_law_249 : decode cL_law 249 = .ok (.iload 13, 2) := by decide +kernel
theorem dL_law_251 : decode cL_law 251 = .ok (.bipush 6, 2) := by decide +kernel
theorem dL_law_253 : decode cL_law 253 = .ok (.if_icmp .ge 169, 3) := by decide +kernel
theorem dL_law_256 : decode cL_law 256 = .ok (.aload_n 1, 1) := by decide +kernel
theorem dL_law_257 : decode cL_law 257 = .ok (.iload 9, 2) := by decide +kernel
theorem dL_law_259 : decode cL_law 259 = .ok (.invokevirtual 34, 3) := by decide +kernel
theorem dL_law_262 : decode cL_law 262 = .ok (.istore 14, 2) := by decide +kernel
theorem dL_law_264 : decode cL_law 264 = .ok (.iload 14, 2) := by decide +kernel
theorem dL_law_266 : decode cL_law 266 = .ok (.iconst 1, 1) := by decide +kernel
theorem dL_law_267 : decode cL_law 267 = .ok (.if_icmp .ne 8, 3) := by decide +kernel
theorem dL_law_270 : decode cL_law 270 = .ok (.bipush (-3), 2) := by decide +kernel
theorem dL_law_272 : decode cL_law 272 = .ok (.goto 38, 3) := by decide +kernel
theorem dL_law_275 : decode cL_law 275 = .ok (.aload_n 1, 1) := by decide +kernel
theorem dL_law_276 : decode cL_law 276 = .ok (.iload 9, 2) := by decide +kernel
theorem dL_law_278 : decode cL_law 278 = .ok (.iload 11, 2) := by decide +kernel
theorem dL_law_280 : decode cL_law 280 = .ok (.iconst 1, 1) := by decide +kernel
theorem dL_law_281 : decode cL_law 281 = .ok (.iload 8, 2) := by decide +kernel
theorem dL_law_283 : decode cL_law 283 = .ok (.iload 14, 2) := by decide +kernel
theorem dL_law_285 : decode cL_law 285 = .ok (.iconst 1, 1) := by decide +kernel
theorem dL_law_286 : decode cL_law 286 = .ok (.isub, 1) := by decide +kernel
theorem dL_law_287 : decode cL_law 287 = .ok (.invokestatic 95, 3) := by decide +kernel
theorem dL_law_290 : decode cL_law 290 = .ok (.iadd, 1) := by decide +kernel
theorem dL_law_291 : decode cL_law 291 = .ok (.iload 8, 2) := by decide +kernel
theorem dL_law_293 : decode cL_law 293 = .ok (.iconst 2, 1) := by decide +kernel
theorem dL_law_294 : decode cL_law 294 = .ok (.ishr, 1) := by decide +kernel
theorem dL_law_295 : decode cL_law 295 = .ok (.iconst 2, 1) := by decide +kernel
theorem dL_law_296 : decode cL_law 296 = .ok (.invokestatic 95, 3) := by decide +kernel
theorem dL_law_299 : decode cL_law 299 = .ok (.ifCond .ne 7, 3) := by decide +kernel
theorem dL_law_302 : decode cL_law 302 = .ok (.iconst 1, 1) := by decide +kernel
theorem dL_law_303 : decode cL_law 303 = .ok (.goto 4, 3) := by decide +kernel
theorem dL_law_306 : decode cL_law 306 = .ok (.iconst 0, 1) := by decide +kernel
theorem dL_law_307 : decode cL_law 307 = .ok (.invokestatic 101, 3) := by decide +kernel
theorem dL_law_310 : decode cL_law 310 = .ok (.istore 15, 2) := by decide +kernel
theorem dL_law_312 : decode cL_law 312 = .ok (.iload 14, 2) := by decide +kernel
theorem dL_law_314 : decode cL_law 314 = .ok (.iconst 1, 1) := by decide +kernel
theorem dL_law_315 : decode cL_law 315 = .ok (.if_icmp .ne 7, 3) := by decide +kernel
theorem dL_law_318 : decode cL_law 318 = .ok (.iconst 0, 1) := by decide +kernel
theorem dL_law_319 : decode cL_law 319 = .ok (.goto 14, 3) := by decide +kernel
theorem dL_law_322 : decode cL_law 322 = .ok (.iconst 1, 1) := by decide +kernel
theorem dL_law_323 : decode cL_law 323 = .ok (.iload 8, 2) := by decide +kernel
theorem dL_law_325 : decode cL_law 325 = .ok (.iload 14, 2) := by decide +kernel
theorem dL_law_327 : decode cL_law 327 = .ok (.iconst 1, 1) := by decide +kernel
theorem dL_law_328 : decode cL_law 328 = .ok (.isub, 1) := by decide +kernel
theorem dL_law_329 : decode cL_law 329 = .ok (.invokestatic 95, 3) := by decide +kernel
theorem dL_law_332 : decode cL_law 332 = .ok (.iadd, 1) := by decide +kernel
theorem dL_law_333 : decode cL_law 333 = .ok (.istore 16, 2) := by decide +kernel
theorem dL_law_335 : decode cL_law 335 = .ok (.iload 15, 2) := by decide +kernel
theorem dL_law_337 : decode cL_law 337 = .ok (.bipush (-3), 2) := by decide +kernel
theorem dL_law_339 : decode cL_law 339 = .ok (.if_icmp .ne 22, 3) := by decide +kernel
theorem dL_law_342 : decode cL_law 342 = .ok (.aload_n 1, 1) := by decide +kernel
theorem dL_law_343 : decode cL_law 343 = .ok (.iload 9, 2) := by decide +kernel
theorem dL_law_345 : decode cL_law 345 = .ok (.invokevirtual 34, 3) := by decide +kernel
theorem dL_law_348 : decode cL_law 348 = .ok (.iload 14, 2) := by decide +kernel
theorem dL_law_350 : decode cL_law 350 = .ok (.if_icmp .ne 7, 3) := by decide +kernel
theorem dL_law_353 : decode cL_law 353 = .ok (.iconst 1, 1) := by decide +kernel
theorem dL_law_354 : decode cL_law 354 = .ok (.goto 63, 3) := by decide +kernel
theorem dL_law_357 : decode cL_law 357 = .ok (.iconst 0, 1) := by decide +kernel
theorem dL_law_358 : decode cL_law 358 = .ok (.goto 59, 3) := by decide +kernel
theorem dL_law_361 : decode cL_law 361 = .ok (.iload 15, 2) := by decide +kernel
theorem dL_law_363 : decode cL_law 363 = .ok (.iload 16, 2) := by decide +kernel
theorem dL_law_365 : decode cL_law 365 = .ok (.iload 14, 2) := by decide +kernel
theorem dL_law_367 : decode cL_law 367 = .ok (.iload 16, 2) := by decide +kernel
theorem dL_law_369 : decode cL_law 369 = .ok (.isub, 1) := by decide +kernel
theorem dL_law_370 : decode cL_law 370 = .ok (.if_icmp .le 8, 3) := by decide +kernel
theorem dL_law_373 : decode cL_law 373 = .ok (.iload 16, 2) := by decide +kernel
theorem dL_law_375 : decode cL_law 375 = .ok (.goto 8, 3) := by decide +kernel
theorem dL_law_378 : decode cL_law 378 = .ok (.iload 14, 2) := by decide +kernel
theorem dL_law_380 : decode cL_law 380 = .ok (.iload 16, 2) := by decide +kernel
theorem dL_law_382 : decode cL_law 382 = .ok (.isub, 1) := by decide +kernel
theorem dL_law_383 : decode cL_law 383 = .ok (.if_icmp .ne 33, 3) := by decide +kernel
theorem dL_law_386 : decode cL_law 386 = .ok (.aload_n 1, 1) := by decide +kernel
theorem dL_law_387 : decode cL_law 387 = .ok (.iload 9, 2) := by decide +kernel
theorem dL_law_389 : decode cL_law 389 = .ok (.invokevirtual 34, 3) := by decide +kernel
theorem dL_law_392 : decode cL_law 392 = .ok (.iload 15, 2) := by decide +kernel
theorem dL_law_394 : decode cL_law 394 = .ok (.if_icmp .ne 22, 3) := by decide +kernel
theorem dL_law_397 : decode cL_law 397 = .ok (.aload_n 1, 1) := by decide +kernel
theorem dL_law_398 : decode cL_law 398 = .ok (.iload 9, 2) := by decide +kernel
theorem dL_law_400 : decode cL_law 400 = .ok (.invokevirtual 65, 3) := by decide +kernel
theorem dL_law_403 : decode cL_law 403 = .ok (.iload 11, 2) := by decide +kernel
theorem dL_law_405 : decode cL_law 405 = .ok (.ishr, 1) := by decide +kernel
theorem dL_law_406 : decode cL_law 406 = .ok (.iconst 1, 1) := by decide +kernel
theorem dL_law_407 : decode cL_law 407 = .ok (.iand, 1) := by decide +kernel
theorem dL_law_408 : decode cL_law 408 = .ok (.iconst 1, 1) := by decide +kernel
theorem dL_law_409 : decode cL_law 409 = .ok (.if_icmp .ne 7, 3) := by decide +kernel
theorem dL_law_412 : decode cL_law 412 = .ok (.iconst 1, 1) := by decide +kernel
theorem dL_law_413 : decode cL_law 413 = .ok (.goto 4, 3) := by decide +kernel
theorem dL_law_416 : decode cL_law 416 = .ok (.iconst 0, 1) := by decide +kernel
theorem dL_law_417 : decode cL_law 417 = .ok (.istore 5, 2) := by decide +kernel
theorem dL_law_419 : decode cL_law 419 = .ok (.goto 355, 3) := by decide +kernel
theorem dL_law_422 : decode cL_law 422 = .ok (.iload 13, 2) := by decide +kernel
theorem dL_law_424 : decode cL_law 424 = .ok (.bipush 8, 2) := by decide +kernel
theorem dL_law_426 : decode cL_law 426 = .ok (.if_icmp .ge 62, 3) := by decide +kernel
theorem dL_law_429 : decode cL_law 429 = .ok (.aload_n 1, 1) := by decide +kernel
theorem dL_law_430 : decode cL_law 430 = .ok (.iload 9, 2) := by decide +kernel
theorem dL_law_432 : decode cL_law 432 = .ok (.invokevirtual 46, 3) := by decide +kernel
theorem dL_law_435 : decode cL_law 435 = .ok (.istore 14, 2) := by decide +kernel
theorem dL_law_437 : decode cL_law 437 = .ok (.aload_n 1, 1) := by decide +kernel
theorem dL_law_438 : decode cL_law 438 = .ok (.iload 9, 2) := by decide +kernel
theorem dL_law_440 : decode cL_law 440 = .ok (.invokestatic 104, 3) := by decide +kernel
theorem dL_law_443 : decode cL_law 443 = .ok (.istore 15, 2) := by decide +kernel
theorem dL_law_445 : decode cL_law 445 = .ok (.iload 15, 2) := by decide +kernel
theorem dL_law_447 : decode cL_law 447 = .ok (.bipush (-3), 2) := by decide +kernel
theorem dL_law_449 : decode cL_law 449 = .ok (.if_icmp .ne 16, 3) := by decide +kernel
theorem dL_law_452 : decode cL_law 452 = .ok (.iload 14, 2) := by decide +kernel
theorem dL_law_454 : decode cL_law 454 = .ok (.ifCond .ne 7, 3) := by decide +kernel
theorem dL_law_457 : decode cL_law 457 = .ok (.iconst 1, 1) := by decide +kernel
theorem dL_law_458 : decode cL_law 458 = .ok (.goto 25, 3) := by decide +kernel
theorem dL_law_461 : decode cL_law 461 = .ok (.iconst 0, 1) := by decide +kernel
theorem dL_law_462 : decode cL_law 462 = .ok (.goto 21, 3) := by decide +kernel
theorem dL_law_465 : decode cL_law 465 = .ok (.aload_n 1, 1) := by decide +kernel
theorem dL_law_466 : decode cL_law 466 = .ok (.iload 9, 2) := by decide +kernel
theorem dL_law_468 : decode cL_law 468 = .ok (.invokevirtual 46, 3) := by decide +kernel
theorem dL_law_471 : decode cL_law 471 = .ok (.iload 14, 2) := by decide +kernel
theorem dL_law_473 : decode cL_law 473 = .ok (.iconst 1, 1) := by decide +kernel
theorem dL_law_474 : decode cL_law 474 = .ok (.isub, 1) := by decide +kernel
theorem dL_law_475 : decode cL_law 475 = .ok (.if_icmp .ne 7, 3) := by decide +kernel
theorem dL_law_478 : decode cL_law 478 = .ok (.iconst 1, 1) := by decide +kernel
theorem dL_law_479 : decode cL_law 479 = .ok (.goto 4, 3) := by decide +kernel
theorem dL_law_482 : decode cL_law 482 = .ok (.iconst 0, 1) := by decide +kernel
theorem dL_law_483 : decode cL_law 483 = .ok (.istore 5, 2) := by decide +kernel
theorem dL_law_485 : decode cL_law 485 = .ok (.goto 289, 3) := by decide +kernel
theorem dL_law_488 : decode cL_law 488 = .ok (.iload 13, 2) := by decide +kernel
theorem dL_law_490 : decode cL_law 490 = .ok (.bipush 10, 2) := by decide +kernel
theorem dL_law_492 : decode cL_law 492 = .ok (.if_icmp .ge 74, 3) := by decide +kernel
theorem dL_law_495 : decode cL_law 495 = .ok (.iload 8, 2) := by decide +kernel
theorem dL_law_497 : decode cL_law 497 = .ok (.sipush 256, 3) := by decide +kernel
theorem dL_law_500 : decode cL_law 500 = .ok (.invokestatic 95, 3) := by decide +kernel
theorem dL_law_503 : decode cL_law 503 = .ok (.iload 8, 2) := by decide +kernel
theorem dL_law_505 : decode cL_law 505 = .ok (.iconst 5, 1) := by decide +kernel
theorem dL_law_506 : decode cL_law 506 = .ok (.ishr, 1) := by decide +kernel
theorem dL_law_507 : decode cL_law 507 = .ok (.sipush 256, 3) := by decide +kernel
theorem dL_law_510 : decode cL_law 510 = .ok (.invokestatic 95, 3) := by decide +kernel
theorem dL_law_513 : decode cL_law 513 = .ok (.iand, 1) := by decide +kernel
theorem dL_law_514 : decode cL_law 514 = .ok (.istore 14, 2) := by decide +kernel
theorem dL_law_516 : decode cL_law 516 = .ok (.aload_n 1, 1) := by decide +kernel
theorem dL_law_517 : decode cL_law 517 = .ok (.iload 11, 2) := by decide +kernel
theorem dL_law_519 : decode cL_law 519 = .ok (.iload 14, 2) := by decide +kernel
theorem dL_law_521 : decode cL_law 521 = .ok (.invokestatic 107, 3) := by decide +kernel
theorem dL_law_524 : decode cL_law 524 = .ok (.istore 15, 2) := by decide +kernel
theorem dL_law_526 : decode cL_law 526 = .ok (.iload 15, 2) := by decide +kernel
theorem dL_law_528 : decode cL_law 528 = .ok (.bipush (-2), 2) := by decide +kernel
theorem dL_law_530 : decode cL_law 530 = .ok (.if_icmp .eq 26, 3) := by decide +kernel
theorem dL_law_533 : decode cL_law 533 = .ok (.iload 14, 2) := by decide +kernel
theorem dL_law_535 : decode cL_law 535 = .ok (.iload 11, 2) := by decide +kernel
theorem dL_law_537 : decode cL_law 537 = .ok (.ishr, 1) := by decide +kernel
theorem dL_law_538 : decode cL_law 538 = .ok (.iconst 1, 1) := by decide +kernel
theorem dL_law_539 : decode cL_law 539 = .ok (.iand, 1) := by decide +kernel
theorem dL_law_540 : decode cL_law 540 = .ok (.ifCond .ne 20, 3) := by decide +kernel
theorem dL_law_543 : decode cL_law 543 = .ok (.aload_n 1, 1) := by decide +kernel
theorem dL_law_544 : decode cL_law 544 = .ok (.iload 11, 2) := by decide +kernel
theorem dL_law_546 : decode cL_law 546 = .ok (.iload 14, 2) := by decide +kernel
theorem dL_law_548 : decode cL_law 548 = .ok (.invokestatic 107, 3) := by decide +kernel
theorem dL_law_551 : decode cL_law 551 = .ok (.iload 14, 2) := by decide +kernel
theorem dL_law_553 : decode cL_law 553 = .ok (.if_icmp .ne 7, 3) := by decide +kernel
theorem dL_law_556 : decode cL_law 556 = .ok (.iconst 1, 1) := by decide +kernel
theorem dL_law_557 : decode cL_law 557 = .ok (.goto 4, 3) := by decide +kernel
theorem dL_law_560 : decode cL_law 560 = .ok (.iconst 0, 1) := by decide +kernel
theorem dL_law_561 : decode cL_law 561 = .ok (.istore 5, 2) := by decide +kernel
theorem dL_law_563 : decode cL_law 563 = .ok (.goto 211, 3) := by decide +kernel
theorem dL_law_566 : decode cL_law 566 = .ok (.iload 13, 2) := by decide +kernel
theorem dL_law_568 : decode cL_law 568 = .ok (.bipush 12, 2) := by decide +kernel
theorem dL_law_570 : decode cL_law 570 = .ok (.if_icmp .ge 83, 3) := by decide +kernel
theorem dL_law_573 : decode cL_law 573 = .ok (.aload_n 1, 1) := by decide +kernel
theorem dL_law_574 : decode cL_law 574 = .ok (.iload 9, 2) := by decide +kernel
theorem dL_law_576 : decode cL_law 576 = .ok (.iload 10, 2) := by decide +kernel
theorem dL_law_578 : decode cL_law 578 = .ok (.invokestatic 111, 3) := by decide +kernel
theorem dL_law_581 : decode cL_law 581 = .ok (.istore 14, 2) := by decide +kernel
theorem dL_law_583 : decode cL_law 583 = .ok (.iload 14, 2) := by decide +kernel
theorem dL_law_585 : decode cL_law 585 = .ok (.bipush (-2), 2) := by decide +kernel
theorem dL_law_587 : decode cL_law 587 = .ok (.if_icmp .ne 7, 3) := by decide +kernel
theorem dL_law_590 : decode cL_law 590 = .ok (.iconst 1, 1) := by decide +kernel
theorem dL_law_591 : decode cL_law 591 = .ok (.goto 57, 3) := by decide +kernel
theorem dL_law_594 : decode cL_law 594 = .ok (.iload 9, 2) := by decide +kernel
theorem dL_law_596 : decode cL_law 596 = .ok (.iload 10, 2) := by decide +kernel
theorem dL_law_598 : decode cL_law 598 = .ok (.if_icmp .eq 49, 3) := by decide +kernel
theorem dL_law_601 : decode cL_law 601 = .ok (.aload_n 1, 1) := by decide +kernel
theorem dL_law_602 : decode cL_law 602 = .ok (.iload 9, 2) := by decide +kernel
theorem dL_law_604 : decode cL_law 604 = .ok (.iload 10, 2) := by decide +kernel
theorem dL_law_606 : decode cL_law 606 = .ok (.invokestatic 111, 3) := by decide +kernel
theorem dL_law_609 : decode cL_law 609 = .ok (.ifCond .ne 38, 3) := by decide +kernel
theorem dL_law_612 : decode cL_law 612 = .ok (.aload_n 1, 1) := by decide +kernel
theorem dL_law_613 : decode cL_law 613 = .ok (.iload 10, 2) := by decide +kernel
theorem dL_law_615 : decode cL_law 615 = .ok (.iload 9, 2) := by decide +kernel
theorem dL_law_617 : decode cL_law 617 = .ok (.invokestatic 111, 3) := by decide +kernel
theorem dL_law_620 : decode cL_law 620 = .ok (.bipush (-2), 2) := by decide +kernel
theorem dL_law_622 : decode cL_law 622 = .ok (.if_icmp .ne 25, 3) := by decide +kernel
theorem dL_law_625 : decode cL_law 625 = .ok (.aload_n 1, 1) := by decide +kernel
theorem dL_law_626 : decode cL_law 626 = .ok (.iload 10, 2) := by decide +kernel
theorem dL_law_628 : decode cL_law 628 = .ok (.invokevirtual 65, 3) := by decide +kernel
theorem dL_law_631 : decode cL_law 631 = .ok (.aload_n 1, 1) := by decide +kernel
theorem dL_law_632 : decode cL_law 632 = .ok (.iload 9, 2) := by decide +kernel
theorem dL_law_634 : decode cL_law 634 = .ok (.invokevirtual 65, 3) := by decide +kernel
theorem dL_law_637 : decode cL_law 637 = .ok (.iconst (-1), 1) := by decide +kernel
theorem dL_law_638 : decode cL_law 638 = .ok (.ixor, 1) := by decide +kernel
theorem dL_law_639 : decode cL_law 639 = .ok (.iand, 1) := by decide +kernel
theorem dL_law_640 : decode cL_law 640 = .ok (.ifCond .ne 7, 3) := by decide +kernel
theorem dL_law_643 : decode cL_law 643 = .ok (.iconst 1, 1) := by decide +kernel
theorem dL_law_644 : decode cL_law 644 = .ok (.goto 4, 3) := by decide +kernel
theorem dL_law_647 : decode cL_law 647 = .ok (.iconst 0, 1) := by decide +kernel
theorem dL_law_648 : decode cL_law 648 = .ok (.istore 5, 2) := by decide +kernel
theorem dL_law_650 : decode cL_law 650 = .ok (.goto 124, 3) := by decide +kernel
theorem dL_law_653 : decode cL_law 653 = .ok (.iload 13, 2) := by decide +kernel
theorem dL_law_655 : decode cL_law 655 = .ok (.bipush 14, 2) := by decide +kernel
theorem dL_law_657 : decode cL_law 657 = .ok (.if_icmp .ge 56, 3) := by decide +kernel
theorem dL_law_660 : decode cL_law 660 = .ok (.aload_n 1, 1) := by decide +kernel
theorem dL_law_661 : decode cL_law 661 = .ok (.iload 12, 2) := by decide +kernel
theorem dL_law_663 : decode cL_law 663 = .ok (.iload 11, 2) := by decide +kernel
theorem dL_law_665 : decode cL_law 665 = .ok (.invokestatic 113, 3) := by decide +kernel
theorem dL_law_668 : decode cL_law 668 = .ok (.istore 14, 2) := by decide +kernel
theorem dL_law_670 : decode cL_law 670 = .ok (.iload 14, 2) := by decide +kernel
theorem dL_law_672 : decode cL_law 672 = .ok (.bipush (-3), 2) := by decide +kernel
theorem dL_law_674 : decode cL_law 674 = .ok (.if_icmp .eq 29, 3) := by decide +kernel
theorem dL_law_677 : decode cL_law 677 = .ok (.iload 14, 2) := by decide +kernel
theorem dL_law_679 : decode cL_law 679 = .ok (.iconst 1, 1) := by decide +kernel
theorem dL_law_680 : decode cL_law 680 = .ok (.if_icmp .lt 27, 3) := by decide +kernel
theorem dL_law_683 : decode cL_law 683 = .ok (.iload 14, 2) := by decide +kernel
theorem dL_law_685 : decode cL_law 685 = .ok (.bipush 8, 2) := by decide +kernel
theorem dL_law_687 : decode cL_law 687 = .ok (.if_icmp .gt 20, 3) := by decide +kernel
theorem dL_law_690 : decode cL_law 690 = .ok (.aload_n 1, 1) := by decide +kernel
theorem dL_law_691 : decode cL_law 691 = .ok (.iload 12, 2) := by decide +kernel
theorem dL_law_693 : decode cL_law 693 = .ok (.iload 11, 2) := by decide +kernel
theorem dL_law_695 : decode cL_law 695 = .ok (.invokestatic 113, 3) := by decide +kernel
theorem dL_law_698 : decode cL_law 698 = .ok (.iload 14, 2) := by decide +kernel
theorem dL_law_700 : decode cL_law 700 = .ok (.if_icmp .ne 7, 3) := by decide +kernel
theorem dL_law_703 : decode cL_law 703 = .ok (.iconst 1, 1) := by decide +kernel
theorem dL_law_704 : decode cL_law 704 = .ok (.goto 4, 3) := by decide +kernel
theorem dL_law_707 : decode cL_law 707 = .ok (.iconst 0, 1) := by decide +kernel
theorem dL_law_708 : decode cL_law 708 = .ok (.istore 5, 2) := by decide +kernel
theorem dL_law_710 : decode cL_law 710 = .ok (.goto 64, 3) := by decide +kernel
theorem dL_law_713 : decode cL_law 713 = .ok (.iload 8, 2) := by decide +kernel
theorem dL_law_715 : decode cL_law 715 = .ok (.sipush 201, 3) := by decide +kernel
theorem dL_law_718 : decode cL_law 718 = .ok (.invokestatic 95, 3) := by decide +kernel
theorem dL_law_721 : decode cL_law 721 = .ok (.istore 14, 2) := by decide +kernel
theorem dL_law_723 : decode cL_law 723 = .ok (.aload_n 1, 1) := by decide +kernel
theorem dL_law_724 : decode cL_law 724 = .ok (.iload 14, 2) := by decide +kernel
theorem dL_law_726 : decode cL_law 726 = .ok (.iload 8, 2) := by decide +kernel
theorem dL_law_728 : decode cL_law 728 = .ok (.iconst 3, 1) := by decide +kernel
theorem dL_law_729 : decode cL_law 729 = .ok (.ishr, 1) := by decide +kernel
theorem dL_law_730 : decode cL_law 730 = .ok (.ldc 115, 2) := by decide +kernel
theorem dL_law_732 : decode cL_law 732 = .ok (.invokestatic 95, 3) := by decide +kernel
theorem dL_law_735 : decode cL_law 735 = .ok (.iload 8, 2) := by decide +kernel
theorem dL_law_737 : decode cL_law 737 = .ok (.bipush 7, 2) := by decide +kernel
theorem dL_law_739 : decode cL_law 739 = .ok (.ishr, 1) := by decide +kernel
theorem dL_law_740 : decode cL_law 740 = .ok (.ldc 115, 2) := by decide +kernel
theorem dL_law_742 : decode cL_law 742 = .ok (.invokestatic 95, 3) := by decide +kernel
theorem dL_law_745 : decode cL_law 745 = .ok (.iand, 1) := by decide +kernel
theorem dL_law_746 : decode cL_law 746 = .ok (.invokevirtual 116, 3) := by decide +kernel
theorem dL_law_749 : decode cL_law 749 = .ok (.iload 4, 2) := by decide +kernel
theorem dL_law_751 : decode cL_law 751 = .ok (.if_icmp .ne 16, 3) := by decide +kernel
theorem dL_law_754 : decode cL_law 754 = .ok (.aload_n 1, 1) := by decide +kernel
theorem dL_law_755 : decode cL_law 755 = .ok (.iload 14, 2) := by decide +kernel
theorem dL_law_757 : decode cL_law 757 = .ok (.invokestatic 79, 3) := by decide +kernel
theorem dL_law_760 : decode cL_law 760 = .ok (.ifCond .eq 7, 3) := by decide +kernel
theorem dL_law_763 : decode cL_law 763 = .ok (.iconst 1, 1) := by decide +kernel
theorem dL_law_764 : decode cL_law 764 = .ok (.goto 4, 3) := by decide +kernel
theorem dL_law_767 : decode cL_law 767 = .ok (.iconst 0, 1) := by decide +kernel
theorem dL_law_768 : decode cL_law 768 = .ok (.istore 5, 2) := by decide +kernel
theorem dL_law_770 : decode cL_law 770 = .ok (.iload 14, 2) := by decide +kernel
theorem dL_law_772 : decode cL_law 772 = .ok (.istore 4, 2) := by decide +kernel
theorem dL_law_774 : decode cL_law 774 = .ok (.iload 5, 2) := by decide +kernel
theorem dL_law_776 : decode cL_law 776 = .ok (.ifCond .eq 41, 3) := by decide +kernel
theorem dL_law_779 : decode cL_law 779 = .ok (.aload_n 1, 1) := by decide +kernel
theorem dL_law_780 : decode cL_law 780 = .ok (.iload 12, 2) := by decide +kernel
theorem dL_law_782 : decode cL_law 782 = .ok (.iload 9, 2) := by decide +kernel
theorem dL_law_784 : decode cL_law 784 = .ok (.invokestatic 119, 3) := by decide +kernel
theorem dL_law_787 : decode cL_law 787 = .ok (.ifCond .eq 30, 3) := by decide +kernel
theorem dL_law_790 : decode cL_law 790 = .ok (.iload 7, 2) := by decide +kernel
theorem dL_law_792 : decode cL_law 792 = .ok (.bipush 8, 2) := by decide +kernel
theorem dL_law_794 : decode cL_law 794 = .ok (.irem, 1) := by decide +kernel
theorem dL_law_795 : decode cL_law 795 = .ok (.bipush 7, 2) := by decide +kernel
theorem dL_law_797 : decode cL_law 797 = .ok (.if_icmp .lt 16, 3) := by decide +kernel
theorem dL_law_800 : decode cL_law 800 = .ok (.aload_n 1, 1) := by decide +kernel
theorem dL_law_801 : decode cL_law 801 = .ok (.iload 9, 2) := by decide +kernel
theorem dL_law_803 : decode cL_law 803 = .ok (.aload_n 2, 1) := by decide +kernel
theorem dL_law_804 : decode cL_law 804 = .ok (.iload 9, 2) := by decide +kernel
theorem dL_law_806 : decode cL_law 806 = .ok (.iaload, 1) := by decide +kernel
theorem dL_law_807 : decode cL_law 807 = .ok (.invokestatic 123, 3) := by decide +kernel
theorem dL_law_810 : decode cL_law 810 = .ok (.ifCond .eq 7, 3) := by decide +kernel
theorem dL_law_813 : decode cL_law 813 = .ok (.iconst 1, 1) := by decide +kernel
theorem dL_law_814 : decode cL_law 814 = .ok (.goto 4, 3) := by decide +kernel
theorem dL_law_817 : decode cL_law 817 = .ok (.iconst 0, 1) := by decide +kernel
theorem dL_law_818 : decode cL_law 818 = .ok (.istore 5, 2) := by decide +kernel
theorem dL_law_820 : decode cL_law 820 = .ok (.iinc 7 1, 3) := by decide +kernel
theorem dL_law_823 : decode cL_law 823 = .ok (.goto (-758), 3) := by decide +kernel
theorem dL_law_826 : decode cL_law 826 = .ok (.iload 5, 2) := by decide +kernel
theorem dL_law_828 : decode cL_law 828 = .ok (.ifCond .eq 36, 3) := by decide +kernel
theorem dL_law_831 : decode cL_law 831 = .ok (.aload_n 1, 1) := by decide +kernel
theorem dL_law_832 : decode cL_law 832 = .ok (.iconst 0, 1) := by decide +kernel
theorem dL_law_833 : decode cL_law 833 = .ok (.aload_n 2, 1) := by decide +kernel
theorem dL_law_834 : decode cL_law 834 = .ok (.iconst 0, 1) := by decide +kernel
theorem dL_law_835 : decode cL_law 835 = .ok (.iaload, 1) := by decide +kernel
theorem dL_law_836 : decode cL_law 836 = .ok (.invokestatic 123, 3) := by decide +kernel
theorem dL_law_839 : decode cL_law 839 = .ok (.ifCond .eq 25, 3) := by decide +kernel
theorem dL_law_842 : decode cL_law 842 = .ok (.aload_n 1, 1) := by decide +kernel
theorem dL_law_843 : decode cL_law 843 = .ok (.aload_n 0, 1) := by decide +kernel
theorem dL_law_844 : decode cL_law 844 = .ok (.iconst 1, 1) := by decide +kernel
theorem dL_law_845 : decode cL_law 845 = .ok (.invokestatic 91, 3) := by decide +kernel
theorem dL_law_848 : decode cL_law 848 = .ok (.bipush 10, 2) := by decide +kernel
theorem dL_law_850 : decode cL_law 850 = .ok (.invokestatic 95, 3) := by decide +kernel
theorem dL_law_853 : decode cL_law 853 = .ok (.invokevirtual 88, 3) := by decide +kernel
theorem dL_law_856 : decode cL_law 856 = .ok (.iload_n 3, 1) := by decide +kernel
theorem dL_law_857 : decode cL_law 857 = .ok (.if_icmp .gt 7, 3) := by decide +kernel
theorem dL_law_860 : decode cL_law 860 = .ok (.iconst 1, 1) := by decide +kernel
theorem dL_law_861 : decode cL_law 861 = .ok (.goto 4, 3) := by decide +kernel
theorem dL_law_864 : decode cL_law 864 = .ok (.iconst 0, 1) := by decide +kernel
theorem dL_law_865 : decode cL_law 865 = .ok (.ireturn, 1) := by decide +kernel
