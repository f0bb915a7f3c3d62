set_option maxRecDepth 20000 in
theorem gL_weight_X5_weight : GoodIn wsL_weight (wsV RL 72 RX5 yX5_weight wsX5_weight) := goodIn_app (goodIn_of _ (by decide +kernel)) ggL_weight_X5_weight
theorem dL_weight_0 : decode cL_weight 0 = .ok (.aload_n 0, 1) := by decide +kernel
theorem dL_weight_1 : decode cL_weight 1 = .ok (.iload_n 1, 1) := by decide +kernel
theorem dL_weight_2 : decode cL_weight 2 = .ok (.invokevirtual 72, 3) := by decide +kernel
theorem dL_weight_5 : decode cL_weight 5 = .ok (.ireturn, 1) := by decide +kernel
theorem dL_weight_6 : decode cL_weight 6 = .ok (.astore_n 2, 1) := by decide +kernel
theorem dL_weight_7 : decode cL_weight 7 = .ok (.bipush (-75), 2) := by decide +kernel
theorem dL_weight_9 : decode cL_weight 9 = .ok (.ireturn, 1) := by decide +kernel
theorem dL_weight_10 : decode cL_weight 10 = .ok (.astore_n 2, 1) := by decide +kernel
theorem dL_weight_11 : decode cL_weight 11 = .ok (.bipush (-76), 2) := by decide +kernel
theorem dL_weight_13 : decode cL_weight 13 = .ok (.ireturn, 1) := by decide +kernel
set_option maxRecDepth 20000 in
theorem ggL_isClosed_X5_isClosed : GoodIn wsL_isClosed wsX5_isClosed := goodIn_ca (goodIn_r _ [6, 7, 8, 9, 10, 5, 11, 12, 13, 14, 15, 16, 17, 18, 19, 20, 21, 22, 23, 24, 25, 26, 27, 28, 29, 30, 31, 32, 33, 34, 35, 36, 37, 38, 39, 40, 41, 42, 43, 44] (by decide +kernel) (by decide +kernel)) (goodIn_sub (fun _ h => List.mem_cons_of_mem _ (List.mem_append_right _ h)) (by decide +kernel))
set_option maxRecDepth 20000 in
theorem gL_isClosed_X5_isClosed : GoodIn wsL_isClosed (wsV RL 75 RX5 yX5_isClosed wsX5_isClosed) := goodIn_app (goodIn_of _ (by decide +kernel)) ggL_isClosed_X5_isClosed
theorem dL_isClosed_0 : decode cL_isClosed 0 = .ok (.aload_n 0, 1) := by decide +kernel
theorem dL_isClosed_1 : decode cL_isClosed 1 = .ok (.iload_n 1, 1) := by decide +kernel
theorem dL_isClosed_2 : decode cL_isClosed 2 = .ok (.invokevirtual 75, 3) := by decide +kernel
theorem dL_isClosed_5 : decode cL_isClosed 5 = .ok (.ifCond .eq 7, 3) := by decide +kernel
theorem dL_isClosed_8 : decode cL_isClosed 8 = .ok (.iconst 1, 1) := by decide +kernel
theorem dL_isClosed_9 : decode cL_isClosed 9 = .ok (.goto 4, 3) := by decide +kernel
theorem dL_isClosed_12 : decode cL_isClosed 12 = .ok (.iconst 0, 1) := by decide +kernel
theorem dL_isClosed_13 : decode cL_isClosed 13 = .ok (.ireturn, 1) := by decide +kernel
theorem dL_isClosed_14 : decode cL_isClosed 14 = .ok (.astore_n 2, 1) := by decide +kernel
theorem dL_isClosed_15 : decode cL_isClosed 15 = .ok (.bipush (-75), 2) := by decide +kernel
theorem dL_isClosed_17 : decode cL_isClosed 17 = .ok (.ireturn, 1) := by decide +kernel
set_option maxRecDepth 20000 in
theorem ggL_isLocked_X5_isLocked : GoodIn wsL_isLocked wsX5_isLocked := goodIn_ca (goodIn_r _ [6, 7, 8, 9, 10, 5, 11, 12, 13, 14, 15, 16, 17, 18, 19, 20, 21, 22, 23, 24, 25, 26, 27, 28, 29, 30, 31, 32, 33, 34, 35, 36, 37, 38, 39, 40, 41, 42, 43, 44] (by decide +kernel) (by decide +kernel)) (goodIn_sub (fun _ h => List.mem_cons_of_mem _ (List.mem_append_right _ h)) (by decide +kernel))
set_option maxRecDepth 20000 in
theorem gL_isLocked_X5_isLocked : GoodIn wsL_isLocked (wsV RL 78 RX5 yX5_isLocked wsX5_isLocked) := goodIn_app (goodIn_of _ (by decide +kernel)) ggL_isLocked_X5_isLocked
theorem dL_isLocked_0 : decode cL_isLocked 0 = .ok (.aload_n 0, 1) := by decide +kernel
theorem dL_isLocked_1 : decode cL_isLocked 1 = .ok (.iload_n 1, 1) := by decide +kernel
theorem dL_isLocked_2 : decode cL_isLocked 2 = .ok (.invokevirtual 78, 3) := by decide +kernel
theorem dL_isLocked_5 : decode cL_isLocked 5 = .ok (.ifCond .eq 7, 3) := by decide +kernel
theorem dL_isLocked_8 : decode cL_isLocked 8 = .ok (.iconst 1, 1) := by decide +kernel
theorem dL_isLocked_9 : decode cL_isLocked 9 = .ok (.goto 4, 3) := by decide +kernel
theorem dL_isLocked_12 : decode cL_isLocked 12 = .ok (.iconst 0, 1) := by decide +kernel
theorem dL_isLocked_13 : decode cL_isLocked 13 = .ok (.ireturn, 1) := by decide +kernel
theorem dL_isLocked_14 : decode cL_isLocked 14 = .ok (.astore_n 2, 1) := by decide +kernel
theorem dL_isLocked_15 : decode cL_isLocked 15 = .ok (.bipush (-75), 2) := by decide +kernel
theorem dL_isLocked_17 : decode cL_isLocked 17 = .ok (.ireturn, 1) := by decide +kernel
set_option maxRecDepth 20000 in
theorem ggL_hasFault_X5_hasFault : GoodIn wsL_hasFault wsX5_hasFault := goodIn_ca (goodIn_r _ [6, 7, 8, 9, 10, 5, 11, 12, 13, 14, 15, 16, 17, 18, 19, 20, 21, 22, 23, 24, 25, 26, 27, 28, 29, 30, 31, 32, 33, 34, 35, 36, 37, 38, 39, 40, 41, 42, 43, 44] (by decide +kernel) (by decide +kernel)) (goodIn_sub (fun _ h => List.mem_cons_of_mem _ (List.mem_append_right _ h)) (by decide +kernel))
set_option maxRecDepth 20000 in
theorem gL_hasFault_X5_hasFault : GoodIn wsL_hasFault (wsV RL 81 RX5 yX5_hasFault wsX5_hasFault) := goodIn_app (goodIn_of _ (by decide +kernel)) ggL_hasFault_X5_hasFault
theorem dL_hasFault_0 : decode cL_hasFault 0 = .ok (.aload_n 0, 1) := by decide +kernel
theorem dL_hasFault_1 : decode cL_hasFault 1 = .ok (.iload_n 1, 1) := by decide +kernel
theorem dL_hasFault_2 : decode cL_hasFault 2 = .ok (.invokevirtual 81, 3) := by decide +kernel
theorem dL_hasFault_5 : decode cL_hasFault 5 = .ok (.ifCond .eq 7, 3) := by decide +kernel
theorem dL_hasFault_8 : decode cL_hasFault 8 = .ok (.iconst 1, 1) := by decide +kernel
theorem dL_hasFault_9 : decode cL_hasFault 9 = .ok (.goto 4, 3) := by decide +kernel
theorem dL_hasFault_12 : decode cL_hasFault 12 = .ok (.iconst 0, 1) := by decide +kernel
theorem dL_hasFault_13 : decode cL_hasFault 13 = .ok (.ireturn, 1) := by decide +kernel
theorem dL_hasFault_14 : decode cL_hasFault 14 = .ok (.astore_n 2, 1) := by decide +kernel
theorem dL_hasFault_15 : decode cL_hasFault 15 = .ok (.bipush (-75), 2) := by decide +kernel
theorem dL_hasFault_17 : decode cL_hasFault 17 = .ok (.ireturn, 1) := by decide +kernel
set_option maxRecDepth 20000 in
theorem ggL_islandOf_X5_islandOf : GoodIn wsL_islandOf wsX5_islandOf := goodIn_ca (goodIn_ca (goodIn_r _ [6, 7, 8, 9, 5, 10, 11, 12, 13, 14, 15, 16, 17, 18, 19, 20, 21, 22, 23, 24, 25, 26, 27, 28, 29, 30, 31, 32, 33, 34, 35, 36, 37, 38, 39, 40, 41, 42, 43, 44, 45, 46, 47, 48, 49, 50, 51, 52, 53, 54, 55, 56, 57, 58, 59, 60, 61, 62, 63, 64, 65, 66, 67, 68, 69, 70] (by decide +kernel) (by decide +kernel)) (goodIn_sub (fun _ h => List.mem_cons_of_mem _ (List.mem_append_left _ (List.mem_append_right _ h))) (by decide +kernel))) (goodIn_sub (fun _ h => List.mem_cons_of_mem _ (List.mem_append_right _ h)) (by decide +kernel))
set_option maxRecDepth 20000 in
theorem gL_islandOf_X5_islandOf : GoodIn wsL_islandOf (wsV RL 84 RX5 yX5_islandOf wsX5_islandOf) := goodIn_app (goodIn_of _ (by decide +kernel)) ggL_islandOf_X5_islandOf
theorem dL_islandOf_0 : decode cL_islandOf 0 = .ok (.aload_n 0, 1) := by decide +kernel
theorem dL_islandOf_1 : decode cL_islandOf 1 = .ok (.iload_n 1, 1) := by decide +kernel
theorem dL_islandOf_2 : decode cL_islandOf 2 = .ok (.invokevirtual 84, 3) := by decide +kernel
theorem dL_islandOf_5 : decode cL_islandOf 5 = .ok (.ireturn, 1) := by decide +kernel
theorem dL_islandOf_6 : decode cL_islandOf 6 = .ok (.astore_n 2, 1) := by decide +kernel
theorem dL_islandOf_7 : decode cL_islandOf 7 = .ok (.bipush (-75), 2) := by decide +kernel
theorem dL_islandOf_9 : decode cL_islandOf 9 = .ok (.ireturn, 1) := by decide +kernel
set_option maxRecDepth 20000 in
theorem ggL_islandByRounds_X5_islandByRounds : GoodIn wsL_islandByRounds wsX5_islandByRounds := goodIn_ca (goodIn_ca (goodIn_r _ [6, 7, 8, 9, 10, 11, 5, 12, 13, 14, 15, 16, 17, 18, 19, 20, 21, 22, 23, 24, 25, 26, 27, 28, 29, 30, 31, 32, 33, 34, 35, 36, 37, 38, 39, 40, 41, 42, 43, 44, 45, 46, 47, 48, 49, 50, 51, 52, 53, 54, 55, 56, 57, 58] (by decide +kernel) (by decide +kernel)) (goodIn_sub (fun _ h => List.mem_cons_of_mem _ (List.mem_append_left _ (List.mem_append_right _ h))) (by decide +kernel))) (goodIn_sub (fun _ h => List.mem_cons_of_mem _ (List.mem_append_right _ h)) (by decide +kernel))
set_option maxRecDepth 20000 in
theorem gL_islandByRounds_X5_islandByRounds : GoodIn wsL_islandByRounds (wsV RL 87 RX5 yX5_islandByRounds wsX5_islandByRounds) := goodIn_app (goodIn_of _ (by decide +kernel)) ggL_islandByRounds_X5_islandByRounds
theorem dL_islandByRounds_0 : decode cL_islandByRounds 0 = .ok (.aload_n 0, 1) := by decide +kernel
theorem dL_islandByRounds_1 : decode cL_islandByRounds 1 = .ok (.iload_n 1, 1) := by decide +kernel
theorem dL_islandByRounds_2 : decode cL_islandByRounds 2 = .ok (.invokevirtual 87, 3) := by decide +kernel
theorem dL_islandByRounds_5 : decode cL_islandByRounds 5 = .ok (.ireturn, 1) := by decide +kernel
theorem dL_islandByRounds_6 : decode cL_islandByRounds 6 = .ok (.astore_n 2, 1) := by decide +kernel
theorem dL_islandByRounds_7 : decode cL_islandByRounds 7 = .ok (.bipush (-75), 2) := by decide +kernel
theorem dL_islandByRounds_9 : decode cL_islandByRounds 9 = .ok (.ireturn, 1) := by decide +kernel
set_option maxRecDepth 20000 in
theorem ggL_isLive_X5_isLive : GoodIn wsL_isLive wsX5_isLive := goodIn_ca (goodIn_ca (goodIn_r _ [6, 7, 8, 9, 10, 5, 11, 12, 13, 14, 15, 16, 17, 18, 19, 20, 21, 22, 23, 24, 25, 26, 27, 28, 29, 30, 31, 32, 33, 34, 35, 36, 37, 38, 39, 40, 41, 42, 43, 44, 45, 46, 47, 48, 49, 50, 51, 52, 53, 54, 55, 56, 57, 58, 59, 60, 61, 62, 63, 64, 65, 66, 67, 68, 69, 70, 71, 72, 73, 74] (by decide +kernel) (by decide +kernel)) (goodIn_sub (fun _ h => List.mem_cons_of_mem _ (List.mem_append_left _ (List.mem_append_right _ h))) (by decide +kernel))) (goodIn_sub (fun _ h => List.mem_cons_of_mem _ (List.mem_append_right _ h)) (by decide +kernel))
set_option maxRecDepth 20000 in
theorem gL_isLive_X5_isLive : GoodIn wsL_isLive (wsV RL 90 RX5 yX5_isLive wsX5_isLive) := goodIn_app (goodIn_of _ (by decide +kernel)) ggL_isLive_X5_isLive
theorem dL_isLive_0 : decode cL_isLive 0 = .ok (.aload_n 0, 1) := by decide +kernel
theorem dL_isLive_1 : decode cL_isLive 1 = .ok (.iload_n 1, 1) := by decide +kernel
theorem dL_isLive_2 : decode cL_isLive 2 = .ok (.invokevirtual 90, 3) := by decide +kernel
theorem dL_isLive_5 : decode cL_isLive 5 = .ok (.ifCond .eq 7, 3) := by decide +kernel
theorem dL_isLive_8 : decode cL_isLive 8 = .ok (.iconst 1, 1) := by decide +kernel
theorem dL_isLive_9 : decode cL_isLive 9 = .ok (.goto 4, 3) := by decide +kernel
theorem dL_isLive_12 : decode cL_isLive 12 = .ok (.iconst 0, 1) := by decide +kernel
theorem dL_isLive_13 : decode cL_isLive 13 = .ok (.ireturn, 1) := by decide +kernel
theorem dL_isLive_14 : decode cL_isLive 14 = .ok (.astore_n 2, 1) := by decide +kernel
theorem dL_isLive_15 : decode cL_isLive 15 = .ok (.bipush (-75), 2) := by decide +kernel
theorem dL_isLive_17 : decode cL_isLive 17 = .ok (.ireturn, 1) := by decide +kernel
set_option maxRecDepth 20000 in
theorem ggL_sourceOf_X5_sourceOf : GoodIn wsL_sourceOf wsX5_sourceOf := goodIn_ca (goodIn_ca (goodIn_ca (goodIn_r _ [7, 8, 9, 10, 11, 12, 13, 6, 14, 15, 16, 17, 18, 19, 20, 21, 22, 23, 24, 25, 26, 27, 28, 29, 30, 31, 32, 33, 34, 35, 36, 37, 38, 39, 40, 41, 42, 43, 44, 45, 46, 47, 48, 49, 50, 51, 52, 53, 54, 55, 56, 57, 58, 59, 60, 61, 62, 63, 64, 65, 66, 67, 68, 69, 70, 71, 72, 73, 74, 75, 76, 77] (by decide +kernel) (by decide +kernel)) (goodIn_sub (fun _ h => List.mem_cons_of_mem _ (List.mem_append_left _ (List.mem_append_left _ (List.mem_append_right _ h)))) (by decide +kernel))) (goodIn_sub (fun _ h => List.mem_cons_of_mem _ (List.mem_append_left _ (List.mem_append_right _ h))) (by decide +kernel))) (goodIn_sub (fun _ h => List.mem_cons_of_mem _ (List.mem_append_right _ h)) (by decide +kernel))
set_option maxRecDepth 20000 in
theorem gL_sourceOf_X5_sourceOf : GoodIn wsL_sourceOf (wsV RL 93 RX5 yX5_sourceOf wsX5_sourceOf) := goodIn_app (goodIn_of _ (by decide +kernel)) ggL_sourceOf_X5_sourceOf
theorem dL_sourceOf_0 : decode cL_sourceOf 0 = .ok (.aload_n 0, 1) := by decide +kernel
theorem dL_sourceOf_1 : decode cL_sourceOf 1 = .ok (.iload_n 1, 1) := by decide +kernel
theorem dL_sourceOf_2 : decode cL_sourceOf 2 = .ok (.invokevirtual 93, 3) := by decide +kernel
theorem dL_sourceOf_5 : decode cL_sourceOf 5 = .ok (.ireturn, 1) := by decide +kernel
theorem dL_sourceOf_6 : decode cL_sourceOf 6 = .ok (.astore_n 2, 1) := by decide +kernel
theorem dL_sourceOf_7 : decode cL_sourceOf 7 = .ok (.bipush (-75), 2) := by decide +kernel
theorem dL_sourceOf_9 : decode cL_sourceOf 9 = .ok (.ireturn, 1) := by decide +kernel
theorem dL_sourceOf_10 : decode cL_sourceOf 10 = .ok (.astore_n 2, 1) := by decide +kernel
theorem dL_sourceOf_11 : decode cL_sourceOf 11 = .ok (.bipush (-79), 2) := by decide +kernel
theorem dL_sourceOf_13 : decode cL_sourceOf 13 = .ok (.ireturn, 1) := by decide +kernel
set_option maxRecDepth 20000 in
theorem ggL_islandLoad_X5_islandLoad : GoodIn wsL_islandLoad wsX5_islandLoad := goodIn_ca (goodIn_ca (goodIn_r _ [6, 7, 8, 9, 10, 5, 11, 12, 13, 14, 15, 16, 17, 18, 19, 20, 21, 22, 23, 24, 25, 26, 27, 28, 29, 30, 31, 32, 33, 34, 35, 36, 37, 38, 39, 40, 41, 42, 43, 44, 45, 46, 47, 48, 49, 50, 51, 52, 53, 54, 55, 56, 57, 58, 59, 60, 61, 62, 63, 64, 65, 66, 67, 68, 69, 70, 71, 72, 73, 74] (by decide +kernel) (by decide +kernel)) (goodIn_sub (fun _ h => List.mem_cons_of_mem _ (List.mem_append_left _ (List.mem_append_right _ h))) (by decide +kernel))) (goodIn_sub (fun _ h => List.mem_cons_of_mem _ (List.mem_append_right _ h)) (by decide +kernel))
set_option maxRecDepth 20000 in
theorem gL_islandLoad_X5_islandLoad : GoodIn wsL_islandLoad (wsV RL 96 RX5 yX5_islandLoad wsX5_islandLoad) := goodIn_app (goodIn_of _ (by decide +kernel)) ggL_islandLoad_X5_islandLoad
theorem dL_islandLoad_0 : decode cL_islandLoad 0 = .ok (.aload_n 0, 1) := by decide +kernel
theorem dL_islandLoad_1 : decode cL_islandLoad 1 = .ok (.iload_n 1, 1) := by decide +kernel
theorem dL_islandLoad_2 : decode cL_islandLoad 2 = .ok (.invokevirtual 96, 3) := by decide +kernel
theorem dL_islandLoad_5 : decode cL_islandLoad 5 = .ok (.ireturn, 1) := by decide +kernel
theorem dL_islandLoad_6 : decode cL_islandLoad 6 = .ok (.astore_n 2, 1) := by decide +kernel
theorem dL_islandLoad_7 : decode cL_islandLoad 7 = .ok (.bipush (-75), 2) := by decide +kernel
theorem dL_islandLoad_9 : decode cL_islandLoad 9 = .ok (.ireturn, 1) := by decide +kernel
set_option maxRecDepth 20000 in
theorem ggL_current_X5_current : GoodIn wsL_current wsX5_current := goodIn_ca (goodIn_ca (goodIn_r _ [6, 7, 8, 9, 10, 11, 5, 12, 13, 14, 15, 16, 17, 18, 19, 20, 21, 22, 23, 24, 25, 26, 27, 28, 29, 30, 31, 32, 33, 34, 35, 36, 37, 38, 39, 40, 41, 42, 43, 44, 45, 46, 47, 48, 49, 50, 51, 52, 53, 54, 55, 56, 57, 58, 59, 60, 61, 62, 63, 64, 65, 66, 67, 68, 69, 70, 71, 72, 73, 74, 75] (by decide +kernel) (by decide +kernel)) (goodIn_sub (fun _ h => List.mem_cons_of_mem _ (List.mem_append_left _ (List.mem_append_right _ h))) (by decide +kernel))) (goodIn_sub (fun _ h => List.mem_cons_of_mem _ (List.mem_append_right _ h)) (by decide +kernel))
set_option maxRecDepth 20000 in
theorem gL_current_X5_current : GoodIn wsL_current (wsV RL 99 RX5 yX5_current wsX5_current) := goodIn_app (goodIn_of _ (by decide +kernel)) ggL_current_X5_current
theorem dL_current_0 : decode cL_current 0 = .ok (.aload_n 0, 1) := by decide +kernel
theorem dL_current_1 : decode cL_current 1 = .ok (.iload_n 1, 1) := by decide +kernel
theorem dL_current_2 : decode cL_current 2 = .ok (.invokevirtual 99, 3) := by decide +kernel
theorem dL_current_5 : decode cL_current 5 = .ok (.ireturn, 1) := by decide +kernel
theorem dL_current_6 : decode cL_current 6 = .ok (.astore_n 2, 1) := by decide +kernel
theorem dL_current_7 : decode cL_current 7 = .ok (.bipush (-75), 2) := by decide +kernel
theorem dL_current_9 : decode cL_current 9 = .ok (.ireturn, 1) := by decide +kernel
set_option maxRecDepth 20000 in
theorem ggL_currentByCutting_X5_currentByCutting : GoodIn wsL_currentByCutting wsX5_currentByCutting := goodIn_ca (goodIn_ca (goodIn_r _ [6, 7, 8, 9, 10, 11, 5, 12, 13, 14, 15, 16, 17, 18, 19, 20, 21, 22, 23, 24, 25, 26, 27, 28, 29, 30, 31, 32, 33, 34, 35, 36, 37, 38, 39, 40, 41, 42, 43, 44, 45, 46, 47, 48, 49, 50, 51, 52, 53, 54, 55, 56, 57, 58, 59, 60, 61, 62, 63, 64, 65, 66, 67, 68, 69, 70, 71, 72, 73, 74, 75, 76, 77, 78, 79, 80, 81, 82, 83, 84, 85, 86, 87, 88] (by decide +kernel) (by decide +kernel)) (goodIn_sub (fun _ h => List.mem_cons_of_mem _ (List.mem_append_left _ (List.mem_append_right _ h))) (by decide +kernel))) (goodIn_sub (fun _ h => List.mem_cons_of_mem _ (List.mem_append_right _ h)) (by decide +kernel))
