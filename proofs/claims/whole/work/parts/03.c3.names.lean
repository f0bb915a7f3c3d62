theorem dX5_islandByRounds_0 : decode cX5_islandByRounds 0 = .ok (.aload_n 0, 1) := by decide +kernel
theorem dX5_islandByRounds_1 : decode cX5_islandByRounds 1 = .ok (.iload_n 1, 1) := by decide +kernel
theorem dX5_islandByRounds_2 : decode cX5_islandByRounds 2 = .ok (.invokevirtual 71, 3) := by decide +kernel
theorem dX5_islandByRounds_5 : decode cX5_islandByRounds 5 = .ok (.aload_n 0, 1) := by decide +kernel
theorem dX5_islandByRounds_6 : decode cX5_islandByRounds 6 = .ok (.getfield 10, 3) := by decide +kernel
theorem dX5_islandByRounds_9 : decode cX5_islandByRounds 9 = .ok (.iload_n 1, 1) := by decide +kernel
theorem dX5_islandByRounds_10 : decode cX5_islandByRounds 10 = .ok (.aload_n 0, 1) := by decide +kernel
theorem dX5_islandByRounds_11 : decode cX5_islandByRounds 11 = .ok (.getfield 30, 3) := by decide +kernel
theorem dX5_islandByRounds_14 : decode cX5_islandByRounds 14 = .ok (.getfield 120, 3) := by decide +kernel
theorem dX5_islandByRounds_17 : decode cX5_islandByRounds 17 = .ok (.invokevirtual 204, 3) := by decide +kernel
theorem dX5_islandByRounds_20 : decode cX5_islandByRounds 20 = .ok (.invokestatic 201, 3) := by decide +kernel
theorem dX5_islandByRounds_23 : decode cX5_islandByRounds 23 = .ok (.ireturn, 1) := by decide +kernel
set_option maxRecDepth 20000 in
theorem ggX5_islands_X5_islandAt : GoodIn wsX5_islands wsX5_islandAt := goodIn_ca (goodIn_r _ [6, 1, 7, 8, 9, 10, 11, 12, 13, 5, 14, 15, 16, 17, 18, 19, 20, 21, 22, 23, 24, 25, 26, 27, 28, 29, 30, 31, 32, 34, 35, 36, 37, 38, 39, 50, 51, 52, 53, 54, 40, 41, 42, 43, 44, 45, 46, 47, 48, 49] (by decide +kernel) (by decide +kernel)) (goodIn_sub (fun _ h => List.mem_cons_of_mem _ (List.mem_append_right _ h)) (by decide +kernel))
set_option maxRecDepth 20000 in
theorem gX5_islands_X5_islandAt : GoodIn wsX5_islands (wsV RX5 198 RX5 yX5_islandAt wsX5_islandAt) := goodIn_app (goodIn_of _ (by decide +kernel)) ggX5_islands_X5_islandAt
set_option maxRecDepth 20000 in
theorem ggX5_islands_X5_lowestIn : GoodIn wsX5_islands wsX5_lowestIn := goodIn_r _ [16, 17, 18, 5, 19] (by decide +kernel) (by decide +kernel)
set_option maxRecDepth 20000 in
theorem gX5_islands_X5_lowestIn : GoodIn wsX5_islands (va_wsS RX5 201 yX5_lowestIn wsX5_lowestIn) := goodIn_app (goodIn_of _ (by decide +kernel)) ggX5_islands_X5_lowestIn
theorem dX5_islands_0 : decode cX5_islands 0 = .ok (.iconst 0, 1) := by decide +kernel
theorem dX5_islands_1 : decode cX5_islands 1 = .ok (.istore_n 1, 1) := by decide +kernel
theorem dX5_islands_2 : decode cX5_islands 2 = .ok (.iconst 0, 1) := by decide +kernel
theorem dX5_islands_3 : decode cX5_islands 3 = .ok (.istore_n 2, 1) := by decide +kernel
theorem dX5_islands_4 : decode cX5_islands 4 = .ok (.iload_n 2, 1) := by decide +kernel
theorem dX5_islands_5 : decode cX5_islands 5 = .ok (.aload_n 0, 1) := by decide +kernel
theorem dX5_islands_6 : decode cX5_islands 6 = .ok (.getfield 10, 3) := by decide +kernel
theorem dX5_islands_9 : decode cX5_islands 9 = .ok (.getfield 186, 3) := by decide +kernel
theorem dX5_islands_12 : decode cX5_islands 12 = .ok (.if_icmp .ge 24, 3) := by decide +kernel
theorem dX5_islands_15 : decode cX5_islands 15 = .ok (.aload_n 0, 1) := by decide +kernel
theorem dX5_islands_16 : decode cX5_islands 16 = .ok (.iload_n 2, 1) := by decide +kernel
theorem dX5_islands_17 : decode cX5_islands 17 = .ok (.invokevirtual 198, 3) := by decide +kernel
theorem dX5_islands_20 : decode cX5_islands 20 = .ok (.invokestatic 201, 3) := by decide +kernel
theorem dX5_islands_23 : decode cX5_islands 23 = .ok (.iload_n 2, 1) := by decide +kernel
theorem dX5_islands_24 : decode cX5_islands 24 = .ok (.if_icmp .ne 6, 3) := by decide +kernel
theorem dX5_islands_27 : decode cX5_islands 27 = .ok (.iinc 1 1, 3) := by decide +kernel
theorem dX5_islands_30 : decode cX5_islands 30 = .ok (.iinc 2 1, 3) := by decide +kernel
theorem dX5_islands_33 : decode cX5_islands 33 = .ok (.goto (-29), 3) := by decide +kernel
theorem dX5_islands_36 : decode cX5_islands 36 = .ok (.iload_n 1, 1) := by decide +kernel
theorem dX5_islands_37 : decode cX5_islands 37 = .ok (.ireturn, 1) := by decide +kernel
set_option maxRecDepth 20000 in
theorem ggX5_isLive_X5_needNode : GoodIn wsX5_isLive wsX5_needNode := goodIn_ca (goodIn_r _ [6, 7, 8, 1, 9, 10, 11, 12, 13, 14, 49, 50, 51, 52, 53, 54, 55, 56, 57, 58, 59, 60, 61, 62, 63, 64] (by decide +kernel) (by decide +kernel)) (goodIn_sub (fun _ h => List.mem_cons_of_mem _ (List.mem_append_left _ (List.mem_append_right _ h))) (by decide +kernel))
set_option maxRecDepth 20000 in
theorem gX5_isLive_X5_needNode : GoodIn wsX5_isLive (wsV RX5 71 RX5 yX5_needNode wsX5_needNode) := goodIn_app (goodIn_of _ (by decide +kernel)) ggX5_isLive_X5_needNode
set_option maxRecDepth 20000 in
theorem ggX5_isLive_X5_islandAt : GoodIn wsX5_isLive wsX5_islandAt := goodIn_ca (goodIn_r _ [18, 1, 19, 20, 21, 22, 12, 23, 24, 5, 25, 26, 27, 28, 29, 30, 31, 32, 33, 34, 35, 36, 37, 38, 39, 40, 41, 42, 43, 49, 50, 51, 52, 53, 54, 65, 66, 67, 68, 69, 55, 56, 57, 58, 59, 60, 61, 62, 63, 64] (by decide +kernel) (by decide +kernel)) (goodIn_sub (fun _ h => List.mem_cons_of_mem _ (List.mem_append_right _ h)) (by decide +kernel))
set_option maxRecDepth 20000 in
theorem gX5_isLive_X5_islandAt : GoodIn wsX5_isLive (wsV RX5 198 RX5 yX5_islandAt wsX5_islandAt) := goodIn_app (goodIn_of _ (by decide +kernel)) ggX5_isLive_X5_islandAt
set_option maxRecDepth 20000 in
theorem ggX5_isLive_X1_sourceIn : GoodIn wsX5_isLive wsX1_sourceIn := goodIn_r _ [47, 48, 26, 5, 27, 28, 29, 30, 55, 56, 57, 58, 59, 60, 61, 62, 63, 64] (by decide +kernel) (by decide +kernel)
set_option maxRecDepth 20000 in
theorem gX5_isLive_X1_sourceIn : GoodIn wsX5_isLive (wsV RX5 207 RX1 yX1_sourceIn wsX1_sourceIn) := goodIn_app (goodIn_of _ (by decide +kernel)) ggX5_isLive_X1_sourceIn
theorem dX5_isLive_0 : decode cX5_isLive 0 = .ok (.aload_n 0, 1) := by decide +kernel
theorem dX5_isLive_1 : decode cX5_isLive 1 = .ok (.iload_n 1, 1) := by decide +kernel
theorem dX5_isLive_2 : decode cX5_isLive 2 = .ok (.invokevirtual 71, 3) := by decide +kernel
theorem dX5_isLive_5 : decode cX5_isLive 5 = .ok (.aload_n 0, 1) := by decide +kernel
theorem dX5_isLive_6 : decode cX5_isLive 6 = .ok (.getfield 10, 3) := by decide +kernel
theorem dX5_isLive_9 : decode cX5_isLive 9 = .ok (.aload_n 0, 1) := by decide +kernel
theorem dX5_isLive_10 : decode cX5_isLive 10 = .ok (.iload_n 1, 1) := by decide +kernel
theorem dX5_isLive_11 : decode cX5_isLive 11 = .ok (.invokevirtual 198, 3) := by decide +kernel
theorem dX5_isLive_14 : decode cX5_isLive 14 = .ok (.invokevirtual 207, 3) := by decide +kernel
theorem dX5_isLive_17 : decode cX5_isLive 17 = .ok (.iconst (-1), 1) := by decide +kernel
theorem dX5_isLive_18 : decode cX5_isLive 18 = .ok (.if_icmp .eq 7, 3) := by decide +kernel
theorem dX5_isLive_21 : decode cX5_isLive 21 = .ok (.iconst 1, 1) := by decide +kernel
theorem dX5_isLive_22 : decode cX5_isLive 22 = .ok (.goto 4, 3) := by decide +kernel
theorem dX5_isLive_25 : decode cX5_isLive 25 = .ok (.iconst 0, 1) := by decide +kernel
theorem dX5_isLive_26 : decode cX5_isLive 26 = .ok (.ireturn, 1) := by decide +kernel
set_option maxRecDepth 20000 in
theorem ggX5_sourceOf_X5_needNode : GoodIn wsX5_sourceOf wsX5_needNode := goodIn_ca (goodIn_r _ [8, 9, 10, 3, 11, 12, 13, 14, 15, 16, 51, 52, 53, 54, 55, 56, 57, 58, 59, 60, 61, 62, 63, 64, 65, 66] (by decide +kernel) (by decide +kernel)) (goodIn_sub (fun _ h => List.mem_cons_of_mem _ (List.mem_append_left _ (List.mem_append_right _ h))) (by decide +kernel))
set_option maxRecDepth 20000 in
theorem gX5_sourceOf_X5_needNode : GoodIn wsX5_sourceOf (wsV RX5 71 RX5 yX5_needNode wsX5_needNode) := goodIn_app (goodIn_of _ (by decide +kernel)) ggX5_sourceOf_X5_needNode
set_option maxRecDepth 20000 in
theorem ggX5_sourceOf_X5_islandAt : GoodIn wsX5_sourceOf wsX5_islandAt := goodIn_ca (goodIn_r _ [20, 3, 21, 22, 23, 24, 14, 25, 26, 7, 27, 28, 29, 30, 31, 32, 33, 34, 35, 36, 37, 38, 39, 40, 41, 42, 43, 44, 45, 51, 52, 53, 54, 55, 56, 67, 68, 69, 70, 71, 57, 58, 59, 60, 61, 62, 63, 64, 65, 66] (by decide +kernel) (by decide +kernel)) (goodIn_sub (fun _ h => List.mem_cons_of_mem _ (List.mem_append_right _ h)) (by decide +kernel))
set_option maxRecDepth 20000 in
theorem gX5_sourceOf_X5_islandAt : GoodIn wsX5_sourceOf (wsV RX5 198 RX5 yX5_islandAt wsX5_islandAt) := goodIn_app (goodIn_of _ (by decide +kernel)) ggX5_sourceOf_X5_islandAt
set_option maxRecDepth 20000 in
theorem ggX5_sourceOf_X1_sourceIn : GoodIn wsX5_sourceOf wsX1_sourceIn := goodIn_r _ [49, 50, 28, 7, 29, 30, 31, 32, 57, 58, 59, 60, 61, 62, 63, 64, 65, 66] (by decide +kernel) (by decide +kernel)
set_option maxRecDepth 20000 in
theorem gX5_sourceOf_X1_sourceIn : GoodIn wsX5_sourceOf (wsV RX5 207 RX1 yX1_sourceIn wsX1_sourceIn) := goodIn_app (goodIn_of _ (by decide +kernel)) ggX5_sourceOf_X1_sourceIn
theorem dX5_sourceOf_0 : decode cX5_sourceOf 0 = .ok (.aload_n 0, 1) := by decide +kernel
theorem dX5_sourceOf_1 : decode cX5_sourceOf 1 = .ok (.iload_n 1, 1) := by decide +kernel
theorem dX5_sourceOf_2 : decode cX5_sourceOf 2 = .ok (.invokevirtual 71, 3) := by decide +kernel
theorem dX5_sourceOf_5 : decode cX5_sourceOf 5 = .ok (.aload_n 0, 1) := by decide +kernel
theorem dX5_sourceOf_6 : decode cX5_sourceOf 6 = .ok (.getfield 10, 3) := by decide +kernel
theorem dX5_sourceOf_9 : decode cX5_sourceOf 9 = .ok (.aload_n 0, 1) := by decide +kernel
theorem dX5_sourceOf_10 : decode cX5_sourceOf 10 = .ok (.iload_n 1, 1) := by decide +kernel
theorem dX5_sourceOf_11 : decode cX5_sourceOf 11 = .ok (.invokevirtual 198, 3) := by decide +kernel
theorem dX5_sourceOf_14 : decode cX5_sourceOf 14 = .ok (.invokevirtual 207, 3) := by decide +kernel
theorem dX5_sourceOf_17 : decode cX5_sourceOf 17 = .ok (.istore_n 2, 1) := by decide +kernel
theorem dX5_sourceOf_18 : decode cX5_sourceOf 18 = .ok (.iload_n 2, 1) := by decide +kernel
theorem dX5_sourceOf_19 : decode cX5_sourceOf 19 = .ok (.iconst (-1), 1) := by decide +kernel
theorem dX5_sourceOf_20 : decode cX5_sourceOf 20 = .ok (.if_icmp .ne 13, 3) := by decide +kernel
theorem dX5_sourceOf_23 : decode cX5_sourceOf 23 = .ok (.new 100, 3) := by decide +kernel
theorem dX5_sourceOf_26 : decode cX5_sourceOf 26 = .ok (.dup, 1) := by decide +kernel
theorem dX5_sourceOf_27 : decode cX5_sourceOf 27 = .ok (.ldc 210, 2) := by decide +kernel
theorem dX5_sourceOf_29 : decode cX5_sourceOf 29 = .ok (.invokespecial 104, 3) := by decide +kernel
theorem dX5_sourceOf_32 : decode cX5_sourceOf 32 = .ok (.athrow, 1) := by decide +kernel
theorem dX5_sourceOf_33 : decode cX5_sourceOf 33 = .ok (.iload_n 2, 1) := by decide +kernel
theorem dX5_sourceOf_34 : decode cX5_sourceOf 34 = .ok (.ireturn, 1) := by decide +kernel
set_option maxRecDepth 20000 in
theorem ggX5_islandLoad_X5_needNode : GoodIn wsX5_islandLoad wsX5_needNode := goodIn_ca (goodIn_r _ [6, 7, 8, 1, 9, 10, 11, 12, 13, 14, 49, 50, 51, 52, 53, 54, 55, 56, 57, 58, 59, 60, 61, 62, 63, 64] (by decide +kernel) (by decide +kernel)) (goodIn_sub (fun _ h => List.mem_cons_of_mem _ (List.mem_append_left _ (List.mem_append_right _ h))) (by decide +kernel))
set_option maxRecDepth 20000 in
theorem gX5_islandLoad_X5_needNode : GoodIn wsX5_islandLoad (wsV RX5 71 RX5 yX5_needNode wsX5_needNode) := goodIn_app (goodIn_of _ (by decide +kernel)) ggX5_islandLoad_X5_needNode
set_option maxRecDepth 20000 in
theorem ggX5_islandLoad_X5_islandAt : GoodIn wsX5_islandLoad wsX5_islandAt := goodIn_ca (goodIn_r _ [18, 1, 19, 20, 21, 22, 12, 23, 24, 5, 25, 26, 27, 28, 29, 30, 31, 32, 33, 34, 35, 36, 37, 38, 39, 40, 41, 42, 43, 49, 50, 51, 52, 53, 54, 65, 66, 67, 68, 69, 55, 56, 57, 58, 59, 60, 61, 62, 63, 64] (by decide +kernel) (by decide +kernel)) (goodIn_sub (fun _ h => List.mem_cons_of_mem _ (List.mem_append_right _ h)) (by decide +kernel))
set_option maxRecDepth 20000 in
theorem gX5_islandLoad_X5_islandAt : GoodIn wsX5_islandLoad (wsV RX5 198 RX5 yX5_islandAt wsX5_islandAt) := goodIn_app (goodIn_of _ (by decide +kernel)) ggX5_islandLoad_X5_islandAt
set_option maxRecDepth 20000 in
theorem ggX5_islandLoad_X1_loadIn : GoodIn wsX5_islandLoad wsX1_loadIn := goodIn_ca (goodIn_r _ [47, 14, 48, 36, 5, 37, 55, 56, 57, 58, 59, 60, 61, 62, 63, 64] (by decide +kernel) (by decide +kernel)) (goodIn_sub (fun _ h => List.mem_cons_of_mem _ (List.mem_append_right _ h)) (by decide +kernel))
set_option maxRecDepth 20000 in
theorem gX5_islandLoad_X1_loadIn : GoodIn wsX5_islandLoad (wsV RX5 212 RX1 yX1_loadIn wsX1_loadIn) := goodIn_app (goodIn_of _ (by decide +kernel)) ggX5_islandLoad_X1_loadIn
theorem dX5_islandLoad_0 : decode cX5_islandLoad 0 = .ok (.aload_n 0, 1) := by decide +kernel
theorem dX5_islandLoad_1 : decode cX5_islandLoad 1 = .ok (.iload_n 1, 1) := by decide +kernel
theorem dX5_islandLoad_2 : decode cX5_islandLoad 2 = .ok (.invokevirtual 71, 3) := by decide +kernel
theorem dX5_islandLoad_5 : decode cX5_islandLoad 5 = .ok (.aload_n 0, 1) := by decide +kernel
theorem dX5_islandLoad_6 : decode cX5_islandLoad 6 = .ok (.getfield 10, 3) := by decide +kernel
theorem dX5_islandLoad_9 : decode cX5_islandLoad 9 = .ok (.aload_n 0, 1) := by decide +kernel
theorem dX5_islandLoad_10 : decode cX5_islandLoad 10 = .ok (.iload_n 1, 1) := by decide +kernel
theorem dX5_islandLoad_11 : decode cX5_islandLoad 11 = .ok (.invokevirtual 198, 3) := by decide +kernel
theorem dX5_islandLoad_14 : decode cX5_islandLoad 14 = .ok (.invokevirtual 212, 3) := by decide +kernel
theorem dX5_islandLoad_17 : decode cX5_islandLoad 17 = .ok (.ireturn, 1) := by decide +kernel
set_option maxRecDepth 20000 in
theorem ggX5_current_X5_needLine : GoodIn wsX5_current wsX5_needLine := goodIn_ca (goodIn_r _ [7, 8, 9, 10, 11, 12, 13, 14, 15, 16, 47, 48, 49, 50, 51, 52, 58, 59, 60, 61, 62, 63, 64, 65, 66, 67] (by decide +kernel) (by decide +kernel)) (goodIn_sub (fun _ h => List.mem_cons_of_mem _ (List.mem_append_left _ (List.mem_append_right _ h))) (by decide +kernel))
set_option maxRecDepth 20000 in
theorem gX5_current_X5_needLine : GoodIn wsX5_current (wsV RX5 105 RX5 yX5_needLine wsX5_needLine) := goodIn_app (goodIn_of _ (by decide +kernel)) ggX5_current_X5_needLine
set_option maxRecDepth 20000 in
theorem ggX5_current_X0_currentIn : GoodIn wsX5_current wsX0_currentIn := goodIn_ca (goodIn_r _ [21, 22, 23, 24, 25, 26, 20, 27, 28, 6, 29, 30, 31, 32, 33, 34, 35, 36, 14, 37, 38, 39, 40, 41, 42, 43, 16, 44, 45, 46, 12, 13, 15, 68, 69, 70, 58, 59, 60, 61, 62, 63, 64, 65, 66, 67] (by decide +kernel) (by decide +kernel)) (goodIn_sub (fun _ h => List.mem_cons_of_mem _ (List.mem_append_right _ h)) (by decide +kernel))
set_option maxRecDepth 20000 in
theorem gX5_current_X0_currentIn : GoodIn wsX5_current (wsV RX5 215 RX0 yX0_currentIn wsX0_currentIn) := goodIn_app (goodIn_of _ (by decide +kernel)) ggX5_current_X0_currentIn
theorem dX5_current_0 : decode cX5_current 0 = .ok (.aload_n 0, 1) := by decide +kernel
theorem dX5_current_1 : decode cX5_current 1 = .ok (.iload_n 1, 1) := by decide +kernel
theorem dX5_current_2 : decode cX5_current 2 = .ok (.invokevirtual 105, 3) := by decide +kernel
theorem dX5_current_5 : decode cX5_current 5 = .ok (.aload_n 0, 1) := by decide +kernel
theorem dX5_current_6 : decode cX5_current 6 = .ok (.getfield 21, 3) := by decide +kernel
theorem dX5_current_9 : decode cX5_current 9 = .ok (.iload_n 1, 1) := by decide +kernel
theorem dX5_current_10 : decode cX5_current 10 = .ok (.aload_n 0, 1) := by decide +kernel
theorem dX5_current_11 : decode cX5_current 11 = .ok (.getfield 30, 3) := by decide +kernel
theorem dX5_current_14 : decode cX5_current 14 = .ok (.getfield 120, 3) := by decide +kernel
theorem dX5_current_17 : decode cX5_current 17 = .ok (.invokevirtual 215, 3) := by decide +kernel
theorem dX5_current_20 : decode cX5_current 20 = .ok (.ireturn, 1) := by decide +kernel
set_option maxRecDepth 20000 in
theorem ggX5_currentByCutting_X5_needLine : GoodIn wsX5_currentByCutting wsX5_needLine := goodIn_ca (goodIn_r _ [7, 8, 9, 1, 10, 11, 12, 13, 14, 15, 63, 64, 65, 66, 67, 68, 74, 75, 76, 77, 78, 79, 80, 81, 82, 83] (by decide +kernel) (by decide +kernel)) (goodIn_sub (fun _ h => List.mem_cons_of_mem _ (List.mem_append_left _ (List.mem_append_right _ h))) (by decide +kernel))
set_option maxRecDepth 20000 in
theorem gX5_currentByCutting_X5_needLine : GoodIn wsX5_currentByCutting (wsV RX5 105 RX5 yX5_needLine wsX5_needLine) := goodIn_app (goodIn_of _ (by decide +kernel)) ggX5_currentByCutting_X5_needLine
set_option maxRecDepth 20000 in
theorem ggX5_currentByCutting_X1_loadCutOffBy : GoodIn wsX5_currentByCutting wsX1_loadCutOffBy := goodIn_ca (goodIn_r _ [19, 20, 6, 21, 22, 23, 24, 13, 25, 26, 27, 28, 29, 30, 31, 11, 12, 14, 15, 32, 33, 34, 35, 36, 37, 38, 39, 40, 41, 42, 43, 44, 45, 46, 47, 48, 49, 50, 51, 52, 53, 54, 55, 56, 57, 58, 59, 60, 61, 62, 74, 75, 76, 77, 78, 79, 80, 81, 82, 83] (by decide +kernel) (by decide +kernel)) (goodIn_sub (fun _ h => List.mem_cons_of_mem _ (List.mem_append_right _ h)) (by decide +kernel))
set_option maxRecDepth 20000 in
theorem gX5_currentByCutting_X1_loadCutOffBy : GoodIn wsX5_currentByCutting (wsV RX5 218 RX1 yX1_loadCutOffBy wsX1_loadCutOffBy) := goodIn_app (goodIn_of _ (by decide +kernel)) ggX5_currentByCutting_X1_loadCutOffBy
theorem dX5_currentByCutting_0 : decode cX5_currentByCutting 0 = .ok (.aload_n 0, 1) := by decide +kernel
theorem dX5_currentByCutting_1 : decode cX5_currentByCutting 1 = .ok (.iload_n 1, 1) := by decide +kernel
theorem dX5_currentByCutting_2 : decode cX5_currentByCutting 2 = .ok (.invokevirtual 105, 3) := by decide +kernel
theorem dX5_currentByCutting_5 : decode cX5_currentByCutting 5 = .ok (.aload_n 0, 1) := by decide +kernel
theorem dX5_currentByCutting_6 : decode cX5_currentByCutting 6 = .ok (.getfield 10, 3) := by decide +kernel
theorem dX5_currentByCutting_9 : decode cX5_currentByCutting 9 = .ok (.iload_n 1, 1) := by decide +kernel
theorem dX5_currentByCutting_10 : decode cX5_currentByCutting 10 = .ok (.aload_n 0, 1) := by decide +kernel
theorem dX5_currentByCutting_11 : decode cX5_currentByCutting 11 = .ok (.getfield 30, 3) := by decide +kernel
theorem dX5_currentByCutting_14 : decode cX5_currentByCutting 14 = .ok (.getfield 120, 3) := by decide +kernel
theorem dX5_currentByCutting_17 : decode cX5_currentByCutting 17 = .ok (.invokevirtual 218, 3) := by decide +kernel
theorem dX5_currentByCutting_20 : decode cX5_currentByCutting 20 = .ok (.ireturn, 1) := by decide +kernel
set_option maxRecDepth 20000 in
theorem ggX5_distance_X5_needLine : GoodIn wsX5_distance wsX5_needLine := goodIn_ca (goodIn_r _ [5, 6, 7, 8, 9, 10, 11, 12, 13, 14, 42, 43, 44, 45, 46, 47, 48, 49, 50, 51, 52, 53, 54, 55, 56, 57] (by decide +kernel) (by decide +kernel)) (goodIn_sub (fun _ h => List.mem_cons_of_mem _ (List.mem_append_left _ (List.mem_append_left _ (List.mem_append_right _ h)))) (by decide +kernel))
set_option maxRecDepth 20000 in
theorem gX5_distance_X5_needLine : GoodIn wsX5_distance (wsV RX5 105 RX5 yX5_needLine wsX5_needLine) := goodIn_app (goodIn_of _ (by decide +kernel)) ggX5_distance_X5_needLine
set_option maxRecDepth 20000 in
theorem ggX5_distance_X5_lengthOfPathTo : GoodIn wsX5_distance wsX5_lengthOfPathTo := goodIn_ca (goodIn_ca (goodIn_r _ [18, 19, 20, 21, 22, 23, 24, 25, 26, 27, 28, 29, 4, 30, 31, 32, 33, 34, 35, 36, 37, 38, 12, 39, 14, 40, 41, 42, 43, 44, 45, 46, 47, 58, 59, 60, 61, 62, 63, 64, 65, 48, 49, 50, 51, 52, 53, 54, 55, 56, 57] (by decide +kernel) (by decide +kernel)) (goodIn_sub (fun _ h => List.mem_cons_of_mem _ (List.mem_append_left _ (List.mem_append_right _ h))) (by decide +kernel))) (goodIn_sub (fun _ h => List.mem_cons_of_mem _ (List.mem_append_right _ h)) (by decide +kernel))
set_option maxRecDepth 20000 in
theorem gX5_distance_X5_lengthOfPathTo : GoodIn wsX5_distance (wsV RX5 221 RX5 yX5_lengthOfPathTo wsX5_lengthOfPathTo) := goodIn_app (goodIn_of _ (by decide +kernel)) ggX5_distance_X5_lengthOfPathTo
theorem dX5_distance_0 : decode cX5_distance 0 = .ok (.aload_n 0, 1) := by decide +kernel
theorem dX5_distance_1 : decode cX5_distance 1 = .ok (.iload_n 1, 1) := by decide +kernel
theorem dX5_distance_2 : decode cX5_distance 2 = .ok (.invokevirtual 105, 3) := by decide +kernel
theorem dX5_distance_5 : decode cX5_distance 5 = .ok (.aload_n 0, 1) := by decide +kernel
theorem dX5_distance_6 : decode cX5_distance 6 = .ok (.iload_n 1, 1) := by decide +kernel
theorem dX5_distance_7 : decode cX5_distance 7 = .ok (.invokevirtual 221, 3) := by decide +kernel
theorem dX5_distance_10 : decode cX5_distance 10 = .ok (.ireturn, 1) := by decide +kernel
set_option maxRecDepth 20000 in
theorem ggX5_pathAt_X5_needLine : GoodIn wsX5_pathAt wsX5_needLine := goodIn_ca (goodIn_r _ [8, 9, 10, 11, 12, 13, 14, 15, 16, 17, 48, 49, 50, 51, 52, 53, 54, 55, 56, 57, 58, 59, 60, 61, 62, 63] (by decide +kernel) (by decide +kernel)) (goodIn_sub (fun _ h => List.mem_cons_of_mem _ (List.mem_append_left _ (List.mem_append_left _ (List.mem_append_right _ h)))) (by decide +kernel))
set_option maxRecDepth 20000 in
theorem gX5_pathAt_X5_needLine : GoodIn wsX5_pathAt (wsV RX5 105 RX5 yX5_needLine wsX5_needLine) := goodIn_app (goodIn_of _ (by decide +kernel)) ggX5_pathAt_X5_needLine
set_option maxRecDepth 20000 in
theorem ggX5_pathAt_X5_lengthOfPathTo : GoodIn wsX5_pathAt wsX5_lengthOfPathTo := goodIn_ca (goodIn_ca (goodIn_r _ [21, 22, 23, 3, 24, 25, 26, 27, 28, 29, 30, 31, 7, 32, 33, 34, 35, 36, 37, 38, 39, 40, 15, 41, 17, 42, 43, 48, 49, 50, 51, 52, 53, 64, 65, 66, 67, 68, 69, 70, 71, 54, 55, 56, 57, 58, 59, 60, 61, 62, 63] (by decide +kernel) (by decide +kernel)) (goodIn_sub (fun _ h => List.mem_cons_of_mem _ (List.mem_append_left _ (List.mem_append_right _ h))) (by decide +kernel))) (goodIn_sub (fun _ h => List.mem_cons_of_mem _ (List.mem_append_right _ h)) (by decide +kernel))
set_option maxRecDepth 20000 in
theorem gX5_pathAt_X5_lengthOfPathTo : GoodIn wsX5_pathAt (wsV RX5 221 RX5 yX5_lengthOfPathTo wsX5_lengthOfPathTo) := goodIn_app (goodIn_of _ (by decide +kernel)) ggX5_pathAt_X5_lengthOfPathTo
set_option maxRecDepth 20000 in
theorem ggX5_pathAt_X0_lineOnPath : GoodIn wsX5_pathAt wsX0_lineOnPath := goodIn_ca (goodIn_r _ [47, 37, 69, 70, 71] (by decide +kernel) (by decide +kernel)) (goodIn_sub (fun _ h => List.mem_cons_of_mem _ (List.mem_append_right _ h)) (by decide +kernel))
set_option maxRecDepth 20000 in
theorem gX5_pathAt_X0_lineOnPath : GoodIn wsX5_pathAt (wsV RX5 229 RX0 yX0_lineOnPath wsX0_lineOnPath) := goodIn_app (goodIn_of _ (by decide +kernel)) ggX5_pathAt_X0_lineOnPath
theorem dX5_pathAt_0 : decode cX5_pathAt 0 = .ok (.aload_n 0, 1) := by decide +kernel
theorem dX5_pathAt_1 : decode cX5_pathAt 1 = .ok (.iload_n 1, 1) := by decide +kernel
theorem dX5_pathAt_2 : decode cX5_pathAt 2 = .ok (.invokevirtual 105, 3) := by decide +kernel
theorem dX5_pathAt_5 : decode cX5_pathAt 5 = .ok (.aload_n 0, 1) := by decide +kernel
theorem dX5_pathAt_6 : decode cX5_pathAt 6 = .ok (.iload_n 1, 1) := by decide +kernel
theorem dX5_pathAt_7 : decode cX5_pathAt 7 = .ok (.invokevirtual 221, 3) := by decide +kernel
theorem dX5_pathAt_10 : decode cX5_pathAt 10 = .ok (.istore_n 3, 1) := by decide +kernel
theorem dX5_pathAt_11 : decode cX5_pathAt 11 = .ok (.iload_n 2, 1) := by decide +kernel
theorem dX5_pathAt_12 : decode cX5_pathAt 12 = .ok (.ifCond .lt 8, 3) := by decide +kernel
theorem dX5_pathAt_15 : decode cX5_pathAt 15 = .ok (.iload_n 2, 1) := by decide +kernel
theorem dX5_pathAt_16 : decode cX5_pathAt 16 = .ok (.iload_n 3, 1) := by decide +kernel
theorem dX5_pathAt_17 : decode cX5_pathAt 17 = .ok (.if_icmp .lt 13, 3) := by decide +kernel
theorem dX5_pathAt_20 : decode cX5_pathAt 20 = .ok (.new 224, 3) := by decide +kernel
theorem dX5_pathAt_23 : decode cX5_pathAt 23 = .ok (.dup, 1) := by decide +kernel
theorem dX5_pathAt_24 : decode cX5_pathAt 24 = .ok (.ldc 226, 2) := by decide +kernel
theorem dX5_pathAt_26 : decode cX5_pathAt 26 = .ok (.invokespecial 228, 3) := by decide +kernel
theorem dX5_pathAt_29 : decode cX5_pathAt 29 = .ok (.athrow, 1) := by decide +kernel
theorem dX5_pathAt_30 : decode cX5_pathAt 30 = .ok (.aload_n 0, 1) := by decide +kernel
theorem dX5_pathAt_31 : decode cX5_pathAt 31 = .ok (.getfield 21, 3) := by decide +kernel
theorem dX5_pathAt_34 : decode cX5_pathAt 34 = .ok (.iload_n 2, 1) := by decide +kernel
theorem dX5_pathAt_35 : decode cX5_pathAt 35 = .ok (.invokevirtual 229, 3) := by decide +kernel
theorem dX5_pathAt_38 : decode cX5_pathAt 38 = .ok (.ireturn, 1) := by decide +kernel
set_option maxRecDepth 20000 in
theorem ggX5_faultCurrent_X5_needLine : GoodIn wsX5_faultCurrent wsX5_needLine := goodIn_ca (goodIn_r _ [7, 8, 9, 10, 11, 12, 13, 14, 15, 16, 89, 90, 91, 92, 93, 94, 100, 101, 102, 103, 104, 105, 106, 107, 108, 109] (by decide +kernel) (by decide +kernel)) (goodIn_sub (fun _ h => List.mem_cons_of_mem _ (List.mem_append_left _ (List.mem_append_left _ (List.mem_append_left _ (List.mem_append_right _ h))))) (by decide +kernel))
set_option maxRecDepth 20000 in
theorem gX5_faultCurrent_X5_needLine : GoodIn wsX5_faultCurrent (wsV RX5 105 RX5 yX5_needLine wsX5_needLine) := goodIn_app (goodIn_of _ (by decide +kernel)) ggX5_faultCurrent_X5_needLine
set_option maxRecDepth 20000 in
theorem ggX5_faultCurrent_X5_lengthOfPathTo : GoodIn wsX5_faultCurrent wsX5_lengthOfPathTo := goodIn_ca (goodIn_ca (goodIn_r _ [20, 21, 22, 23, 2, 24, 25, 26, 27, 28, 29, 30, 6, 31, 32, 33, 34, 35, 36, 37, 38, 39, 14, 40, 16, 41, 42, 89, 90, 91, 92, 93, 94, 95, 96, 97, 98, 99, 110, 111, 112, 100, 101, 102, 103, 104, 105, 106, 107, 108, 109] (by decide +kernel) (by decide +kernel)) (goodIn_sub (fun _ h => List.mem_cons_of_mem _ (List.mem_append_left _ (List.mem_append_left _ (List.mem_append_right _ h)))) (by decide +kernel))) (goodIn_sub (fun _ h => List.mem_cons_of_mem _ (List.mem_append_left _ (List.mem_append_right _ h))) (by decide +kernel))
set_option maxRecDepth 20000 in
theorem gX5_faultCurrent_X5_lengthOfPathTo : GoodIn wsX5_faultCurrent (wsV RX5 221 RX5 yX5_lengthOfPathTo wsX5_lengthOfPathTo) := goodIn_app (goodIn_of _ (by decide +kernel)) ggX5_faultCurrent_X5_lengthOfPathTo
set_option maxRecDepth 20000 in
theorem ggX5_faultCurrent_X3_currentOfFault : GoodIn wsX5_faultCurrent wsX3_currentOfFault := goodIn_ca (goodIn_ca (goodIn_r _ [47, 48, 49, 50, 51, 14, 52, 53, 54, 55, 56, 41, 57, 12, 13, 15, 16, 58, 59, 60, 61, 62, 6, 63, 64, 65, 66, 67, 68, 69, 70, 71, 72, 30, 31, 73, 38, 39, 40, 42, 74, 75, 76, 77, 78, 79, 80, 81, 82, 83, 84, 85, 86, 87, 88, 113, 114, 115, 116, 117, 100, 101, 102, 103, 104, 105, 106, 107, 108, 109] (by decide +kernel) (by decide +kernel)) (goodIn_sub (fun _ h => List.mem_cons_of_mem _ (List.mem_append_right _ h)) (by decide +kernel))) (goodIn_sub (fun _ h => List.mem_cons_of_mem _ (List.mem_append_left _ (List.mem_append_right _ h))) (by decide +kernel))
set_option maxRecDepth 20000 in
theorem gX5_faultCurrent_X3_currentOfFault : GoodIn wsX5_faultCurrent (wsV RX5 232 RX3 yX3_currentOfFault wsX3_currentOfFault) := goodIn_app (goodIn_of _ (by decide +kernel)) ggX5_faultCurrent_X3_currentOfFault
theorem dX5_faultCurrent_0 : decode cX5_faultCurrent 0 = .ok (.aload_n 0, 1) := by decide +kernel
theorem dX5_faultCurrent_1 : decode cX5_faultCurrent 1 = .ok (.iload_n 1, 1) := by decide +kernel
theorem dX5_faultCurrent_2 : decode cX5_faultCurrent 2 = .ok (.invokevirtual 105, 3) := by decide +kernel
theorem dX5_faultCurrent_5 : decode cX5_faultCurrent 5 = .ok (.aload_n 0, 1) := by decide +kernel
theorem dX5_faultCurrent_6 : decode cX5_faultCurrent 6 = .ok (.iload_n 1, 1) := by decide +kernel
theorem dX5_faultCurrent_7 : decode cX5_faultCurrent 7 = .ok (.invokevirtual 221, 3) := by decide +kernel
theorem dX5_faultCurrent_10 : decode cX5_faultCurrent 10 = .ok (.istore_n 2, 1) := by decide +kernel
theorem dX5_faultCurrent_11 : decode cX5_faultCurrent 11 = .ok (.aload_n 0, 1) := by decide +kernel
theorem dX5_faultCurrent_12 : decode cX5_faultCurrent 12 = .ok (.getfield 37, 3) := by decide +kernel
theorem dX5_faultCurrent_15 : decode cX5_faultCurrent 15 = .ok (.iload_n 1, 1) := by decide +kernel
theorem dX5_faultCurrent_16 : decode cX5_faultCurrent 16 = .ok (.iload_n 2, 1) := by decide +kernel
theorem dX5_faultCurrent_17 : decode cX5_faultCurrent 17 = .ok (.aload_n 0, 1) := by decide +kernel
theorem dX5_faultCurrent_18 : decode cX5_faultCurrent 18 = .ok (.getfield 30, 3) := by decide +kernel
theorem dX5_faultCurrent_21 : decode cX5_faultCurrent 21 = .ok (.getfield 120, 3) := by decide +kernel
theorem dX5_faultCurrent_24 : decode cX5_faultCurrent 24 = .ok (.invokevirtual 232, 3) := by decide +kernel
theorem dX5_faultCurrent_27 : decode cX5_faultCurrent 27 = .ok (.ireturn, 1) := by decide +kernel
set_option maxRecDepth 20000 in
theorem ggX5_tripTime_X5_needLine : GoodIn wsX5_tripTime wsX5_needLine := goodIn_ca (goodIn_r _ [9, 10, 11, 12, 13, 14, 15, 16, 17, 18, 38, 39, 40, 41, 42, 43, 44, 45, 46, 47, 48, 49, 50, 51, 52, 53] (by decide +kernel) (by decide +kernel)) (goodIn_sub (fun _ h => List.mem_cons_of_mem _ (List.mem_append_left _ (List.mem_append_left _ (List.mem_append_left _ (List.mem_append_right _ h))))) (by decide +kernel))
set_option maxRecDepth 20000 in
theorem gX5_tripTime_X5_needLine : GoodIn wsX5_tripTime (wsV RX5 105 RX5 yX5_needLine wsX5_needLine) := goodIn_app (goodIn_of _ (by decide +kernel)) ggX5_tripTime_X5_needLine
set_option maxRecDepth 20000 in
theorem ggX5_tripTime_X5_needBreaker : GoodIn wsX5_tripTime wsX5_needBreaker := goodIn_ca (goodIn_r _ [22, 23, 24, 12, 25, 26, 8, 27, 38, 39, 40, 41, 42, 43, 44, 45, 46, 47, 48, 49, 50, 51, 52, 53] (by decide +kernel) (by decide +kernel)) (goodIn_sub (fun _ h => List.mem_cons_of_mem _ (List.mem_append_left _ (List.mem_append_left _ (List.mem_append_right _ h)))) (by decide +kernel))
set_option maxRecDepth 20000 in
theorem gX5_tripTime_X5_needBreaker : GoodIn wsX5_tripTime (wsV RX5 114 RX5 yX5_needBreaker wsX5_needBreaker) := goodIn_app (goodIn_of _ (by decide +kernel)) ggX5_tripTime_X5_needBreaker
set_option maxRecDepth 20000 in
theorem ggX5_tripTime_X3_timeFor : GoodIn wsX5_tripTime wsX3_timeFor := goodIn_ca (goodIn_ca (goodIn_r _ [32, 33, 34, 35, 36, 37, 14, 15, 16, 17, 18, 26, 8, 27, 54, 55, 56, 57, 58, 44, 45, 46, 47, 48, 49, 50, 51, 52, 53] (by decide +kernel) (by decide +kernel)) (goodIn_sub (fun _ h => List.mem_cons_of_mem _ (List.mem_append_left _ (List.mem_append_right _ h))) (by decide +kernel))) (goodIn_sub (fun _ h => List.mem_cons_of_mem _ (List.mem_append_right _ h)) (by decide +kernel))
set_option maxRecDepth 20000 in
theorem gX5_tripTime_X3_timeFor : GoodIn wsX5_tripTime (wsV RX5 238 RX3 yX3_timeFor wsX3_timeFor) := goodIn_app (goodIn_of _ (by decide +kernel)) ggX5_tripTime_X3_timeFor
theorem dX5_tripTime_0 : decode cX5_tripTime 0 = .ok (.aload_n 0, 1) := by decide +kernel
theorem dX5_tripTime_1 : decode cX5_tripTime 1 = .ok (.iload_n 1, 1) := by decide +kernel
theorem dX5_tripTime_2 : decode cX5_tripTime 2 = .ok (.invokevirtual 105, 3) := by decide +kernel
theorem dX5_tripTime_5 : decode cX5_tripTime 5 = .ok (.iload_n 2, 1) := by decide +kernel
theorem dX5_tripTime_6 : decode cX5_tripTime 6 = .ok (.iconst 1, 1) := by decide +kernel
theorem dX5_tripTime_7 : decode cX5_tripTime 7 = .ok (.if_icmp .lt 9, 3) := by decide +kernel
theorem dX5_tripTime_10 : decode cX5_tripTime 10 = .ok (.iload_n 2, 1) := by decide +kernel
theorem dX5_tripTime_11 : decode cX5_tripTime 11 = .ok (.ldc 235, 2) := by decide +kernel
theorem dX5_tripTime_13 : decode cX5_tripTime 13 = .ok (.if_icmp .le 13, 3) := by decide +kernel
theorem dX5_tripTime_16 : decode cX5_tripTime 16 = .ok (.new 50, 3) := by decide +kernel
theorem dX5_tripTime_19 : decode cX5_tripTime 19 = .ok (.dup, 1) := by decide +kernel
theorem dX5_tripTime_20 : decode cX5_tripTime 20 = .ok (.ldc 236, 2) := by decide +kernel
theorem dX5_tripTime_22 : decode cX5_tripTime 22 = .ok (.invokespecial 54, 3) := by decide +kernel
theorem dX5_tripTime_25 : decode cX5_tripTime 25 = .ok (.athrow, 1) := by decide +kernel
theorem dX5_tripTime_26 : decode cX5_tripTime 26 = .ok (.aload_n 0, 1) := by decide +kernel
theorem dX5_tripTime_27 : decode cX5_tripTime 27 = .ok (.iload_n 1, 1) := by decide +kernel
theorem dX5_tripTime_28 : decode cX5_tripTime 28 = .ok (.invokevirtual 114, 3) := by decide +kernel
theorem dX5_tripTime_31 : decode cX5_tripTime 31 = .ok (.aload_n 0, 1) := by decide +kernel
theorem dX5_tripTime_32 : decode cX5_tripTime 32 = .ok (.getfield 37, 3) := by decide +kernel
theorem dX5_tripTime_35 : decode cX5_tripTime 35 = .ok (.iload_n 1, 1) := by decide +kernel
theorem dX5_tripTime_36 : decode cX5_tripTime 36 = .ok (.iload_n 2, 1) := by decide +kernel
theorem dX5_tripTime_37 : decode cX5_tripTime 37 = .ok (.invokevirtual 238, 3) := by decide +kernel
theorem dX5_tripTime_40 : decode cX5_tripTime 40 = .ok (.ireturn, 1) := by decide +kernel
set_option maxRecDepth 20000 in
theorem ggX5_wouldTrip_X5_needLine : GoodIn wsX5_wouldTrip wsX5_needLine := goodIn_ca (goodIn_r _ [7, 8, 9, 10, 11, 12, 13, 14, 15, 16, 103, 104, 105, 106, 107, 108, 114, 115, 116, 117, 118, 119, 120, 121, 122, 123] (by decide +kernel) (by decide +kernel)) (goodIn_sub (fun _ h => List.mem_cons_of_mem _ (List.mem_append_left _ (List.mem_append_left _ (List.mem_append_right _ h)))) (by decide +kernel))
set_option maxRecDepth 20000 in
theorem gX5_wouldTrip_X5_needLine : GoodIn wsX5_wouldTrip (wsV RX5 105 RX5 yX5_needLine wsX5_needLine) := goodIn_app (goodIn_of _ (by decide +kernel)) ggX5_wouldTrip_X5_needLine
set_option maxRecDepth 20000 in
theorem ggX5_wouldTrip_X3_answerTo : GoodIn wsX5_wouldTrip wsX3_answerTo := goodIn_ca (goodIn_ca (goodIn_r _ [21, 22, 23, 24, 25, 26, 27, 28, 29, 6, 30, 31, 32, 33, 34, 35, 36, 37, 38, 14, 39, 16, 40, 41, 42, 43, 44, 20, 45, 46, 47, 48, 49, 50, 51, 52, 53, 54, 55, 12, 13, 15, 56, 57, 58, 59, 60, 61, 62, 63, 64, 65, 66, 67, 68, 69, 70, 71, 72, 73, 74, 75, 76, 77, 78, 79, 80, 81, 82, 83, 84, 85, 86, 87, 88, 89, 90, 91, 92, 93, 94, 95, 96, 97, 98, 99, 100, 101, 102, 124, 125, 126, 127, 128, 129, 130, 131, 114, 115, 116, 117, 118, 119, 120, 121, 122, 123] (by decide +kernel) (by decide +kernel)) (goodIn_sub (fun _ h => List.mem_cons_of_mem _ (List.mem_append_left _ (List.mem_append_right _ h))) (by decide +kernel))) (goodIn_sub (fun _ h => List.mem_cons_of_mem _ (List.mem_append_right _ h)) (by decide +kernel))
set_option maxRecDepth 20000 in
theorem gX5_wouldTrip_X3_answerTo : GoodIn wsX5_wouldTrip (wsV RX5 155 RX3 yX3_answerTo wsX3_answerTo) := goodIn_app (goodIn_of _ (by decide +kernel)) ggX5_wouldTrip_X3_answerTo
theorem dX5_wouldTrip_0 : decode cX5_wouldTrip 0 = .ok (.aload_n 0, 1) := by decide +kernel
theorem dX5_wouldTrip_1 : decode cX5_wouldTrip 1 = .ok (.iload_n 1, 1) := by decide +kernel
theorem dX5_wouldTrip_2 : decode cX5_wouldTrip 2 = .ok (.invokevirtual 105, 3) := by decide +kernel
theorem dX5_wouldTrip_5 : decode cX5_wouldTrip 5 = .ok (.aload_n 0, 1) := by decide +kernel
theorem dX5_wouldTrip_6 : decode cX5_wouldTrip 6 = .ok (.getfield 37, 3) := by decide +kernel
theorem dX5_wouldTrip_9 : decode cX5_wouldTrip 9 = .ok (.iload_n 1, 1) := by decide +kernel
theorem dX5_wouldTrip_10 : decode cX5_wouldTrip 10 = .ok (.aload_n 0, 1) := by decide +kernel
theorem dX5_wouldTrip_11 : decode cX5_wouldTrip 11 = .ok (.getfield 30, 3) := by decide +kernel
theorem dX5_wouldTrip_14 : decode cX5_wouldTrip 14 = .ok (.getfield 120, 3) := by decide +kernel
theorem dX5_wouldTrip_17 : decode cX5_wouldTrip 17 = .ok (.invokevirtual 155, 3) := by decide +kernel
theorem dX5_wouldTrip_20 : decode cX5_wouldTrip 20 = .ok (.ireturn, 1) := by decide +kernel
set_option maxRecDepth 20000 in
theorem ggX5_isSelective_X5_needLine : GoodIn wsX5_isSelective wsX5_needLine := goodIn_ca (goodIn_r _ [7, 8, 9, 10, 11, 12, 13, 14, 15, 16, 103, 104, 105, 106, 107, 108, 114, 115, 116, 117, 118, 119, 120, 121, 122, 123] (by decide +kernel) (by decide +kernel)) (goodIn_sub (fun _ h => List.mem_cons_of_mem _ (List.mem_append_left _ (List.mem_append_left _ (List.mem_append_right _ h)))) (by decide +kernel))
set_option maxRecDepth 20000 in
theorem gX5_isSelective_X5_needLine : GoodIn wsX5_isSelective (wsV RX5 105 RX5 yX5_needLine wsX5_needLine) := goodIn_app (goodIn_of _ (by decide +kernel)) ggX5_isSelective_X5_needLine
set_option maxRecDepth 20000 in
theorem ggX5_isSelective_X3_answerTo : GoodIn wsX5_isSelective wsX3_answerTo := goodIn_ca (goodIn_ca (goodIn_r _ [21, 22, 23, 24, 25, 26, 27, 28, 29, 6, 30, 31, 32, 33, 34, 35, 36, 37, 38, 14, 39, 16, 40, 41, 42, 43, 44, 20, 45, 46, 47, 48, 49, 50, 51, 52, 53, 54, 55, 12, 13, 15, 56, 57, 58, 59, 60, 61, 62, 63, 64, 65, 66, 67, 68, 69, 70, 71, 72, 73, 74, 75, 76, 77, 78, 79, 80, 81, 82, 83, 84, 85, 86, 87, 88, 89, 90, 91, 92, 93, 94, 95, 96, 97, 98, 99, 100, 101, 102, 124, 125, 126, 127, 128, 129, 130, 131, 114, 115, 116, 117, 118, 119, 120, 121, 122, 123] (by decide +kernel) (by decide +kernel)) (goodIn_sub (fun _ h => List.mem_cons_of_mem _ (List.mem_append_left _ (List.mem_append_right _ h))) (by decide +kernel))) (goodIn_sub (fun _ h => List.mem_cons_of_mem _ (List.mem_append_right _ h)) (by decide +kernel))
set_option maxRecDepth 20000 in
theorem gX5_isSelective_X3_answerTo : GoodIn wsX5_isSelective (wsV RX5 155 RX3 yX3_answerTo wsX3_answerTo) := goodIn_app (goodIn_of _ (by decide +kernel)) ggX5_isSelective_X3_answerTo
theorem dX5_isSelective_0 : decode cX5_isSelective 0 = .ok (.aload_n 0, 1) := by decide +kernel
theorem dX5_isSelective_1 : decode cX5_isSelective 1 = .ok (.iload_n 1, 1) := by decide +kernel
theorem dX5_isSelective_2 : decode cX5_isSelective 2 = .ok (.invokevirtual 105, 3) := by decide +kernel
theorem dX5_isSelective_5 : decode cX5_isSelective 5 = .ok (.aload_n 0, 1) := by decide +kernel
theorem dX5_isSelective_6 : decode cX5_isSelective 6 = .ok (.getfield 37, 3) := by decide +kernel
theorem dX5_isSelective_9 : decode cX5_isSelective 9 = .ok (.iload_n 1, 1) := by decide +kernel
theorem dX5_isSelective_10 : decode cX5_isSelective 10 = .ok (.aload_n 0, 1) := by decide +kernel
theorem dX5_isSelective_11 : decode cX5_isSelective 11 = .ok (.getfield 30, 3) := by decide +kernel
theorem dX5_isSelective_14 : decode cX5_isSelective 14 = .ok (.getfield 120, 3) := by decide +kernel
theorem dX5_isSelective_17 : decode cX5_isSelective 17 = .ok (.invokevirtual 155, 3) := by decide +kernel
theorem dX5_isSelective_20 : decode cX5_isSelective 20 = .ok (.iload_n 1, 1) := by decide +kernel
theorem dX5_isSelective_21 : decode cX5_isSelective 21 = .ok (.if_icmp .ne 7, 3) := by decide +kernel
theorem dX5_isSelective_24 : decode cX5_isSelective 24 = .ok (.iconst 1, 1) := by decide +kernel
theorem dX5_isSelective_25 : decode cX5_isSelective 25 = .ok (.goto 4, 3) := by decide +kernel
theorem dX5_isSelective_28 : decode cX5_isSelective 28 = .ok (.iconst 0, 1) := by decide +kernel
theorem dX5_isSelective_29 : decode cX5_isSelective 29 = .ok (.ireturn, 1) := by decide +kernel
set_option maxRecDepth 20000 in
theorem ggX5_margin_X5_needLine : GoodIn wsX5_margin wsX5_needLine := goodIn_ca (goodIn_r _ [11, 12, 13, 14, 15, 16, 17, 18, 19, 20, 111, 112, 113, 114, 115, 116, 122, 123, 124, 125, 126, 127, 128, 129, 130, 131] (by decide +kernel) (by decide +kernel)) (goodIn_sub (fun _ h => List.mem_cons_of_mem _ (List.mem_append_left _ (List.mem_append_left _ (List.mem_append_right _ h)))) (by decide +kernel))
set_option maxRecDepth 20000 in
theorem gX5_margin_X5_needLine : GoodIn wsX5_margin (wsV RX5 105 RX5 yX5_needLine wsX5_needLine) := goodIn_app (goodIn_of _ (by decide +kernel)) ggX5_margin_X5_needLine
set_option maxRecDepth 20000 in
theorem ggX5_margin_X3_answerTo : GoodIn wsX5_margin wsX3_answerTo := goodIn_ca (goodIn_ca (goodIn_r _ [25, 26, 27, 28, 29, 30, 31, 32, 33, 10, 34, 35, 36, 37, 38, 39, 40, 41, 42, 18, 43, 20, 44, 45, 46, 47, 48, 24, 49, 50, 51, 52, 53, 54, 55, 56, 57, 58, 59, 16, 17, 19, 60, 61, 62, 63, 64, 65, 66, 67, 68, 69, 70, 71, 72, 73, 74, 75, 76, 77, 78, 79, 80, 81, 82, 83, 84, 85, 86, 87, 88, 89, 90, 91, 92, 93, 94, 95, 96, 97, 98, 99, 100, 101, 102, 103, 104, 105, 106, 132, 133, 134, 135, 136, 137, 138, 139, 122, 123, 124, 125, 126, 127, 128, 129, 130, 131] (by decide +kernel) (by decide +kernel)) (goodIn_sub (fun _ h => List.mem_cons_of_mem _ (List.mem_append_left _ (List.mem_append_right _ h))) (by decide +kernel))) (goodIn_sub (fun _ h => List.mem_cons_of_mem _ (List.mem_append_right _ h)) (by decide +kernel))
set_option maxRecDepth 20000 in
theorem gX5_margin_X3_answerTo : GoodIn wsX5_margin (wsV RX5 155 RX3 yX3_answerTo wsX3_answerTo) := goodIn_app (goodIn_of _ (by decide +kernel)) ggX5_margin_X3_answerTo
set_option maxRecDepth 20000 in
theorem ggX5_margin_X3_leadOf : GoodIn wsX5_margin wsX3_leadOf := goodIn_ca (goodIn_ca (goodIn_r _ [110, 26, 27, 28, 29, 30, 31, 32, 33, 10, 34, 35, 36, 37, 38, 39, 40, 41, 42, 18, 43, 20, 44, 45, 46, 47, 48, 24, 49, 50, 51, 52, 53, 54, 55, 56, 57, 58, 59, 16, 17, 19, 60, 61, 62, 63, 64, 65, 66, 67, 68, 69, 70, 71, 72, 73, 74, 75, 76, 77, 78, 79, 80, 81, 82, 83, 84, 85, 86, 87, 88, 89, 90, 91, 92, 93, 94, 95, 96, 97, 98, 99, 100, 101, 102, 103, 104, 105, 106, 132, 133, 134, 135, 136, 137, 138, 139, 122, 123, 124, 125, 126, 127, 128, 129, 130, 131] (by decide +kernel) (by decide +kernel)) (goodIn_sub (fun _ h => List.mem_cons_of_mem _ (List.mem_append_left _ (List.mem_append_right _ h))) (by decide +kernel))) (goodIn_sub (fun _ h => List.mem_cons_of_mem _ (List.mem_append_right _ h)) (by decide +kernel))
set_option maxRecDepth 20000 in
theorem gX5_margin_X3_leadOf : GoodIn wsX5_margin (wsV RX5 243 RX3 yX3_leadOf wsX3_leadOf) := goodIn_app (goodIn_of _ (by decide +kernel)) ggX5_margin_X3_leadOf
theorem dX5_margin_0 : decode cX5_margin 0 = .ok (.aload_n 0, 1) := by decide +kernel
theorem dX5_margin_1 : decode cX5_margin 1 = .ok (.iload_n 1, 1) := by decide +kernel
theorem dX5_margin_2 : decode cX5_margin 2 = .ok (.invokevirtual 105, 3) := by decide +kernel
theorem dX5_margin_5 : decode cX5_margin 5 = .ok (.aload_n 0, 1) := by decide +kernel
theorem dX5_margin_6 : decode cX5_margin 6 = .ok (.getfield 37, 3) := by decide +kernel
theorem dX5_margin_9 : decode cX5_margin 9 = .ok (.iload_n 1, 1) := by decide +kernel
theorem dX5_margin_10 : decode cX5_margin 10 = .ok (.aload_n 0, 1) := by decide +kernel
theorem dX5_margin_11 : decode cX5_margin 11 = .ok (.getfield 30, 3) := by decide +kernel
theorem dX5_margin_14 : decode cX5_margin 14 = .ok (.getfield 120, 3) := by decide +kernel
theorem dX5_margin_17 : decode cX5_margin 17 = .ok (.invokevirtual 155, 3) := by decide +kernel
theorem dX5_margin_20 : decode cX5_margin 20 = .ok (.iload_n 1, 1) := by decide +kernel
theorem dX5_margin_21 : decode cX5_margin 21 = .ok (.if_icmp .eq 13, 3) := by decide +kernel
theorem dX5_margin_24 : decode cX5_margin 24 = .ok (.new 100, 3) := by decide +kernel
theorem dX5_margin_27 : decode cX5_margin 27 = .ok (.dup, 1) := by decide +kernel
theorem dX5_margin_28 : decode cX5_margin 28 = .ok (.ldc 241, 2) := by decide +kernel
theorem dX5_margin_30 : decode cX5_margin 30 = .ok (.invokespecial 104, 3) := by decide +kernel
theorem dX5_margin_33 : decode cX5_margin 33 = .ok (.athrow, 1) := by decide +kernel
theorem dX5_margin_34 : decode cX5_margin 34 = .ok (.aload_n 0, 1) := by decide +kernel
theorem dX5_margin_35 : decode cX5_margin 35 = .ok (.getfield 37, 3) := by decide +kernel
theorem dX5_margin_38 : decode cX5_margin 38 = .ok (.iload_n 1, 1) := by decide +kernel
theorem dX5_margin_39 : decode cX5_margin 39 = .ok (.aload_n 0, 1) := by decide +kernel
theorem dX5_margin_40 : decode cX5_margin 40 = .ok (.getfield 30, 3) := by decide +kernel
theorem dX5_margin_43 : decode cX5_margin 43 = .ok (.getfield 120, 3) := by decide +kernel
theorem dX5_margin_46 : decode cX5_margin 46 = .ok (.invokevirtual 243, 3) := by decide +kernel
theorem dX5_margin_49 : decode cX5_margin 49 = .ok (.istore_n 2, 1) := by decide +kernel
theorem dX5_margin_50 : decode cX5_margin 50 = .ok (.iload_n 2, 1) := by decide +kernel
theorem dX5_margin_51 : decode cX5_margin 51 = .ok (.iconst (-1), 1) := by decide +kernel
theorem dX5_margin_52 : decode cX5_margin 52 = .ok (.if_icmp .ne 13, 3) := by decide +kernel
theorem dX5_margin_55 : decode cX5_margin 55 = .ok (.new 176, 3) := by decide +kernel
theorem dX5_margin_58 : decode cX5_margin 58 = .ok (.dup, 1) := by decide +kernel
theorem dX5_margin_59 : decode cX5_margin 59 = .ok (.ldc 246, 2) := by decide +kernel
theorem dX5_margin_61 : decode cX5_margin 61 = .ok (.invokespecial 178, 3) := by decide +kernel
theorem dX5_margin_64 : decode cX5_margin 64 = .ok (.athrow, 1) := by decide +kernel
theorem dX5_margin_65 : decode cX5_margin 65 = .ok (.iload_n 2, 1) := by decide +kernel
theorem dX5_margin_66 : decode cX5_margin 66 = .ok (.ireturn, 1) := by decide +kernel
theorem dX5_trips_0 : decode cX5_trips 0 = .ok (.aload_n 0, 1) := by decide +kernel
theorem dX5_trips_1 : decode cX5_trips 1 = .ok (.getfield 168, 3) := by decide +kernel
theorem dX5_trips_4 : decode cX5_trips 4 = .ok (.ireturn, 1) := by decide +kernel
set_option maxRecDepth 20000 in
theorem ggX5_darkLoad_X1_allNodes : GoodIn wsX5_darkLoad wsX1_allNodes := goodIn_r _ [6, 7, 8, 9, 10, 54, 55, 56, 57, 58, 59, 60, 61, 62, 63] (by decide +kernel) (by decide +kernel)
set_option maxRecDepth 20000 in
theorem gX5_darkLoad_X1_allNodes : GoodIn wsX5_darkLoad (wsV RX5 248 RX1 yX1_allNodes wsX1_allNodes) := goodIn_app (goodIn_of _ (by decide +kernel)) ggX5_darkLoad_X1_allNodes
set_option maxRecDepth 20000 in
theorem ggX5_darkLoad_X1_loadIn : GoodIn wsX5_darkLoad wsX1_loadIn := goodIn_ca (goodIn_r _ [14, 7, 15, 16, 9, 17, 54, 55, 56, 57, 58, 59, 60, 61, 62, 63] (by decide +kernel) (by decide +kernel)) (goodIn_sub (fun _ h => List.mem_cons_of_mem _ (List.mem_append_right _ h)) (by decide +kernel))
set_option maxRecDepth 20000 in
theorem gX5_darkLoad_X1_loadIn : GoodIn wsX5_darkLoad (wsV RX5 212 RX1 yX1_loadIn wsX1_loadIn) := goodIn_app (goodIn_of _ (by decide +kernel)) ggX5_darkLoad_X1_loadIn
set_option maxRecDepth 20000 in
theorem ggX5_darkLoad_X5_liveNodes : GoodIn wsX5_darkLoad wsX5_liveNodes := goodIn_ca (goodIn_r _ [21, 1, 22, 23, 24, 25, 5, 26, 7, 27, 16, 9, 17, 28, 29, 30, 31, 8, 10, 32, 33, 34, 35, 36, 37, 38, 39, 40, 41, 42, 43, 44, 45, 46, 47, 48, 49, 50, 51, 52, 53, 64, 65, 66, 67, 68, 54, 55, 56, 57, 58, 59, 60, 61, 62, 63] (by decide +kernel) (by decide +kernel)) (goodIn_sub (fun _ h => List.mem_cons_of_mem _ (List.mem_append_right _ h)) (by decide +kernel))
set_option maxRecDepth 20000 in
theorem gX5_darkLoad_X5_liveNodes : GoodIn wsX5_darkLoad (wsV RX5 252 RX5 yX5_liveNodes wsX5_liveNodes) := goodIn_app (goodIn_of _ (by decide +kernel)) ggX5_darkLoad_X5_liveNodes
theorem dX5_darkLoad_0 : decode cX5_darkLoad 0 = .ok (.aload_n 0, 1) := by decide +kernel
theorem dX5_darkLoad_1 : decode cX5_darkLoad 1 = .ok (.getfield 10, 3) := by decide +kernel
theorem dX5_darkLoad_4 : decode cX5_darkLoad 4 = .ok (.aload_n 0, 1) := by decide +kernel
theorem dX5_darkLoad_5 : decode cX5_darkLoad 5 = .ok (.getfield 10, 3) := by decide +kernel
theorem dX5_darkLoad_8 : decode cX5_darkLoad 8 = .ok (.invokevirtual 248, 3) := by decide +kernel
theorem dX5_darkLoad_11 : decode cX5_darkLoad 11 = .ok (.invokevirtual 212, 3) := by decide +kernel
theorem dX5_darkLoad_14 : decode cX5_darkLoad 14 = .ok (.aload_n 0, 1) := by decide +kernel
theorem dX5_darkLoad_15 : decode cX5_darkLoad 15 = .ok (.getfield 10, 3) := by decide +kernel
theorem dX5_darkLoad_18 : decode cX5_darkLoad 18 = .ok (.aload_n 0, 1) := by decide +kernel
theorem dX5_darkLoad_19 : decode cX5_darkLoad 19 = .ok (.invokevirtual 252, 3) := by decide +kernel
theorem dX5_darkLoad_22 : decode cX5_darkLoad 22 = .ok (.invokevirtual 212, 3) := by decide +kernel
theorem dX5_darkLoad_25 : decode cX5_darkLoad 25 = .ok (.isub, 1) := by decide +kernel
theorem dX5_darkLoad_26 : decode cX5_darkLoad 26 = .ok (.ireturn, 1) := by decide +kernel
set_option maxRecDepth 20000 in
theorem ggX5_bestValue_X2_findBest : GoodIn wsX5_bestValue wsX2_findBest := goodIn_ca (goodIn_r _ [6, 7, 8, 9, 5, 10, 11, 12, 13, 14, 15, 16, 17, 18, 19, 20, 21, 22, 23, 24, 25, 26, 27, 28, 29, 30, 31, 32, 33, 34, 35, 36, 37, 38, 39, 40, 41, 42, 43, 44, 45, 46, 47, 48, 49, 50, 51, 52, 53, 54, 55, 56, 57, 58, 59, 60, 61, 62, 63, 64, 65, 66, 67, 68, 69, 70, 71, 72, 73, 74, 75, 76, 77, 78, 79, 80, 81, 82, 83, 84, 85, 86, 87, 88, 89, 90, 91, 92, 93, 94, 95, 96, 97, 98, 99, 100, 101, 102, 103, 104, 105, 106, 107, 108, 109, 110, 111, 112, 113, 114, 115, 116, 117, 118, 119, 120, 121, 122, 123, 124, 125, 126, 127, 128, 129, 130, 131, 132, 133, 134, 135, 136, 137, 138, 139, 140, 141, 142, 143, 144, 145, 146, 147, 148, 149, 150, 151, 152, 159, 160, 161, 162, 163, 164, 165, 166, 167, 168, 169, 170, 171, 172, 173, 174, 175, 176, 177, 178, 179, 180, 181] (by decide +kernel) (by decide +kernel)) (goodIn_sub (fun _ h => List.mem_cons_of_mem _ (List.mem_append_right _ h)) (by decide +kernel))
set_option maxRecDepth 20000 in
theorem gX5_bestValue_X2_findBest : GoodIn wsX5_bestValue (wsV RX5 255 RX2 yX2_findBest wsX2_findBest) := goodIn_app (goodIn_of _ (by decide +kernel)) ggX5_bestValue_X2_findBest
theorem dX5_bestValue_0 : decode cX5_bestValue 0 = .ok (.aload_n 0, 1) := by decide +kernel
theorem dX5_bestValue_1 : decode cX5_bestValue 1 = .ok (.getfield 46, 3) := by decide +kernel
theorem dX5_bestValue_4 : decode cX5_bestValue 4 = .ok (.invokevirtual 255, 3) := by decide +kernel
theorem dX5_bestValue_7 : decode cX5_bestValue 7 = .ok (.aload_n 0, 1) := by decide +kernel
theorem dX5_bestValue_8 : decode cX5_bestValue 8 = .ok (.getfield 46, 3) := by decide +kernel
theorem dX5_bestValue_11 : decode cX5_bestValue 11 = .ok (.getfield 258, 3) := by decide +kernel
theorem dX5_bestValue_14 : decode cX5_bestValue 14 = .ok (.ireturn, 1) := by decide +kernel
set_option maxRecDepth 20000 in
theorem ggX5_bestSize_X2_findBest : GoodIn wsX5_bestSize wsX2_findBest := goodIn_ca (goodIn_r _ [6, 7, 8, 9, 5, 10, 11, 12, 13, 14, 15, 16, 17, 18, 19, 20, 21, 22, 23, 24, 25, 26, 27, 28, 29, 30, 31, 32, 33, 34, 35, 36, 37, 38, 39, 40, 41, 42, 43, 44, 45, 46, 47, 48, 49, 50, 51, 52, 53, 54, 55, 56, 57, 58, 59, 60, 61, 62, 63, 64, 65, 66, 67, 68, 69, 70, 71, 72, 73, 74, 75, 76, 77, 78, 79, 80, 81, 82, 83, 84, 85, 86, 87, 88, 89, 90, 91, 92, 93, 94, 95, 96, 97, 98, 99, 100, 101, 102, 103, 104, 105, 106, 107, 108, 109, 110, 111, 112, 113, 114, 115, 116, 117, 118, 119, 120, 121, 122, 123, 124, 125, 126, 127, 128, 129, 130, 131, 132, 133, 134, 135, 136, 137, 138, 139, 140, 141, 142, 143, 144, 145, 146, 147, 148, 149, 150, 151, 152, 160, 161, 162, 163, 164, 165, 166, 167, 168, 169, 170, 171, 172, 173, 174, 175, 176, 177, 178, 179, 180, 181, 182] (by decide +kernel) (by decide +kernel)) (goodIn_sub (fun _ h => List.mem_cons_of_mem _ (List.mem_append_right _ h)) (by decide +kernel))
set_option maxRecDepth 20000 in
theorem gX5_bestSize_X2_findBest : GoodIn wsX5_bestSize (wsV RX5 255 RX2 yX2_findBest wsX2_findBest) := goodIn_app (goodIn_of _ (by decide +kernel)) ggX5_bestSize_X2_findBest
set_option maxRecDepth 20000 in
theorem ggX5_bestSize_J6_bitCount_0f7a4 : GoodIn wsX5_bestSize wsJ6_bitCount_0f7a4 := goodIn_r _ [74, 75, 76, 77] (by decide +kernel) (by decide +kernel)
set_option maxRecDepth 20000 in
theorem gX5_bestSize_J6_bitCount_0f7a4 : GoodIn wsX5_bestSize (va_wsS RX5 181 yJ6_bitCount_0f7a4 wsJ6_bitCount_0f7a4) := goodIn_app (goodIn_of _ (by decide +kernel)) ggX5_bestSize_J6_bitCount_0f7a4
theorem dX5_bestSize_0 : decode cX5_bestSize 0 = .ok (.aload_n 0, 1) := by decide +kernel
theorem dX5_bestSize_1 : decode cX5_bestSize 1 = .ok (.getfield 46, 3) := by decide +kernel
theorem dX5_bestSize_4 : decode cX5_bestSize 4 = .ok (.invokevirtual 255, 3) := by decide +kernel
theorem dX5_bestSize_7 : decode cX5_bestSize 7 = .ok (.aload_n 0, 1) := by decide +kernel
theorem dX5_bestSize_8 : decode cX5_bestSize 8 = .ok (.getfield 46, 3) := by decide +kernel
theorem dX5_bestSize_11 : decode cX5_bestSize 11 = .ok (.getfield 261, 3) := by decide +kernel
theorem dX5_bestSize_14 : decode cX5_bestSize 14 = .ok (.invokestatic 181, 3) := by decide +kernel
theorem dX5_bestSize_17 : decode cX5_bestSize 17 = .ok (.ireturn, 1) := by decide +kernel
set_option maxRecDepth 20000 in
theorem ggX5_bestAt_X2_findBest : GoodIn wsX5_bestAt wsX2_findBest := goodIn_ca (goodIn_r _ [8, 9, 10, 11, 7, 12, 13, 14, 15, 16, 17, 18, 19, 20, 21, 22, 23, 24, 25, 26, 27, 28, 29, 30, 31, 32, 33, 34, 35, 36, 37, 38, 39, 40, 41, 42, 43, 44, 45, 46, 47, 48, 49, 50, 51, 52, 53, 54, 55, 56, 57, 58, 59, 60, 61, 62, 63, 64, 65, 66, 67, 68, 69, 70, 71, 72, 73, 74, 75, 76, 77, 78, 79, 80, 81, 82, 83, 84, 85, 86, 87, 88, 89, 90, 91, 92, 93, 94, 95, 96, 97, 98, 99, 100, 101, 102, 103, 104, 105, 106, 107, 108, 109, 110, 111, 112, 113, 114, 115, 116, 117, 118, 119, 120, 121, 122, 123, 124, 125, 126, 127, 128, 129, 130, 131, 132, 133, 134, 135, 136, 137, 138, 139, 140, 141, 142, 143, 144, 145, 146, 147, 148, 149, 150, 151, 152, 153, 154, 162, 163, 164, 165, 166, 167, 168, 169, 170, 171, 172, 173, 174, 175, 176, 177, 178, 179, 180, 181, 182, 183, 184] (by decide +kernel) (by decide +kernel)) (goodIn_sub (fun _ h => List.mem_cons_of_mem _ (List.mem_append_right _ h)) (by decide +kernel))
set_option maxRecDepth 20000 in
theorem gX5_bestAt_X2_findBest : GoodIn wsX5_bestAt (wsV RX5 255 RX2 yX2_findBest wsX2_findBest) := goodIn_app (goodIn_of _ (by decide +kernel)) ggX5_bestAt_X2_findBest
set_option maxRecDepth 20000 in
theorem ggX5_bestAt_J6_bitCount_0f7a4 : GoodIn wsX5_bestAt wsJ6_bitCount_0f7a4 := goodIn_r _ [76, 77, 78, 79] (by decide +kernel) (by decide +kernel)
set_option maxRecDepth 20000 in
theorem gX5_bestAt_J6_bitCount_0f7a4 : GoodIn wsX5_bestAt (va_wsS RX5 181 yJ6_bitCount_0f7a4 wsJ6_bitCount_0f7a4) := goodIn_app (goodIn_of _ (by decide +kernel)) ggX5_bestAt_J6_bitCount_0f7a4
set_option maxRecDepth 20000 in
theorem ggX5_bestAt_X5_memberAt : GoodIn wsX5_bestAt wsX5_memberAt := goodIn_r _ [51] (by decide +kernel) (by decide +kernel)
set_option maxRecDepth 20000 in
theorem gX5_bestAt_X5_memberAt : GoodIn wsX5_bestAt (va_wsS RX5 266 yX5_memberAt wsX5_memberAt) := goodIn_app (goodIn_of _ (by decide +kernel)) ggX5_bestAt_X5_memberAt
theorem dX5_bestAt_0 : decode cX5_bestAt 0 = .ok (.aload_n 0, 1) := by decide +kernel
theorem dX5_bestAt_1 : decode cX5_bestAt 1 = .ok (.getfield 46, 3) := by decide +kernel
theorem dX5_bestAt_4 : decode cX5_bestAt 4 = .ok (.invokevirtual 255, 3) := by decide +kernel
theorem dX5_bestAt_7 : decode cX5_bestAt 7 = .ok (.iload_n 1, 1) := by decide +kernel
theorem dX5_bestAt_8 : decode cX5_bestAt 8 = .ok (.ifCond .lt 17, 3) := by decide +kernel
theorem dX5_bestAt_11 : decode cX5_bestAt 11 = .ok (.iload_n 1, 1) := by decide +kernel
theorem dX5_bestAt_12 : decode cX5_bestAt 12 = .ok (.aload_n 0, 1) := by decide +kernel
theorem dX5_bestAt_13 : decode cX5_bestAt 13 = .ok (.getfield 46, 3) := by decide +kernel
theorem dX5_bestAt_16 : decode cX5_bestAt 16 = .ok (.getfield 261, 3) := by decide +kernel
theorem dX5_bestAt_19 : decode cX5_bestAt 19 = .ok (.invokestatic 181, 3) := by decide +kernel
theorem dX5_bestAt_22 : decode cX5_bestAt 22 = .ok (.if_icmp .lt 14, 3) := by decide +kernel
theorem dX5_bestAt_25 : decode cX5_bestAt 25 = .ok (.new 224, 3) := by decide +kernel
theorem dX5_bestAt_28 : decode cX5_bestAt 28 = .ok (.dup, 1) := by decide +kernel
theorem dX5_bestAt_29 : decode cX5_bestAt 29 = .ok (.ldc_w 264, 3) := by decide +kernel
theorem dX5_bestAt_32 : decode cX5_bestAt 32 = .ok (.invokespecial 228, 3) := by decide +kernel
theorem dX5_bestAt_35 : decode cX5_bestAt 35 = .ok (.athrow, 1) := by decide +kernel
theorem dX5_bestAt_36 : decode cX5_bestAt 36 = .ok (.aload_n 0, 1) := by decide +kernel
theorem dX5_bestAt_37 : decode cX5_bestAt 37 = .ok (.getfield 46, 3) := by decide +kernel
theorem dX5_bestAt_40 : decode cX5_bestAt 40 = .ok (.getfield 261, 3) := by decide +kernel
theorem dX5_bestAt_43 : decode cX5_bestAt 43 = .ok (.iload_n 1, 1) := by decide +kernel
theorem dX5_bestAt_44 : decode cX5_bestAt 44 = .ok (.invokestatic 266, 3) := by decide +kernel
theorem dX5_bestAt_47 : decode cX5_bestAt 47 = .ok (.ireturn, 1) := by decide +kernel
set_option maxRecDepth 20000 in
theorem ggX5_valueByTrying_X5_needFewLinesToTry : GoodIn wsX5_valueByTrying wsX5_needFewLinesToTry := goodIn_ca (goodIn_r _ [6, 7, 8, 9, 10, 11, 12, 13, 14, 15, 16, 17, 18, 19, 20, 21, 22, 23, 24, 25, 162, 163, 164, 165, 166, 167, 173, 174, 175, 176, 177, 178, 179, 180, 181, 182, 183, 184, 185, 186, 187] (by decide +kernel) (by decide +kernel)) (goodIn_sub (fun _ h => List.mem_cons_of_mem _ (List.mem_append_left _ (List.mem_append_right _ h))) (by decide +kernel))
set_option maxRecDepth 20000 in
theorem gX5_valueByTrying_X5_needFewLinesToTry : GoodIn wsX5_valueByTrying (wsV RX5 269 RX5 yX5_needFewLinesToTry wsX5_needFewLinesToTry) := goodIn_app (goodIn_of _ (by decide +kernel)) ggX5_valueByTrying_X5_needFewLinesToTry
set_option maxRecDepth 20000 in
theorem ggX5_valueByTrying_X2_tryAllSets : GoodIn wsX5_valueByTrying wsX2_tryAllSets := goodIn_ca (goodIn_r _ [30, 31, 32, 33, 34, 29, 35, 36, 37, 38, 39, 11, 12, 13, 14, 15, 16, 17, 18, 40, 41, 42, 43, 44, 45, 46, 47, 48, 49, 50, 51, 52, 5, 53, 54, 55, 56, 57, 58, 59, 60, 61, 62, 63, 64, 65, 66, 67, 68, 69, 70, 71, 72, 73, 74, 75, 76, 77, 78, 79, 80, 81, 82, 83, 84, 85, 86, 87, 88, 89, 90, 91, 92, 93, 94, 95, 96, 97, 98, 99, 100, 101, 102, 103, 104, 105, 106, 107, 108, 109, 110, 111, 112, 113, 114, 115, 116, 117, 118, 119, 120, 121, 122, 123, 124, 125, 126, 127, 128, 129, 130, 131, 132, 133, 134, 135, 136, 137, 138, 139, 140, 141, 142, 143, 144, 145, 146, 147, 148, 149, 150, 151, 152, 153, 154, 155, 156, 157, 20, 21, 22, 23, 24, 25, 158, 159, 160, 161, 168, 169, 170, 171, 172, 173, 174, 175, 176, 177, 178, 179, 180, 181, 182, 183, 184, 185, 186, 187, 188, 189, 190] (by decide +kernel) (by decide +kernel)) (goodIn_sub (fun _ h => List.mem_cons_of_mem _ (List.mem_append_right _ h)) (by decide +kernel))
set_option maxRecDepth 20000 in
theorem gX5_valueByTrying_X2_tryAllSets : GoodIn wsX5_valueByTrying (wsV RX5 272 RX2 yX2_tryAllSets wsX2_tryAllSets) := goodIn_app (goodIn_of _ (by decide +kernel)) ggX5_valueByTrying_X2_tryAllSets
theorem dX5_valueByTrying_0 : decode cX5_valueByTrying 0 = .ok (.aload_n 0, 1) := by decide +kernel
theorem dX5_valueByTrying_1 : decode cX5_valueByTrying 1 = .ok (.invokevirtual 269, 3) := by decide +kernel
theorem dX5_valueByTrying_4 : decode cX5_valueByTrying 4 = .ok (.aload_n 0, 1) := by decide +kernel
theorem dX5_valueByTrying_5 : decode cX5_valueByTrying 5 = .ok (.getfield 46, 3) := by decide +kernel
theorem dX5_valueByTrying_8 : decode cX5_valueByTrying 8 = .ok (.invokevirtual 272, 3) := by decide +kernel
theorem dX5_valueByTrying_11 : decode cX5_valueByTrying 11 = .ok (.aload_n 0, 1) := by decide +kernel
theorem dX5_valueByTrying_12 : decode cX5_valueByTrying 12 = .ok (.getfield 46, 3) := by decide +kernel
theorem dX5_valueByTrying_15 : decode cX5_valueByTrying 15 = .ok (.getfield 258, 3) := by decide +kernel
theorem dX5_valueByTrying_18 : decode cX5_valueByTrying 18 = .ok (.ireturn, 1) := by decide +kernel
set_option maxRecDepth 20000 in
theorem ggX5_sizeByTrying_X5_needFewLinesToTry : GoodIn wsX5_sizeByTrying wsX5_needFewLinesToTry := goodIn_ca (goodIn_r _ [6, 7, 8, 9, 10, 11, 12, 13, 14, 15, 16, 17, 18, 19, 20, 21, 22, 23, 24, 25, 162, 163, 164, 165, 166, 167, 173, 174, 175, 176, 177, 178, 179, 180, 181, 182, 183, 184, 185, 186, 187] (by decide +kernel) (by decide +kernel)) (goodIn_sub (fun _ h => List.mem_cons_of_mem _ (List.mem_append_left _ (List.mem_append_right _ h))) (by decide +kernel))
set_option maxRecDepth 20000 in
theorem gX5_sizeByTrying_X5_needFewLinesToTry : GoodIn wsX5_sizeByTrying (wsV RX5 269 RX5 yX5_needFewLinesToTry wsX5_needFewLinesToTry) := goodIn_app (goodIn_of _ (by decide +kernel)) ggX5_sizeByTrying_X5_needFewLinesToTry
set_option maxRecDepth 20000 in
theorem ggX5_sizeByTrying_X2_tryAllSets : GoodIn wsX5_sizeByTrying wsX2_tryAllSets := goodIn_ca (goodIn_r _ [30, 31, 32, 33, 34, 29, 35, 36, 37, 38, 39, 11, 12, 13, 14, 15, 16, 17, 18, 40, 41, 42, 43, 44, 45, 46, 47, 48, 49, 50, 51, 52, 5, 53, 54, 55, 56, 57, 58, 59, 60, 61, 62, 63, 64, 65, 66, 67, 68, 69, 70, 71, 72, 73, 74, 75, 76, 77, 78, 79, 80, 81, 82, 83, 84, 85, 86, 87, 88, 89, 90, 91, 92, 93, 94, 95, 96, 97, 98, 99, 100, 101, 102, 103, 104, 105, 106, 107, 108, 109, 110, 111, 112, 113, 114, 115, 116, 117, 118, 119, 120, 121, 122, 123, 124, 125, 126, 127, 128, 129, 130, 131, 132, 133, 134, 135, 136, 137, 138, 139, 140, 141, 142, 143, 144, 145, 146, 147, 148, 149, 150, 151, 152, 153, 154, 155, 156, 157, 20, 21, 22, 23, 24, 25, 158, 159, 160, 161, 168, 169, 170, 171, 172, 173, 174, 175, 176, 177, 178, 179, 180, 181, 182, 183, 184, 185, 186, 187, 188, 189, 190] (by decide +kernel) (by decide +kernel)) (goodIn_sub (fun _ h => List.mem_cons_of_mem _ (List.mem_append_right _ h)) (by decide +kernel))
set_option maxRecDepth 20000 in
theorem gX5_sizeByTrying_X2_tryAllSets : GoodIn wsX5_sizeByTrying (wsV RX5 272 RX2 yX2_tryAllSets wsX2_tryAllSets) := goodIn_app (goodIn_of _ (by decide +kernel)) ggX5_sizeByTrying_X2_tryAllSets
set_option maxRecDepth 20000 in
theorem ggX5_sizeByTrying_J6_bitCount_0f7a4 : GoodIn wsX5_sizeByTrying wsJ6_bitCount_0f7a4 := goodIn_r _ [22, 23, 24, 25] (by decide +kernel) (by decide +kernel)
set_option maxRecDepth 20000 in
theorem gX5_sizeByTrying_J6_bitCount_0f7a4 : GoodIn wsX5_sizeByTrying (va_wsS RX5 181 yJ6_bitCount_0f7a4 wsJ6_bitCount_0f7a4) := goodIn_app (goodIn_of _ (by decide +kernel)) ggX5_sizeByTrying_J6_bitCount_0f7a4
theorem dX5_sizeByTrying_0 : decode cX5_sizeByTrying 0 = .ok (.aload_n 0, 1) := by decide +kernel
theorem dX5_sizeByTrying_1 : decode cX5_sizeByTrying 1 = .ok (.invokevirtual 269, 3) := by decide +kernel
theorem dX5_sizeByTrying_4 : decode cX5_sizeByTrying 4 = .ok (.aload_n 0, 1) := by decide +kernel
theorem dX5_sizeByTrying_5 : decode cX5_sizeByTrying 5 = .ok (.getfield 46, 3) := by decide +kernel
theorem dX5_sizeByTrying_8 : decode cX5_sizeByTrying 8 = .ok (.invokevirtual 272, 3) := by decide +kernel
theorem dX5_sizeByTrying_11 : decode cX5_sizeByTrying 11 = .ok (.aload_n 0, 1) := by decide +kernel
theorem dX5_sizeByTrying_12 : decode cX5_sizeByTrying 12 = .ok (.getfield 46, 3) := by decide +kernel
theorem dX5_sizeByTrying_15 : decode cX5_sizeByTrying 15 = .ok (.getfield 261, 3) := by decide +kernel
theorem dX5_sizeByTrying_18 : decode cX5_sizeByTrying 18 = .ok (.invokestatic 181, 3) := by decide +kernel
theorem dX5_sizeByTrying_21 : decode cX5_sizeByTrying 21 = .ok (.ireturn, 1) := by decide +kernel
set_option maxRecDepth 20000 in
theorem ggX5_restore_X2_findBest : GoodIn wsX5_restore wsX2_findBest := goodIn_ca (goodIn_r _ [7, 8, 9, 10, 6, 11, 12, 13, 14, 15, 16, 17, 18, 19, 20, 21, 22, 23, 24, 25, 26, 27, 28, 29, 30, 31, 32, 33, 34, 35, 36, 37, 38, 39, 40, 41, 42, 43, 44, 45, 46, 47, 48, 49, 50, 51, 52, 53, 54, 55, 56, 57, 58, 59, 60, 61, 62, 63, 64, 65, 66, 67, 68, 69, 70, 71, 72, 73, 74, 75, 76, 77, 78, 79, 80, 81, 82, 83, 84, 85, 86, 87, 88, 89, 90, 91, 92, 93, 94, 95, 96, 97, 98, 99, 100, 101, 102, 103, 104, 105, 106, 107, 108, 109, 110, 111, 112, 113, 114, 115, 116, 117, 118, 119, 120, 121, 122, 123, 124, 125, 126, 127, 128, 129, 130, 131, 132, 133, 134, 135, 136, 137, 138, 139, 140, 141, 142, 143, 144, 145, 146, 147, 148, 149, 150, 151, 152, 153, 165, 166, 167, 168, 169, 170, 171, 172, 173, 174, 175, 176, 177, 178, 179, 180, 181, 182, 183, 184, 185, 186, 187] (by decide +kernel) (by decide +kernel)) (goodIn_sub (fun _ h => List.mem_cons_of_mem _ (List.mem_append_right _ h)) (by decide +kernel))
set_option maxRecDepth 20000 in
theorem gX5_restore_X2_findBest : GoodIn wsX5_restore (wsV RX5 255 RX2 yX2_findBest wsX2_findBest) := goodIn_app (goodIn_of _ (by decide +kernel)) ggX5_restore_X2_findBest
set_option maxRecDepth 20000 in
theorem ggX5_restore_X4_closeAll : GoodIn wsX5_restore wsX4_closeAll := goodIn_r _ [157, 22, 170, 171, 172, 173, 174] (by decide +kernel) (by decide +kernel)
set_option maxRecDepth 20000 in
theorem gX5_restore_X4_closeAll : GoodIn wsX5_restore (wsV RX5 131 RX4 yX4_closeAll wsX4_closeAll) := goodIn_app (goodIn_of _ (by decide +kernel)) ggX5_restore_X4_closeAll
set_option maxRecDepth 20000 in
theorem ggX5_restore_J6_bitCount_0f7a4 : GoodIn wsX5_restore wsJ6_bitCount_0f7a4 := goodIn_r _ [75, 76, 77, 78] (by decide +kernel) (by decide +kernel)
set_option maxRecDepth 20000 in
theorem gX5_restore_J6_bitCount_0f7a4 : GoodIn wsX5_restore (va_wsS RX5 181 yJ6_bitCount_0f7a4 wsJ6_bitCount_0f7a4) := goodIn_app (goodIn_of _ (by decide +kernel)) ggX5_restore_J6_bitCount_0f7a4
theorem dX5_restore_0 : decode cX5_restore 0 = .ok (.aload_n 0, 1) := by decide +kernel
theorem dX5_restore_1 : decode cX5_restore 1 = .ok (.getfield 46, 3) := by decide +kernel
theorem dX5_restore_4 : decode cX5_restore 4 = .ok (.invokevirtual 255, 3) := by decide +kernel
theorem dX5_restore_7 : decode cX5_restore 7 = .ok (.aload_n 0, 1) := by decide +kernel
theorem dX5_restore_8 : decode cX5_restore 8 = .ok (.getfield 30, 3) := by decide +kernel
theorem dX5_restore_11 : decode cX5_restore 11 = .ok (.aload_n 0, 1) := by decide +kernel
theorem dX5_restore_12 : decode cX5_restore 12 = .ok (.getfield 46, 3) := by decide +kernel
theorem dX5_restore_15 : decode cX5_restore 15 = .ok (.getfield 261, 3) := by decide +kernel
theorem dX5_restore_18 : decode cX5_restore 18 = .ok (.invokevirtual 131, 3) := by decide +kernel
theorem dX5_restore_21 : decode cX5_restore 21 = .ok (.aload_n 0, 1) := by decide +kernel
theorem dX5_restore_22 : decode cX5_restore 22 = .ok (.getfield 46, 3) := by decide +kernel
theorem dX5_restore_25 : decode cX5_restore 25 = .ok (.getfield 261, 3) := by decide +kernel
theorem dX5_restore_28 : decode cX5_restore 28 = .ok (.invokestatic 181, 3) := by decide +kernel
theorem dX5_restore_31 : decode cX5_restore 31 = .ok (.ireturn, 1) := by decide +kernel
set_option maxRecDepth 20000 in
theorem ggX5_liveShare_X1_allNodes : GoodIn wsX5_liveShare wsX1_allNodes := goodIn_r _ [8, 9, 10, 11, 12, 56, 57, 58, 59, 60, 61, 62, 63, 64, 65] (by decide +kernel) (by decide +kernel)
set_option maxRecDepth 20000 in
theorem gX5_liveShare_X1_allNodes : GoodIn wsX5_liveShare (wsV RX5 248 RX1 yX1_allNodes wsX1_allNodes) := goodIn_app (goodIn_of _ (by decide +kernel)) ggX5_liveShare_X1_allNodes
set_option maxRecDepth 20000 in
theorem ggX5_liveShare_X1_loadIn : GoodIn wsX5_liveShare wsX1_loadIn := goodIn_ca (goodIn_r _ [16, 9, 17, 18, 11, 19, 56, 57, 58, 59, 60, 61, 62, 63, 64, 65] (by decide +kernel) (by decide +kernel)) (goodIn_sub (fun _ h => List.mem_cons_of_mem _ (List.mem_append_right _ h)) (by decide +kernel))
set_option maxRecDepth 20000 in
theorem gX5_liveShare_X1_loadIn : GoodIn wsX5_liveShare (wsV RX5 212 RX1 yX1_loadIn wsX1_loadIn) := goodIn_app (goodIn_of _ (by decide +kernel)) ggX5_liveShare_X1_loadIn
set_option maxRecDepth 20000 in
theorem ggX5_liveShare_X5_liveNodes : GoodIn wsX5_liveShare wsX5_liveNodes := goodIn_ca (goodIn_r _ [23, 3, 24, 25, 26, 27, 7, 28, 9, 29, 18, 11, 19, 30, 31, 32, 33, 10, 12, 34, 35, 36, 37, 38, 39, 40, 41, 42, 43, 44, 45, 46, 47, 48, 49, 50, 51, 52, 53, 54, 55, 66, 67, 68, 69, 70, 56, 57, 58, 59, 60, 61, 62, 63, 64, 65] (by decide +kernel) (by decide +kernel)) (goodIn_sub (fun _ h => List.mem_cons_of_mem _ (List.mem_append_right _ h)) (by decide +kernel))
set_option maxRecDepth 20000 in
theorem gX5_liveShare_X5_liveNodes : GoodIn wsX5_liveShare (wsV RX5 252 RX5 yX5_liveNodes wsX5_liveNodes) := goodIn_app (goodIn_of _ (by decide +kernel)) ggX5_liveShare_X5_liveNodes
theorem dX5_liveShare_0 : decode cX5_liveShare 0 = .ok (.aload_n 0, 1) := by decide +kernel
theorem dX5_liveShare_1 : decode cX5_liveShare 1 = .ok (.getfield 10, 3) := by decide +kernel
theorem dX5_liveShare_4 : decode cX5_liveShare 4 = .ok (.aload_n 0, 1) := by decide +kernel
theorem dX5_liveShare_5 : decode cX5_liveShare 5 = .ok (.getfield 10, 3) := by decide +kernel
theorem dX5_liveShare_8 : decode cX5_liveShare 8 = .ok (.invokevirtual 248, 3) := by decide +kernel
theorem dX5_liveShare_11 : decode cX5_liveShare 11 = .ok (.invokevirtual 212, 3) := by decide +kernel
theorem dX5_liveShare_14 : decode cX5_liveShare 14 = .ok (.istore_n 1, 1) := by decide +kernel
theorem dX5_liveShare_15 : decode cX5_liveShare 15 = .ok (.iload_n 1, 1) := by decide +kernel
theorem dX5_liveShare_16 : decode cX5_liveShare 16 = .ok (.ifCond .ne 14, 3) := by decide +kernel
theorem dX5_liveShare_19 : decode cX5_liveShare 19 = .ok (.new 275, 3) := by decide +kernel
theorem dX5_liveShare_22 : decode cX5_liveShare 22 = .ok (.dup, 1) := by decide +kernel
theorem dX5_liveShare_23 : decode cX5_liveShare 23 = .ok (.ldc_w 277, 3) := by decide +kernel
theorem dX5_liveShare_26 : decode cX5_liveShare 26 = .ok (.invokespecial 279, 3) := by decide +kernel
theorem dX5_liveShare_29 : decode cX5_liveShare 29 = .ok (.athrow, 1) := by decide +kernel
theorem dX5_liveShare_30 : decode cX5_liveShare 30 = .ok (.aload_n 0, 1) := by decide +kernel
theorem dX5_liveShare_31 : decode cX5_liveShare 31 = .ok (.getfield 10, 3) := by decide +kernel
theorem dX5_liveShare_34 : decode cX5_liveShare 34 = .ok (.aload_n 0, 1) := by decide +kernel
theorem dX5_liveShare_35 : decode cX5_liveShare 35 = .ok (.invokevirtual 252, 3) := by decide +kernel
theorem dX5_liveShare_38 : decode cX5_liveShare 38 = .ok (.invokevirtual 212, 3) := by decide +kernel
theorem dX5_liveShare_41 : decode cX5_liveShare 41 = .ok (.i2f, 1) := by decide +kernel
theorem dX5_liveShare_42 : decode cX5_liveShare 42 = .ok (.iload_n 1, 1) := by decide +kernel
theorem dX5_liveShare_43 : decode cX5_liveShare 43 = .ok (.i2f, 1) := by decide +kernel
theorem dX5_liveShare_44 : decode cX5_liveShare 44 = .ok (.fdiv, 1) := by decide +kernel
theorem dX5_liveShare_45 : decode cX5_liveShare 45 = .ok (.freturn, 1) := by decide +kernel
set_option maxRecDepth 20000 in
theorem ggX5_meanCurrent_X5_liveNodes : GoodIn wsX5_meanCurrent wsX5_liveNodes := goodIn_ca (goodIn_r _ [10, 3, 4, 11, 12, 13, 14, 15, 16, 17, 18, 9, 19, 20, 21, 22, 23, 24, 25, 26, 27, 28, 29, 30, 31, 32, 33, 34, 35, 36, 37, 38, 39, 40, 41, 74, 75, 76, 77, 78, 79, 80, 81, 82, 83, 84, 85, 86, 87, 88, 89, 90, 91, 92, 93, 94] (by decide +kernel) (by decide +kernel)) (goodIn_sub (fun _ h => List.mem_cons_of_mem _ (List.mem_append_right _ h)) (by decide +kernel))
set_option maxRecDepth 20000 in
theorem gX5_meanCurrent_X5_liveNodes : GoodIn wsX5_meanCurrent (wsV RX5 252 RX5 yX5_liveNodes wsX5_liveNodes) := goodIn_app (goodIn_of _ (by decide +kernel)) ggX5_meanCurrent_X5_liveNodes
set_option maxRecDepth 20000 in
theorem ggX5_meanCurrent_X1_linesAt : GoodIn wsX5_meanCurrent wsX1_linesAt := goodIn_ca (goodIn_r _ [45, 35, 40, 41, 18, 9, 19, 24, 25, 85, 86, 87, 88, 89, 90, 91, 92, 93, 94] (by decide +kernel) (by decide +kernel)) (goodIn_sub (fun _ h => List.mem_cons_of_mem _ (List.mem_append_right _ h)) (by decide +kernel))
set_option maxRecDepth 20000 in
theorem gX5_meanCurrent_X1_linesAt : GoodIn wsX5_meanCurrent (wsV RX5 162 RX1 yX1_linesAt wsX1_linesAt) := goodIn_app (goodIn_of _ (by decide +kernel)) ggX5_meanCurrent_X1_linesAt
set_option maxRecDepth 20000 in
theorem ggX5_meanCurrent_J6_bitCount_0f7a4 : GoodIn wsX5_meanCurrent wsJ6_bitCount_0f7a4 := goodIn_r _ [49, 50, 51, 52] (by decide +kernel) (by decide +kernel)
set_option maxRecDepth 20000 in
theorem gX5_meanCurrent_J6_bitCount_0f7a4 : GoodIn wsX5_meanCurrent (va_wsS RX5 181 yJ6_bitCount_0f7a4 wsJ6_bitCount_0f7a4) := goodIn_app (goodIn_of _ (by decide +kernel)) ggX5_meanCurrent_J6_bitCount_0f7a4
set_option maxRecDepth 20000 in
theorem ggX5_meanCurrent_X0_sumOfCurrents : GoodIn wsX5_meanCurrent wsX0_sumOfCurrents := goodIn_ca (goodIn_r _ [57, 58, 59, 60, 61, 56, 62, 63, 18, 9, 19, 64, 65, 66, 67, 68, 69, 70, 14, 71, 16, 72, 73, 37, 38, 39, 35, 40, 41, 95, 96, 97, 85, 86, 87, 88, 89, 90, 91, 92, 93, 94] (by decide +kernel) (by decide +kernel)) (goodIn_sub (fun _ h => List.mem_cons_of_mem _ (List.mem_append_right _ h)) (by decide +kernel))
set_option maxRecDepth 20000 in
theorem gX5_meanCurrent_X0_sumOfCurrents : GoodIn wsX5_meanCurrent (wsV RX5 282 RX0 yX0_sumOfCurrents wsX0_sumOfCurrents) := goodIn_app (goodIn_of _ (by decide +kernel)) ggX5_meanCurrent_X0_sumOfCurrents
theorem dX5_meanCurrent_0 : decode cX5_meanCurrent 0 = .ok (.aload_n 0, 1) := by decide +kernel
theorem dX5_meanCurrent_1 : decode cX5_meanCurrent 1 = .ok (.getfield 10, 3) := by decide +kernel
theorem dX5_meanCurrent_4 : decode cX5_meanCurrent 4 = .ok (.aload_n 0, 1) := by decide +kernel
theorem dX5_meanCurrent_5 : decode cX5_meanCurrent 5 = .ok (.invokevirtual 252, 3) := by decide +kernel
theorem dX5_meanCurrent_8 : decode cX5_meanCurrent 8 = .ok (.aload_n 0, 1) := by decide +kernel
theorem dX5_meanCurrent_9 : decode cX5_meanCurrent 9 = .ok (.getfield 30, 3) := by decide +kernel
theorem dX5_meanCurrent_12 : decode cX5_meanCurrent 12 = .ok (.getfield 120, 3) := by decide +kernel
theorem dX5_meanCurrent_15 : decode cX5_meanCurrent 15 = .ok (.invokevirtual 162, 3) := by decide +kernel
theorem dX5_meanCurrent_18 : decode cX5_meanCurrent 18 = .ok (.istore_n 1, 1) := by decide +kernel
theorem dX5_meanCurrent_19 : decode cX5_meanCurrent 19 = .ok (.iload_n 1, 1) := by decide +kernel
theorem dX5_meanCurrent_20 : decode cX5_meanCurrent 20 = .ok (.invokestatic 181, 3) := by decide +kernel
theorem dX5_meanCurrent_23 : decode cX5_meanCurrent 23 = .ok (.istore_n 2, 1) := by decide +kernel
theorem dX5_meanCurrent_24 : decode cX5_meanCurrent 24 = .ok (.iload_n 2, 1) := by decide +kernel
theorem dX5_meanCurrent_25 : decode cX5_meanCurrent 25 = .ok (.ifCond .ne 14, 3) := by decide +kernel
theorem dX5_meanCurrent_28 : decode cX5_meanCurrent 28 = .ok (.new 275, 3) := by decide +kernel
theorem dX5_meanCurrent_31 : decode cX5_meanCurrent 31 = .ok (.dup, 1) := by decide +kernel
theorem dX5_meanCurrent_32 : decode cX5_meanCurrent 32 = .ok (.ldc_w 280, 3) := by decide +kernel
theorem dX5_meanCurrent_35 : decode cX5_meanCurrent 35 = .ok (.invokespecial 279, 3) := by decide +kernel
theorem dX5_meanCurrent_38 : decode cX5_meanCurrent 38 = .ok (.athrow, 1) := by decide +kernel
theorem dX5_meanCurrent_39 : decode cX5_meanCurrent 39 = .ok (.aload_n 0, 1) := by decide +kernel
theorem dX5_meanCurrent_40 : decode cX5_meanCurrent 40 = .ok (.getfield 21, 3) := by decide +kernel
theorem dX5_meanCurrent_43 : decode cX5_meanCurrent 43 = .ok (.aload_n 0, 1) := by decide +kernel
theorem dX5_meanCurrent_44 : decode cX5_meanCurrent 44 = .ok (.getfield 30, 3) := by decide +kernel
theorem dX5_meanCurrent_47 : decode cX5_meanCurrent 47 = .ok (.getfield 120, 3) := by decide +kernel
theorem dX5_meanCurrent_50 : decode cX5_meanCurrent 50 = .ok (.invokevirtual 282, 3) := by decide +kernel
theorem dX5_meanCurrent_53 : decode cX5_meanCurrent 53 = .ok (.i2d, 1) := by decide +kernel
theorem dX5_meanCurrent_54 : decode cX5_meanCurrent 54 = .ok (.iload_n 2, 1) := by decide +kernel
theorem dX5_meanCurrent_55 : decode cX5_meanCurrent 55 = .ok (.i2d, 1) := by decide +kernel
theorem dX5_meanCurrent_56 : decode cX5_meanCurrent 56 = .ok (.ddiv, 1) := by decide +kernel
theorem dX5_meanCurrent_57 : decode cX5_meanCurrent 57 = .ok (.dreturn, 1) := by decide +kernel
set_option maxRecDepth 20000 in
theorem ggX5_needNode_X1_isNode : GoodIn wsX5_needNode wsX1_isNode := goodIn_r _ [8, 9, 16, 17, 18, 19, 20, 21, 22, 23, 24, 25] (by decide +kernel) (by decide +kernel)
set_option maxRecDepth 20000 in
theorem gX5_needNode_X1_isNode : GoodIn wsX5_needNode (wsV RX5 285 RX1 yX1_isNode wsX1_isNode) := goodIn_app (goodIn_of _ (by decide +kernel)) ggX5_needNode_X1_isNode
theorem dX5_needNode_0 : decode cX5_needNode 0 = .ok (.aload_n 0, 1) := by decide +kernel
theorem dX5_needNode_1 : decode cX5_needNode 1 = .ok (.getfield 10, 3) := by decide +kernel
theorem dX5_needNode_4 : decode cX5_needNode 4 = .ok (.iload_n 1, 1) := by decide +kernel
theorem dX5_needNode_5 : decode cX5_needNode 5 = .ok (.invokevirtual 285, 3) := by decide +kernel
theorem dX5_needNode_8 : decode cX5_needNode 8 = .ok (.ifCond .ne 14, 3) := by decide +kernel
theorem dX5_needNode_11 : decode cX5_needNode 11 = .ok (.new 289, 3) := by decide +kernel
theorem dX5_needNode_14 : decode cX5_needNode 14 = .ok (.dup, 1) := by decide +kernel
theorem dX5_needNode_15 : decode cX5_needNode 15 = .ok (.ldc_w 291, 3) := by decide +kernel
theorem dX5_needNode_18 : decode cX5_needNode 18 = .ok (.invokespecial 293, 3) := by decide +kernel
theorem dX5_needNode_21 : decode cX5_needNode 21 = .ok (.athrow, 1) := by decide +kernel
theorem dX5_needNode_22 : decode cX5_needNode 22 = .ok (.return_, 1) := by decide +kernel
set_option maxRecDepth 20000 in
theorem ggX5_needLine_X1_isLine : GoodIn wsX5_needLine wsX1_isLine := goodIn_r _ [8, 9, 16, 17, 18, 19, 20, 21, 22, 23, 24, 25] (by decide +kernel) (by decide +kernel)
set_option maxRecDepth 20000 in
theorem gX5_needLine_X1_isLine : GoodIn wsX5_needLine (wsV RX5 294 RX1 yX1_isLine wsX1_isLine) := goodIn_app (goodIn_of _ (by decide +kernel)) ggX5_needLine_X1_isLine
theorem dX5_needLine_0 : decode cX5_needLine 0 = .ok (.aload_n 0, 1) := by decide +kernel
theorem dX5_needLine_1 : decode cX5_needLine 1 = .ok (.getfield 10, 3) := by decide +kernel
theorem dX5_needLine_4 : decode cX5_needLine 4 = .ok (.iload_n 1, 1) := by decide +kernel
theorem dX5_needLine_5 : decode cX5_needLine 5 = .ok (.invokevirtual 294, 3) := by decide +kernel
theorem dX5_needLine_8 : decode cX5_needLine 8 = .ok (.ifCond .ne 14, 3) := by decide +kernel
theorem dX5_needLine_11 : decode cX5_needLine 11 = .ok (.new 289, 3) := by decide +kernel
theorem dX5_needLine_14 : decode cX5_needLine 14 = .ok (.dup, 1) := by decide +kernel
theorem dX5_needLine_15 : decode cX5_needLine 15 = .ok (.ldc_w 297, 3) := by decide +kernel
theorem dX5_needLine_18 : decode cX5_needLine 18 = .ok (.invokespecial 293, 3) := by decide +kernel
theorem dX5_needLine_21 : decode cX5_needLine 21 = .ok (.athrow, 1) := by decide +kernel
theorem dX5_needLine_22 : decode cX5_needLine 22 = .ok (.return_, 1) := by decide +kernel
set_option maxRecDepth 20000 in
theorem ggX5_needBus_X5_has : GoodIn wsX5_needBus wsX5_has := goodIn_r _ [7] (by decide +kernel) (by decide +kernel)
set_option maxRecDepth 20000 in
theorem gX5_needBus_X5_has : GoodIn wsX5_needBus (va_wsS RX5 149 yX5_has wsX5_has) := goodIn_app (goodIn_of _ (by decide +kernel)) ggX5_needBus_X5_has
theorem dX5_needBus_0 : decode cX5_needBus 0 = .ok (.aload_n 0, 1) := by decide +kernel
theorem dX5_needBus_1 : decode cX5_needBus 1 = .ok (.getfield 10, 3) := by decide +kernel
theorem dX5_needBus_4 : decode cX5_needBus 4 = .ok (.getfield 192, 3) := by decide +kernel
theorem dX5_needBus_7 : decode cX5_needBus 7 = .ok (.iload_n 1, 1) := by decide +kernel
theorem dX5_needBus_8 : decode cX5_needBus 8 = .ok (.invokestatic 149, 3) := by decide +kernel
theorem dX5_needBus_11 : decode cX5_needBus 11 = .ok (.ifCond .eq 14, 3) := by decide +kernel
theorem dX5_needBus_14 : decode cX5_needBus 14 = .ok (.new 176, 3) := by decide +kernel
theorem dX5_needBus_17 : decode cX5_needBus 17 = .ok (.dup, 1) := by decide +kernel
theorem dX5_needBus_18 : decode cX5_needBus 18 = .ok (.ldc_w 299, 3) := by decide +kernel
theorem dX5_needBus_21 : decode cX5_needBus 21 = .ok (.invokespecial 178, 3) := by decide +kernel
theorem dX5_needBus_24 : decode cX5_needBus 24 = .ok (.athrow, 1) := by decide +kernel
theorem dX5_needBus_25 : decode cX5_needBus 25 = .ok (.return_, 1) := by decide +kernel
set_option maxRecDepth 20000 in
theorem ggX5_needBreaker_X5_has : GoodIn wsX5_needBreaker wsX5_has := goodIn_r _ [7] (by decide +kernel) (by decide +kernel)
set_option maxRecDepth 20000 in
theorem gX5_needBreaker_X5_has : GoodIn wsX5_needBreaker (va_wsS RX5 149 yX5_has wsX5_has) := goodIn_app (goodIn_of _ (by decide +kernel)) ggX5_needBreaker_X5_has
theorem dX5_needBreaker_0 : decode cX5_needBreaker 0 = .ok (.aload_n 0, 1) := by decide +kernel
theorem dX5_needBreaker_1 : decode cX5_needBreaker 1 = .ok (.getfield 10, 3) := by decide +kernel
theorem dX5_needBreaker_4 : decode cX5_needBreaker 4 = .ok (.getfield 301, 3) := by decide +kernel
theorem dX5_needBreaker_7 : decode cX5_needBreaker 7 = .ok (.iload_n 1, 1) := by decide +kernel
theorem dX5_needBreaker_8 : decode cX5_needBreaker 8 = .ok (.invokestatic 149, 3) := by decide +kernel
theorem dX5_needBreaker_11 : decode cX5_needBreaker 11 = .ok (.ifCond .ne 14, 3) := by decide +kernel
theorem dX5_needBreaker_14 : decode cX5_needBreaker 14 = .ok (.new 176, 3) := by decide +kernel
theorem dX5_needBreaker_17 : decode cX5_needBreaker 17 = .ok (.dup, 1) := by decide +kernel
theorem dX5_needBreaker_18 : decode cX5_needBreaker 18 = .ok (.ldc_w 304, 3) := by decide +kernel
theorem dX5_needBreaker_21 : decode cX5_needBreaker 21 = .ok (.invokespecial 178, 3) := by decide +kernel
theorem dX5_needBreaker_24 : decode cX5_needBreaker 24 = .ok (.athrow, 1) := by decide +kernel
theorem dX5_needBreaker_25 : decode cX5_needBreaker 25 = .ok (.return_, 1) := by decide +kernel
set_option maxRecDepth 20000 in
theorem ggX5_needFewLinesToTry_X4_ofPlans : GoodIn wsX5_needFewLinesToTry wsX4_ofPlans := goodIn_r _ [8, 9, 10, 11, 12, 26, 27, 28, 29, 30, 31, 32, 33, 34, 35, 36, 37, 38, 39, 40] (by decide +kernel) (by decide +kernel)
set_option maxRecDepth 20000 in
theorem gX5_needFewLinesToTry_X4_ofPlans : GoodIn wsX5_needFewLinesToTry (wsV RX5 306 RX4 yX4_ofPlans wsX4_ofPlans) := goodIn_app (goodIn_of _ (by decide +kernel)) ggX5_needFewLinesToTry_X4_ofPlans
set_option maxRecDepth 20000 in
theorem ggX5_needFewLinesToTry_J6_bitCount_0f7a4 : GoodIn wsX5_needFewLinesToTry wsJ6_bitCount_0f7a4 := goodIn_r _ [16, 17, 18, 19] (by decide +kernel) (by decide +kernel)
set_option maxRecDepth 20000 in
theorem gX5_needFewLinesToTry_J6_bitCount_0f7a4 : GoodIn wsX5_needFewLinesToTry (va_wsS RX5 181 yJ6_bitCount_0f7a4 wsJ6_bitCount_0f7a4) := goodIn_app (goodIn_of _ (by decide +kernel)) ggX5_needFewLinesToTry_J6_bitCount_0f7a4
theorem dX5_needFewLinesToTry_0 : decode cX5_needFewLinesToTry 0 = .ok (.aload_n 0, 1) := by decide +kernel
theorem dX5_needFewLinesToTry_1 : decode cX5_needFewLinesToTry 1 = .ok (.getfield 30, 3) := by decide +kernel
theorem dX5_needFewLinesToTry_4 : decode cX5_needFewLinesToTry 4 = .ok (.invokevirtual 306, 3) := by decide +kernel
theorem dX5_needFewLinesToTry_7 : decode cX5_needFewLinesToTry 7 = .ok (.invokestatic 181, 3) := by decide +kernel
theorem dX5_needFewLinesToTry_10 : decode cX5_needFewLinesToTry 10 = .ok (.bipush 9, 2) := by decide +kernel
theorem dX5_needFewLinesToTry_12 : decode cX5_needFewLinesToTry 12 = .ok (.if_icmp .le 14, 3) := by decide +kernel
theorem dX5_needFewLinesToTry_15 : decode cX5_needFewLinesToTry 15 = .ok (.new 176, 3) := by decide +kernel
theorem dX5_needFewLinesToTry_18 : decode cX5_needFewLinesToTry 18 = .ok (.dup, 1) := by decide +kernel
theorem dX5_needFewLinesToTry_19 : decode cX5_needFewLinesToTry 19 = .ok (.ldc_w 309, 3) := by decide +kernel
theorem dX5_needFewLinesToTry_22 : decode cX5_needFewLinesToTry 22 = .ok (.invokespecial 178, 3) := by decide +kernel
theorem dX5_needFewLinesToTry_25 : decode cX5_needFewLinesToTry 25 = .ok (.athrow, 1) := by decide +kernel
theorem dX5_needFewLinesToTry_26 : decode cX5_needFewLinesToTry 26 = .ok (.return_, 1) := by decide +kernel
set_option maxRecDepth 20000 in
theorem ggX5_lengthOfPathTo_X0_layPath : GoodIn wsX5_lengthOfPathTo wsX0_layPath := goodIn_ca (goodIn_r _ [9, 10, 11, 12, 13, 14, 15, 16, 8, 17, 18, 19, 20, 21, 22, 23, 24, 25, 26, 38, 39, 40, 41, 42, 43, 44, 45, 46, 47, 48, 49, 50] (by decide +kernel) (by decide +kernel)) (goodIn_sub (fun _ h => List.mem_cons_of_mem _ (List.mem_append_right _ h)) (by decide +kernel))
set_option maxRecDepth 20000 in
theorem gX5_lengthOfPathTo_X0_layPath : GoodIn wsX5_lengthOfPathTo (wsV RX5 315 RX0 yX0_layPath wsX0_layPath) := goodIn_app (goodIn_of _ (by decide +kernel)) ggX5_lengthOfPathTo_X0_layPath
theorem dX5_lengthOfPathTo_0 : decode cX5_lengthOfPathTo 0 = .ok (.aload_n 0, 1) := by decide +kernel
theorem dX5_lengthOfPathTo_1 : decode cX5_lengthOfPathTo 1 = .ok (.getfield 21, 3) := by decide +kernel
theorem dX5_lengthOfPathTo_4 : decode cX5_lengthOfPathTo 4 = .ok (.iload_n 1, 1) := by decide +kernel
theorem dX5_lengthOfPathTo_5 : decode cX5_lengthOfPathTo 5 = .ok (.aload_n 0, 1) := by decide +kernel
theorem dX5_lengthOfPathTo_6 : decode cX5_lengthOfPathTo 6 = .ok (.getfield 30, 3) := by decide +kernel
theorem dX5_lengthOfPathTo_9 : decode cX5_lengthOfPathTo 9 = .ok (.getfield 120, 3) := by decide +kernel
theorem dX5_lengthOfPathTo_12 : decode cX5_lengthOfPathTo 12 = .ok (.invokevirtual 315, 3) := by decide +kernel
theorem dX5_lengthOfPathTo_15 : decode cX5_lengthOfPathTo 15 = .ok (.istore_n 2, 1) := by decide +kernel
theorem dX5_lengthOfPathTo_16 : decode cX5_lengthOfPathTo 16 = .ok (.iload_n 2, 1) := by decide +kernel
theorem dX5_lengthOfPathTo_17 : decode cX5_lengthOfPathTo 17 = .ok (.ifCond .ne 14, 3) := by decide +kernel
theorem dX5_lengthOfPathTo_20 : decode cX5_lengthOfPathTo 20 = .ok (.new 100, 3) := by decide +kernel
theorem dX5_lengthOfPathTo_23 : decode cX5_lengthOfPathTo 23 = .ok (.dup, 1) := by decide +kernel
theorem dX5_lengthOfPathTo_24 : decode cX5_lengthOfPathTo 24 = .ok (.ldc_w 318, 3) := by decide +kernel
theorem dX5_lengthOfPathTo_27 : decode cX5_lengthOfPathTo 27 = .ok (.invokespecial 104, 3) := by decide +kernel
theorem dX5_lengthOfPathTo_30 : decode cX5_lengthOfPathTo 30 = .ok (.athrow, 1) := by decide +kernel
theorem dX5_lengthOfPathTo_31 : decode cX5_lengthOfPathTo 31 = .ok (.iload_n 2, 1) := by decide +kernel
theorem dX5_lengthOfPathTo_32 : decode cX5_lengthOfPathTo 32 = .ok (.ireturn, 1) := by decide +kernel
set_option maxRecDepth 20000 in
theorem ggX5_islandAt_X1_islandAround : GoodIn wsX5_islandAt wsX1_islandAround := goodIn_ca (goodIn_r _ [7, 8, 9, 10, 11, 12, 13, 14, 15, 16, 17, 18, 6, 19, 20, 21, 22, 23, 24, 25, 26, 27, 28, 40, 41, 42, 43, 44, 45, 46, 47, 48, 49] (by decide +kernel) (by decide +kernel)) (goodIn_sub (fun _ h => List.mem_cons_of_mem _ (List.mem_append_right _ h)) (by decide +kernel))
set_option maxRecDepth 20000 in
theorem gX5_islandAt_X1_islandAround : GoodIn wsX5_islandAt (wsV RX5 320 RX1 yX1_islandAround wsX1_islandAround) := goodIn_app (goodIn_of _ (by decide +kernel)) ggX5_islandAt_X1_islandAround
theorem dX5_islandAt_0 : decode cX5_islandAt 0 = .ok (.aload_n 0, 1) := by decide +kernel
theorem dX5_islandAt_1 : decode cX5_islandAt 1 = .ok (.getfield 10, 3) := by decide +kernel
theorem dX5_islandAt_4 : decode cX5_islandAt 4 = .ok (.iload_n 1, 1) := by decide +kernel
theorem dX5_islandAt_5 : decode cX5_islandAt 5 = .ok (.aload_n 0, 1) := by decide +kernel
theorem dX5_islandAt_6 : decode cX5_islandAt 6 = .ok (.getfield 30, 3) := by decide +kernel
theorem dX5_islandAt_9 : decode cX5_islandAt 9 = .ok (.getfield 120, 3) := by decide +kernel
theorem dX5_islandAt_12 : decode cX5_islandAt 12 = .ok (.invokevirtual 320, 3) := by decide +kernel
theorem dX5_islandAt_15 : decode cX5_islandAt 15 = .ok (.ireturn, 1) := by decide +kernel
set_option maxRecDepth 20000 in
theorem ggX5_liveNodes_X1_liveWith : GoodIn wsX5_liveNodes wsX1_liveWith := goodIn_ca (goodIn_r _ [7, 8, 9, 10, 11, 12, 13, 14, 15, 6, 16, 17, 18, 19, 20, 21, 22, 23, 24, 25, 26, 27, 28, 29, 30, 31, 32, 33, 34, 46, 47, 48, 49, 50, 51, 52, 53, 54, 55] (by decide +kernel) (by decide +kernel)) (goodIn_sub (fun _ h => List.mem_cons_of_mem _ (List.mem_append_right _ h)) (by decide +kernel))
set_option maxRecDepth 20000 in
theorem gX5_liveNodes_X1_liveWith : GoodIn wsX5_liveNodes (wsV RX5 323 RX1 yX1_liveWith wsX1_liveWith) := goodIn_app (goodIn_of _ (by decide +kernel)) ggX5_liveNodes_X1_liveWith
theorem dX5_liveNodes_0 : decode cX5_liveNodes 0 = .ok (.aload_n 0, 1) := by decide +kernel
theorem dX5_liveNodes_1 : decode cX5_liveNodes 1 = .ok (.getfield 10, 3) := by decide +kernel
theorem dX5_liveNodes_4 : decode cX5_liveNodes 4 = .ok (.aload_n 0, 1) := by decide +kernel
theorem dX5_liveNodes_5 : decode cX5_liveNodes 5 = .ok (.getfield 30, 3) := by decide +kernel
theorem dX5_liveNodes_8 : decode cX5_liveNodes 8 = .ok (.getfield 120, 3) := by decide +kernel
theorem dX5_liveNodes_11 : decode cX5_liveNodes 11 = .ok (.invokevirtual 323, 3) := by decide +kernel
theorem dX5_liveNodes_14 : decode cX5_liveNodes 14 = .ok (.ireturn, 1) := by decide +kernel
