theorem dX5_weight_0 : decode cX5_weight 0 = .ok (.aload_n 0, 1) := by decide +kernel
theorem dX5_weight_1 : decode cX5_weight 1 = .ok (.iload_n 1, 1) := by decide +kernel
theorem dX5_weight_2 : decode cX5_weight 2 = .ok (.invokevirtual 71, 3) := by decide +kernel
theorem dX5_weight_5 : decode cX5_weight 5 = .ok (.aload_n 0, 1) := by decide +kernel
theorem dX5_weight_6 : decode cX5_weight 6 = .ok (.iload_n 1, 1) := by decide +kernel
theorem dX5_weight_7 : decode cX5_weight 7 = .ok (.invokevirtual 86, 3) := by decide +kernel
theorem dX5_weight_10 : decode cX5_weight 10 = .ok (.aload_n 0, 1) := by decide +kernel
theorem dX5_weight_11 : decode cX5_weight 11 = .ok (.getfield 10, 3) := by decide +kernel
theorem dX5_weight_14 : decode cX5_weight 14 = .ok (.iload_n 1, 1) := by decide +kernel
theorem dX5_weight_15 : decode cX5_weight 15 = .ok (.invokestatic 128, 3) := by decide +kernel
theorem dX5_weight_18 : decode cX5_weight 18 = .ok (.invokevirtual 195, 3) := by decide +kernel
theorem dX5_weight_21 : decode cX5_weight 21 = .ok (.ireturn, 1) := by decide +kernel
set_option maxRecDepth 20000 in
theorem ggX5_isClosed_X5_needLine : GoodIn wsX5_isClosed wsX5_needLine := goodIn_ca (goodIn_r _ [6, 7, 8, 9, 10, 11, 12, 13, 14, 15, 19, 20, 21, 22, 23, 24, 30, 31, 32, 33, 34, 35, 36, 37, 38, 39] (by decide +kernel) (by decide +kernel)) (goodIn_sub (fun _ h => List.mem_cons_of_mem _ (List.mem_append_right _ h)) (by decide +kernel))
set_option maxRecDepth 20000 in
theorem gX5_isClosed_X5_needLine : GoodIn wsX5_isClosed (wsV RX5 105 RX5 yX5_needLine wsX5_needLine) := goodIn_app (goodIn_of _ (by decide +kernel)) ggX5_isClosed_X5_needLine
set_option maxRecDepth 20000 in
theorem ggX5_isClosed_X5_has : GoodIn wsX5_isClosed wsX5_has := goodIn_r _ [18] (by decide +kernel) (by decide +kernel)
set_option maxRecDepth 20000 in
theorem gX5_isClosed_X5_has : GoodIn wsX5_isClosed (va_wsS RX5 149 yX5_has wsX5_has) := goodIn_app (goodIn_of _ (by decide +kernel)) ggX5_isClosed_X5_has
theorem dX5_isClosed_0 : decode cX5_isClosed 0 = .ok (.aload_n 0, 1) := by decide +kernel
theorem dX5_isClosed_1 : decode cX5_isClosed 1 = .ok (.iload_n 1, 1) := by decide +kernel
theorem dX5_isClosed_2 : decode cX5_isClosed 2 = .ok (.invokevirtual 105, 3) := by decide +kernel
theorem dX5_isClosed_5 : decode cX5_isClosed 5 = .ok (.aload_n 0, 1) := by decide +kernel
theorem dX5_isClosed_6 : decode cX5_isClosed 6 = .ok (.getfield 30, 3) := by decide +kernel
theorem dX5_isClosed_9 : decode cX5_isClosed 9 = .ok (.getfield 120, 3) := by decide +kernel
theorem dX5_isClosed_12 : decode cX5_isClosed 12 = .ok (.iload_n 1, 1) := by decide +kernel
theorem dX5_isClosed_13 : decode cX5_isClosed 13 = .ok (.invokestatic 149, 3) := by decide +kernel
theorem dX5_isClosed_16 : decode cX5_isClosed 16 = .ok (.ireturn, 1) := by decide +kernel
set_option maxRecDepth 20000 in
theorem ggX5_isLocked_X5_needLine : GoodIn wsX5_isLocked wsX5_needLine := goodIn_ca (goodIn_r _ [6, 7, 8, 9, 10, 11, 12, 13, 14, 15, 19, 20, 21, 22, 23, 24, 30, 31, 32, 33, 34, 35, 36, 37, 38, 39] (by decide +kernel) (by decide +kernel)) (goodIn_sub (fun _ h => List.mem_cons_of_mem _ (List.mem_append_right _ h)) (by decide +kernel))
set_option maxRecDepth 20000 in
theorem gX5_isLocked_X5_needLine : GoodIn wsX5_isLocked (wsV RX5 105 RX5 yX5_needLine wsX5_needLine) := goodIn_app (goodIn_of _ (by decide +kernel)) ggX5_isLocked_X5_needLine
set_option maxRecDepth 20000 in
theorem ggX5_isLocked_X5_has : GoodIn wsX5_isLocked wsX5_has := goodIn_r _ [18] (by decide +kernel) (by decide +kernel)
set_option maxRecDepth 20000 in
theorem gX5_isLocked_X5_has : GoodIn wsX5_isLocked (va_wsS RX5 149 yX5_has wsX5_has) := goodIn_app (goodIn_of _ (by decide +kernel)) ggX5_isLocked_X5_has
theorem dX5_isLocked_0 : decode cX5_isLocked 0 = .ok (.aload_n 0, 1) := by decide +kernel
theorem dX5_isLocked_1 : decode cX5_isLocked 1 = .ok (.iload_n 1, 1) := by decide +kernel
theorem dX5_isLocked_2 : decode cX5_isLocked 2 = .ok (.invokevirtual 105, 3) := by decide +kernel
theorem dX5_isLocked_5 : decode cX5_isLocked 5 = .ok (.aload_n 0, 1) := by decide +kernel
theorem dX5_isLocked_6 : decode cX5_isLocked 6 = .ok (.getfield 30, 3) := by decide +kernel
theorem dX5_isLocked_9 : decode cX5_isLocked 9 = .ok (.getfield 173, 3) := by decide +kernel
theorem dX5_isLocked_12 : decode cX5_isLocked 12 = .ok (.iload_n 1, 1) := by decide +kernel
theorem dX5_isLocked_13 : decode cX5_isLocked 13 = .ok (.invokestatic 149, 3) := by decide +kernel
theorem dX5_isLocked_16 : decode cX5_isLocked 16 = .ok (.ireturn, 1) := by decide +kernel
set_option maxRecDepth 20000 in
theorem ggX5_hasFault_X5_needLine : GoodIn wsX5_hasFault wsX5_needLine := goodIn_ca (goodIn_r _ [6, 7, 8, 9, 10, 11, 12, 13, 14, 15, 19, 20, 21, 22, 23, 24, 30, 31, 32, 33, 34, 35, 36, 37, 38, 39] (by decide +kernel) (by decide +kernel)) (goodIn_sub (fun _ h => List.mem_cons_of_mem _ (List.mem_append_right _ h)) (by decide +kernel))
set_option maxRecDepth 20000 in
theorem gX5_hasFault_X5_needLine : GoodIn wsX5_hasFault (wsV RX5 105 RX5 yX5_needLine wsX5_needLine) := goodIn_app (goodIn_of _ (by decide +kernel)) ggX5_hasFault_X5_needLine
set_option maxRecDepth 20000 in
theorem ggX5_hasFault_X5_has : GoodIn wsX5_hasFault wsX5_has := goodIn_r _ [18] (by decide +kernel) (by decide +kernel)
set_option maxRecDepth 20000 in
theorem gX5_hasFault_X5_has : GoodIn wsX5_hasFault (va_wsS RX5 149 yX5_has wsX5_has) := goodIn_app (goodIn_of _ (by decide +kernel)) ggX5_hasFault_X5_has
theorem dX5_hasFault_0 : decode cX5_hasFault 0 = .ok (.aload_n 0, 1) := by decide +kernel
theorem dX5_hasFault_1 : decode cX5_hasFault 1 = .ok (.iload_n 1, 1) := by decide +kernel
theorem dX5_hasFault_2 : decode cX5_hasFault 2 = .ok (.invokevirtual 105, 3) := by decide +kernel
theorem dX5_hasFault_5 : decode cX5_hasFault 5 = .ok (.aload_n 0, 1) := by decide +kernel
theorem dX5_hasFault_6 : decode cX5_hasFault 6 = .ok (.getfield 30, 3) := by decide +kernel
theorem dX5_hasFault_9 : decode cX5_hasFault 9 = .ok (.getfield 146, 3) := by decide +kernel
theorem dX5_hasFault_12 : decode cX5_hasFault 12 = .ok (.iload_n 1, 1) := by decide +kernel
theorem dX5_hasFault_13 : decode cX5_hasFault 13 = .ok (.invokestatic 149, 3) := by decide +kernel
theorem dX5_hasFault_16 : decode cX5_hasFault 16 = .ok (.ireturn, 1) := by decide +kernel
set_option maxRecDepth 20000 in
theorem ggX5_islandOf_X5_needNode : GoodIn wsX5_islandOf wsX5_needNode := goodIn_ca (goodIn_r _ [5, 6, 7, 8, 9, 10, 11, 12, 13, 14, 45, 46, 47, 48, 49, 50, 51, 52, 53, 54, 55, 56, 57, 58, 59, 60] (by decide +kernel) (by decide +kernel)) (goodIn_sub (fun _ h => List.mem_cons_of_mem _ (List.mem_append_left _ (List.mem_append_right _ h))) (by decide +kernel))
set_option maxRecDepth 20000 in
theorem gX5_islandOf_X5_needNode : GoodIn wsX5_islandOf (wsV RX5 71 RX5 yX5_needNode wsX5_needNode) := goodIn_app (goodIn_of _ (by decide +kernel)) ggX5_islandOf_X5_needNode
set_option maxRecDepth 20000 in
theorem ggX5_islandOf_X5_islandAt : GoodIn wsX5_islandOf wsX5_islandAt := goodIn_ca (goodIn_r _ [18, 8, 19, 20, 21, 22, 12, 23, 24, 4, 25, 26, 27, 28, 29, 30, 31, 32, 33, 34, 35, 36, 37, 38, 39, 40, 41, 42, 43, 45, 46, 47, 48, 49, 50, 61, 62, 63, 64, 65, 51, 52, 53, 54, 55, 56, 57, 58, 59, 60] (by decide +kernel) (by decide +kernel)) (goodIn_sub (fun _ h => List.mem_cons_of_mem _ (List.mem_append_right _ h)) (by decide +kernel))
set_option maxRecDepth 20000 in
theorem gX5_islandOf_X5_islandAt : GoodIn wsX5_islandOf (wsV RX5 198 RX5 yX5_islandAt wsX5_islandAt) := goodIn_app (goodIn_of _ (by decide +kernel)) ggX5_islandOf_X5_islandAt
set_option maxRecDepth 20000 in
theorem ggX5_islandOf_X5_lowestIn : GoodIn wsX5_islandOf wsX5_lowestIn := goodIn_r _ [27, 28, 29, 4, 30] (by decide +kernel) (by decide +kernel)
set_option maxRecDepth 20000 in
theorem gX5_islandOf_X5_lowestIn : GoodIn wsX5_islandOf (va_wsS RX5 201 yX5_lowestIn wsX5_lowestIn) := goodIn_app (goodIn_of _ (by decide +kernel)) ggX5_islandOf_X5_lowestIn
theorem dX5_islandOf_0 : decode cX5_islandOf 0 = .ok (.aload_n 0, 1) := by decide +kernel
theorem dX5_islandOf_1 : decode cX5_islandOf 1 = .ok (.iload_n 1, 1) := by decide +kernel
theorem dX5_islandOf_2 : decode cX5_islandOf 2 = .ok (.invokevirtual 71, 3) := by decide +kernel
theorem dX5_islandOf_5 : decode cX5_islandOf 5 = .ok (.aload_n 0, 1) := by decide +kernel
theorem dX5_islandOf_6 : decode cX5_islandOf 6 = .ok (.iload_n 1, 1) := by decide +kernel
theorem dX5_islandOf_7 : decode cX5_islandOf 7 = .ok (.invokevirtual 198, 3) := by decide +kernel
theorem dX5_islandOf_10 : decode cX5_islandOf 10 = .ok (.invokestatic 201, 3) := by decide +kernel
theorem dX5_islandOf_13 : decode cX5_islandOf 13 = .ok (.ireturn, 1) := by decide +kernel
set_option maxRecDepth 20000 in
theorem ggX5_islandByRounds_X5_needNode : GoodIn wsX5_islandByRounds wsX5_needNode := goodIn_ca (goodIn_r _ [7, 8, 9, 1, 10, 11, 12, 13, 14, 15, 33, 34, 35, 36, 37, 38, 44, 45, 46, 47, 48, 49, 50, 51, 52, 53] (by decide +kernel) (by decide +kernel)) (goodIn_sub (fun _ h => List.mem_cons_of_mem _ (List.mem_append_left _ (List.mem_append_right _ h))) (by decide +kernel))
set_option maxRecDepth 20000 in
theorem gX5_islandByRounds_X5_needNode : GoodIn wsX5_islandByRounds (wsV RX5 71 RX5 yX5_needNode wsX5_needNode) := goodIn_app (goodIn_of _ (by decide +kernel)) ggX5_islandByRounds_X5_needNode
set_option maxRecDepth 20000 in
theorem ggX5_islandByRounds_X1_islandGrownFrom : GoodIn wsX5_islandByRounds wsX1_islandGrownFrom := goodIn_ca (goodIn_r _ [19, 20, 21, 22, 23, 6, 24, 25, 26, 44, 45, 46, 47, 48, 49, 50, 51, 52, 53] (by decide +kernel) (by decide +kernel)) (goodIn_sub (fun _ h => List.mem_cons_of_mem _ (List.mem_append_right _ h)) (by decide +kernel))
set_option maxRecDepth 20000 in
theorem gX5_islandByRounds_X1_islandGrownFrom : GoodIn wsX5_islandByRounds (wsV RX5 204 RX1 yX1_islandGrownFrom wsX1_islandGrownFrom) := goodIn_app (goodIn_of _ (by decide +kernel)) ggX5_islandByRounds_X1_islandGrownFrom
set_option maxRecDepth 20000 in
theorem ggX5_islandByRounds_X5_lowestIn : GoodIn wsX5_islandByRounds wsX5_lowestIn := goodIn_r _ [29, 30, 31, 6, 32] (by decide +kernel) (by decide +kernel)
set_option maxRecDepth 20000 in
theorem gX5_islandByRounds_X5_lowestIn : GoodIn wsX5_islandByRounds (va_wsS RX5 201 yX5_lowestIn wsX5_lowestIn) := goodIn_app (goodIn_of _ (by decide +kernel)) ggX5_islandByRounds_X5_lowestIn
theorem dX5_islandByRounds_0 : decode cX5_islandByRounds 0 = .ok (.aload_n 0, 1) := by decide +kernel
theorem dX5_islandByRounds_1 : decode cX5_islandByRounds 1 = .ok (.iload_n 1, 1) := by decide +kernel
theorem dX5_islandByRounds_2 : decode cX5_islandByRounds 2 = .ok (.invokevirtual 71, 3) := by decide +kernel
theorem dX5_islandByRounds_5 : decode cX5_islandByRounds 5 = .ok (.aload_n 0, 1) := by decide +kernel
theorem dX5_islandByRounds_6 : decode cX5_islandByRounds 6 = .ok (.getfield 10, 3) := by decide +kernel
theorem dX5_islandByRounds_9 : decode cX5_islandByRounds 9 = .ok (.iload_n 1, 1) := by decide +kernel
theorem dX5_islandByRounds_10 : decode cX5_islandByRounds 10 = .ok (.aload_n 0, 1) := by decide +kernel
theorem dX5_islandByRounds_11 : decode cX5_islandByRounds 11 = .ok (.getfield 30, 3) := by decide +kernel
theorem dX5_islandByRounds_14 : decode cX5_islandByRounds 14 = .ok (.getfield 120, 3) := by decide +kernel
theorem dX5_islandByRounds_17 : decode cX5_islandByRounds 17 = .ok (.invokevirtual 204, 3) := by decide +kernel
theorem dX5_islandByRounds_20 : decode cX5_islandByRounds 20 = .ok (.invokestatic 201, 3) := by decide +kernel
theorem dX5_islandByRounds_23 : decode cX5_islandByRounds 23 = .ok (.ireturn, 1) := by decide +kernel
set_option maxRecDepth 20000 in
theorem ggX5_islands_X5_islandAt : GoodIn wsX5_islands wsX5_islandAt := goodIn_ca (goodIn_r _ [6, 1, 7, 8, 9, 10, 11, 12, 13, 5, 14, 15, 16, 17, 18, 19, 20, 21, 22, 23, 24, 25, 26, 27, 28, 29, 30, 31, 32, 34, 35, 36, 37, 38, 39, 50, 51, 52, 53, 54, 40, 41, 42, 43, 44, 45, 46, 47, 48, 49] (by decide +kernel) (by decide +kernel)) (goodIn_sub (fun _ h => List.mem_cons_of_mem _ (List.mem_append_right _ h)) (by decide +kernel))
set_option maxRecDepth 20000 in
theorem gX5_islands_X5_islandAt : GoodIn wsX5_islands (wsV RX5 198 RX5 yX5_islandAt wsX5_islandAt) := goodIn_app (goodIn_of _ (by decide +kernel)) ggX5_islands_X5_islandAt
set_option maxRecDepth 20000 in
theorem ggX5_islands_X5_lowestIn : GoodIn wsX5_islands wsX5_lowestIn := goodIn_r _ [16, 17, 18, 5, 19] (by decide +kernel) (by decide +kernel)
set_option maxRecDepth 20000 in
theorem gX5_islands_X5_lowestIn : GoodIn wsX5_islands (va_wsS RX5 201 yX5_lowestIn wsX5_lowestIn) := goodIn_app (goodIn_of _ (by decide +kernel)) ggX5_islands_X5_lowestIn
theorem dX5_islands_0 : decode cX5_islands 0 = .ok (.iconst 0, 1) := by decide +kernel
theorem dX5_islands_1 : decode cX5_islands 1 = .ok (.istore_n 1, 1) := by decide +kernel
theorem dX5_islands_2 : decode cX5_islands 2 = .ok (.iconst 0, 1) := by decide +kernel
theorem dX5_islands_3 : decode cX5_islands 3 = .ok (.istore_n 2, 1) := by decide +kernel
theorem dX5_islands_4 : decode cX5_islands 4 = .ok (.iload_n 2, 1) := by decide +kernel
theorem dX5_islands_5 : decode cX5_islands 5 = .ok (.aload_n 0, 1) := by decide +kernel
theorem dX5_islands_6 : decode cX5_islands 6 = .ok (.getfield 10, 3) := by decide +kernel
theorem dX5_islands_9 : decode cX5_islands 9 = .ok (.getfield 186, 3) := by decide +kernel
theorem dX5_islands_12 : decode cX5_islands 12 = .ok (.if_icmp .ge 24, 3) := by decide +kernel
theorem dX5_islands_15 : decode cX5_islands 15 = .ok (.aload_n 0, 1) := by decide +kernel
theorem dX5_islands_16 : decode cX5_islands 16 = .ok (.iload_n 2, 1) := by decide +kernel
theorem dX5_islands_17 : decode cX5_islands 17 = .ok (.invokevirtual 198, 3) := by decide +kernel
theorem dX5_islands_20 : decode cX5_islands 20 = .ok (.invokestatic 201, 3) := by decide +kernel
theorem dX5_islands_23 : decode cX5_islands 23 = .ok (.iload_n 2, 1) := by decide +kernel
theorem dX5_islands_24 : decode cX5_islands 24 = .ok (.if_icmp .ne 6, 3) := by decide +kernel
theorem dX5_islands_27 : decode cX5_islands 27 = .ok (.iinc 1 1, 3) := by decide +kernel
theorem dX5_islands_30 : decode cX5_islands 30 = .ok (.iinc 2 1, 3) := by decide +kernel
theorem dX5_islands_33 : decode cX5_islands 33 = .ok (.goto (-29), 3) := by decide +kernel
theorem dX5_islands_36 : decode cX5_islands 36 = .ok (.iload_n 1, 1) := by decide +kernel
theorem dX5_islands_37 : decode cX5_islands 37 = .ok (.ireturn, 1) := by decide +kernel
set_option maxRecDepth 20000 in
theorem ggX5_isLive_X5_needNode : GoodIn wsX5_isLive wsX5_needNode := goodIn_ca (goodIn_r _ [6, 7, 8, 1, 9, 10, 11, 12, 13, 14, 49, 50, 51, 52, 53, 54, 55, 56, 57, 58, 59, 60, 61, 62, 63, 64] (by decide +kernel) (by decide +kernel)) (goodIn_sub (fun _ h => List.mem_cons_of_mem _ (List.mem_append_left _ (List.mem_append_right _ h))) (by decide +kernel))
set_option maxRecDepth 20000 in
theorem gX5_isLive_X5_needNode : GoodIn wsX5_isLive (wsV RX5 71 RX5 yX5_needNode wsX5_needNode) := goodIn_app (goodIn_of _ (by decide +kernel)) ggX5_isLive_X5_needNode
set_option maxRecDepth 20000 in
theorem ggX5_isLive_X5_islandAt : GoodIn wsX5_isLive wsX5_islandAt := goodIn_ca (goodIn_r _ [18, 1, 19, 20, 21, 22, 12, 23, 24, 5, 25, 26, 27, 28, 29, 30, 31, 32, 33, 34, 35, 36, 37, 38, 39, 40, 41, 42, 43, 49, 50, 51, 52, 53, 54, 65, 66, 67, 68, 69, 55, 56, 57, 58, 59, 60, 61, 62, 63, 64] (by decide +kernel) (by decide +kernel)) (goodIn_sub (fun _ h => List.mem_cons_of_mem _ (List.mem_append_right _ h)) (by decide +kernel))
set_option maxRecDepth 20000 in
theorem gX5_isLive_X5_islandAt : GoodIn wsX5_isLive (wsV RX5 198 RX5 yX5_islandAt wsX5_islandAt) := goodIn_app (goodIn_of _ (by decide +kernel)) ggX5_isLive_X5_islandAt
set_option maxRecDepth 20000 in
theorem ggX5_isLive_X1_sourceIn : GoodIn wsX5_isLive wsX1_sourceIn := goodIn_r _ [47, 48, 26, 5, 27, 28, 29, 30, 55, 56, 57, 58, 59, 60, 61, 62, 63, 64] (by decide +kernel) (by decide +kernel)
set_option maxRecDepth 20000 in
theorem gX5_isLive_X1_sourceIn : GoodIn wsX5_isLive (wsV RX5 207 RX1 yX1_sourceIn wsX1_sourceIn) := goodIn_app (goodIn_of _ (by decide +kernel)) ggX5_isLive_X1_sourceIn
theorem dX5_isLive_0 : decode cX5_isLive 0 = .ok (.aload_n 0, 1) := by decide +kernel
theorem dX5_isLive_1 : decode cX5_isLive 1 = .ok (.iload_n 1, 1) := by decide +kernel
theorem dX5_isLive_2 : decode cX5_isLive 2 = .ok (.invokevirtual 71, 3) := by decide +kernel
theorem dX5_isLive_5 : decode cX5_isLive 5 = .ok (.aload_n 0, 1) := by decide +kernel
theorem dX5_isLive_6 : decode cX5_isLive 6 = .ok (.getfield 10, 3) := by decide +kernel
theorem dX5_isLive_9 : decode cX5_isLive 9 = .ok (.aload_n 0, 1) := by decide +kernel
theorem dX5_isLive_10 : decode cX5_isLive 10 = .ok (.iload_n 1, 1) := by decide +kernel
theorem dX5_isLive_11 : decode cX5_isLive 11 = .ok (.invokevirtual 198, 3) := by decide +kernel
theorem dX5_isLive_14 : decode cX5_isLive 14 = .ok (.invokevirtual 207, 3) := by decide +kernel
theorem dX5_isLive_17 : decode cX5_isLive 17 = .ok (.iconst (-1), 1) := by decide +kernel
theorem dX5_isLive_18 : decode cX5_isLive 18 = .ok (.if_icmp .eq 7, 3) := by decide +kernel
theorem dX5_isLive_21 : decode cX5_isLive 21 = .ok (.iconst 1, 1) := by decide +kernel
theorem dX5_isLive_22 : decode cX5_isLive 22 = .ok (.goto 4, 3) := by decide +kernel
theorem dX5_isLive_25 : decode cX5_isLive 25 = .ok (.iconst 0, 1) := by decide +kernel
theorem dX5_isLive_26 : decode cX5_isLive 26 = .ok (.ireturn, 1) := by decide +kernel
set_option maxRecDepth 20000 in
theorem ggX5_sourceOf_X5_needNode : GoodIn wsX5_sourceOf wsX5_needNode := goodIn_ca (goodIn_r _ [8, 9, 10, 3, 11, 12, 13, 14, 15, 16, 51, 52, 53, 54, 55, 56, 57, 58, 59, 60, 61, 62, 63, 64, 65, 66] (by decide +kernel) (by decide +kernel)) (goodIn_sub (fun _ h => List.mem_cons_of_mem _ (List.mem_append_left _ (List.mem_append_right _ h))) (by decide +kernel))
set_option maxRecDepth 20000 in
theorem gX5_sourceOf_X5_needNode : GoodIn wsX5_sourceOf (wsV RX5 71 RX5 yX5_needNode wsX5_needNode) := goodIn_app (goodIn_of _ (by decide +kernel)) ggX5_sourceOf_X5_needNode
set_option maxRecDepth 20000 in
theorem ggX5_sourceOf_X5_islandAt : GoodIn wsX5_sourceOf wsX5_islandAt := goodIn_ca (goodIn_r _ [20, 3, 21, 22, 23, 24, 14, 25, 26, 7, 27, 28, 29, 30, 31, 32, 33, 34, 35, 36, 37, 38, 39, 40, 41, 42, 43, 44, 45, 51, 52, 53, 54, 55, 56, 67, 68, 69, 70, 71, 57, 58, 59, 60, 61, 62, 63, 64, 65, 66] (by decide +kernel) (by decide +kernel)) (goodIn_sub (fun _ h => List.mem_cons_of_mem _ (List.mem_append_right _ h)) (by decide +kernel))
set_option maxRecDepth 20000 in
theorem gX5_sourceOf_X5_islandAt : GoodIn wsX5_sourceOf (wsV RX5 198 RX5 yX5_islandAt wsX5_islandAt) := goodIn_app (goodIn_of _ (by decide +kernel)) ggX5_sourceOf_X5_islandAt
set_option maxRecDepth 20000 in
theorem ggX5_sourceOf_X1_sourceIn : GoodIn wsX5_sourceOf wsX1_sourceIn := goodIn_r _ [49, 50, 28, 7, 29, 30, 31, 32, 57, 58, 59, 60, 61, 62, 63, 64, 65, 66] (by decide +kernel) (by decide +kernel)
set_option maxRecDepth 20000 in
theorem gX5_sourceOf_X1_sourceIn : GoodIn wsX5_sourceOf (wsV RX5 207 RX1 yX1_sourceIn wsX1_sourceIn) := goodIn_app (goodIn_of _ (by decide +kernel)) ggX5_sourceOf_X1_sourceIn
theorem dX5_sourceOf_0 : decode cX5_sourceOf 0 = .ok (.aload_n 0, 1) := by decide +kernel
theorem dX5_sourceOf_1 : decode cX5_sourceOf 1 = .ok (.iload_n 1, 1) := by decide +kernel
theorem dX5_sourceOf_2 : decode cX5_sourceOf 2 = .ok (.invokevirtual 71, 3) := by decide +kernel
theorem dX5_sourceOf_5 : decode cX5_sourceOf 5 = .ok (.aload_n 0, 1) := by decide +kernel
theorem dX5_sourceOf_6 : decode cX5_sourceOf 6 = .ok (.getfield 10, 3) := by decide +kernel
theorem dX5_sourceOf_9 : decode cX5_sourceOf 9 = .ok (.aload_n 0, 1) := by decide +kernel
theorem dX5_sourceOf_10 : decode cX5_sourceOf 10 = .ok (.iload_n 1, 1) := by decide +kernel
theorem dX5_sourceOf_11 : decode cX5_sourceOf 11 = .ok (.invokevirtual 198, 3) := by decide +kernel
theorem dX5_sourceOf_14 : decode cX5_sourceOf 14 = .ok (.invokevirtual 207, 3) := by decide +kernel
theorem dX5_sourceOf_17 : decode cX5_sourceOf 17 = .ok (.istore_n 2, 1) := by decide +kernel
theorem dX5_sourceOf_18 : decode cX5_sourceOf 18 = .ok (.iload_n 2, 1) := by decide +kernel
theorem dX5_sourceOf_19 : decode cX5_sourceOf 19 = .ok (.iconst (-1), 1) := by decide +kernel
theorem dX5_sourceOf_20 : decode cX5_sourceOf 20 = .ok (.if_icmp .ne 13, 3) := by decide +kernel
theorem dX5_sourceOf_23 : decode cX5_sourceOf 23 = .ok (.new 100, 3) := by decide +kernel
theorem dX5_sourceOf_26 : decode cX5_sourceOf 26 = .ok (.dup, 1) := by decide +kernel
theorem dX5_sourceOf_27 : decode cX5_sourceOf 27 = .ok (.ldc 210, 2) := by decide +kernel
theorem dX5_sourceOf_29 : decode cX5_sourceOf 29 = .ok (.invokespecial 104, 3) := by decide +kernel
theorem dX5_sourceOf_32 : decode cX5_sourceOf 32 = .ok (.athrow, 1) := by decide +kernel
theorem dX5_sourceOf_33 : decode cX5_sourceOf 33 = .ok (.iload_n 2, 1) := by decide +kernel
theorem dX5_sourceOf_34 : decode cX5_sourceOf 34 = .ok (.ireturn, 1) := by decide +kernel
set_option maxRecDepth 20000 in
theorem ggX5_islandLoad_X5_needNode : GoodIn wsX5_islandLoad wsX5_needNode := goodIn_ca (goodIn_r _ [6, 7, 8, 1, 9, 10, 11, 12, 13, 14, 49, 50, 51, 52, 53, 54, 55, 56, 57, 58, 59, 60, 61, 62, 63, 64] (by decide +kernel) (by decide +kernel)) (goodIn_sub (fun _ h => List.mem_cons_of_mem _ (List.mem_append_left _ (List.mem_append_right _ h))) (by decide +kernel))
set_option maxRecDepth 20000 in
theorem gX5_islandLoad_X5_needNode : GoodIn wsX5_islandLoad (wsV RX5 71 RX5 yX5_needNode wsX5_needNode) := goodIn_app (goodIn_of _ (by decide +kernel)) ggX5_islandLoad_X5_needNode
set_option maxRecDepth 20000 in
theorem ggX5_islandLoad_X5_islandAt : GoodIn wsX5_islandLoad wsX5_islandAt := goodIn_ca (goodIn_r _ [18, 1, 19, 20, 21, 22, 12, 23, 24, 5, 25, 26, 27, 28, 29, 30, 31, 32, 33, 34, 35, 36, 37, 38, 39, 40, 41, 42, 43, 49, 50, 51, 52, 53, 54, 65, 66, 67, 68, 69, 55, 56, 57, 58, 59, 60, 61, 62, 63, 64] (by decide +kernel) (by decide +kernel)) (goodIn_sub (fun _ h => List.mem_cons_of_mem _ (List.mem_append_right _ h)) (by decide +kernel))
set_option maxRecDepth 20000 in
theorem gX5_islandLoad_X5_islandAt : GoodIn wsX5_islandLoad (wsV RX5 198 RX5 yX5_islandAt wsX5_islandAt) := goodIn_app (goodIn_of _ (by decide +kernel)) ggX5_islandLoad_X5_islandAt
set_option maxRecDepth 20000 in
theorem ggX5_islandLoad_X1_loadIn : GoodIn wsX5_islandLoad wsX1_loadIn := goodIn_ca (goodIn_r _ [47, 14, 48, 36, 5, 37, 55, 56, 57, 58, 59, 60, 61, 62, 63, 64] (by decide +kernel) (by decide +kernel)) (goodIn_sub (fun _ h => List.mem_cons_of_mem _ (List.mem_append_right _ h)) (by decide +kernel))
set_option maxRecDepth 20000 in
theorem gX5_islandLoad_X1_loadIn : GoodIn wsX5_islandLoad (wsV RX5 212 RX1 yX1_loadIn wsX1_loadIn) := goodIn_app (goodIn_of _ (by decide +kernel)) ggX5_islandLoad_X1_loadIn
theorem dX5_islandLoad_0 : decode cX5_islandLoad 0 = .ok (.aload_n 0, 1) := by decide +kernel
theorem dX5_islandLoad_1 : decode cX5_islandLoad 1 = .ok (.iload_n 1, 1) := by decide +kernel
theorem dX5_islandLoad_2 : decode cX5_islandLoad 2 = .ok (.invokevirtual 71, 3) := by decide +kernel
theorem dX5_islandLoad_5 : decode cX5_islandLoad 5 = .ok (.aload_n 0, 1) := by decide +kernel
theorem dX5_islandLoad_6 : decode cX5_islandLoad 6 = .ok (.getfield 10, 3) := by decide +kernel
theorem dX5_islandLoad_9 : decode cX5_islandLoad 9 = .ok (.aload_n 0, 1) := by decide +kernel
theorem dX5_islandLoad_10 : decode cX5_islandLoad 10 = .ok (.iload_n 1, 1) := by decide +kernel
theorem dX5_islandLoad_11 : decode cX5_islandLoad 11 = .ok (.invokevirtual 198, 3) := by decide +kernel
theorem dX5_islandLoad_14 : decode cX5_islandLoad 14 = .ok (.invokevirtual 212, 3) := by decide +kernel
theorem dX5_islandLoad_17 : decode cX5_islandLoad 17 = .ok (.ireturn, 1) := by decide +kernel
set_option maxRecDepth 20000 in
theorem ggX5_current_X5_needLine : GoodIn wsX5_current wsX5_needLine := goodIn_ca (goodIn_r _ [7, 8, 9, 10, 11, 12, 13, 14, 15, 16, 47, 48, 49, 50, 51, 52, 58, 59, 60, 61, 62, 63, 64, 65, 66, 67] (by decide +kernel) (by decide +kernel)) (goodIn_sub (fun _ h => List.mem_cons_of_mem _ (List.mem_append_left _ (List.mem_append_right _ h))) (by decide +kernel))
set_option maxRecDepth 20000 in
theorem gX5_current_X5_needLine : GoodIn wsX5_current (wsV RX5 105 RX5 yX5_needLine wsX5_needLine) := goodIn_app (goodIn_of _ (by decide +kernel)) ggX5_current_X5_needLine
set_option maxRecDepth 20000 in
theorem ggX5_current_X0_currentIn : GoodIn wsX5_current wsX0_currentIn := goodIn_ca (goodIn_r _ [21, 22, 23, 24, 25, 26, 20, 27, 28, 6, 29, 30, 31, 32, 33, 34, 35, 36, 14, 37, 38, 39, 40, 41, 42, 43, 16, 44, 45, 46, 12, 13, 15, 68, 69, 70, 58, 59, 60, 61, 62, 63, 64, 65, 66, 67] (by decide +kernel) (by decide +kernel)) (goodIn_sub (fun _ h => List.mem_cons_of_mem _ (List.mem_append_right _ h)) (by decide +kernel))
set_option maxRecDepth 20000 in
theorem gX5_current_X0_currentIn : GoodIn wsX5_current (wsV RX5 215 RX0 yX0_currentIn wsX0_currentIn) := goodIn_app (goodIn_of _ (by decide +kernel)) ggX5_current_X0_currentIn
theorem dX5_current_0 : decode cX5_current 0 = .ok (.aload_n 0, 1) := by decide +kernel
theorem dX5_current_1 : decode cX5_current 1 = .ok (.iload_n 1, 1) := by decide +kernel
theorem dX5_current_2 : decode cX5_current 2 = .ok (.invokevirtual 105, 3) := by decide +kernel
theorem dX5_current_5 : decode cX5_current 5 = .ok (.aload_n 0, 1) := by decide +kernel
theorem dX5_current_6 : decode cX5_current 6 = .ok (.getfield 21, 3) := by decide +kernel
theorem dX5_current_9 : decode cX5_current 9 = .ok (.iload_n 1, 1) := by decide +kernel
theorem dX5_current_10 : decode cX5_current 10 = .ok (.aload_n 0, 1) := by decide +kernel
theorem dX5_current_11 : decode cX5_current 11 = .ok (.getfield 30, 3) := by decide +kernel
theorem dX5_current_14 : decode cX5_current 14 = .ok (.getfield 120, 3) := by decide +kernel
theorem dX5_current_17 : decode cX5_current 17 = .ok (.invokevirtual 215, 3) := by decide +kernel
theorem dX5_current_20 : decode cX5_current 20 = .ok (.ireturn, 1) := by decide +kernel
set_option maxRecDepth 20000 in
theorem ggX5_currentByCutting_X5_needLine : GoodIn wsX5_currentByCutting wsX5_needLine := goodIn_ca (goodIn_r _ [7, 8, 9, 1, 10, 11, 12, 13, 14, 15, 63, 64, 65, 66, 67, 68, 74, 75, 76, 77, 78, 79, 80, 81, 82, 83] (by decide +kernel) (by decide +kernel)) (goodIn_sub (fun _ h => List.mem_cons_of_mem _ (List.mem_append_left _ (List.mem_append_right _ h))) (by decide +kernel))
set_option maxRecDepth 20000 in
theorem gX5_currentByCutting_X5_needLine : GoodIn wsX5_currentByCutting (wsV RX5 105 RX5 yX5_needLine wsX5_needLine) := goodIn_app (goodIn_of _ (by decide +kernel)) ggX5_currentByCutting_X5_needLine
set_option maxRecDepth 20000 in
theorem ggX5_currentByCutting_X1_loadCutOffBy : GoodIn wsX5_currentByCutting wsX1_loadCutOffBy := goodIn_ca (goodIn_r _ [19, 20, 6, 21, 22, 23, 24, 13, 25, 26, 27, 28, 29, 30, 31, 11, 12, 14, 15, 32, 33, 34, 35, 36, 37, 38, 39, 40, 41, 42, 43, 44, 45, 46, 47, 48, 49, 50, 51, 52, 53, 54, 55, 56, 57, 58, 59, 60, 61, 62, 74, 75, 76, 77, 78, 79, 80, 81, 82, 83] (by decide +kernel) (by decide +kernel)) (goodIn_sub (fun _ h => List.mem_cons_of_mem _ (List.mem_append_right _ h)) (by decide +kernel))
set_option maxRecDepth 20000 in
theorem gX5_currentByCutting_X1_loadCutOffBy : GoodIn wsX5_currentByCutting (wsV RX5 218 RX1 yX1_loadCutOffBy wsX1_loadCutOffBy) := goodIn_app (goodIn_of _ (by decide +kernel)) ggX5_currentByCutting_X1_loadCutOffBy
theorem dX5_currentByCutting_0 : decode cX5_currentByCutting 0 = .ok (.aload_n 0, 1) := by decide +kernel
theorem dX5_currentByCutting_1 : decode cX5_currentByCutting 1 = .ok (.iload_n 1, 1) := by decide +kernel
theorem dX5_currentByCutting_2 : decode cX5_currentByCutting 2 = .ok (.invokevirtual 105, 3) := by decide +kernel
theorem dX5_currentByCutting_5 : decode cX5_currentByCutting 5 = .ok (.aload_n 0, 1) := by decide +kernel
theorem dX5_currentByCutting_6 : decode cX5_currentByCutting 6 = .ok (.getfield 10, 3) := by decide +kernel
theorem dX5_currentByCutting_9 : decode cX5_currentByCutting 9 = .ok (.iload_n 1, 1) := by decide +kernel
theorem dX5_currentByCutting_10 : decode cX5_currentByCutting 10 = .ok (.aload_n 0, 1) := by decide +kernel
theorem dX5_currentByCutting_11 : decode cX5_currentByCutting 11 = .ok (.getfield 30, 3) := by decide +kernel
theorem dX5_currentByCutting_14 : decode cX5_currentByCutting 14 = .ok (.getfield 120, 3) := by decide +kernel
theorem dX5_currentByCutting_17 : decode cX5_currentByCutting 17 = .ok (.invokevirtual 218, 3) := by decide +kernel
theorem dX5_currentByCutting_20 : decode cX5_currentByCutting 20 = .ok (.ireturn, 1) := by decide +kernel
set_option maxRecDepth 20000 in
theorem ggX5_distance_X5_needLine : GoodIn wsX5_distance wsX5_needLine := goodIn_ca (goodIn_r _ [5, 6, 7, 8, 9, 10, 11, 12, 13, 14, 42, 43, 44, 45, 46, 47, 48, 49, 50, 51, 52, 53, 54, 55, 56, 57] (by decide +kernel) (by decide +kernel)) (goodIn_sub (fun _ h => List.mem_cons_of_mem _ (List.mem_append_left _ (List.mem_append_left _ (List.mem_append_right _ h)))) (by decide +kernel))
set_option maxRecDepth 20000 in
theorem gX5_distance_X5_needLine : GoodIn wsX5_distance (wsV RX5 105 RX5 yX5_needLine wsX5_needLine) := goodIn_app (goodIn_of _ (by decide +kernel)) ggX5_distance_X5_needLine
set_option maxRecDepth 20000 in
theorem ggX5_distance_X5_lengthOfPathTo : GoodIn wsX5_distance wsX5_lengthOfPathTo := goodIn_ca (goodIn_ca (goodIn_r _ [18, 19, 20, 21, 22, 23, 24, 25, 26, 27, 28, 29, 4, 30, 31, 32, 33, 34, 35, 36, 37, 38, 12, 39, 14, 40, 41, 42, 43, 44, 45, 46, 47, 58, 59, 60, 61, 62, 63, 64, 65, 48, 49, 50, 51, 52, 53, 54, 55, 56, 57] (by decide +kernel) (by decide +kernel)) (goodIn_sub (fun _ h => List.mem_cons_of_mem _ (List.mem_append_left _ (List.mem_append_right _ h))) (by decide +kernel))) (goodIn_sub (fun _ h => List.mem_cons_of_mem _ (List.mem_append_right _ h)) (by decide +kernel))
set_option maxRecDepth 20000 in
theorem gX5_distance_X5_lengthOfPathTo : GoodIn wsX5_distance (wsV RX5 221 RX5 yX5_lengthOfPathTo wsX5_lengthOfPathTo) := goodIn_app (goodIn_of _ (by decide +kernel)) ggX5_distance_X5_lengthOfPathTo
theorem dX5_distance_0 : decode cX5_distance 0 = .ok (.aload_n 0, 1) := by decide +kernel
theorem dX5_distance_1 : decode cX5_distance 1 = .ok (.iload_n 1, 1) := by decide +kernel
theorem dX5_distance_2 : decode cX5_distance 2 = .ok (.invokevirtual 105, 3) := by decide +kernel
theorem dX5_distance_5 : decode cX5_distance 5 = .ok (.aload_n 0, 1) := by decide +kernel
theorem dX5_distance_6 : decode cX5_distance 6 = .ok (.iload_n 1, 1) := by decide +kernel
theorem dX5_distance_7 : decode cX5_distance 7 = .ok (.invokevirtual 221, 3) := by decide +kernel
theorem dX5_distance_10 : decode cX5_distance 10 = .ok (.ireturn, 1) := by decide +kernel
set_option maxRecDepth 20000 in
theorem ggX5_pathAt_X5_needLine : GoodIn wsX5_pathAt wsX5_needLine := goodIn_ca (goodIn_r _ [8, 9, 10, 11, 12, 13, 14, 15, 16, 17, 48, 49, 50, 51, 52, 53, 54, 55, 56, 57, 58, 59, 60, 61, 62, 63] (by decide +kernel) (by decide +kernel)) (goodIn_sub (fun _ h => List.mem_cons_of_mem _ (List.mem_append_left _ (List.mem_append_left _ (List.mem_append_right _ h)))) (by decide +kernel))
set_option maxRecDepth 20000 in
theorem gX5_pathAt_X5_needLine : GoodIn wsX5_pathAt (wsV RX5 105 RX5 yX5_needLine wsX5_needLine) := goodIn_app (goodIn_of _ (by decide +kernel)) ggX5_pathAt_X5_needLine
set_option maxRecDepth 20000 in
theorem ggX5_pathAt_X5_lengthOfPathTo : GoodIn wsX5_pathAt wsX5_lengthOfPathTo := goodIn_ca (goodIn_ca (goodIn_r _ [21, 22, 23, 3, 24, 25, 26, 27, 28, 29, 30, 31, 7, 32, 33, 34, 35, 36, 37, 38, 39, 40, 15, 41, 17, 42, 43, 48, 49, 50, 51, 52, 53, 64, 65, 66, 67, 68, 69, 70, 71, 54, 55, 56, 57, 58, 59, 60, 61, 62, 63] (by decide +kernel) (by decide +kernel)) (goodIn_sub (fun _ h => List.mem_cons_of_mem _ (List.mem_append_left _ (List.mem_append_right _ h))) (by decide +kernel))) (goodIn_sub (fun _ h => List.mem_cons_of_mem _ (List.mem_append_right _ h)) (by decide +kernel))
set_option maxRecDepth 20000 in
theorem gX5_pathAt_X5_lengthOfPathTo : GoodIn wsX5_pathAt (wsV RX5 221 RX5 yX5_lengthOfPathTo wsX5_lengthOfPathTo) := goodIn_app (goodIn_of _ (by decide +kernel)) ggX5_pathAt_X5_lengthOfPathTo
set_option maxRecDepth 20000 in
theorem ggX5_pathAt_X0_lineOnPath : GoodIn wsX5_pathAt wsX0_lineOnPath := goodIn_ca (goodIn_r _ [47, 37, 69, 70, 71] (by decide +kernel) (by decide +kernel)) (goodIn_sub (fun _ h => List.mem_cons_of_mem _ (List.mem_append_right _ h)) (by decide +kernel))
set_option maxRecDepth 20000 in
theorem gX5_pathAt_X0_lineOnPath : GoodIn wsX5_pathAt (wsV RX5 229 RX0 yX0_lineOnPath wsX0_lineOnPath) := goodIn_app (goodIn_of _ (by decide +kernel)) ggX5_pathAt_X0_lineOnPath
theorem dX5_pathAt_0 : decode cX5_pathAt 0 = .ok (.aload_n 0, 1) := by decide +kernel
theorem dX5_pathAt_1 : decode cX5_pathAt 1 = .ok (.iload_n 1, 1) := by decide +kernel
theorem dX5_pathAt_2 : decode cX5_pathAt 2 = .ok (.invokevirtual 105, 3) := by decide +kernel
theorem dX5_pathAt_5 : decode cX5_pathAt 5 = .ok (.aload_n 0, 1) := by decide +kernel
theorem dX5_pathAt_6 : decode cX5_pathAt 6 = .ok (.iload_n 1, 1) := by decide +kernel
theorem dX5_pathAt_7 : decode cX5_pathAt 7 = .ok (.invokevirtual 221, 3) := by decide +kernel
theorem dX5_pathAt_10 : decode cX5_pathAt 10 = .ok (.istore_n 3, 1) := by decide +kernel
theorem dX5_pathAt_11 : decode cX5_pathAt 11 = .ok (.iload_n 2, 1) := by decide +kernel
theorem dX5_pathAt_12 : decode cX5_pathAt 12 = .ok (.ifCond .lt 8, 3) := by decide +kernel
theorem dX5_pathAt_15 : decode cX5_pathAt 15 = .ok (.iload_n 2, 1) := by decide +kernel
theorem dX5_pathAt_16 : decode cX5_pathAt 16 = .ok (.iload_n 3, 1) := by decide +kernel
theorem dX5_pathAt_17 : decode cX5_pathAt 17 = .ok (.if_icmp .lt 13, 3) := by decide +kernel
theorem dX5_pathAt_20 : decode cX5_pathAt 20 = .ok (.new 224, 3) := by decide +kernel
theorem dX5_pathAt_23 : decode cX5_pathAt 23 = .ok (.dup, 1) := by decide +kernel
theorem dX5_pathAt_24 : decode cX5_pathAt 24 = .ok (.ldc 226, 2) := by decide +kernel
theorem dX5_pathAt_26 : decode cX5_pathAt 26 = .ok (.invokespecial 228, 3) := by decide +kernel
theorem dX5_pathAt_29 : decode cX5_pathAt 29 = .ok (.athrow, 1) := by decide +kernel
theorem dX5_pathAt_30 : decode cX5_pathAt 30 = .ok (.aload_n 0, 1) := by decide +kernel
theorem dX5_pathAt_31 : decode cX5_pathAt 31 = .ok (.getfield 21, 3) := by decide +kernel
theorem dX5_pathAt_34 : decode cX5_pathAt 34 = .ok (.iload_n 2, 1) := by decide +kernel
theorem dX5_pathAt_35 : decode cX5_pathAt 35 = .ok (.invokevirtual 229, 3) := by decide +kernel
theorem dX5_pathAt_38 : decode cX5_pathAt 38 = .ok (.ireturn, 1) := by decide +kernel
set_option maxRecDepth 20000 in
theorem ggX5_faultCurrent_X5_needLine : GoodIn wsX5_faultCurrent wsX5_needLine := goodIn_ca (goodIn_r _ [7, 8, 9, 10, 11, 12, 13, 14, 15, 16, 89, 90, 91, 92, 93, 94, 100, 101, 102, 103, 104, 105, 106, 107, 108, 109] (by decide +kernel) (by decide +kernel)) (goodIn_sub (fun _ h => List.mem_cons_of_mem _ (List.mem_append_left _ (List.mem_append_left _ (List.mem_append_left _ (List.mem_append_right _ h))))) (by decide +kernel))
set_option maxRecDepth 20000 in
theorem gX5_faultCurrent_X5_needLine : GoodIn wsX5_faultCurrent (wsV RX5 105 RX5 yX5_needLine wsX5_needLine) := goodIn_app (goodIn_of _ (by decide +kernel)) ggX5_faultCurrent_X5_needLine
set_option maxRecDepth 20000 in
theorem ggX5_faultCurrent_X5_lengthOfPathTo : GoodIn wsX5_faultCurrent wsX5_lengthOfPathTo := goodIn_ca (goodIn_ca (goodIn_r _ [20, 21, 22, 23, 2, 24, 25, 26, 27, 28, 29, 30, 6, 31, 32, 33, 34, 35, 36, 37, 38, 39, 14, 40, 16, 41, 42, 89, 90, 91, 92, 93, 94, 95, 96, 97, 98, 99, 110, 111, 112, 100, 101, 102, 103, 104, 105, 106, 107, 108, 109] (by decide +kernel) (by decide +kernel)) (goodIn_sub (fun _ h => List.mem_cons_of_mem _ (List.mem_append_left _ (List.mem_append_left _ (List.mem_append_right _ h)))) (by decide +kernel))) (goodIn_sub (fun _ h => List.mem_cons_of_mem _ (List.mem_append_left _ (List.mem_append_right _ h))) (by decide +kernel))
set_option maxRecDepth 20000 in
theorem gX5_faultCurrent_X5_lengthOfPathTo : GoodIn wsX5_faultCurrent (wsV RX5 221 RX5 yX5_lengthOfPathTo wsX5_lengthOfPathTo) := goodIn_app (goodIn_of _ (by decide +kernel)) ggX5_faultCurrent_X5_lengthOfPathTo
set_option maxRecDepth 20000 in
theorem ggX5_faultCurrent_X3_currentOfFault : GoodIn wsX5_faultCurrent wsX3_currentOfFault := goodIn_ca (goodIn_ca (goodIn_r _ [47, 48, 49, 50, 51, 14, 52, 53, 54, 55, 56, 41, 57, 12, 13, 15, 16, 58, 59, 60, 61, 62, 6, 63, 64, 65, 66, 67, 68, 69, 70, 71, 72, 30, 31, 73, 38, 39, 40, 42, 74, 75, 76, 77, 78, 79, 80, 81, 82, 83, 84, 85, 86, 87, 88, 113, 114, 115, 116, 117, 100, 101, 102, 103, 104, 105, 106, 107, 108, 109] (by decide +kernel) (by decide +kernel)) (goodIn_sub (fun _ h => List.mem_cons_of_mem _ (List.mem_append_right _ h)) (by decide +kernel))) (goodIn_sub (fun _ h => List.mem_cons_of_mem _ (List.mem_append_left _ (List.mem_append_right _ h))) (by decide +kernel))
set_option maxRecDepth 20000 in
theorem gX5_faultCurrent_X3_currentOfFault : GoodIn wsX5_faultCurrent (wsV RX5 232 RX3 yX3_currentOfFault wsX3_currentOfFault) := goodIn_app (goodIn_of _ (by decide +kernel)) ggX5_faultCurrent_X3_currentOfFault
theorem dX5_faultCurrent_0 : decode cX5_faultCurrent 0 = .ok (.aload_n 0, 1) := by decide +kernel
theorem dX5_faultCurrent_1 : decode cX5_faultCurrent 1 = .ok (.iload_n 1, 1) := by decide +kernel
theorem dX5_faultCurrent_2 : decode cX5_faultCurrent 2 = .ok (.invokevirtual 105, 3) := by decide +kernel
theorem dX5_faultCurrent_5 : decode cX5_faultCurrent 5 = .ok (.aload_n 0, 1) := by decide +kernel
theorem dX5_faultCurrent_6 : decode cX5_faultCurrent 6 = .ok (.iload_n 1, 1) := by decide +kernel
theorem dX5_faultCurrent_7 : decode cX5_faultCurrent 7 = .ok (.invokevirtual 221, 3) := by decide +kernel
theorem dX5_faultCurrent_10 : decode cX5_faultCurrent 10 = .ok (.istore_n 2, 1) := by decide +kernel
theorem dX5_faultCurrent_11 : decode cX5_faultCurrent 11 = .ok (.aload_n 0, 1) := by decide +kernel
theorem dX5_faultCurrent_12 : decode cX5_faultCurrent 12 = .ok (.getfield 37, 3) := by decide +kernel
theorem dX5_faultCurrent_15 : decode cX5_faultCurrent 15 = .ok (.iload_n 1, 1) := by decide +kernel
theorem dX5_faultCurrent_16 : decode cX5_faultCurrent 16 = .ok (.iload_n 2, 1) := by decide +kernel
theorem dX5_faultCurrent_17 : decode cX5_faultCurrent 17 = .ok (.aload_n 0, 1) := by decide +kernel
theorem dX5_faultCurrent_18 : decode cX5_faultCurrent 18 = .ok (.getfield 30, 3) := by decide +kernel
theorem dX5_faultCurrent_21 : decode cX5_faultCurrent 21 = .ok (.getfield 120, 3) := by decide +kernel
theorem dX5_faultCurrent_24 : decode cX5_faultCurrent 24 = .ok (.invokevirtual 232, 3) := by decide +kernel
theorem dX5_faultCurrent_27 : decode cX5_faultCurrent 27 = .ok (.ireturn, 1) := by decide +kernel
set_option maxRecDepth 20000 in
theorem ggX5_tripTime_X5_needLine : GoodIn wsX5_tripTime wsX5_needLine := goodIn_ca (goodIn_r _ [9, 10, 11, 12, 13, 14, 15, 16, 17, 18, 38, 39, 40, 41, 42, 43, 44, 45, 46, 47, 48, 49, 50, 51, 52, 53] (by decide +kernel) (by decide +kernel)) (goodIn_sub (fun _ h => List.mem_cons_of_mem _ (List.mem_append_left _ (List.mem_append_left _ (List.mem_append_left _ (List.mem_append_right _ h))))) (by decide +kernel))
set_option maxRecDepth 20000 in
theorem gX5_tripTime_X5_needLine : GoodIn wsX5_tripTime (wsV RX5 105 RX5 yX5_needLine wsX5_needLine) := goodIn_app (goodIn_of _ (by decide +kernel)) ggX5_tripTime_X5_needLine
set_option maxRecDepth 20000 in
theorem ggX5_tripTime_X5_needBreaker : GoodIn wsX5_tripTime wsX5_needBreaker := goodIn_ca (goodIn_r _ [22, 23, 24, 12, 25, 26, 8, 27, 38, 39, 40, 41, 42, 43, 44, 45, 46, 47, 48, 49, 50, 51, 52, 53] (by decide +kernel) (by decide +kernel)) (goodIn_sub (fun _ h => List.mem_cons_of_mem _ (List.mem_append_left _ (List.mem_append_left _ (List.mem_append_right _ h)))) (by decide +kernel))
set_option maxRecDepth 20000 in
theorem gX5_tripTime_X5_needBreaker : GoodIn wsX5_tripTime (wsV RX5 114 RX5 yX5_needBreaker wsX5_needBreaker) := goodIn_app (goodIn_of _ (by decide +kernel)) ggX5_tripTime_X5_needBreaker
set_option maxRecDepth 20000 in
theorem ggX5_tripTime_X3_timeFor : GoodIn wsX5_tripTime wsX3_timeFor := goodIn_ca (goodIn_ca (goodIn_r _ [32, 33, 34, 35, 36, 37, 14, 15, 16, 17, 18, 26, 8, 27, 54, 55, 56, 57, 58, 44, 45, 46, 47, 48, 49, 50, 51, 52, 53] (by decide +kernel) (by decide +kernel)) (goodIn_sub (fun _ h => List.mem_cons_of_mem _ (List.mem_append_left _ (List.mem_append_right _ h))) (by decide +kernel))) (goodIn_sub (fun _ h => List.mem_cons_of_mem _ (List.mem_append_right _ h)) (by decide +kernel))
set_option maxRecDepth 20000 in
theorem gX5_tripTime_X3_timeFor : GoodIn wsX5_tripTime (wsV RX5 238 RX3 yX3_timeFor wsX3_timeFor) := goodIn_app (goodIn_of _ (by decide +kernel)) ggX5_tripTime_X3_timeFor
theorem dX5_tripTime_0 : decode cX5_tripTime 0 = .ok (.aload_n 0, 1) := by decide +kernel
theorem dX5_tripTime_1 : decode cX5_tripTime 1 = .ok (.iload_n 1, 1) := by decide +kernel
theorem dX5_tripTime_2 : decode cX5_tripTime 2 = .ok (.invokevirtual 105, 3) := by decide +kernel
theorem dX5_tripTime_5 : decode cX5_tripTime 5 = .ok (.iload_n 2, 1) := by decide +kernel
theorem dX5_tripTime_6 : decode cX5_tripTime 6 = .ok (.iconst 1, 1) := by decide +kernel
theorem dX5_tripTime_7 : decode cX5_tripTime 7 = .ok (.if_icmp .lt 9, 3) := by decide +kernel
theorem dX5_tripTime_10 : decode cX5_tripTime 10 = .ok (.iload_n 2, 1) := by decide +kernel
theorem dX5_tripTime_11 : decode cX5_tripTime 11 = .ok (.ldc 235, 2) := by decide +kernel
theorem dX5_tripTime_13 : decode cX5_tripTime 13 = .ok (.if_icmp .le 13, 3) := by decide +kernel
theorem dX5_tripTime_16 : decode cX5_tripTime 16 = .ok (.new 50, 3) := by decide +kernel
theorem dX5_tripTime_19 : decode cX5_tripTime 19 = .ok (.dup, 1) := by decide +kernel
theorem dX5_tripTime_20 : decode cX5_tripTime 20 = .ok (.ldc 236, 2) := by decide +kernel
theorem dX5_tripTime_22 : decode cX5_tripTime 22 = .ok (.invokespecial 54, 3) := by decide +kernel
theorem dX5_tripTime_25 : decode cX5_tripTime 25 = .ok (.athrow, 1) := by decide +kernel
theorem dX5_tripTime_26 : decode cX5_tripTime 26 = .ok (.aload_n 0, 1) := by decide +kernel
theorem dX5_tripTime_27 : decode cX5_tripTime 27 = .ok (.iload_n 1, 1) := by decide +kernel
theorem dX5_tripTime_28 : decode cX5_tripTime 28 = .ok (.invokevirtual 114, 3) := by decide +kernel
theorem dX5_tripTime_31 : decode cX5_tripTime 31 = .ok (.aload_n 0, 1) := by decide +kernel
theorem dX5_tripTime_32 : decode cX5_tripTime 32 = .ok (.getfield 37, 3) := by decide +kernel
theorem dX5_tripTime_35 : decode cX5_tripTime 35 = .ok (.iload_n 1, 1) := by decide +kernel
theorem dX5_tripTime_36 : decode cX5_tripTime 36 = .ok (.iload_n 2, 1) := by decide +kernel
theorem dX5_tripTime_37 : decode cX5_tripTime 37 = .ok (.invokevirtual 238, 3) := by decide +kernel
theorem dX5_tripTime_40 : decode cX5_tripTime 40 = .ok (.ireturn, 1) := by decide +kernel
set_option maxRecDepth 20000 in
theorem ggX5_wouldTrip_X5_needLine : GoodIn wsX5_wouldTrip wsX5_needLine := goodIn_ca (goodIn_r _ [7, 8, 9, 10, 11, 12, 13, 14, 15, 16, 103, 104, 105, 106, 107, 108, 114, 115, 116, 117, 118, 119, 120, 121, 122, 123] (by decide +kernel) (by decide +kernel)) (goodIn_sub (fun _ h => List.mem_cons_of_mem _ (List.mem_append_left _ (List.mem_append_left _ (List.mem_append_right _ h)))) (by decide +kernel))
set_option maxRecDepth 20000 in
theorem gX5_wouldTrip_X5_needLine : GoodIn wsX5_wouldTrip (wsV RX5 105 RX5 yX5_needLine wsX5_needLine) := goodIn_app (goodIn_of _ (by decide +kernel)) ggX5_wouldTrip_X5_needLine
set_option maxRecDepth 20000 in
theorem ggX5_wouldTrip_X3_answerTo : GoodIn wsX5_wouldTrip wsX3_answerTo := goodIn_ca (goodIn_ca (goodIn_r _ [21, 22, 23, 24, 25, 26, 27, 28, 29, 6, 30, 31, 32, 33, 34, 35, 36, 37, 38, 14, 39, 16, 40, 41, 42, 43, 44, 20, 45, 46, 47, 48, 49, 50, 51, 52, 53, 54, 55, 12, 13, 15, 56, 57, 58, 59, 60, 61, 62, 63, 64, 65, 66, 67, 68, 69, 70, 71, 72, 73, 74, 75, 76, 77, 78, 79, 80, 81, 82, 83, 84, 85, 86, 87, 88, 89, 90, 91, 92, 93, 94, 95, 96, 97, 98, 99, 100, 101, 102, 124, 125, 126, 127, 128, 129, 130, 131, 114, 115, 116, 117, 118, 119, 120, 121, 122, 123] (by decide +kernel) (by decide +kernel)) (goodIn_sub (fun _ h => List.mem_cons_of_mem _ (List.mem_append_left _ (List.mem_append_right _ h))) (by decide +kernel))) (goodIn_sub (fun _ h => List.mem_cons_of_mem _ (List.mem_append_right _ h)) (by decide +kernel))
set_option maxRecDepth 20000 in
theorem gX5_wouldTrip_X3_answerTo : GoodIn wsX5_wouldTrip (wsV RX5 155 RX3 yX3_answerTo wsX3_answerTo) := goodIn_app (goodIn_of _ (by decide +kernel)) ggX5_wouldTrip_X3_answerTo
theorem dX5_wouldTrip_0 : decode cX5_wouldTrip 0 = .ok (.aload_n 0, 1) := by decide +kernel
theorem dX5_wouldTrip_1 : decode cX5_wouldTrip 1 = .ok (.iload_n 1, 1) := by decide +kernel
theorem dX5_wouldTrip_2 : decode cX5_wouldTrip 2 = .ok (.invokevirtual 105, 3) := by decide +kernel
theorem dX5_wouldTrip_5 : decode cX5_wouldTrip 5 = .ok (.aload_n 0, 1) := by decide +kernel
theorem dX5_wouldTrip_6 : decode cX5_wouldTrip 6 = .ok (.getfield 37, 3) := by decide +kernel
theorem dX5_wouldTrip_9 : decode cX5_wouldTrip 9 = .ok (.iload_n 1, 1) := by decide +kernel
theorem dX5_wouldTrip_10 : decode cX5_wouldTrip 10 = .ok (.aload_n 0, 1) := by decide +kernel
theorem dX5_wouldTrip_11 : decode cX5_wouldTrip 11 = .ok (.getfield 30, 3) := by decide +kernel
theorem dX5_wouldTrip_14 : decode cX5_wouldTrip 14 = .ok (.getfield 120, 3) := by decide +kernel
theorem dX5_wouldTrip_17 : decode cX5_wouldTrip 17 = .ok (.invokevirtual 155, 3) := by decide +kernel
theorem dX5_wouldTrip_20 : decode cX5_wouldTrip 20 = .ok (.ireturn, 1) := by decide +kernel
set_option maxRecDepth 20000 in
theorem ggX5_isSelective_X5_needLine : GoodIn wsX5_isSelective wsX5_needLine := goodIn_ca (goodIn_r _ [7, 8, 9, 10, 11, 12, 13, 14, 15, 16, 103, 104, 105, 106, 107, 108, 114, 115, 116, 117, 118, 119, 120, 121, 122, 123] (by decide +kernel) (by decide +kernel)) (goodIn_sub (fun _ h => List.mem_cons_of_mem _ (List.mem_append_left _ (List.mem_append_left _ (List.mem_append_right _ h)))) (by decide +kernel))
set_option maxRecDepth 20000 in
theorem gX5_isSelective_X5_needLine : GoodIn wsX5_isSelective (wsV RX5 105 RX5 yX5_needLine wsX5_needLine) := goodIn_app (goodIn_of _ (by decide +kernel)) ggX5_isSelective_X5_needLine
set_option maxRecDepth 20000 in
theorem ggX5_isSelective_X3_answerTo : GoodIn wsX5_isSelective wsX3_answerTo := goodIn_ca (goodIn_ca (goodIn_r _ [21, 22, 23, 24, 25, 26, 27, 28, 29, 6, 30, 31, 32, 33, 34, 35, 36, 37, 38, 14, 39, 16, 40, 41, 42, 43, 44, 20, 45, 46, 47, 48, 49, 50, 51, 52, 53, 54, 55, 12, 13, 15, 56, 57, 58, 59, 60, 61, 62, 63, 64, 65, 66, 67, 68, 69, 70, 71, 72, 73, 74, 75, 76, 77, 78, 79, 80, 81, 82, 83, 84, 85, 86, 87, 88, 89, 90, 91, 92, 93, 94, 95, 96, 97, 98, 99, 100, 101, 102, 124, 125, 126, 127, 128, 129, 130, 131, 114, 115, 116, 117, 118, 119, 120, 121, 122, 123] (by decide +kernel) (by decide +kernel)) (goodIn_sub (fun _ h => List.mem_cons_of_mem _ (List.mem_append_left _ (List.mem_append_right _ h))) (by decide +kernel))) (goodIn_sub (fun _ h => List.mem_cons_of_mem _ (List.mem_append_right _ h)) (by decide +kernel))
set_option maxRecDepth 20000 in
theorem gX5_isSelective_X3_answerTo : GoodIn wsX5_isSelective (wsV RX5 155 RX3 yX3_answerTo wsX3_answerTo) := goodIn_app (goodIn_of _ (by decide +kernel)) ggX5_isSelective_X3_answerTo
theorem dX5_isSelective_0 : decode cX5_isSelective 0 = .ok (.aload_n 0, 1) := by decide +kernel
theorem dX5_isSelective_1 : decode cX5_isSelective 1 = .ok (.iload_n 1, 1) := by decide +kernel
theorem dX5_isSelective_2 : decode cX5_isSelective 2 = .ok (.invokevirtual 105, 3) := by decide +kernel
theorem dX5_isSelective_5 : decode cX5_isSelective 5 = .ok (.aload_n 0, 1) := by decide +kernel
theorem dX5_isSelective_6 : decode cX5_isSelective 6 = .ok (.getfield 37, 3) := by decide +kernel
theorem dX5_isSelective_9 : decode cX5_isSelective 9 = .ok (.iload_n 1, 1) := by decide +kernel
theorem dX5_isSelective_10 : decode cX5_isSelective 10 = .ok (.aload_n 0, 1) := by decide +kernel
theorem dX5_isSelective_11 : decode cX5_isSelective 11 = .ok (.getfield 30, 3) := by decide +kernel
theorem dX5_isSelective_14 : decode cX5_isSelective 14 = .ok (.getfield 120, 3) := by decide +kernel
theorem dX5_isSelective_17 : decode cX5_isSelective 17 = .ok (.invokevirtual 155, 3) := by decide +kernel
theorem dX5_isSelective_20 : decode cX5_isSelective 20 = .ok (.iload_n 1, 1) := by decide +kernel
theorem dX5_isSelective_21 : decode cX5_isSelective 21 = .ok (.if_icmp .ne 7, 3) := by decide +kernel
theorem dX5_isSelective_24 : decode cX5_isSelective 24 = .ok (.iconst 1, 1) := by decide +kernel
theorem dX5_isSelective_25 : decode cX5_isSelective 25 = .ok (.goto 4, 3) := by decide +kernel
theorem dX5_isSelective_28 : decode cX5_isSelective 28 = .ok (.iconst 0, 1) := by decide +kernel
theorem dX5_isSelective_29 : decode cX5_isSelective 29 = .ok (.ireturn, 1) := by decide +kernel
set_option maxRecDepth 20000 in
theorem ggX5_margin_X5_needLine : GoodIn wsX5_margin wsX5_needLine := goodIn_ca (goodIn_r _ [11, 12, 13, 14, 15, 16, 17, 18, 19, 20, 111, 112, 113, 114, 115, 116, 122, 123, 124, 125, 126, 127, 128, 129, 130, 131] (by decide +kernel) (by decide +kernel)) (goodIn_sub (fun _ h => List.mem_cons_of_mem _ (List.mem_append_left _ (List.mem_append_left _ (List.mem_append_right _ h)))) (by decide +kernel))
set_option maxRecDepth 20000 in
theorem gX5_margin_X5_needLine : GoodIn wsX5_margin (wsV RX5 105 RX5 yX5_needLine wsX5_needLine) := goodIn_app (goodIn_of _ (by decide +kernel)) ggX5_margin_X5_needLine
set_option maxRecDepth 20000 in
theorem ggX5_margin_X3_answerTo : GoodIn wsX5_margin wsX3_answerTo := goodIn_ca (goodIn_ca (goodIn_r _ [25, 26, 27, 28, 29, 30, 31, 32, 33, 10, 34, 35, 36, 37, 38, 39, 40, 41, 42, 18, 43, 20, 44, 45, 46, 47, 48, 24, 49, 50, 51, 52, 53, 54, 55, 56, 57, 58, 59, 16, 17, 19, 60, 61, 62, 63, 64, 65, 66, 67, 68, 69, 70, 71, 72, 73, 74, 75, 76, 77, 78, 79, 80, 81, 82, 83, 84, 85, 86, 87, 88, 89, 90, 91, 92, 93, 94, 95, 96, 97, 98, 99, 100, 101, 102, 103, 104, 105, 106, 132, 133, 134, 135, 136, 137, 138, 139, 122, 123, 124, 125, 126, 127, 128, 129, 130, 131] (by decide +kernel) (by decide +kernel)) (goodIn_sub (fun _ h => List.mem_cons_of_mem _ (List.mem_append_left _ (List.mem_append_right _ h))) (by decide +kernel))) (goodIn_sub (fun _ h => List.mem_cons_of_mem _ (List.mem_append_right _ h)) (by decide +kernel))
set_option maxRecDepth 20000 in
theorem gX5_margin_X3_answerTo : GoodIn wsX5_margin (wsV RX5 155 RX3 yX3_answerTo wsX3_answerTo) := goodIn_app (goodIn_of _ (by decide +kernel)) ggX5_margin_X3_answerTo
set_option maxRecDepth 20000 in
theorem ggX5_margin_X3_leadOf : GoodIn wsX5_margin wsX3_leadOf := goodIn_ca (goodIn_ca (goodIn_r _ [110, 26, 27, 28, 29, 30, 31, 32, 33, 10, 34, 35, 36, 37, 38, 39, 40, 41, 42, 18, 43, 20, 44, 45, 46, 47, 48, 24, 49, 50, 51, 52, 53, 54, 55, 56, 57, 58, 59, 16, 17, 19, 60, 61, 62, 63, 64, 65, 66, 67, 68, 69, 70, 71, 72, 73, 74, 75, 76, 77, 78, 79, 80, 81, 82, 83, 84, 85, 86, 87, 88, 89, 90, 91, 92, 93, 94, 95, 96, 97, 98, 99, 100, 101, 102, 103, 104, 105, 106, 132, 133, 134, 135, 136, 137, 138, 139, 122, 123, 124, 125, 126, 127, 128, 129, 130, 131] (by decide +kernel) (by decide +kernel)) (goodIn_sub (fun _ h => List.mem_cons_of_mem _ (List.mem_append_left _ (List.mem_append_right _ h))) (by decide +kernel))) (goodIn_sub (fun _ h => List.mem_cons_of_mem _ (List.mem_append_right _ h)) (by decide +kernel))
set_option maxRecDepth 20000 in
theorem gX5_margin_X3_leadOf : GoodIn wsX5_margin (wsV RX5 243 RX3 yX3_leadOf wsX3_leadOf) := goodIn_app (goodIn_of _ (by decide +kernel)) ggX5_margin_X3_leadOf
theorem dX5_margin_0 : decode cX5_margin 0 = .ok (.aload_n 0, 1) := by decide +kernel
theorem dX5_margin_1 : decode cX5_margin 1 = .ok (.iload_n 1, 1) := by decide +kernel
theorem dX5_margin_2 : decode cX5_margin 2 = .ok (.invokevirtual 105, 3) := by decide +kernel
theorem dX5_margin_5 : decode cX5_margin 5 = .ok (.aload_n 0, 1) := by decide +kernel
theorem dX5_margin_6 : decode cX5_margin 6 = .ok (.getfield 37, 3) := by decide +kernel
theorem dX5_margin_9 : decode cX5_margin 9 = .ok (.iload_n 1, 1) := by decide +kernel
theorem dX5_margin_10 : decode cX5_margin 10 = .ok (.aload_n 0, 1) := by decide +kernel
theorem dX5_margin_11 : decode cX5_margin 11 = .ok (.getfield 30, 3) := by decide +kernel
theorem dX5_margin_14 : decode cX5_margin 14 = .ok (.getfield 120, 3) := by decide +kernel
theorem dX5_margin_17 : decode cX5_margin 17 = .ok (.invokevirtual 155, 3) := by decide +kernel
theorem dX5_margin_20 : decode cX5_margin 20 = .ok (.iload_n 1, 1) := by decide +kernel
theorem dX5_margin_21 : decode cX5_margin 21 = .ok (.if_icmp .eq 13, 3) := by decide +kernel
theorem dX5_margin_24 : decode cX5_margin 24 = .ok (.new 100, 3) := by decide +kernel
theorem dX5_margin_27 : decode cX5_margin 27 = .ok (.dup, 1) := by decide +kernel
theorem dX5_margin_28 : decode cX5_margin 28 = .ok (.ldc 241, 2) := by decide +kernel
theorem dX5_margin_30 : decode cX5_margin 30 = .ok (.invokespecial 104, 3) := by decide +kernel
theorem dX5_margin_33 : decode cX5_margin 33 = .ok (.athrow, 1) := by decide +kernel
theorem dX5_margin_34 : decode cX5_margin 34 = .ok (.aload_n 0, 1) := by decide +kernel
theorem dX5_margin_35 : decode cX5_margin 35 = .ok (.getfield 37, 3) := by decide +kernel
theorem dX5_margin_38 : decode cX5_margin 38 = .ok (.iload_n 1, 1) := by decide +kernel
theorem dX5_margin_39 : decode cX5_margin 39 = .ok (.aload_n 0, 1) := by decide +kernel
theorem dX5_margin_40 : decode cX5_margin 40 = .ok (.getfield 30, 3) := by decide +kernel
theorem dX5_margin_43 : decode cX5_margin 43 = .ok (.getfield 120, 3) := by decide +kernel
theorem dX5_margin_46 : decode cX5_margin 46 = .ok (.invokevirtual 243, 3) := by decide +kernel
theorem dX5_margin_49 : decode cX5_margin 49 = .ok (.istore_n 2, 1) := by decide +kernel
theorem dX5_margin_50 : decode cX5_margin 50 = .ok (.iload_n 2, 1) := by decide +kernel
theorem dX5_margin_51 : decode cX5_margin 51 = .ok (.iconst (-1), 1) := by decide +kernel
theorem dX5_margin_52 : decode cX5_margin 52 = .ok (.if_icmp .ne 13, 3) := by decide +kernel
theorem dX5_margin_55 : decode cX5_margin 55 = .ok (.new 176, 3) := by decide +kernel
theorem dX5_margin_58 : decode cX5_margin 58 = .ok (.dup, 1) := by decide +kernel
theorem dX5_margin_59 : decode cX5_margin 59 = .ok (.ldc 246, 2) := by decide +kernel
theorem dX5_margin_61 : decode cX5_margin 61 = .ok (.invokespecial 178, 3) := by decide +kernel
theorem dX5_margin_64 : decode cX5_margin 64 = .ok (.athrow, 1) := by decide +kernel
theorem dX5_margin_65 : decode cX5_margin 65 = .ok (.iload_n 2, 1) := by decide +kernel
theorem dX5_margin_66 : decode cX5_margin 66 = .ok (.ireturn, 1) := by decide +kernel
theorem dX5_trips_0 : decode cX5_trips 0 = .ok (.aload_n 0, 1) := by decide +kernel
theorem dX5_trips_1 : decode cX5_trips 1 = .ok (.getfield 168, 3) := by decide +kernel
theorem dX5_trips_4 : decode cX5_trips 4 = .ok (.ireturn, 1) := by decide +kernel
set_option maxRecDepth 20000 in
theorem ggX5_darkLoad_X1_allNodes : GoodIn wsX5_darkLoad wsX1_allNodes := goodIn_r _ [6, 7, 8, 9, 10, 54, 55, 56, 57, 58, 59, 60, 61, 62, 63] (by decide +kernel) (by decide +kernel)
set_option maxRecDepth 20000 in
theorem gX5_darkLoad_X1_allNodes : GoodIn wsX5_darkLoad (wsV RX5 248 RX1 yX1_allNodes wsX1_allNodes) := goodIn_app (goodIn_of _ (by decide +kernel)) ggX5_darkLoad_X1_allNodes
set_option maxRecDepth 20000 in
theorem ggX5_darkLoad_X1_loadIn : GoodIn wsX5_darkLoad wsX1_loadIn := goodIn_ca (goodIn_r _ [14, 7, 15, 16, 9, 17, 54, 55, 56, 57, 58, 59, 60, 61, 62, 63] (by decide +kernel) (by decide +kernel)) (goodIn_sub (fun _ h => List.mem_cons_of_mem _ (List.mem_append_right _ h)) (by decide +kernel))
set_option maxRecDepth 20000 in
theorem gX5_darkLoad_X1_loadIn : GoodIn wsX5_darkLoad (wsV RX5 212 RX1 yX1_loadIn wsX1_loadIn) := goodIn_app (goodIn_of _ (by decide +kernel)) ggX5_darkLoad_X1_loadIn
set_option maxRecDepth 20000 in
theorem ggX5_darkLoad_X5_liveNodes : GoodIn wsX5_darkLoad wsX5_liveNodes := goodIn_ca (goodIn_r _ [21, 1, 22, 23, 24, 25, 5, 26, 7, 27, 16, 9, 17, 28, 29, 30, 31, 8, 10, 32, 33, 34, 35, 36, 37, 38, 39, 40, 41, 42, 43, 44, 45, 46, 47, 48, 49, 50, 51, 52, 53, 64, 65, 66, 67, 68, 54, 55, 56, 57, 58, 59, 60, 61, 62, 63] (by decide +kernel) (by decide +kernel)) (goodIn_sub (fun _ h => List.mem_cons_of_mem _ (List.mem_append_right _ h)) (by decide +kernel))
set_option maxRecDepth 20000 in
theorem gX5_darkLoad_X5_liveNodes : GoodIn wsX5_darkLoad (wsV RX5 252 RX5 yX5_liveNodes wsX5_liveNodes) := goodIn_app (goodIn_of _ (by decide +kernel)) ggX5_darkLoad_X5_liveNodes
theorem dX5_darkLoad_0 : decode cX5_darkLoad 0 = .ok (.aload_n 0, 1) := by decide +kernel
theorem dX5_darkLoad_1 : decode cX5_darkLoad 1 = .ok (.getfield 10, 3) := by decide +kernel
theorem dX5_darkLoad_4 : decode cX5_darkLoad 4 = .ok (.aload_n 0, 1) := by decide +kernel
theorem dX5_darkLoad_5 : decode cX5_darkLoad 5 = .ok (.getfield 10, 3) := by decide +kernel
theorem dX5_darkLoad_8 : decode cX5_darkLoad 8 = .ok (.invokevirtual 248, 3) := by decide +kernel
theorem dX5_darkLoad_11 : decode cX5_darkLoad 11 = .ok (.invokevirtual 212, 3) := by decide +kernel
theorem dX5_darkLoad_14 : decode cX5_darkLoad 14 = .ok (.aload_n 0, 1) := by decide +kernel
theorem dX5_darkLoad_15 : decode cX5_darkLoad 15 = .ok (.getfield 10, 3) := by decide +kernel
theorem dX5_darkLoad_18 : decode cX5_darkLoad 18 = .ok (.aload_n 0, 1) := by decide +kernel
theorem dX5_darkLoad_19 : decode cX5_darkLoad 19 = .ok (.invokevirtual 252, 3) := by decide +kernel
theorem dX5_darkLoad_22 : decode cX5_darkLoad 22 = .ok (.invokevirtual 212, 3) := by decide +kernel
theorem dX5_darkLoad_25 : decode cX5_darkLoad 25 = .ok (.isub, 1) := by decide +kernel
theorem dX5_darkLoad_26 : decode cX5_darkLoad 26 = .ok (.ireturn, 1) := by decide +kernel
set_option maxRecDepth 20000 in
theorem ggX5_bestValue_X2_findBest : GoodIn wsX5_bestValue wsX2_findBest := goodIn_ca (goodIn_r _ [6, 7, 8, 9, 5, 10, 11, 12, 13, 14, 15, 16, 17, 18, 19, 20, 21, 22, 23, 24, 25, 26, 27, 28, 29, 30, 31, 32, 33, 34, 35, 36, 37, 38, 39, 40, 41, 42, 43, 44, 45, 46, 47, 48, 49, 50, 51, 52, 53, 54, 55, 56, 57, 58, 59, 60, 61, 62, 63, 64, 65, 66, 67, 68, 69, 70, 71, 72, 73, 74, 75, 76, 77, 78, 79, 80, 81, 82, 83, 84, 85, 86, 87, 88, 89, 90, 91, 92, 93, 94, 95, 96, 97, 98, 99, 100, 101, 102, 103, 104, 105, 106, 107, 108, 109, 110, 111, 112, 113, 114, 115, 116, 117, 118, 119, 120, 121, 122, 123, 124, 125, 126, 127, 128, 129, 130, 131, 132, 133, 134, 135, 136, 137, 138, 139, 140, 141, 142, 143, 144, 145, 146, 147, 148, 149, 150, 151, 152, 159, 160, 161, 162, 163, 164, 165, 166, 167, 168, 169, 170, 171, 172, 173, 174, 175, 176, 177, 178, 179, 180, 181] (by decide +kernel) (by decide +kernel)) (goodIn_sub (fun _ h => List.mem_cons_of_mem _ (List.mem_append_right _ h)) (by decide +kernel))
set_option maxRecDepth 20000 in
theorem gX5_bestValue_X2_findBest : GoodIn wsX5_bestValue (wsV RX5 255 RX2 yX2_findBest wsX2_findBest) := goodIn_app (goodIn_of _ (by decide +kernel)) ggX5_bestValue_X2_findBest
theorem dX5_bestValue_0 : decode cX5_bestValue 0 = .ok (.aload_n 0, 1) := by decide +kernel
theorem dX5_bestValue_1 : decode cX5_bestValue 1 = .ok (.getfield 46, 3) := by decide +kernel
theorem dX5_bestValue_4 : decode cX5_bestValue 4 = .ok (.invokevirtual 255, 3) := by decide +kernel
theorem dX5_bestValue_7 : decode cX5_bestValue 7 = .ok (.aload_n 0, 1) := by decide +kernel
theorem dX5_bestValue_8 : decode cX5_bestValue 8 = .ok (.getfield 46, 3) := by decide +kernel
theorem dX5_bestValue_11 : decode cX5_bestValue 11 = .ok (.getfield 258, 3) := by decide +kernel
theorem dX5_bestValue_14 : decode cX5_bestValue 14 = .ok (.ireturn, 1) := by decide +kernel
set_option maxRecDepth 20000 in
theorem ggX5_bestSize_X2_findBest : GoodIn wsX5_bestSize wsX2_findBest := goodIn_ca (goodIn_r _ [6, 7, 8, 9, 5, 10, 11, 12, 13, 14, 15, 16, 17, 18, 19, 20, 21, 22, 23, 24, 25, 26, 27, 28, 29, 30, 31, 32, 33, 34, 35, 36, 37, 38, 39, 40, 41, 42, 43, 44, 45, 46, 47, 48, 49, 50, 51, 52, 53, 54, 55, 56, 57, 58, 59, 60, 61, 62, 63, 64, 65, 66, 67, 68, 69, 70, 71, 72, 73, 74, 75, 76, 77, 78, 79, 80, 81, 82, 83, 84, 85, 86, 87, 88, 89, 90, 91, 92, 93, 94, 95, 96, 97, 98, 99, 100, 101, 102, 103, 104, 105, 106, 107, 108, 109, 110, 111, 112, 113, 114, 115, 116, 117, 118, 119, 120, 121, 122, 123, 124, 125, 126, 127, 128, 129, 130, 131, 132, 133, 134, 135, 136, 137, 138, 139, 140, 141, 142, 143, 144, 145, 146, 147, 148, 149, 150, 151, 152, 160, 161, 162, 163, 164, 165, 166, 167, 168, 169, 170, 171, 172, 173, 174, 175, 176, 177, 178, 179, 180, 181, 182] (by decide +kernel) (by decide +kernel)) (goodIn_sub (fun _ h => List.mem_cons_of_mem _ (List.mem_append_right _ h)) (by decide +kernel))
set_option maxRecDepth 20000 in
theorem gX5_bestSize_X2_findBest : GoodIn wsX5_bestSize (wsV RX5 255 RX2 yX2_findBest wsX2_findBest) := goodIn_app (goodIn_of _ (by decide +kernel)) ggX5_bestSize_X2_findBest
set_option maxRecDepth 20000 in
theorem ggX5_bestSize_J6_bitCount_0f7a4 : GoodIn wsX5_bestSize wsJ6_bitCount_0f7a4 := goodIn_r _ [74, 75, 76, 77] (by decide +kernel) (by decide +kernel)
set_option maxRecDepth 20000 in
theorem gX5_bestSize_J6_bitCount_0f7a4 : GoodIn wsX5_bestSize (va_wsS RX5 181 yJ6_bitCount_0f7a4 wsJ6_bitCount_0f7a4) := goodIn_app (goodIn_of _ (by decide +kernel)) ggX5_bestSize_J6_bitCount_0f7a4
theorem dX5_bestSize_0 : decode cX5_bestSize 0 = .ok (.aload_n 0, 1) := by decide +kernel
theorem dX5_bestSize_1 : decode cX5_bestSize 1 = .ok (.getfield 46, 3) := by decide +kernel
theorem dX5_bestSize_4 : decode cX5_bestSize 4 = .ok (.invokevirtual 255, 3) := by decide +kernel
theorem dX5_bestSize_7 : decode cX5_bestSize 7 = .ok (.aload_n 0, 1) := by decide +kernel
theorem dX5_bestSize_8 : decode cX5_bestSize 8 = .ok (.getfield 46, 3) := by decide +kernel
theorem dX5_bestSize_11 : decode cX5_bestSize 11 = .ok (.getfield 261, 3) := by decide +kernel
theorem dX5_bestSize_14 : decode cX5_bestSize 14 = .ok (.invokestatic 181, 3) := by decide +kernel
theorem dX5_bestSize_17 : decode cX5_bestSize 17 = .ok (.ireturn, 1) := by decide +kernel
set_option maxRecDepth 20000 in
theorem ggX5_bestAt_X2_findBest : GoodIn wsX5_bestAt wsX2_findBest := goodIn_ca (goodIn_r _ [8, 9, 10, 11, 7, 12, 13, 14, 15, 16, 17, 18, 19, 20, 21, 22, 23, 24, 25, 26, 27, 28, 29, 30, 31, 32, 33, 34, 35, 36, 37, 38, 39, 40, 41, 42, 43, 44, 45, 46, 47, 48, 49, 50, 51, 52, 53, 54, 55, 56, 57, 58, 59, 60, 61, 62, 63, 64, 65, 66, 67, 68, 69, 70, 71, 72, 73, 74, 75, 76, 77, 78, 79, 80, 81, 82, 83, 84, 85, 86, 87, 88, 89, 90, 91, 92, 93, 94, 95, 96, 97, 98, 99, 100, 101, 102, 103, 104, 105, 106, 107, 108, 109, 110, 111, 112, 113, 114, 115, 116, 117, 118, 119, 120, 121, 122, 123, 124, 125, 126, 127, 128, 129, 130, 131, 132, 133, 134, 135, 136, 137, 138, 139, 140, 141, 142, 143, 144, 145, 146, 147, 148, 149, 150, 151, 152, 153, 154, 162, 163, 164, 165, 166, 167, 168, 169, 170, 171, 172, 173, 174, 175, 176, 177, 178, 179, 180, 181, 182, 183, 184] (by decide +kernel) (by decide +kernel)) (goodIn_sub (fun _ h => List.mem_cons_of_mem _ (List.mem_append_right _ h)) (by decide +kernel))
set_option maxRecDepth 20000 in
theorem gX5_bestAt_X2_findBest : GoodIn wsX5_bestAt (wsV RX5 255 RX2 yX2_findBest wsX2_findBest) := goodIn_app (goodIn_of _ (by decide +kernel)) ggX5_bestAt_X2_findBest
set_option maxRecDepth 20000 in
theorem ggX5_bestAt_J6_bitCount_0f7a4 : GoodIn wsX5_bestAt wsJ6_bitCount_0f7a4 := goodIn_r _ [76, 77, 78, 79] (by decide +kernel) (by decide +kernel)
set_option maxRecDepth 20000 in
theorem gX5_bestAt_J6_bitCount_0f7a4 : GoodIn wsX5_bestAt (va_wsS RX5 181 yJ6_bitCount_0f7a4 wsJ6_bitCount_0f7a4) := goodIn_app (goodIn_of _ (by decide +kernel)) ggX5_bestAt_J6_bitCount_0f7a4
set_option maxRecDepth 20000 in
theorem ggX5_bestAt_X5_memberAt : GoodIn wsX5_bestAt wsX5_memberAt := goodIn_r _ [51] (by decide +kernel) (by decide +kernel)
set_option maxRecDepth 20000 in
theorem gX5_bestAt_X5_memberAt : GoodIn wsX5_bestAt (va_wsS RX5 266 yX5_memberAt wsX5_memberAt) := goodIn_app (goodIn_of _ (by decide +kernel)) ggX5_bestAt_X5_memberAt
theorem dX5_bestAt_0 : decode cX5_bestAt 0 = .ok (.aload_n 0, 1) := by decide +kernel
theorem dX5_bestAt_1 : decode cX5_bestAt 1 = .ok (.getfield 46, 3) := by decide +kernel
theorem dX5_bestAt_4 : decode cX5_bestAt 4 = .ok (.invokevirtual 255, 3) := by decide +kernel
theorem dX5_bestAt_7 : decode cX5_bestAt 7 = .ok (.iload_n 1, 1) := by decide +kernel
theorem dX5_bestAt_8 : decode cX5_bestAt 8 = .ok (.ifCond .lt 17, 3) := by decide +kernel
theorem dX5_bestAt_11 : decode cX5_bestAt 11 = .ok (.iload_n 1, 1) := by decide +kernel
theorem dX5_bestAt_12 : decode cX5_bestAt 12 = .ok (.aload_n 0, 1) := by decide +kernel
theorem dX5_bestAt_13 : decode cX5_bestAt 13 = .ok (.getfield 46, 3) := by decide +kernel
theorem dX5_bestAt_16 : decode cX5_bestAt 16 = .ok (.getfield 261, 3) := by decide +kernel
theorem dX5_bestAt_19 : decode cX5_bestAt 19 = .ok (.invokestatic 181, 3) := by decide +kernel
theorem dX5_bestAt_22 : decode cX5_bestAt 22 = .ok (.if_icmp .lt 14, 3) := by decide +kernel
theorem dX5_bestAt_25 : decode cX5_bestAt 25 = .ok (.new 224, 3) := by decide +kernel
theorem dX5_bestAt_28 : decode cX5_bestAt 28 = .ok (.dup, 1) := by decide +kernel
theorem dX5_bestAt_29 : decode cX5_bestAt 29 = .ok (.ldc_w 264, 3) := by decide +kernel
theorem dX5_bestAt_32 : decode cX5_bestAt 32 = .ok (.invokespecial 228, 3) := by decide +kernel
theorem dX5_bestAt_35 : decode cX5_bestAt 35 = .ok (.athrow, 1) := by decide +kernel
theorem dX5_bestAt_36 : decode cX5_bestAt 36 = .ok (.aload_n 0, 1) := by decide +kernel
theorem dX5_bestAt_37 : decode cX5_bestAt 37 = .ok (.getfield 46, 3) := by decide +kernel
theorem dX5_bestAt_40 : decode cX5_bestAt 40 = .ok (.getfield 261, 3) := by decide +kernel
theorem dX5_bestAt_43 : decode cX5_bestAt 43 = .ok (.iload_n 1, 1) := by decide +kernel
theorem dX5_bestAt_44 : decode cX5_bestAt 44 = .ok (.invokestatic 266, 3) := by decide +kernel
theorem dX5_bestAt_47 : decode cX5_bestAt 47 = .ok (.ireturn, 1) := by decide +kernel
set_option maxRecDepth 20000 in
theorem ggX5_valueByTrying_X5_needFewLinesToTry : GoodIn wsX5_valueByTrying wsX5_needFewLinesToTry := goodIn_ca (goodIn_r _ [6, 7, 8, 9, 10, 11, 12, 13, 14, 15, 16, 17, 18, 19, 20, 21, 22, 23, 24, 25, 162, 163, 164, 165, 166, 167, 173, 174, 175, 176, 177, 178, 179, 180, 181, 182, 183, 184, 185, 186, 187] (by decide +kernel) (by decide +kernel)) (goodIn_sub (fun _ h => List.mem_cons_of_mem _ (List.mem_append_left _ (List.mem_append_right _ h))) (by decide +kernel))
set_option maxRecDepth 20000 in
theorem gX5_valueByTrying_X5_needFewLinesToTry : GoodIn wsX5_valueByTrying (wsV RX5 269 RX5 yX5_needFewLinesToTry wsX5_needFewLinesToTry) := goodIn_app (goodIn_of _ (by decide +kernel)) ggX5_valueByTrying_X5_needFewLinesToTry
set_option maxRecDepth 20000 in
theorem ggX5_valueByTrying_X2_tryAllSets : GoodIn wsX5_valueByTrying wsX2_tryAllSets := goodIn_ca (goodIn_r _ [30, 31, 32, 33, 34, 29, 35, 36, 37, 38, 39, 11, 12, 13, 14, 15, 16, 17, 18, 40, 41, 42, 43, 44, 45, 46, 47, 48, 49, 50, 51, 52, 5, 53, 54, 55, 56, 57, 58, 59, 60, 61, 62, 63, 64, 65, 66, 67, 68, 69, 70, 71, 72, 73, 74, 75, 76, 77, 78, 79, 80, 81, 82, 83, 84, 85, 86, 87, 88, 89, 90, 91, 92, 93, 94, 95, 96, 97, 98, 99, 100, 101, 102, 103, 104, 105, 106, 107, 108, 109, 110, 111, 112, 113, 114, 115, 116, 117, 118, 119, 120, 121, 122, 123, 124, 125, 126, 127, 128, 129, 130, 131, 132, 133, 134, 135, 136, 137, 138, 139, 140, 141, 142, 143, 144, 145, 146, 147, 148, 149, 150, 151, 152, 153, 154, 155, 156, 157, 20, 21, 22, 23, 24, 25, 158, 159, 160, 161, 168, 169, 170, 171, 172, 173, 174, 175, 176, 177, 178, 179, 180, 181, 182, 183, 184, 185, 186, 187, 188, 189, 190] (by decide +kernel) (by decide +kernel)) (goodIn_sub (fun _ h => List.mem_cons_of_mem _ (List.mem_append_right _ h)) (by decide +kernel))
set_option maxRecDepth 20000 in
theorem gX5_valueByTrying_X2_tryAllSets : GoodIn wsX5_valueByTrying (wsV RX5 272 RX2 yX2_tryAllSets wsX2_tryAllSets) := goodIn_app (goodIn_of _ (by decide +kernel)) ggX5_valueByTrying_X2_tryAllSets
theorem dX5_valueByTrying_0 : decode cX5_valueByTrying 0 = .ok (.aload_n 0, 1) := by decide +kernel
theorem dX5_valueByTrying_1 : decode cX5_valueByTrying 1 = .ok (.invokevirtual 269, 3) := by decide +kernel
theorem dX5_valueByTrying_4 : decode cX5_valueByTrying 4 = .ok (.aload_n 0, 1) := by decide +kernel
theorem dX5_valueByTrying_5 : decode cX5_valueByTrying 5 = .ok (.getfield 46, 3) := by decide +kernel
theorem dX5_valueByTrying_8 : decode cX5_valueByTrying 8 = .ok (.invokevirtual 272, 3) := by decide +kernel
theorem dX5_valueByTrying_11 : decode cX5_valueByTrying 11 = .ok (.aload_n 0, 1) := by decide +kernel
theorem dX5_valueByTrying_12 : decode cX5_valueByTrying 12 = .ok (.getfield 46, 3) := by decide +kernel
theorem dX5_valueByTrying_15 : decode cX5_valueByTrying 15 = .ok (.getfield 258, 3) := by decide +kernel
theorem dX5_valueByTrying_18 : decode cX5_valueByTrying 18 = .ok (.ireturn, 1) := by decide +kernel
set_option maxRecDepth 20000 in
theorem ggX5_sizeByTrying_X5_needFewLinesToTry : GoodIn wsX5_sizeByTrying wsX5_needFewLinesToTry := goodIn_ca (goodIn_r _ [6, 7, 8, 9, 10, 11, 12, 13, 14, 15, 16, 17, 18, 19, 20, 21, 22, 23, 24, 25, 162, 163, 164, 165, 166, 167, 173, 174, 175, 176, 177, 178, 179, 180, 181, 182, 183, 184, 185, 186, 187] (by decide +kernel) (by decide +kernel)) (goodIn_sub (fun _ h => List.mem_cons_of_mem _ (List.mem_append_left _ (List.mem_append_right _ h))) (by decide +kernel))
set_option maxRecDepth 20000 in
theorem gX5_sizeByTrying_X5_needFewLinesToTry : GoodIn wsX5_sizeByTrying (wsV RX5 269 RX5 yX5_needFewLinesToTry wsX5_needFewLinesToTry) := goodIn_app (goodIn_of _ (by decide +kernel)) ggX5_sizeByTrying_X5_needFewLinesToTry
set_option maxRecDepth 20000 in
theorem ggX5_sizeByTrying_X2_tryAllSets : GoodIn wsX5_sizeByTrying wsX2_tryAllSets := goodIn_ca (goodIn_r _ [30, 31, 32, 33, 34, 29, 35, 36, 37, 38, 39, 11, 12, 13, 14, 15, 16, 17, 18, 40, 41, 42, 43, 44, 45, 46, 47, 48, 49, 50, 51, 52, 5, 53, 54, 55, 56, 57, 58, 59, 60, 61, 62, 63, 64, 65, 66, 67, 68, 69, 70, 71, 72, 73, 74, 75, 76, 77, 78, 79, 80, 81, 82, 83, 84, 85, 86, 87, 88, 89, 90, 91, 92, 93, 94, 95, 96, 97, 98, 99, 100, 101, 102, 103, 104, 105, 106, 107, 108, 109, 110, 111, 112, 113, 114, 115, 116, 117, 118, 119, 120, 121, 122, 123, 124, 125, 126, 127, 128, 129, 130, 131, 132, 133, 134, 135, 136, 137, 138, 139, 140, 141, 142, 143, 144, 145, 146, 147, 148, 149, 150, 151, 152, 153, 154, 155, 156, 157, 20, 21, 22, 23, 24, 25, 158, 159, 160, 161, 168, 169, 170, 171, 172, 173, 174, 175, 176, 177, 178, 179, 180, 181, 182, 183, 184, 185, 186, 187, 188, 189, 190] (by decide +kernel) (by decide +kernel)) (goodIn_sub (fun _ h => List.mem_cons_of_mem _ (List.mem_append_right _ h)) (by decide +kernel))
set_option maxRecDepth 20000 in
theorem gX5_sizeByTrying_X2_tryAllSets : GoodIn wsX5_sizeByTrying (wsV RX5 272 RX2 yX2_tryAllSets wsX2_tryAllSets) := goodIn_app (goodIn_of _ (by decide +kernel)) ggX5_sizeByTrying_X2_tryAllSets
set_option maxRecDepth 20000 in
theorem ggX5_sizeByTrying_J6_bitCount_0f7a4 : GoodIn wsX5_sizeByTrying wsJ6_bitCount_0f7a4 := goodIn_r _ [22, 23, 24, 25] (by decide +kernel) (by decide +kernel)
set_option maxRecDepth 20000 in
theorem gX5_sizeByTrying_J6_bitCount_0f7a4 : GoodIn wsX5_sizeByTrying (va_wsS RX5 181 yJ6_bitCount_0f7a4 wsJ6_bitCount_0f7a4) := goodIn_app (goodIn_of _ (by decide +kernel)) ggX5_sizeByTrying_J6_bitCount_0f7a4
theorem dX5_sizeByTrying_0 : decode cX5_sizeByTrying 0 = .ok (.aload_n 0, 1) := by decide +kernel
theorem dX5_sizeByTrying_1 : decode cX5_sizeByTrying 1 = .ok (.invokevirtual 269, 3) := by decide +kernel
theorem dX5_sizeByTrying_4 : decode cX5_sizeByTrying 4 = .ok (.aload_n 0, 1) := by decide +kernel
theorem dX5_sizeByTrying_5 : decode cX5_sizeByTrying 5 = .ok (.getfield 46, 3) := by decide +kernel
theorem dX5_sizeByTrying_8 : decode cX5_sizeByTrying 8 = .ok (.invokevirtual 272, 3) := by decide +kernel
theorem dX5_sizeByTrying_11 : decode cX5_sizeByTrying 11 = .ok (.aload_n 0, 1) := by decide +kernel
theorem dX5_sizeByTrying_12 : decode cX5_sizeByTrying 12 = .ok (.getfield 46, 3) := by decide +kernel
theorem dX5_sizeByTrying_15 : decode cX5_sizeByTrying 15 = .ok (.getfield 261, 3) := by decide +kernel
theorem dX5_sizeByTrying_18 : decode cX5_sizeByTrying 18 = .ok (.invokestatic 181, 3) := by decide +kernel
theorem dX5_sizeByTrying_21 : decode cX5_sizeByTrying 21 = .ok (.ireturn, 1) := by decide +kernel
set_option maxRecDepth 20000 in
theorem ggX5_restore_X2_findBest : GoodIn wsX5_restore wsX2_findBest := goodIn_ca (goodIn_r _ [7, 8, 9, 10, 6, 11, 12, 13, 14, 15, 16, 17, 18, 19, 20, 21, 22, 23, 24, 25, 26, 27, 28, 29, 30, 31, 32, 33, 34, 35, 36, 37, 38, 39, 40, 41, 42, 43, 44, 45, 46, 47, 48, 49, 50, 51, 52, 53, 54, 55, 56, 57, 58, 59, 60, 61, 62, 63, 64, 65, 66, 67, 68, 69, 70, 71, 72, 73, 74, 75, 76, 77, 78, 79, 80, 81, 82, 83, 84, 85, 86, 87, 88, 89, 90, 91, 92, 93, 94, 95, 96, 97, 98, 99, 100, 101, 102, 103, 104, 105, 106, 107, 108, 109, 110, 111, 112, 113, 114, 115, 116, 117, 118, 119, 120, 121, 122, 123, 124, 125, 126, 127, 128, 129, 130, 131, 132, 133, 134, 135, 136, 137, 138, 139, 140, 141, 142, 143, 144, 145, 146, 147, 148, 149, 150, 151, 152, 153, 165, 166, 167, 168, 169, 170, 171, 172, 173, 174, 175, 176, 177, 178, 179, 180, 181, 182, 183, 184, 185, 186, 187] (by decide +kernel) (by decide +kernel)) (goodIn_sub (fun _ h => List.mem_cons_of_mem _ (List.mem_append_right _ h)) (by decide +kernel))
set_option maxRecDepth 20000 in
theorem gX5_restore_X2_findBest : GoodIn wsX5_restore (wsV RX5 255 RX2 yX2_findBest wsX2_findBest) := goodIn_app (goodIn_of _ (by decide +kernel)) ggX5_restore_X2_findBest
set_option maxRecDepth 20000 in
theorem ggX5_restore_X4_closeAll : GoodIn wsX5_restore wsX4_closeAll := goodIn_r _ [157, 22, 170, 171, 172, 173, 174] (by decide +kernel) (by decide +kernel)
set_option maxRecDepth 20000 in
theorem gX5_restore_X4_closeAll : GoodIn wsX5_restore (wsV RX5 131 RX4 yX4_closeAll wsX4_closeAll) := goodIn_app (goodIn_of _ (by decide +kernel)) ggX5_restore_X4_closeAll
set_option maxRecDepth 20000 in
theorem ggX5_restore_J6_bitCount_0f7a4 : GoodIn wsX5_restore wsJ6_bitCount_0f7a4 := goodIn_r _ [75, 76, 77, 78] (by decide +kernel) (by decide +kernel)
set_option maxRecDepth 20000 in
theorem gX5_restore_J6_bitCount_0f7a4 : GoodIn wsX5_restore (va_wsS RX5 181 yJ6_bitCount_0f7a4 wsJ6_bitCount_0f7a4) := goodIn_app (goodIn_of _ (by decide +kernel)) ggX5_restore_J6_bitCount_0f7a4
theorem dX5_restore_0 : decode cX5_restore 0 = .ok (.aload_n 0, 1) := by decide +kernel
theorem dX5_restore_1 : decode cX5_restore 1 = .ok (.getfield 46, 3) := by decide +kernel
theorem dX5_restore_4 : decode cX5_restore 4 = .ok (.invokevirtual 255, 3) := by decide +kernel
theorem dX5_restore_7 : decode cX5_restore 7 = .ok (.aload_n 0, 1) := by decide +kernel
theorem dX5_restore_8 : decode cX5_restore 8 = .ok (.getfield 30, 3) := by decide +kernel
theorem dX5_restore_11 : decode cX5_restore 11 = .ok (.aload_n 0, 1) := by decide +kernel
theorem dX5_restore_12 : decode cX5_restore 12 = .ok (.getfield 46, 3) := by decide +kernel
theorem dX5_restore_15 : decode cX5_restore 15 = .ok (.getfield 261, 3) := by decide +kernel
theorem dX5_restore_18 : decode cX5_restore 18 = .ok (.invokevirtual 131, 3) := by decide +kernel
theorem dX5_restore_21 : decode cX5_restore 21 = .ok (.aload_n 0, 1) := by decide +kernel
theorem dX5_restore_22 : decode cX5_restore 22 = .ok (.getfield 46, 3) := by decide +kernel
theorem dX5_restore_25 : decode cX5_restore 25 = .ok (.getfield 261, 3) := by decide +kernel
theorem dX5_restore_28 : decode cX5_restore 28 = .ok (.invokestatic 181, 3) := by decide +kernel
theorem dX5_restore_31 : decode cX5_restore 31 = .ok (.ireturn, 1) := by decide +kernel
set_option maxRecDepth 20000 in
theorem ggX5_liveShare_X1_allNodes : GoodIn wsX5_liveShare wsX1_allNodes := goodIn_r _ [8, 9, 10, 11, 12, 56, 57, 58, 59, 60, 61, 62, 63, 64, 65] (by decide +kernel) (by decide +kernel)
set_option maxRecDepth 20000 in
theorem gX5_liveShare_X1_allNodes : GoodIn wsX5_liveShare (wsV RX5 248 RX1 yX1_allNodes wsX1_allNodes) := goodIn_app (goodIn_of _ (by decide +kernel)) ggX5_liveShare_X1_allNodes
set_option maxRecDepth 20000 in
theorem ggX5_liveShare_X1_loadIn : GoodIn wsX5_liveShare wsX1_loadIn := goodIn_ca (goodIn_r _ [16, 9, 17, 18, 11, 19, 56, 57, 58, 59, 60, 61, 62, 63, 64, 65] (by decide +kernel) (by decide +kernel)) (goodIn_sub (fun _ h => List.mem_cons_of_mem _ (List.mem_append_right _ h)) (by decide +kernel))
set_option maxRecDepth 20000 in
theorem gX5_liveShare_X1_loadIn : GoodIn wsX5_liveShare (wsV RX5 212 RX1 yX1_loadIn wsX1_loadIn) := goodIn_app (goodIn_of _ (by decide +kernel)) ggX5_liveShare_X1_loadIn
set_option maxRecDepth 20000 in
theorem ggX5_liveShare_X5_liveNodes : GoodIn wsX5_liveShare wsX5_liveNodes := goodIn_ca (goodIn_r _ [23, 3, 24, 25, 26, 27, 7, 28, 9, 29, 18, 11, 19, 30, 31, 32, 33, 10, 12, 34, 35, 36, 37, 38, 39, 40, 41, 42, 43, 44, 45, 46, 47, 48, 49, 50, 51, 52, 53, 54, 55, 66, 67, 68, 69, 70, 56, 57, 58, 59, 60, 61, 62, 63, 64, 65] (by decide +kernel) (by decide +kernel)) (goodIn_sub (fun _ h => List.mem_cons_of_mem _ (List.mem_append_right _ h)) (by decide +kernel))
set_option maxRecDepth 20000 in
theorem gX5_liveShare_X5_liveNodes : GoodIn wsX5_liveShare (wsV RX5 252 RX5 yX5_liveNodes wsX5_liveNodes) := goodIn_app (goodIn_of _ (by decide +kernel)) ggX5_liveShare_X5_liveNodes
theorem dX5_liveShare_0 : decode cX5_liveShare 0 = .ok (.aload_n 0, 1) := by decide +kernel
theorem dX5_liveShare_1 : decode cX5_liveShare 1 = .ok (.getfield 10, 3) := by decide +kernel
theorem dX5_liveShare_4 : decode cX5_liveShare 4 = .ok (.aload_n 0, 1) := by decide +kernel
theorem dX5_liveShare_5 : decode cX5_liveShare 5 = .ok (.getfield 10, 3) := by decide +kernel
theorem dX5_liveShare_8 : decode cX5_liveShare 8 = .ok (.invokevirtual 248, 3) := by decide +kernel
theorem dX5_liveShare_11 : decode cX5_liveShare 11 = .ok (.invokevirtual 212, 3) := by decide +kernel
theorem dX5_liveShare_14 : decode cX5_liveShare 14 = .ok (.istore_n 1, 1) := by decide +kernel
theorem dX5_liveShare_15 : decode cX5_liveShare 15 = .ok (.iload_n 1, 1) := by decide +kernel
theorem dX5_liveShare_16 : decode cX5_liveShare 16 = .ok (.ifCond .ne 14, 3) := by decide +kernel
theorem dX5_liveShare_19 : decode cX5_liveShare 19 = .ok (.new 275, 3) := by decide +kernel
theorem dX5_liveShare_22 : decode cX5_liveShare 22 = .ok (.dup, 1) := by decide +kernel
theorem dX5_liveShare_23 : decode cX5_liveShare 23 = .ok (.ldc_w 277, 3) := by decide +kernel
theorem dX5_liveShare_26 : decode cX5_liveShare 26 = .ok (.invokespecial 279, 3) := by decide +kernel
theorem dX5_liveShare_29 : decode cX5_liveShare 29 = .ok (.athrow, 1) := by decide +kernel
theorem dX5_liveShare_30 : decode cX5_liveShare 30 = .ok (.aload_n 0, 1) := by decide +kernel
theorem dX5_liveShare_31 : decode cX5_liveShare 31 = .ok (.getfield 10, 3) := by decide +kernel
theorem dX5_liveShare_34 : decode cX5_liveShare 34 = .ok (.aload_n 0, 1) := by decide +kernel
theorem dX5_liveShare_35 : decode cX5_liveShare 35 = .ok (.invokevirtual 252, 3) := by decide +kernel
theorem dX5_liveShare_38 : decode cX5_liveShare 38 = .ok (.invokevirtual 212, 3) := by decide +kernel
theorem dX5_liveShare_41 : decode cX5_liveShare 41 = .ok (.i2f, 1) := by decide +kernel
theorem dX5_liveShare_42 : decode cX5_liveShare 42 = .ok (.iload_n 1, 1) := by decide +kernel
theorem dX5_liveShare_43 : decode cX5_liveShare 43 = .ok (.i2f, 1) := by decide +kernel
theorem dX5_liveShare_44 : decode cX5_liveShare 44 = .ok (.fdiv, 1) := by decide +kernel
theorem dX5_liveShare_45 : decode cX5_liveShare 45 = .ok (.freturn, 1) := by decide +kernel
set_option maxRecDepth 20000 in
theorem ggX5_meanCurrent_X5_liveNodes : GoodIn wsX5_meanCurrent wsX5_liveNodes := goodIn_ca (goodIn_r _ [10, 3, 4, 11, 12, 13, 14, 15, 16, 17, 18, 9, 19, 20, 21, 22, 23, 24, 25, 26, 27, 28, 29, 30, 31, 32, 33, 34, 35, 36, 37, 38, 39, 40, 41, 74, 75, 76, 77, 78, 79, 80, 81, 82, 83, 84, 85, 86, 87, 88, 89, 90, 91, 92, 93, 94] (by decide +kernel) (by decide +kernel)) (goodIn_sub (fun _ h => List.mem_cons_of_mem _ (List.mem_append_right _ h)) (by decide +kernel))
set_option maxRecDepth 20000 in
theorem gX5_meanCurrent_X5_liveNodes : GoodIn wsX5_meanCurrent (wsV RX5 252 RX5 yX5_liveNodes wsX5_liveNodes) := goodIn_app (goodIn_of _ (by decide +kernel)) ggX5_meanCurrent_X5_liveNodes
set_option maxRecDepth 20000 in
theorem ggX5_meanCurrent_X1_linesAt : GoodIn wsX5_meanCurrent wsX1_linesAt := goodIn_ca (goodIn_r _ [45, 35, 40, 41, 18, 9, 19, 24, 25, 85, 86, 87, 88, 89, 90, 91, 92, 93, 94] (by decide +kernel) (by decide +kernel)) (goodIn_sub (fun _ h => List.mem_cons_of_mem _ (List.mem_append_right _ h)) (by decide +kernel))
set_option maxRecDepth 20000 in
theorem gX5_meanCurrent_X1_linesAt : GoodIn wsX5_meanCurrent (wsV RX5 162 RX1 yX1_linesAt wsX1_linesAt) := goodIn_app (goodIn_of _ (by decide +kernel)) ggX5_meanCurrent_X1_linesAt
set_option maxRecDepth 20000 in
theorem ggX5_meanCurrent_J6_bitCount_0f7a4 : GoodIn wsX5_meanCurrent wsJ6_bitCount_0f7a4 := goodIn_r _ [49, 50, 51, 52] (by decide +kernel) (by decide +kernel)
set_option maxRecDepth 20000 in
theorem gX5_meanCurrent_J6_bitCount_0f7a4 : GoodIn wsX5_meanCurrent (va_wsS RX5 181 yJ6_bitCount_0f7a4 wsJ6_bitCount_0f7a4) := goodIn_app (goodIn_of _ (by decide +kernel)) ggX5_meanCurrent_J6_bitCount_0f7a4
set_option maxRecDepth 20000 in
theorem ggX5_meanCurrent_X0_sumOfCurrents : GoodIn wsX5_meanCurrent wsX0_sumOfCurrents := goodIn_ca (goodIn_r _ [57, 58, 59, 60, 61, 56, 62, 63, 18, 9, 19, 64, 65, 66, 67, 68, 69, 70, 14, 71, 16, 72, 73, 37, 38, 39, 35, 40, 41, 95, 96, 97, 85, 86, 87, 88, 89, 90, 91, 92, 93, 94] (by decide +kernel) (by decide +kernel)) (goodIn_sub (fun _ h => List.mem_cons_of_mem _ (List.mem_append_right _ h)) (by decide +kernel))
set_option maxRecDepth 20000 in
theorem gX5_meanCurrent_X0_sumOfCurrents : GoodIn wsX5_meanCurrent (wsV RX5 282 RX0 yX0_sumOfCurrents wsX0_sumOfCurrents) := goodIn_app (goodIn_of _ (by decide +kernel)) ggX5_meanCurrent_X0_sumOfCurrents
theorem dX5_meanCurrent_0 : decode cX5_meanCurrent 0 = .ok (.aload_n 0, 1) := by decide +kernel
theorem dX5_meanCurrent_1 : decode cX5_meanCurrent 1 = .ok (.getfield 10, 3) := by decide +kernel
theorem dX5_meanCurrent_4 : decode cX5_meanCurrent 4 = .ok (.aload_n 0, 1) := by decide +kernel
theorem dX5_meanCurrent_5 : decode cX5_meanCurrent 5 = .ok (.invokevirtual 252, 3) := by decide +kernel
theorem dX5_meanCurrent_8 : decode cX5_meanCurrent 8 = .ok (.aload_n 0, 1) := by decide +kernel
theorem dX5_meanCurrent_9 : decode cX5_meanCurrent 9 = .ok (.getfield 30, 3) := by decide +kernel
theorem dX5_meanCurrent_12 : decode cX5_meanCurrent 12 = .ok (.getfield 120, 3) := by decide +kernel
theorem dX5_meanCurrent_15 : decode cX5_meanCurrent 15 = .ok (.invokevirtual 162, 3) := by decide +kernel
theorem dX5_meanCurrent_18 : decode cX5_meanCurrent 18 = .ok (.istore_n 1, 1) := by decide +kernel
theorem dX5_meanCurrent_19 : decode cX5_meanCurrent 19 = .ok (.iload_n 1, 1) := by decide +kernel
theorem dX5_meanCurrent_20 : decode cX5_meanCurrent 20 = .ok (.invokestatic 181, 3) := by decide +kernel
theorem dX5_meanCurrent_23 : decode cX5_meanCurrent 23 = .ok (.istore_n 2, 1) := by decide +kernel
theorem dX5_meanCurrent_24 : decode cX5_meanCurrent 24 = .ok (.iload_n 2, 1) := by decide +kernel
theorem dX5_meanCurrent_25 : decode cX5_meanCurrent 25 = .ok (.ifCond .ne 14, 3) := by decide +kernel
theorem dX5_meanCurrent_28 : decode cX5_meanCurrent 28 = .ok (.new 275, 3) := by decide +kernel
theorem dX5_meanCurrent_31 : decode cX5_meanCurrent 31 = .ok (.dup, 1) := by decide +kernel
theorem dX5_meanCurrent_32 : decode cX5_meanCurrent 32 = .ok (.ldc_w 280, 3) := by decide +kernel
theorem dX5_meanCurrent_35 : decode cX5_meanCurrent 35 = .ok (.invokespecial 279, 3) := by decide +kernel
theorem dX5_meanCurrent_38 : decode cX5_meanCurrent 38 = .ok (.athrow, 1) := by decide +kernel
theorem dX5_meanCurrent_39 : decode cX5_meanCurrent 39 = .ok (.aload_n 0, 1) := by decide +kernel
theorem dX5_meanCurrent_40 : decode cX5_meanCurrent 40 = .ok (.getfield 21, 3) := by decide +kernel
theorem dX5_meanCurrent_43 : decode cX5_meanCurrent 43 = .ok (.aload_n 0, 1) := by decide +kernel
theorem dX5_meanCurrent_44 : decode cX5_meanCurrent 44 = .ok (.getfield 30, 3) := by decide +kernel
theorem dX5_meanCurrent_47 : decode cX5_meanCurrent 47 = .ok (.getfield 120, 3) := by decide +kernel
theorem dX5_meanCurrent_50 : decode cX5_meanCurrent 50 = .ok (.invokevirtual 282, 3) := by decide +kernel
theorem dX5_meanCurrent_53 : decode cX5_meanCurrent 53 = .ok (.i2d, 1) := by decide +kernel
theorem dX5_meanCurrent_54 : decode cX5_meanCurrent 54 = .ok (.iload_n 2, 1) := by decide +kernel
theorem dX5_meanCurrent_55 : decode cX5_meanCurrent 55 = .ok (.i2d, 1) := by decide +kernel
theorem dX5_meanCurrent_56 : decode cX5_meanCurrent 56 = .ok (.ddiv, 1) := by decide +kernel
theorem dX5_meanCurrent_57 : decode cX5_meanCurrent 57 = .ok (.dreturn, 1) := by decide +kernel
set_option maxRecDepth 20000 in
theorem ggX5_needNode_X1_isNode : GoodIn wsX5_needNode wsX1_isNode := goodIn_r _ [8, 9, 16, 17, 18, 19, 20, 21, 22, 23, 24, 25] (by decide +kernel) (by decide +kernel)
set_option maxRecDepth 20000 in
theorem gX5_needNode_X1_isNode : GoodIn wsX5_needNode (wsV RX5 285 RX1 yX1_isNode wsX1_isNode) := goodIn_app (goodIn_of _ (by decide +kernel)) ggX5_needNode_X1_isNode
theorem dX5_needNode_0 : decode cX5_needNode 0 = .ok (.aload_n 0, 1) := by decide +kernel
theorem dX5_needNode_1 : decode cX5_needNode 1 = .ok (.getfield 10, 3) := by decide +kernel
theorem dX5_needNode_4 : decode cX5_needNode 4 = .ok (.iload_n 1, 1) := by decide +kernel
theorem dX5_needNode_5 : decode cX5_needNode 5 = .ok (.invokevirtual 285, 3) := by decide +kernel
theorem dX5_needNode_8 : decode cX5_needNode 8 = .ok (.ifCond .ne 14, 3) := by decide +kernel
theorem dX5_needNode_11 : decode cX5_needNode 11 = .ok (.new 289, 3) := by decide +kernel
theorem dX5_needNode_14 : decode cX5_needNode 14 = .ok (.dup, 1) := by decide +kernel
theorem dX5_needNode_15 : decode cX5_needNode 15 = .ok (.ldc_w 291, 3) := by decide +kernel
theorem dX5_needNode_18 : decode cX5_needNode 18 = .ok (.invokespecial 293, 3) := by decide +kernel
theorem dX5_needNode_21 : decode cX5_needNode 21 = .ok (.athrow, 1) := by decide +kernel
theorem dX5_needNode_22 : decode cX5_needNode 22 = .ok (.return_, 1) := by decide +kernel
set_option maxRecDepth 20000 in
theorem ggX5_needLine_X1_isLine : GoodIn wsX5_needLine wsX1_isLine := goodIn_r _ [8, 9, 16, 17, 18, 19, 20, 21, 22, 23, 24, 25] (by decide +kernel) (by decide +kernel)
set_option maxRecDepth 20000 in
theorem gX5_needLine_X1_isLine : GoodIn wsX5_needLine (wsV RX5 294 RX1 yX1_isLine wsX1_isLine) := goodIn_app (goodIn_of _ (by decide +kernel)) ggX5_needLine_X1_isLine
theorem dX5_needLine_0 : decode cX5_needLine 0 = .ok (.aload_n 0, 1) := by decide +kernel
theorem dX5_needLine_1 : decode cX5_needLine 1 = .ok (.getfield 10, 3) := by decide +kernel
theorem dX5_needLine_4 : decode cX5_needLine 4 = .ok (.iload_n 1, 1) := by decide +kernel
theorem dX5_needLine_5 : decode cX5_needLine 5 = .ok (.invokevirtual 294, 3) := by decide +kernel
theorem dX5_needLine_8 : decode cX5_needLine 8 = .ok (.ifCond .ne 14, 3) := by decide +kernel
theorem dX5_needLine_11 : decode cX5_needLine 11 = .ok (.new 289, 3) := by decide +kernel
theorem dX5_needLine_14 : decode cX5_needLine 14 = .ok (.dup, 1) := by decide +kernel
theorem dX5_needLine_15 : decode cX5_needLine 15 = .ok (.ldc_w 297, 3) := by decide +kernel
theorem dX5_needLine_18 : decode cX5_needLine 18 = .ok (.invokespecial 293, 3) := by decide +kernel
theorem dX5_needLine_21 : decode cX5_needLine 21 = .ok (.athrow, 1) := by decide +kernel
theorem dX5_needLine_22 : decode cX5_needLine 22 = .ok (.return_, 1) := by decide +kernel
set_option maxRecDepth 20000 in
theorem ggX5_needBus_X5_has : GoodIn wsX5_needBus wsX5_has := goodIn_r _ [7] (by decide +kernel) (by decide +kernel)
set_option maxRecDepth 20000 in
theorem gX5_needBus_X5_has : GoodIn wsX5_needBus (va_wsS RX5 149 yX5_has wsX5_has) := goodIn_app (goodIn_of _ (by decide +kernel)) ggX5_needBus_X5_has
theorem dX5_needBus_0 : decode cX5_needBus 0 = .ok (.aload_n 0, 1) := by decide +kernel
theorem dX5_needBus_1 : decode cX5_needBus 1 = .ok (.getfield 10, 3) := by decide +kernel
theorem dX5_needBus_4 : decode cX5_needBus 4 = .ok (.getfield 192, 3) := by decide +kernel
theorem dX5_needBus_7 : decode cX5_needBus 7 = .ok (.iload_n 1, 1) := by decide +kernel
theorem dX5_needBus_8 : decode cX5_needBus 8 = .ok (.invokestatic 149, 3) := by decide +kernel
theorem dX5_needBus_11 : decode cX5_needBus 11 = .ok (.ifCond .eq 14, 3) := by decide +kernel
theorem dX5_needBus_14 : decode cX5_needBus 14 = .ok (.new 176, 3) := by decide +kernel
theorem dX5_needBus_17 : decode cX5_needBus 17 = .ok (.dup, 1) := by decide +kernel
theorem dX5_needBus_18 : decode cX5_needBus 18 = .ok (.ldc_w 299, 3) := by decide +kernel
theorem dX5_needBus_21 : decode cX5_needBus 21 = .ok (.invokespecial 178, 3) := by decide +kernel
theorem dX5_needBus_24 : decode cX5_needBus 24 = .ok (.athrow, 1) := by decide +kernel
theorem dX5_needBus_25 : decode cX5_needBus 25 = .ok (.return_, 1) := by decide +kernel
set_option maxRecDepth 20000 in
theorem ggX5_needBreaker_X5_has : GoodIn wsX5_needBreaker wsX5_has := goodIn_r _ [7] (by decide +kernel) (by decide +kernel)
set_option maxRecDepth 20000 in
theorem gX5_needBreaker_X5_has : GoodIn wsX5_needBreaker (va_wsS RX5 149 yX5_has wsX5_has) := goodIn_app (goodIn_of _ (by decide +kernel)) ggX5_needBreaker_X5_has
theorem dX5_needBreaker_0 : decode cX5_needBreaker 0 = .ok (.aload_n 0, 1) := by decide +kernel
theorem dX5_needBreaker_1 : decode cX5_needBreaker 1 = .ok (.getfield 10, 3) := by decide +kernel
theorem dX5_needBreaker_4 : decode cX5_needBreaker 4 = .ok (.getfield 301, 3) := by decide +kernel
theorem dX5_needBreaker_7 : decode cX5_needBreaker 7 = .ok (.iload_n 1, 1) := by decide +kernel
theorem dX5_needBreaker_8 : decode cX5_needBreaker 8 = .ok (.invokestatic 149, 3) := by decide +kernel
theorem dX5_needBreaker_11 : decode cX5_needBreaker 11 = .ok (.ifCond .ne 14, 3) := by decide +kernel
theorem dX5_needBreaker_14 : decode cX5_needBreaker 14 = .ok (.new 176, 3) := by decide +kernel
theorem dX5_needBreaker_17 : decode cX5_needBreaker 17 = .ok (.dup, 1) := by decide +kernel
theorem dX5_needBreaker_18 : decode cX5_needBreaker 18 = .ok (.ldc_w 304, 3) := by decide +kernel
theorem dX5_needBreaker_21 : decode cX5_needBreaker 21 = .ok (.invokespecial 178, 3) := by decide +kernel
theorem dX5_needBreaker_24 : decode cX5_needBreaker 24 = .ok (.athrow, 1) := by decide +kernel
theorem dX5_needBreaker_25 : decode cX5_needBreaker 25 = .ok (.return_, 1) := by decide +kernel
set_option maxRecDepth 20000 in
theorem ggX5_needFewLinesToTry_X4_ofPlans : GoodIn wsX5_needFewLinesToTry wsX4_ofPlans := goodIn_r _ [8, 9, 10, 11, 12, 26, 27, 28, 29, 30, 31, 32, 33, 34, 35, 36, 37, 38, 39, 40] (by decide +kernel) (by decide +kernel)
set_option maxRecDepth 20000 in
theorem gX5_needFewLinesToTry_X4_ofPlans : GoodIn wsX5_needFewLinesToTry (wsV RX5 306 RX4 yX4_ofPlans wsX4_ofPlans) := goodIn_app (goodIn_of _ (by decide +kernel)) ggX5_needFewLinesToTry_X4_ofPlans
set_option maxRecDepth 20000 in
theorem ggX5_needFewLinesToTry_J6_bitCount_0f7a4 : GoodIn wsX5_needFewLinesToTry wsJ6_bitCount_0f7a4 := goodIn_r _ [16, 17, 18, 19] (by decide +kernel) (by decide +kernel)
set_option maxRecDepth 20000 in
theorem gX5_needFewLinesToTry_J6_bitCount_0f7a4 : GoodIn wsX5_needFewLinesToTry (va_wsS RX5 181 yJ6_bitCount_0f7a4 wsJ6_bitCount_0f7a4) := goodIn_app (goodIn_of _ (by decide +kernel)) ggX5_needFewLinesToTry_J6_bitCount_0f7a4
theorem dX5_needFewLinesToTry_0 : decode cX5_needFewLinesToTry 0 = .ok (.aload_n 0, 1) := by decide +kernel
theorem dX5_needFewLinesToTry_1 : decode cX5_needFewLinesToTry 1 = .ok (.getfield 30, 3) := by decide +kernel
theorem dX5_needFewLinesToTry_4 : decode cX5_needFewLinesToTry 4 = .ok (.invokevirtual 306, 3) := by decide +kernel
theorem dX5_needFewLinesToTry_7 : decode cX5_needFewLinesToTry 7 = .ok (.invokestatic 181, 3) := by decide +kernel
theorem dX5_needFewLinesToTry_10 : decode cX5_needFewLinesToTry 10 = .ok (.bipush 9, 2) := by decide +kernel
theorem dX5_needFewLinesToTry_12 : decode cX5_needFewLinesToTry 12 = .ok (.if_icmp .le 14, 3) := by decide +kernel
theorem dX5_needFewLinesToTry_15 : decode cX5_needFewLinesToTry 15 = .ok (.new 176, 3) := by decide +kernel
theorem dX5_needFewLinesToTry_18 : decode cX5_needFewLinesToTry 18 = .ok (.dup, 1) := by decide +kernel
theorem dX5_needFewLinesToTry_19 : decode cX5_needFewLinesToTry 19 = .ok (.ldc_w 309, 3) := by decide +kernel
theorem dX5_needFewLinesToTry_22 : decode cX5_needFewLinesToTry 22 = .ok (.invokespecial 178, 3) := by decide +kernel
theorem dX5_needFewLinesToTry_25 : decode cX5_needFewLinesToTry 25 = .ok (.athrow, 1) := by decide +kernel
theorem dX5_needFewLinesToTry_26 : decode cX5_needFewLinesToTry 26 = .ok (.return_, 1) := by decide +kernel
theorem dX5_needLoad_0 : decode cX5_needLoad 0 = .ok (.iload_n 0, 1) := by decide +kernel
theorem dX5_needLoad_1 : decode cX5_needLoad 1 = .ok (.ifCond .lt 9, 3) := by decide +kernel
theorem dX5_needLoad_4 : decode cX5_needLoad 4 = .ok (.iload_n 0, 1) := by decide +kernel
theorem dX5_needLoad_5 : decode cX5_needLoad 5 = .ok (.bipush 99, 2) := by decide +kernel
theorem dX5_needLoad_7 : decode cX5_needLoad 7 = .ok (.if_icmp .le 14, 3) := by decide +kernel
theorem dX5_needLoad_10 : decode cX5_needLoad 10 = .ok (.new 50, 3) := by decide +kernel
theorem dX5_needLoad_13 : decode cX5_needLoad 13 = .ok (.dup, 1) := by decide +kernel
theorem dX5_needLoad_14 : decode cX5_needLoad 14 = .ok (.ldc_w 311, 3) := by decide +kernel
theorem dX5_needLoad_17 : decode cX5_needLoad 17 = .ok (.invokespecial 54, 3) := by decide +kernel
theorem dX5_needLoad_20 : decode cX5_needLoad 20 = .ok (.athrow, 1) := by decide +kernel
theorem dX5_needLoad_21 : decode cX5_needLoad 21 = .ok (.return_, 1) := by decide +kernel
theorem dX5_added_0 : decode cX5_added 0 = .ok (.iload_n 0, 1) := by decide +kernel
theorem dX5_added_1 : decode cX5_added 1 = .ok (.iconst (-1), 1) := by decide +kernel
theorem dX5_added_2 : decode cX5_added 2 = .ok (.if_icmp .ne 14, 3) := by decide +kernel
theorem dX5_added_5 : decode cX5_added 5 = .ok (.new 100, 3) := by decide +kernel
theorem dX5_added_8 : decode cX5_added 8 = .ok (.dup, 1) := by decide +kernel
theorem dX5_added_9 : decode cX5_added 9 = .ok (.ldc_w 313, 3) := by decide +kernel
theorem dX5_added_12 : decode cX5_added 12 = .ok (.invokespecial 104, 3) := by decide +kernel
theorem dX5_added_15 : decode cX5_added 15 = .ok (.athrow, 1) := by decide +kernel
theorem dX5_added_16 : decode cX5_added 16 = .ok (.iload_n 0, 1) := by decide +kernel
theorem dX5_added_17 : decode cX5_added 17 = .ok (.ireturn, 1) := by decide +kernel
set_option maxRecDepth 20000 in
theorem ggX5_lengthOfPathTo_X0_layPath : GoodIn wsX5_lengthOfPathTo wsX0_layPath := goodIn_ca (goodIn_r _ [9, 10, 11, 12, 13, 14, 15, 16, 8, 17, 18, 19, 20, 21, 22, 23, 24, 25, 26, 38, 39, 40, 41, 42, 43, 44, 45, 46, 47, 48, 49, 50] (by decide +kernel) (by decide +kernel)) (goodIn_sub (fun _ h => List.mem_cons_of_mem _ (List.mem_append_right _ h)) (by decide +kernel))
set_option maxRecDepth 20000 in
theorem gX5_lengthOfPathTo_X0_layPath : GoodIn wsX5_lengthOfPathTo (wsV RX5 315 RX0 yX0_layPath wsX0_layPath) := goodIn_app (goodIn_of _ (by decide +kernel)) ggX5_lengthOfPathTo_X0_layPath
theorem dX5_lengthOfPathTo_0 : decode cX5_lengthOfPathTo 0 = .ok (.aload_n 0, 1) := by decide +kernel
theorem dX5_lengthOfPathTo_1 : decode cX5_lengthOfPathTo 1 = .ok (.getfield 21, 3) := by decide +kernel
theorem dX5_lengthOfPathTo_4 : decode cX5_lengthOfPathTo 4 = .ok (.iload_n 1, 1) := by decide +kernel
theorem dX5_lengthOfPathTo_5 : decode cX5_lengthOfPathTo 5 = .ok (.aload_n 0, 1) := by decide +kernel
theorem dX5_lengthOfPathTo_6 : decode cX5_lengthOfPathTo 6 = .ok (.getfield 30, 3) := by decide +kernel
theorem dX5_lengthOfPathTo_9 : decode cX5_lengthOfPathTo 9 = .ok (.getfield 120, 3) := by decide +kernel
theorem dX5_lengthOfPathTo_12 : decode cX5_lengthOfPathTo 12 = .ok (.invokevirtual 315, 3) := by decide +kernel
theorem dX5_lengthOfPathTo_15 : decode cX5_lengthOfPathTo 15 = .ok (.istore_n 2, 1) := by decide +kernel
theorem dX5_lengthOfPathTo_16 : decode cX5_lengthOfPathTo 16 = .ok (.iload_n 2, 1) := by decide +kernel
theorem dX5_lengthOfPathTo_17 : decode cX5_lengthOfPathTo 17 = .ok (.ifCond .ne 14, 3) := by decide +kernel
theorem dX5_lengthOfPathTo_20 : decode cX5_lengthOfPathTo 20 = .ok (.new 100, 3) := by decide +kernel
theorem dX5_lengthOfPathTo_23 : decode cX5_lengthOfPathTo 23 = .ok (.dup, 1) := by decide +kernel
theorem dX5_lengthOfPathTo_24 : decode cX5_lengthOfPathTo 24 = .ok (.ldc_w 318, 3) := by decide +kernel
theorem dX5_lengthOfPathTo_27 : decode cX5_lengthOfPathTo 27 = .ok (.invokespecial 104, 3) := by decide +kernel
theorem dX5_lengthOfPathTo_30 : decode cX5_lengthOfPathTo 30 = .ok (.athrow, 1) := by decide +kernel
theorem dX5_lengthOfPathTo_31 : decode cX5_lengthOfPathTo 31 = .ok (.iload_n 2, 1) := by decide +kernel
theorem dX5_lengthOfPathTo_32 : decode cX5_lengthOfPathTo 32 = .ok (.ireturn, 1) := by decide +kernel
set_option maxRecDepth 20000 in
theorem ggX5_islandAt_X1_islandAround : GoodIn wsX5_islandAt wsX1_islandAround := goodIn_ca (goodIn_r _ [7, 8, 9, 10, 11, 12, 13, 14, 15, 16, 17, 18, 6, 19, 20, 21, 22, 23, 24, 25, 26, 27, 28, 40, 41, 42, 43, 44, 45, 46, 47, 48, 49] (by decide +kernel) (by decide +kernel)) (goodIn_sub (fun _ h => List.mem_cons_of_mem _ (List.mem_append_right _ h)) (by decide +kernel))
set_option maxRecDepth 20000 in
theorem gX5_islandAt_X1_islandAround : GoodIn wsX5_islandAt (wsV RX5 320 RX1 yX1_islandAround wsX1_islandAround) := goodIn_app (goodIn_of _ (by decide +kernel)) ggX5_islandAt_X1_islandAround
theorem dX5_islandAt_0 : decode cX5_islandAt 0 = .ok (.aload_n 0, 1) := by decide +kernel
theorem dX5_islandAt_1 : decode cX5_islandAt 1 = .ok (.getfield 10, 3) := by decide +kernel
theorem dX5_islandAt_4 : decode cX5_islandAt 4 = .ok (.iload_n 1, 1) := by decide +kernel
theorem dX5_islandAt_5 : decode cX5_islandAt 5 = .ok (.aload_n 0, 1) := by decide +kernel
theorem dX5_islandAt_6 : decode cX5_islandAt 6 = .ok (.getfield 30, 3) := by decide +kernel
theorem dX5_islandAt_9 : decode cX5_islandAt 9 = .ok (.getfield 120, 3) := by decide +kernel
theorem dX5_islandAt_12 : decode cX5_islandAt 12 = .ok (.invokevirtual 320, 3) := by decide +kernel
theorem dX5_islandAt_15 : decode cX5_islandAt 15 = .ok (.ireturn, 1) := by decide +kernel
set_option maxRecDepth 20000 in
theorem ggX5_liveNodes_X1_liveWith : GoodIn wsX5_liveNodes wsX1_liveWith := goodIn_ca (goodIn_r _ [7, 8, 9, 10, 11, 12, 13, 14, 15, 6, 16, 17, 18, 19, 20, 21, 22, 23, 24, 25, 26, 27, 28, 29, 30, 31, 32, 33, 34, 46, 47, 48, 49, 50, 51, 52, 53, 54, 55] (by decide +kernel) (by decide +kernel)) (goodIn_sub (fun _ h => List.mem_cons_of_mem _ (List.mem_append_right _ h)) (by decide +kernel))
set_option maxRecDepth 20000 in
theorem gX5_liveNodes_X1_liveWith : GoodIn wsX5_liveNodes (wsV RX5 323 RX1 yX1_liveWith wsX1_liveWith) := goodIn_app (goodIn_of _ (by decide +kernel)) ggX5_liveNodes_X1_liveWith
theorem dX5_liveNodes_0 : decode cX5_liveNodes 0 = .ok (.aload_n 0, 1) := by decide +kernel
theorem dX5_liveNodes_1 : decode cX5_liveNodes 1 = .ok (.getfield 10, 3) := by decide +kernel
theorem dX5_liveNodes_4 : decode cX5_liveNodes 4 = .ok (.aload_n 0, 1) := by decide +kernel
theorem dX5_liveNodes_5 : decode cX5_liveNodes 5 = .ok (.getfield 30, 3) := by decide +kernel
theorem dX5_liveNodes_8 : decode cX5_liveNodes 8 = .ok (.getfield 120, 3) := by decide +kernel
theorem dX5_liveNodes_11 : decode cX5_liveNodes 11 = .ok (.invokevirtual 323, 3) := by decide +kernel
theorem dX5_liveNodes_14 : decode cX5_liveNodes 14 = .ok (.ireturn, 1) := by decide +kernel
theorem dX5_bit_0 : decode cX5_bit 0 = .ok (.iconst 1, 1) := by decide +kernel
theorem dX5_bit_1 : decode cX5_bit 1 = .ok (.iload_n 0, 1) := by decide +kernel
theorem dX5_bit_2 : decode cX5_bit 2 = .ok (.ishl, 1) := by decide +kernel
theorem dX5_bit_3 : decode cX5_bit 3 = .ok (.ireturn, 1) := by decide +kernel
theorem dX5_has_0 : decode cX5_has 0 = .ok (.iload_n 0, 1) := by decide +kernel
theorem dX5_has_1 : decode cX5_has 1 = .ok (.iload_n 1, 1) := by decide +kernel
theorem dX5_has_2 : decode cX5_has 2 = .ok (.ishr, 1) := by decide +kernel
theorem dX5_has_3 : decode cX5_has 3 = .ok (.iconst 1, 1) := by decide +kernel
theorem dX5_has_4 : decode cX5_has 4 = .ok (.iand, 1) := by decide +kernel
theorem dX5_has_5 : decode cX5_has 5 = .ok (.ifCond .eq 7, 3) := by decide +kernel
theorem dX5_has_8 : decode cX5_has 8 = .ok (.iconst 1, 1) := by decide +kernel
theorem dX5_has_9 : decode cX5_has 9 = .ok (.goto 4, 3) := by decide +kernel
theorem dX5_has_12 : decode cX5_has 12 = .ok (.iconst 0, 1) := by decide +kernel
theorem dX5_has_13 : decode cX5_has 13 = .ok (.ireturn, 1) := by decide +kernel
set_option maxRecDepth 20000 in
theorem ggX5_lowestIn_X5_memberAt : GoodIn wsX5_lowestIn wsX5_memberAt := goodIn_r _ [4] (by decide +kernel) (by decide +kernel)
set_option maxRecDepth 20000 in
theorem gX5_lowestIn_X5_memberAt : GoodIn wsX5_lowestIn (va_wsS RX5 266 yX5_memberAt wsX5_memberAt) := goodIn_app (goodIn_of _ (by decide +kernel)) ggX5_lowestIn_X5_memberAt
theorem dX5_lowestIn_0 : decode cX5_lowestIn 0 = .ok (.iload_n 0, 1) := by decide +kernel
theorem dX5_lowestIn_1 : decode cX5_lowestIn 1 = .ok (.iconst 0, 1) := by decide +kernel
theorem dX5_lowestIn_2 : decode cX5_lowestIn 2 = .ok (.invokestatic 266, 3) := by decide +kernel
theorem dX5_lowestIn_5 : decode cX5_lowestIn 5 = .ok (.ireturn, 1) := by decide +kernel
theorem dX5_memberAt_0 : decode cX5_memberAt 0 = .ok (.iconst 0, 1) := by decide +kernel
theorem dX5_memberAt_1 : decode cX5_memberAt 1 = .ok (.istore_n 2, 1) := by decide +kernel
theorem dX5_memberAt_2 : decode cX5_memberAt 2 = .ok (.iconst 0, 1) := by decide +kernel
theorem dX5_memberAt_3 : decode cX5_memberAt 3 = .ok (.istore_n 3, 1) := by decide +kernel
theorem dX5_memberAt_4 : decode cX5_memberAt 4 = .ok (.iload_n 3, 1) := by decide +kernel
theorem dX5_memberAt_5 : decode cX5_memberAt 5 = .ok (.bipush 12, 2) := by decide +kernel
theorem dX5_memberAt_7 : decode cX5_memberAt 7 = .ok (.if_icmp .ge 27, 3) := by decide +kernel
theorem dX5_memberAt_10 : decode cX5_memberAt 10 = .ok (.iload_n 0, 1) := by decide +kernel
theorem dX5_memberAt_11 : decode cX5_memberAt 11 = .ok (.iload_n 3, 1) := by decide +kernel
theorem dX5_memberAt_12 : decode cX5_memberAt 12 = .ok (.ishr, 1) := by decide +kernel
theorem dX5_memberAt_13 : decode cX5_memberAt 13 = .ok (.iconst 1, 1) := by decide +kernel
theorem dX5_memberAt_14 : decode cX5_memberAt 14 = .ok (.iand, 1) := by decide +kernel
theorem dX5_memberAt_15 : decode cX5_memberAt 15 = .ok (.ifCond .eq 13, 3) := by decide +kernel
theorem dX5_memberAt_18 : decode cX5_memberAt 18 = .ok (.iload_n 2, 1) := by decide +kernel
theorem dX5_memberAt_19 : decode cX5_memberAt 19 = .ok (.iload_n 1, 1) := by decide +kernel
theorem dX5_memberAt_20 : decode cX5_memberAt 20 = .ok (.if_icmp .ne 5, 3) := by decide +kernel
theorem dX5_memberAt_23 : decode cX5_memberAt 23 = .ok (.iload_n 3, 1) := by decide +kernel
theorem dX5_memberAt_24 : decode cX5_memberAt 24 = .ok (.ireturn, 1) := by decide +kernel
theorem dX5_memberAt_25 : decode cX5_memberAt 25 = .ok (.iinc 2 1, 3) := by decide +kernel
theorem dX5_memberAt_28 : decode cX5_memberAt 28 = .ok (.iinc 3 1, 3) := by decide +kernel
theorem dX5_memberAt_31 : decode cX5_memberAt 31 = .ok (.goto (-27), 3) := by decide +kernel
theorem dX5_memberAt_34 : decode cX5_memberAt 34 = .ok (.iconst (-1), 1) := by decide +kernel
theorem dX5_memberAt_35 : decode cX5_memberAt 35 = .ok (.ireturn, 1) := by decide +kernel
theorem dX6_init_0 : decode cX6_init 0 = .ok (.aload_n 0, 1) := by decide +kernel
theorem dX6_init_1 : decode cX6_init 1 = .ok (.invokespecial 1, 3) := by decide +kernel
theorem dX6_init_4 : decode cX6_init 4 = .ok (.aload_n 0, 1) := by decide +kernel
theorem dX6_init_5 : decode cX6_init 5 = .ok (.bipush 10, 2) := by decide +kernel
theorem dX6_init_7 : decode cX6_init 7 = .ok (.newarray .boolean, 2) := by decide +kernel
theorem dX6_init_9 : decode cX6_init 9 = .ok (.putfield 7, 3) := by decide +kernel
theorem dX6_init_12 : decode cX6_init 12 = .ok (.aload_n 0, 1) := by decide +kernel
theorem dX6_init_13 : decode cX6_init 13 = .ok (.bipush 10, 2) := by decide +kernel
theorem dX6_init_15 : decode cX6_init 15 = .ok (.newarray .int, 2) := by decide +kernel
theorem dX6_init_17 : decode cX6_init 17 = .ok (.putfield 13, 3) := by decide +kernel
theorem dX6_init_20 : decode cX6_init 20 = .ok (.aload_n 0, 1) := by decide +kernel
theorem dX6_init_21 : decode cX6_init 21 = .ok (.bipush 10, 2) := by decide +kernel
theorem dX6_init_23 : decode cX6_init 23 = .ok (.newarray .int, 2) := by decide +kernel
theorem dX6_init_25 : decode cX6_init 25 = .ok (.putfield 17, 3) := by decide +kernel
theorem dX6_init_28 : decode cX6_init 28 = .ok (.aload_n 0, 1) := by decide +kernel
theorem dX6_init_29 : decode cX6_init 29 = .ok (.bipush 10, 2) := by decide +kernel
theorem dX6_init_31 : decode cX6_init 31 = .ok (.newarray .int, 2) := by decide +kernel
theorem dX6_init_33 : decode cX6_init 33 = .ok (.putfield 20, 3) := by decide +kernel
theorem dX6_init_36 : decode cX6_init 36 = .ok (.aload_n 0, 1) := by decide +kernel
theorem dX6_init_37 : decode cX6_init 37 = .ok (.bipush 12, 2) := by decide +kernel
theorem dX6_init_39 : decode cX6_init 39 = .ok (.newarray .int, 2) := by decide +kernel
theorem dX6_init_41 : decode cX6_init 41 = .ok (.putfield 23, 3) := by decide +kernel
theorem dX6_init_44 : decode cX6_init 44 = .ok (.aload_n 0, 1) := by decide +kernel
theorem dX6_init_45 : decode cX6_init 45 = .ok (.bipush 12, 2) := by decide +kernel
theorem dX6_init_47 : decode cX6_init 47 = .ok (.newarray .int, 2) := by decide +kernel
theorem dX6_init_49 : decode cX6_init 49 = .ok (.putfield 26, 3) := by decide +kernel
theorem dX6_init_52 : decode cX6_init 52 = .ok (.aload_n 0, 1) := by decide +kernel
theorem dX6_init_53 : decode cX6_init 53 = .ok (.bipush 12, 2) := by decide +kernel
theorem dX6_init_55 : decode cX6_init 55 = .ok (.newarray .int, 2) := by decide +kernel
theorem dX6_init_57 : decode cX6_init 57 = .ok (.putfield 29, 3) := by decide +kernel
theorem dX6_init_60 : decode cX6_init 60 = .ok (.aload_n 0, 1) := by decide +kernel
theorem dX6_init_61 : decode cX6_init 61 = .ok (.bipush 12, 2) := by decide +kernel
theorem dX6_init_63 : decode cX6_init 63 = .ok (.newarray .int, 2) := by decide +kernel
theorem dX6_init_65 : decode cX6_init 65 = .ok (.putfield 32, 3) := by decide +kernel
theorem dX6_init_68 : decode cX6_init 68 = .ok (.aload_n 0, 1) := by decide +kernel
theorem dX6_init_69 : decode cX6_init 69 = .ok (.bipush 12, 2) := by decide +kernel
theorem dX6_init_71 : decode cX6_init 71 = .ok (.newarray .int, 2) := by decide +kernel
theorem dX6_init_73 : decode cX6_init 73 = .ok (.putfield 35, 3) := by decide +kernel
theorem dX6_init_76 : decode cX6_init 76 = .ok (.aload_n 0, 1) := by decide +kernel
theorem dX6_init_77 : decode cX6_init 77 = .ok (.bipush 12, 2) := by decide +kernel
theorem dX6_init_79 : decode cX6_init 79 = .ok (.newarray .int, 2) := by decide +kernel
theorem dX6_init_81 : decode cX6_init 81 = .ok (.putfield 38, 3) := by decide +kernel
theorem dX6_init_84 : decode cX6_init 84 = .ok (.aload_n 0, 1) := by decide +kernel
theorem dX6_init_85 : decode cX6_init 85 = .ok (.bipush 12, 2) := by decide +kernel
theorem dX6_init_87 : decode cX6_init 87 = .ok (.newarray .boolean, 2) := by decide +kernel
theorem dX6_init_89 : decode cX6_init 89 = .ok (.putfield 41, 3) := by decide +kernel
theorem dX6_init_92 : decode cX6_init 92 = .ok (.aload_n 0, 1) := by decide +kernel
theorem dX6_init_93 : decode cX6_init 93 = .ok (.bipush 12, 2) := by decide +kernel
theorem dX6_init_95 : decode cX6_init 95 = .ok (.newarray .boolean, 2) := by decide +kernel
theorem dX6_init_97 : decode cX6_init 97 = .ok (.putfield 44, 3) := by decide +kernel
theorem dX6_init_100 : decode cX6_init 100 = .ok (.aload_n 0, 1) := by decide +kernel
theorem dX6_init_101 : decode cX6_init 101 = .ok (.bipush 12, 2) := by decide +kernel
theorem dX6_init_103 : decode cX6_init 103 = .ok (.newarray .boolean, 2) := by decide +kernel
theorem dX6_init_105 : decode cX6_init 105 = .ok (.putfield 47, 3) := by decide +kernel
theorem dX6_init_108 : decode cX6_init 108 = .ok (.aload_n 0, 1) := by decide +kernel
theorem dX6_init_109 : decode cX6_init 109 = .ok (.bipush 12, 2) := by decide +kernel
theorem dX6_init_111 : decode cX6_init 111 = .ok (.newarray .boolean, 2) := by decide +kernel
theorem dX6_init_113 : decode cX6_init 113 = .ok (.putfield 50, 3) := by decide +kernel
theorem dX6_init_116 : decode cX6_init 116 = .ok (.aload_n 0, 1) := by decide +kernel
theorem dX6_init_117 : decode cX6_init 117 = .ok (.bipush 10, 2) := by decide +kernel
theorem dX6_init_119 : decode cX6_init 119 = .ok (.newarray .int, 2) := by decide +kernel
theorem dX6_init_121 : decode cX6_init 121 = .ok (.putfield 53, 3) := by decide +kernel
theorem dX6_init_124 : decode cX6_init 124 = .ok (.aload_n 0, 1) := by decide +kernel
theorem dX6_init_125 : decode cX6_init 125 = .ok (.bipush 12, 2) := by decide +kernel
theorem dX6_init_127 : decode cX6_init 127 = .ok (.newarray .int, 2) := by decide +kernel
theorem dX6_init_129 : decode cX6_init 129 = .ok (.putfield 56, 3) := by decide +kernel
theorem dX6_init_132 : decode cX6_init 132 = .ok (.aload_n 0, 1) := by decide +kernel
theorem dX6_init_133 : decode cX6_init 133 = .ok (.bipush 10, 2) := by decide +kernel
theorem dX6_init_135 : decode cX6_init 135 = .ok (.newarray .int, 2) := by decide +kernel
theorem dX6_init_137 : decode cX6_init 137 = .ok (.putfield 59, 3) := by decide +kernel
theorem dX6_init_140 : decode cX6_init 140 = .ok (.aload_n 0, 1) := by decide +kernel
theorem dX6_init_141 : decode cX6_init 141 = .ok (.bipush 12, 2) := by decide +kernel
theorem dX6_init_143 : decode cX6_init 143 = .ok (.newarray .int, 2) := by decide +kernel
theorem dX6_init_145 : decode cX6_init 145 = .ok (.putfield 62, 3) := by decide +kernel
theorem dX6_init_148 : decode cX6_init 148 = .ok (.aload_n 0, 1) := by decide +kernel
theorem dX6_init_149 : decode cX6_init 149 = .ok (.bipush 12, 2) := by decide +kernel
theorem dX6_init_151 : decode cX6_init 151 = .ok (.newarray .int, 2) := by decide +kernel
theorem dX6_init_153 : decode cX6_init 153 = .ok (.putfield 65, 3) := by decide +kernel
theorem dX6_init_156 : decode cX6_init 156 = .ok (.return_, 1) := by decide +kernel
theorem dX6_thrown_0 : decode cX6_thrown 0 = .ok (.aload_n 0, 1) := by decide +kernel
theorem dX6_thrown_1 : decode cX6_thrown 1 = .ok (.getfield 68, 3) := by decide +kernel
theorem dX6_thrown_4 : decode cX6_thrown 4 = .ok (.ireturn, 1) := by decide +kernel
theorem dX6_fails_0 : decode cX6_fails 0 = .ok (.aload_n 0, 1) := by decide +kernel
theorem dX6_fails_1 : decode cX6_fails 1 = .ok (.iload_n 1, 1) := by decide +kernel
theorem dX6_fails_2 : decode cX6_fails 2 = .ok (.putfield 68, 3) := by decide +kernel
theorem dX6_fails_5 : decode cX6_fails 5 = .ok (.iconst 0, 1) := by decide +kernel
theorem dX6_fails_6 : decode cX6_fails 6 = .ok (.ireturn, 1) := by decide +kernel
theorem dX6_in_0 : decode cX6_in 0 = .ok (.iload_n 0, 1) := by decide +kernel
theorem dX6_in_1 : decode cX6_in 1 = .ok (.iload_n 1, 1) := by decide +kernel
theorem dX6_in_2 : decode cX6_in 2 = .ok (.if_icmp .lt 12, 3) := by decide +kernel
theorem dX6_in_5 : decode cX6_in 5 = .ok (.iload_n 0, 1) := by decide +kernel
theorem dX6_in_6 : decode cX6_in 6 = .ok (.iload_n 2, 1) := by decide +kernel
theorem dX6_in_7 : decode cX6_in 7 = .ok (.if_icmp .gt 7, 3) := by decide +kernel
theorem dX6_in_10 : decode cX6_in 10 = .ok (.iconst 1, 1) := by decide +kernel
theorem dX6_in_11 : decode cX6_in 11 = .ok (.goto 4, 3) := by decide +kernel
theorem dX6_in_14 : decode cX6_in 14 = .ok (.iconst 0, 1) := by decide +kernel
theorem dX6_in_15 : decode cX6_in 15 = .ok (.ireturn, 1) := by decide +kernel
set_option maxRecDepth 20000 in
theorem ggX6_isNode_X6_in : GoodIn wsX6_isNode wsX6_in := goodIn_r _ [5] (by decide +kernel) (by decide +kernel)
set_option maxRecDepth 20000 in
theorem gX6_isNode_X6_in : GoodIn wsX6_isNode (va_wsS RX6 75 yX6_in wsX6_in) := goodIn_app (goodIn_of _ (by decide +kernel)) ggX6_isNode_X6_in
theorem dX6_isNode_0 : decode cX6_isNode 0 = .ok (.iload_n 1, 1) := by decide +kernel
theorem dX6_isNode_1 : decode cX6_isNode 1 = .ok (.iconst 0, 1) := by decide +kernel
theorem dX6_isNode_2 : decode cX6_isNode 2 = .ok (.aload_n 0, 1) := by decide +kernel
theorem dX6_isNode_3 : decode cX6_isNode 3 = .ok (.getfield 72, 3) := by decide +kernel
theorem dX6_isNode_6 : decode cX6_isNode 6 = .ok (.iconst 1, 1) := by decide +kernel
theorem dX6_isNode_7 : decode cX6_isNode 7 = .ok (.isub, 1) := by decide +kernel
theorem dX6_isNode_8 : decode cX6_isNode 8 = .ok (.invokestatic 75, 3) := by decide +kernel
theorem dX6_isNode_11 : decode cX6_isNode 11 = .ok (.ireturn, 1) := by decide +kernel
set_option maxRecDepth 20000 in
theorem ggX6_isLine_X6_in : GoodIn wsX6_isLine wsX6_in := goodIn_r _ [5] (by decide +kernel) (by decide +kernel)
set_option maxRecDepth 20000 in
theorem gX6_isLine_X6_in : GoodIn wsX6_isLine (va_wsS RX6 75 yX6_in wsX6_in) := goodIn_app (goodIn_of _ (by decide +kernel)) ggX6_isLine_X6_in
theorem dX6_isLine_0 : decode cX6_isLine 0 = .ok (.iload_n 1, 1) := by decide +kernel
theorem dX6_isLine_1 : decode cX6_isLine 1 = .ok (.iconst 0, 1) := by decide +kernel
theorem dX6_isLine_2 : decode cX6_isLine 2 = .ok (.aload_n 0, 1) := by decide +kernel
theorem dX6_isLine_3 : decode cX6_isLine 3 = .ok (.getfield 79, 3) := by decide +kernel
theorem dX6_isLine_6 : decode cX6_isLine 6 = .ok (.iconst 1, 1) := by decide +kernel
theorem dX6_isLine_7 : decode cX6_isLine 7 = .ok (.isub, 1) := by decide +kernel
theorem dX6_isLine_8 : decode cX6_isLine 8 = .ok (.invokestatic 75, 3) := by decide +kernel
theorem dX6_isLine_11 : decode cX6_isLine 11 = .ok (.ireturn, 1) := by decide +kernel
theorem dX6_isThere_0 : decode cX6_isThere 0 = .ok (.aload_n 0, 1) := by decide +kernel
theorem dX6_isThere_1 : decode cX6_isThere 1 = .ok (.iload_n 1, 1) := by decide +kernel
theorem dX6_isThere_2 : decode cX6_isThere 2 = .ok (.ifCond .eq 7, 3) := by decide +kernel
theorem dX6_isThere_5 : decode cX6_isThere 5 = .ok (.iconst 0, 1) := by decide +kernel
theorem dX6_isThere_6 : decode cX6_isThere 6 = .ok (.goto 4, 3) := by decide +kernel
theorem dX6_isThere_9 : decode cX6_isThere 9 = .ok (.iconst 1, 1) := by decide +kernel
theorem dX6_isThere_10 : decode cX6_isThere 10 = .ok (.putfield 68, 3) := by decide +kernel
theorem dX6_isThere_13 : decode cX6_isThere 13 = .ok (.iload_n 1, 1) := by decide +kernel
theorem dX6_isThere_14 : decode cX6_isThere 14 = .ok (.ireturn, 1) := by decide +kernel
set_option maxRecDepth 20000 in
theorem ggX6_addSource_X6_in : GoodIn wsX6_addSource wsX6_in := goodIn_r _ [8] (by decide +kernel) (by decide +kernel)
set_option maxRecDepth 20000 in
theorem gX6_addSource_X6_in : GoodIn wsX6_addSource (va_wsS RX6 75 yX6_in wsX6_in) := goodIn_app (goodIn_of _ (by decide +kernel)) ggX6_addSource_X6_in
set_option maxRecDepth 20000 in
theorem ggX6_addSource_X6_fails : GoodIn wsX6_addSource wsX6_fails := goodIn_r _ [12, 2, 13, 14, 15, 16, 17, 18, 19, 20, 21, 22, 23, 24, 25, 26, 27, 28, 29, 30, 31, 32, 33, 34, 35, 36, 37, 38, 39] (by decide +kernel) (by decide +kernel)
set_option maxRecDepth 20000 in
theorem gX6_addSource_X6_fails : GoodIn wsX6_addSource (wsV RX6 82 RX6 yX6_fails wsX6_fails) := goodIn_app (goodIn_of _ (by decide +kernel)) ggX6_addSource_X6_fails
theorem dX6_addSource_0 : decode cX6_addSource 0 = .ok (.iload_n 1, 1) := by decide +kernel
theorem dX6_addSource_1 : decode cX6_addSource 1 = .ok (.iconst 1, 1) := by decide +kernel
theorem dX6_addSource_2 : decode cX6_addSource 2 = .ok (.sipush 999, 3) := by decide +kernel
theorem dX6_addSource_5 : decode cX6_addSource 5 = .ok (.invokestatic 75, 3) := by decide +kernel
theorem dX6_addSource_8 : decode cX6_addSource 8 = .ok (.ifCond .ne 9, 3) := by decide +kernel
theorem dX6_addSource_11 : decode cX6_addSource 11 = .ok (.aload_n 0, 1) := by decide +kernel
theorem dX6_addSource_12 : decode cX6_addSource 12 = .ok (.iconst 1, 1) := by decide +kernel
theorem dX6_addSource_13 : decode cX6_addSource 13 = .ok (.invokevirtual 82, 3) := by decide +kernel
theorem dX6_addSource_16 : decode cX6_addSource 16 = .ok (.ireturn, 1) := by decide +kernel
theorem dX6_addSource_17 : decode cX6_addSource 17 = .ok (.aload_n 0, 1) := by decide +kernel
theorem dX6_addSource_18 : decode cX6_addSource 18 = .ok (.getfield 72, 3) := by decide +kernel
theorem dX6_addSource_21 : decode cX6_addSource 21 = .ok (.bipush 10, 2) := by decide +kernel
theorem dX6_addSource_23 : decode cX6_addSource 23 = .ok (.if_icmp .ne 9, 3) := by decide +kernel
theorem dX6_addSource_26 : decode cX6_addSource 26 = .ok (.aload_n 0, 1) := by decide +kernel
theorem dX6_addSource_27 : decode cX6_addSource 27 = .ok (.iconst 2, 1) := by decide +kernel
theorem dX6_addSource_28 : decode cX6_addSource 28 = .ok (.invokevirtual 82, 3) := by decide +kernel
theorem dX6_addSource_31 : decode cX6_addSource 31 = .ok (.ireturn, 1) := by decide +kernel
theorem dX6_addSource_32 : decode cX6_addSource 32 = .ok (.aload_n 0, 1) := by decide +kernel
theorem dX6_addSource_33 : decode cX6_addSource 33 = .ok (.iconst 0, 1) := by decide +kernel
theorem dX6_addSource_34 : decode cX6_addSource 34 = .ok (.putfield 68, 3) := by decide +kernel
theorem dX6_addSource_37 : decode cX6_addSource 37 = .ok (.aload_n 0, 1) := by decide +kernel
theorem dX6_addSource_38 : decode cX6_addSource 38 = .ok (.getfield 7, 3) := by decide +kernel
theorem dX6_addSource_41 : decode cX6_addSource 41 = .ok (.aload_n 0, 1) := by decide +kernel
theorem dX6_addSource_42 : decode cX6_addSource 42 = .ok (.getfield 72, 3) := by decide +kernel
theorem dX6_addSource_45 : decode cX6_addSource 45 = .ok (.iconst 1, 1) := by decide +kernel
theorem dX6_addSource_46 : decode cX6_addSource 46 = .ok (.bastore, 1) := by decide +kernel
theorem dX6_addSource_47 : decode cX6_addSource 47 = .ok (.aload_n 0, 1) := by decide +kernel
theorem dX6_addSource_48 : decode cX6_addSource 48 = .ok (.getfield 13, 3) := by decide +kernel
theorem dX6_addSource_51 : decode cX6_addSource 51 = .ok (.aload_n 0, 1) := by decide +kernel
theorem dX6_addSource_52 : decode cX6_addSource 52 = .ok (.getfield 72, 3) := by decide +kernel
theorem dX6_addSource_55 : decode cX6_addSource 55 = .ok (.iload_n 1, 1) := by decide +kernel
theorem dX6_addSource_56 : decode cX6_addSource 56 = .ok (.iastore, 1) := by decide +kernel
theorem dX6_addSource_57 : decode cX6_addSource 57 = .ok (.aload_n 0, 1) := by decide +kernel
theorem dX6_addSource_58 : decode cX6_addSource 58 = .ok (.dup, 1) := by decide +kernel
theorem dX6_addSource_59 : decode cX6_addSource 59 = .ok (.getfield 72, 3) := by decide +kernel
theorem dX6_addSource_62 : decode cX6_addSource 62 = .ok (.iconst 1, 1) := by decide +kernel
theorem dX6_addSource_63 : decode cX6_addSource 63 = .ok (.iadd, 1) := by decide +kernel
theorem dX6_addSource_64 : decode cX6_addSource 64 = .ok (.putfield 72, 3) := by decide +kernel
theorem dX6_addSource_67 : decode cX6_addSource 67 = .ok (.aload_n 0, 1) := by decide +kernel
theorem dX6_addSource_68 : decode cX6_addSource 68 = .ok (.getfield 72, 3) := by decide +kernel
theorem dX6_addSource_71 : decode cX6_addSource 71 = .ok (.iconst 1, 1) := by decide +kernel
theorem dX6_addSource_72 : decode cX6_addSource 72 = .ok (.isub, 1) := by decide +kernel
theorem dX6_addSource_73 : decode cX6_addSource 73 = .ok (.ireturn, 1) := by decide +kernel
set_option maxRecDepth 20000 in
theorem ggX6_addBus_X6_in : GoodIn wsX6_addBus wsX6_in := goodIn_r _ [8] (by decide +kernel) (by decide +kernel)
set_option maxRecDepth 20000 in
theorem gX6_addBus_X6_in : GoodIn wsX6_addBus (va_wsS RX6 75 yX6_in wsX6_in) := goodIn_app (goodIn_of _ (by decide +kernel)) ggX6_addBus_X6_in
set_option maxRecDepth 20000 in
theorem ggX6_addBus_X6_fails : GoodIn wsX6_addBus wsX6_fails := goodIn_r _ [12, 2, 13, 14, 15, 16, 17, 18, 19, 20, 21, 22, 23, 24, 25, 26, 27, 28, 29, 30, 31, 32, 33, 34, 35, 36, 37, 38, 39] (by decide +kernel) (by decide +kernel)
set_option maxRecDepth 20000 in
theorem gX6_addBus_X6_fails : GoodIn wsX6_addBus (wsV RX6 82 RX6 yX6_fails wsX6_fails) := goodIn_app (goodIn_of _ (by decide +kernel)) ggX6_addBus_X6_fails
theorem dX6_addBus_0 : decode cX6_addBus 0 = .ok (.iload_n 1, 1) := by decide +kernel
theorem dX6_addBus_1 : decode cX6_addBus 1 = .ok (.iconst 0, 1) := by decide +kernel
theorem dX6_addBus_2 : decode cX6_addBus 2 = .ok (.bipush 99, 2) := by decide +kernel
theorem dX6_addBus_4 : decode cX6_addBus 4 = .ok (.invokestatic 75, 3) := by decide +kernel
theorem dX6_addBus_7 : decode cX6_addBus 7 = .ok (.ifCond .eq 13, 3) := by decide +kernel
theorem dX6_addBus_10 : decode cX6_addBus 10 = .ok (.iload_n 2, 1) := by decide +kernel
theorem dX6_addBus_11 : decode cX6_addBus 11 = .ok (.iconst 0, 1) := by decide +kernel
theorem dX6_addBus_12 : decode cX6_addBus 12 = .ok (.bipush 9, 2) := by decide +kernel
theorem dX6_addBus_14 : decode cX6_addBus 14 = .ok (.invokestatic 75, 3) := by decide +kernel
theorem dX6_addBus_17 : decode cX6_addBus 17 = .ok (.ifCond .ne 9, 3) := by decide +kernel
theorem dX6_addBus_20 : decode cX6_addBus 20 = .ok (.aload_n 0, 1) := by decide +kernel
theorem dX6_addBus_21 : decode cX6_addBus 21 = .ok (.iconst 1, 1) := by decide +kernel
theorem dX6_addBus_22 : decode cX6_addBus 22 = .ok (.invokevirtual 82, 3) := by decide +kernel
theorem dX6_addBus_25 : decode cX6_addBus 25 = .ok (.ireturn, 1) := by decide +kernel
theorem dX6_addBus_26 : decode cX6_addBus 26 = .ok (.aload_n 0, 1) := by decide +kernel
theorem dX6_addBus_27 : decode cX6_addBus 27 = .ok (.getfield 72, 3) := by decide +kernel
theorem dX6_addBus_30 : decode cX6_addBus 30 = .ok (.bipush 10, 2) := by decide +kernel
theorem dX6_addBus_32 : decode cX6_addBus 32 = .ok (.if_icmp .ne 9, 3) := by decide +kernel
theorem dX6_addBus_35 : decode cX6_addBus 35 = .ok (.aload_n 0, 1) := by decide +kernel
theorem dX6_addBus_36 : decode cX6_addBus 36 = .ok (.iconst 2, 1) := by decide +kernel
theorem dX6_addBus_37 : decode cX6_addBus 37 = .ok (.invokevirtual 82, 3) := by decide +kernel
theorem dX6_addBus_40 : decode cX6_addBus 40 = .ok (.ireturn, 1) := by decide +kernel
theorem dX6_addBus_41 : decode cX6_addBus 41 = .ok (.aload_n 0, 1) := by decide +kernel
theorem dX6_addBus_42 : decode cX6_addBus 42 = .ok (.iconst 0, 1) := by decide +kernel
theorem dX6_addBus_43 : decode cX6_addBus 43 = .ok (.putfield 68, 3) := by decide +kernel
theorem dX6_addBus_46 : decode cX6_addBus 46 = .ok (.aload_n 0, 1) := by decide +kernel
theorem dX6_addBus_47 : decode cX6_addBus 47 = .ok (.getfield 17, 3) := by decide +kernel
theorem dX6_addBus_50 : decode cX6_addBus 50 = .ok (.aload_n 0, 1) := by decide +kernel
theorem dX6_addBus_51 : decode cX6_addBus 51 = .ok (.getfield 72, 3) := by decide +kernel
theorem dX6_addBus_54 : decode cX6_addBus 54 = .ok (.iload_n 1, 1) := by decide +kernel
theorem dX6_addBus_55 : decode cX6_addBus 55 = .ok (.iastore, 1) := by decide +kernel
theorem dX6_addBus_56 : decode cX6_addBus 56 = .ok (.aload_n 0, 1) := by decide +kernel
theorem dX6_addBus_57 : decode cX6_addBus 57 = .ok (.getfield 20, 3) := by decide +kernel
theorem dX6_addBus_60 : decode cX6_addBus 60 = .ok (.aload_n 0, 1) := by decide +kernel
theorem dX6_addBus_61 : decode cX6_addBus 61 = .ok (.getfield 72, 3) := by decide +kernel
theorem dX6_addBus_64 : decode cX6_addBus 64 = .ok (.iload_n 2, 1) := by decide +kernel
theorem dX6_addBus_65 : decode cX6_addBus 65 = .ok (.iastore, 1) := by decide +kernel
theorem dX6_addBus_66 : decode cX6_addBus 66 = .ok (.aload_n 0, 1) := by decide +kernel
theorem dX6_addBus_67 : decode cX6_addBus 67 = .ok (.dup, 1) := by decide +kernel
theorem dX6_addBus_68 : decode cX6_addBus 68 = .ok (.getfield 72, 3) := by decide +kernel
theorem dX6_addBus_71 : decode cX6_addBus 71 = .ok (.iconst 1, 1) := by decide +kernel
theorem dX6_addBus_72 : decode cX6_addBus 72 = .ok (.iadd, 1) := by decide +kernel
theorem dX6_addBus_73 : decode cX6_addBus 73 = .ok (.putfield 72, 3) := by decide +kernel
theorem dX6_addBus_76 : decode cX6_addBus 76 = .ok (.aload_n 0, 1) := by decide +kernel
theorem dX6_addBus_77 : decode cX6_addBus 77 = .ok (.getfield 72, 3) := by decide +kernel
theorem dX6_addBus_80 : decode cX6_addBus 80 = .ok (.iconst 1, 1) := by decide +kernel
theorem dX6_addBus_81 : decode cX6_addBus 81 = .ok (.isub, 1) := by decide +kernel
theorem dX6_addBus_82 : decode cX6_addBus 82 = .ok (.ireturn, 1) := by decide +kernel
set_option maxRecDepth 20000 in
theorem ggX6_addLine_X6_isNode : GoodIn wsX6_addLine wsX6_isNode := goodIn_r _ [13, 14, 15, 16, 12, 17, 22, 23, 24, 25, 26, 27, 28, 29, 30, 31, 32, 33, 34, 35, 36, 37, 38, 39, 40, 41, 42, 43, 44, 45, 46, 47, 48] (by decide +kernel) (by decide +kernel)
set_option maxRecDepth 20000 in
theorem gX6_addLine_X6_isNode : GoodIn wsX6_addLine (wsV RX6 86 RX6 yX6_isNode wsX6_isNode) := goodIn_app (goodIn_of _ (by decide +kernel)) ggX6_addLine_X6_isNode
set_option maxRecDepth 20000 in
theorem ggX6_addLine_X6_fails : GoodIn wsX6_addLine wsX6_fails := goodIn_r _ [21, 2, 22, 23, 24, 25, 26, 27, 28, 29, 30, 31, 32, 33, 34, 35, 36, 37, 38, 39, 40, 41, 42, 43, 44, 45, 46, 47, 48] (by decide +kernel) (by decide +kernel)
set_option maxRecDepth 20000 in
theorem gX6_addLine_X6_fails : GoodIn wsX6_addLine (wsV RX6 82 RX6 yX6_fails wsX6_fails) := goodIn_app (goodIn_of _ (by decide +kernel)) ggX6_addLine_X6_fails
set_option maxRecDepth 20000 in
theorem ggX6_addLine_X6_in : GoodIn wsX6_addLine wsX6_in := goodIn_r _ [17] (by decide +kernel) (by decide +kernel)
set_option maxRecDepth 20000 in
theorem gX6_addLine_X6_in : GoodIn wsX6_addLine (va_wsS RX6 75 yX6_in wsX6_in) := goodIn_app (goodIn_of _ (by decide +kernel)) ggX6_addLine_X6_in
theorem dX6_addLine_0 : decode cX6_addLine 0 = .ok (.aload_n 0, 1) := by decide +kernel
theorem dX6_addLine_1 : decode cX6_addLine 1 = .ok (.iload_n 1, 1) := by decide +kernel
theorem dX6_addLine_2 : decode cX6_addLine 2 = .ok (.invokevirtual 86, 3) := by decide +kernel
theorem dX6_addLine_5 : decode cX6_addLine 5 = .ok (.ifCond .eq 11, 3) := by decide +kernel
theorem dX6_addLine_8 : decode cX6_addLine 8 = .ok (.aload_n 0, 1) := by decide +kernel
theorem dX6_addLine_9 : decode cX6_addLine 9 = .ok (.iload_n 2, 1) := by decide +kernel
theorem dX6_addLine_10 : decode cX6_addLine 10 = .ok (.invokevirtual 86, 3) := by decide +kernel
theorem dX6_addLine_13 : decode cX6_addLine 13 = .ok (.ifCond .ne 9, 3) := by decide +kernel
theorem dX6_addLine_16 : decode cX6_addLine 16 = .ok (.aload_n 0, 1) := by decide +kernel
theorem dX6_addLine_17 : decode cX6_addLine 17 = .ok (.iconst 1, 1) := by decide +kernel
theorem dX6_addLine_18 : decode cX6_addLine 18 = .ok (.invokevirtual 82, 3) := by decide +kernel
theorem dX6_addLine_21 : decode cX6_addLine 21 = .ok (.ireturn, 1) := by decide +kernel
theorem dX6_addLine_22 : decode cX6_addLine 22 = .ok (.iload_n 1, 1) := by decide +kernel
theorem dX6_addLine_23 : decode cX6_addLine 23 = .ok (.iload_n 2, 1) := by decide +kernel
theorem dX6_addLine_24 : decode cX6_addLine 24 = .ok (.if_icmp .eq 14, 3) := by decide +kernel
theorem dX6_addLine_27 : decode cX6_addLine 27 = .ok (.iload_n 3, 1) := by decide +kernel
theorem dX6_addLine_28 : decode cX6_addLine 28 = .ok (.iconst 1, 1) := by decide +kernel
theorem dX6_addLine_29 : decode cX6_addLine 29 = .ok (.sipush 999, 3) := by decide +kernel
theorem dX6_addLine_32 : decode cX6_addLine 32 = .ok (.invokestatic 75, 3) := by decide +kernel
theorem dX6_addLine_35 : decode cX6_addLine 35 = .ok (.ifCond .ne 9, 3) := by decide +kernel
theorem dX6_addLine_38 : decode cX6_addLine 38 = .ok (.aload_n 0, 1) := by decide +kernel
theorem dX6_addLine_39 : decode cX6_addLine 39 = .ok (.iconst 2, 1) := by decide +kernel
theorem dX6_addLine_40 : decode cX6_addLine 40 = .ok (.invokevirtual 82, 3) := by decide +kernel
theorem dX6_addLine_43 : decode cX6_addLine 43 = .ok (.ireturn, 1) := by decide +kernel
theorem dX6_addLine_44 : decode cX6_addLine 44 = .ok (.aload_n 0, 1) := by decide +kernel
theorem dX6_addLine_45 : decode cX6_addLine 45 = .ok (.getfield 79, 3) := by decide +kernel
theorem dX6_addLine_48 : decode cX6_addLine 48 = .ok (.bipush 12, 2) := by decide +kernel
theorem dX6_addLine_50 : decode cX6_addLine 50 = .ok (.if_icmp .ne 9, 3) := by decide +kernel
theorem dX6_addLine_53 : decode cX6_addLine 53 = .ok (.aload_n 0, 1) := by decide +kernel
theorem dX6_addLine_54 : decode cX6_addLine 54 = .ok (.iconst 3, 1) := by decide +kernel
theorem dX6_addLine_55 : decode cX6_addLine 55 = .ok (.invokevirtual 82, 3) := by decide +kernel
theorem dX6_addLine_58 : decode cX6_addLine 58 = .ok (.ireturn, 1) := by decide +kernel
theorem dX6_addLine_59 : decode cX6_addLine 59 = .ok (.aload_n 0, 1) := by decide +kernel
theorem dX6_addLine_60 : decode cX6_addLine 60 = .ok (.iconst 0, 1) := by decide +kernel
theorem dX6_addLine_61 : decode cX6_addLine 61 = .ok (.putfield 68, 3) := by decide +kernel
theorem dX6_addLine_64 : decode cX6_addLine 64 = .ok (.aload_n 0, 1) := by decide +kernel
theorem dX6_addLine_65 : decode cX6_addLine 65 = .ok (.getfield 23, 3) := by decide +kernel
theorem dX6_addLine_68 : decode cX6_addLine 68 = .ok (.aload_n 0, 1) := by decide +kernel
theorem dX6_addLine_69 : decode cX6_addLine 69 = .ok (.getfield 79, 3) := by decide +kernel
theorem dX6_addLine_72 : decode cX6_addLine 72 = .ok (.iload_n 1, 1) := by decide +kernel
theorem dX6_addLine_73 : decode cX6_addLine 73 = .ok (.iastore, 1) := by decide +kernel
theorem dX6_addLine_74 : decode cX6_addLine 74 = .ok (.aload_n 0, 1) := by decide +kernel
theorem dX6_addLine_75 : decode cX6_addLine 75 = .ok (.getfield 26, 3) := by decide +kernel
theorem dX6_addLine_78 : decode cX6_addLine 78 = .ok (.aload_n 0, 1) := by decide +kernel
theorem dX6_addLine_79 : decode cX6_addLine 79 = .ok (.getfield 79, 3) := by decide +kernel
theorem dX6_addLine_82 : decode cX6_addLine 82 = .ok (.iload_n 2, 1) := by decide +kernel
theorem dX6_addLine_83 : decode cX6_addLine 83 = .ok (.iastore, 1) := by decide +kernel
theorem dX6_addLine_84 : decode cX6_addLine 84 = .ok (.aload_n 0, 1) := by decide +kernel
theorem dX6_addLine_85 : decode cX6_addLine 85 = .ok (.getfield 29, 3) := by decide +kernel
theorem dX6_addLine_88 : decode cX6_addLine 88 = .ok (.aload_n 0, 1) := by decide +kernel
theorem dX6_addLine_89 : decode cX6_addLine 89 = .ok (.getfield 79, 3) := by decide +kernel
theorem dX6_addLine_92 : decode cX6_addLine 92 = .ok (.iload_n 3, 1) := by decide +kernel
theorem dX6_addLine_93 : decode cX6_addLine 93 = .ok (.iastore, 1) := by decide +kernel
theorem dX6_addLine_94 : decode cX6_addLine 94 = .ok (.aload_n 0, 1) := by decide +kernel
theorem dX6_addLine_95 : decode cX6_addLine 95 = .ok (.getfield 41, 3) := by decide +kernel
theorem dX6_addLine_98 : decode cX6_addLine 98 = .ok (.aload_n 0, 1) := by decide +kernel
theorem dX6_addLine_99 : decode cX6_addLine 99 = .ok (.getfield 79, 3) := by decide +kernel
theorem dX6_addLine_102 : decode cX6_addLine 102 = .ok (.iload 4, 2) := by decide +kernel
theorem dX6_addLine_104 : decode cX6_addLine 104 = .ok (.bastore, 1) := by decide +kernel
theorem dX6_addLine_105 : decode cX6_addLine 105 = .ok (.aload_n 0, 1) := by decide +kernel
theorem dX6_addLine_106 : decode cX6_addLine 106 = .ok (.getfield 32, 3) := by decide +kernel
theorem dX6_addLine_109 : decode cX6_addLine 109 = .ok (.aload_n 0, 1) := by decide +kernel
theorem dX6_addLine_110 : decode cX6_addLine 110 = .ok (.getfield 79, 3) := by decide +kernel
theorem dX6_addLine_113 : decode cX6_addLine 113 = .ok (.iload_n 3, 1) := by decide +kernel
theorem dX6_addLine_114 : decode cX6_addLine 114 = .ok (.iastore, 1) := by decide +kernel
theorem dX6_addLine_115 : decode cX6_addLine 115 = .ok (.aload_n 0, 1) := by decide +kernel
theorem dX6_addLine_116 : decode cX6_addLine 116 = .ok (.getfield 35, 3) := by decide +kernel
theorem dX6_addLine_119 : decode cX6_addLine 119 = .ok (.aload_n 0, 1) := by decide +kernel
theorem dX6_addLine_120 : decode cX6_addLine 120 = .ok (.getfield 79, 3) := by decide +kernel
theorem dX6_addLine_123 : decode cX6_addLine 123 = .ok (.iconst 1, 1) := by decide +kernel
theorem dX6_addLine_124 : decode cX6_addLine 124 = .ok (.iastore, 1) := by decide +kernel
theorem dX6_addLine_125 : decode cX6_addLine 125 = .ok (.aload_n 0, 1) := by decide +kernel
theorem dX6_addLine_126 : decode cX6_addLine 126 = .ok (.dup, 1) := by decide +kernel
theorem dX6_addLine_127 : decode cX6_addLine 127 = .ok (.getfield 79, 3) := by decide +kernel
theorem dX6_addLine_130 : decode cX6_addLine 130 = .ok (.iconst 1, 1) := by decide +kernel
theorem dX6_addLine_131 : decode cX6_addLine 131 = .ok (.iadd, 1) := by decide +kernel
theorem dX6_addLine_132 : decode cX6_addLine 132 = .ok (.putfield 79, 3) := by decide +kernel
theorem dX6_addLine_135 : decode cX6_addLine 135 = .ok (.aload_n 0, 1) := by decide +kernel
theorem dX6_addLine_136 : decode cX6_addLine 136 = .ok (.getfield 79, 3) := by decide +kernel
theorem dX6_addLine_139 : decode cX6_addLine 139 = .ok (.iconst 1, 1) := by decide +kernel
theorem dX6_addLine_140 : decode cX6_addLine 140 = .ok (.isub, 1) := by decide +kernel
theorem dX6_addLine_141 : decode cX6_addLine 141 = .ok (.ireturn, 1) := by decide +kernel
theorem dX6_paints_0 : decode cX6_paints 0 = .ok (.iconst 0, 1) := by decide +kernel
theorem dX6_paints_1 : decode cX6_paints 1 = .ok (.istore_n 3, 1) := by decide +kernel
theorem dX6_paints_2 : decode cX6_paints 2 = .ok (.iload_n 3, 1) := by decide +kernel
theorem dX6_paints_3 : decode cX6_paints 3 = .ok (.aload_n 0, 1) := by decide +kernel
theorem dX6_paints_4 : decode cX6_paints 4 = .ok (.getfield 72, 3) := by decide +kernel
theorem dX6_paints_7 : decode cX6_paints 7 = .ok (.if_icmp .ge 16, 3) := by decide +kernel
theorem dX6_paints_10 : decode cX6_paints 10 = .ok (.aload_n 0, 1) := by decide +kernel
theorem dX6_paints_11 : decode cX6_paints 11 = .ok (.getfield 53, 3) := by decide +kernel
theorem dX6_paints_14 : decode cX6_paints 14 = .ok (.iload_n 3, 1) := by decide +kernel
theorem dX6_paints_15 : decode cX6_paints 15 = .ok (.iload_n 3, 1) := by decide +kernel
theorem dX6_paints_16 : decode cX6_paints 16 = .ok (.iastore, 1) := by decide +kernel
theorem dX6_paints_17 : decode cX6_paints 17 = .ok (.iinc 3 1, 3) := by decide +kernel
theorem dX6_paints_20 : decode cX6_paints 20 = .ok (.goto (-18), 3) := by decide +kernel
theorem dX6_paints_23 : decode cX6_paints 23 = .ok (.iconst 1, 1) := by decide +kernel
theorem dX6_paints_24 : decode cX6_paints 24 = .ok (.istore_n 3, 1) := by decide +kernel
theorem dX6_paints_25 : decode cX6_paints 25 = .ok (.iload_n 3, 1) := by decide +kernel
theorem dX6_paints_26 : decode cX6_paints 26 = .ok (.ifCond .eq 164, 3) := by decide +kernel
theorem dX6_paints_29 : decode cX6_paints 29 = .ok (.iconst 0, 1) := by decide +kernel
theorem dX6_paints_30 : decode cX6_paints 30 = .ok (.istore_n 3, 1) := by decide +kernel
theorem dX6_paints_31 : decode cX6_paints 31 = .ok (.iconst 0, 1) := by decide +kernel
theorem dX6_paints_32 : decode cX6_paints 32 = .ok (.istore 4, 2) := by decide +kernel
theorem dX6_paints_34 : decode cX6_paints 34 = .ok (.iload 4, 2) := by decide +kernel
theorem dX6_paints_36 : decode cX6_paints 36 = .ok (.aload_n 0, 1) := by decide +kernel
theorem dX6_paints_37 : decode cX6_paints 37 = .ok (.getfield 79, 3) := by decide +kernel
theorem dX6_paints_40 : decode cX6_paints 40 = .ok (.if_icmp .ge 147, 3) := by decide +kernel
theorem dX6_paints_43 : decode cX6_paints 43 = .ok (.iload 4, 2) := by decide +kernel
theorem dX6_paints_45 : decode cX6_paints 45 = .ok (.iload_n 1, 1) := by decide +kernel
theorem dX6_paints_46 : decode cX6_paints 46 = .ok (.if_icmp .eq 135, 3) := by decide +kernel
theorem dX6_paints_49 : decode cX6_paints 49 = .ok (.aload_n 0, 1) := by decide +kernel
theorem dX6_paints_50 : decode cX6_paints 50 = .ok (.getfield 44, 3) := by decide +kernel
theorem dX6_paints_53 : decode cX6_paints 53 = .ok (.iload 4, 2) := by decide +kernel
theorem dX6_paints_55 : decode cX6_paints 55 = .ok (.baload, 1) := by decide +kernel
theorem dX6_paints_56 : decode cX6_paints 56 = .ok (.ifCond .ne 9, 3) := by decide +kernel
theorem dX6_paints_59 : decode cX6_paints 59 = .ok (.iload 4, 2) := by decide +kernel
theorem dX6_paints_61 : decode cX6_paints 61 = .ok (.iload_n 2, 1) := by decide +kernel
theorem dX6_paints_62 : decode cX6_paints 62 = .ok (.if_icmp .ne 119, 3) := by decide +kernel
theorem dX6_paints_65 : decode cX6_paints 65 = .ok (.aload_n 0, 1) := by decide +kernel
theorem dX6_paints_66 : decode cX6_paints 66 = .ok (.getfield 53, 3) := by decide +kernel
theorem dX6_paints_69 : decode cX6_paints 69 = .ok (.aload_n 0, 1) := by decide +kernel
theorem dX6_paints_70 : decode cX6_paints 70 = .ok (.getfield 23, 3) := by decide +kernel
theorem dX6_paints_73 : decode cX6_paints 73 = .ok (.iload 4, 2) := by decide +kernel
theorem dX6_paints_75 : decode cX6_paints 75 = .ok (.iaload, 1) := by decide +kernel
theorem dX6_paints_76 : decode cX6_paints 76 = .ok (.iaload, 1) := by decide +kernel
theorem dX6_paints_77 : decode cX6_paints 77 = .ok (.aload_n 0, 1) := by decide +kernel
theorem dX6_paints_78 : decode cX6_paints 78 = .ok (.getfield 53, 3) := by decide +kernel
theorem dX6_paints_81 : decode cX6_paints 81 = .ok (.aload_n 0, 1) := by decide +kernel
theorem dX6_paints_82 : decode cX6_paints 82 = .ok (.getfield 26, 3) := by decide +kernel
theorem dX6_paints_85 : decode cX6_paints 85 = .ok (.iload 4, 2) := by decide +kernel
theorem dX6_paints_87 : decode cX6_paints 87 = .ok (.iaload, 1) := by decide +kernel
theorem dX6_paints_88 : decode cX6_paints 88 = .ok (.iaload, 1) := by decide +kernel
theorem dX6_paints_89 : decode cX6_paints 89 = .ok (.if_icmp .ne 6, 3) := by decide +kernel
theorem dX6_paints_92 : decode cX6_paints 92 = .ok (.goto 89, 3) := by decide +kernel
theorem dX6_paints_95 : decode cX6_paints 95 = .ok (.aload_n 0, 1) := by decide +kernel
theorem dX6_paints_96 : decode cX6_paints 96 = .ok (.getfield 53, 3) := by decide +kernel
theorem dX6_paints_99 : decode cX6_paints 99 = .ok (.aload_n 0, 1) := by decide +kernel
theorem dX6_paints_100 : decode cX6_paints 100 = .ok (.getfield 23, 3) := by decide +kernel
theorem dX6_paints_103 : decode cX6_paints 103 = .ok (.iload 4, 2) := by decide +kernel
theorem dX6_paints_105 : decode cX6_paints 105 = .ok (.iaload, 1) := by decide +kernel
theorem dX6_paints_106 : decode cX6_paints 106 = .ok (.iaload, 1) := by decide +kernel
theorem dX6_paints_107 : decode cX6_paints 107 = .ok (.aload_n 0, 1) := by decide +kernel
theorem dX6_paints_108 : decode cX6_paints 108 = .ok (.getfield 53, 3) := by decide +kernel
theorem dX6_paints_111 : decode cX6_paints 111 = .ok (.aload_n 0, 1) := by decide +kernel
theorem dX6_paints_112 : decode cX6_paints 112 = .ok (.getfield 26, 3) := by decide +kernel
theorem dX6_paints_115 : decode cX6_paints 115 = .ok (.iload 4, 2) := by decide +kernel
theorem dX6_paints_117 : decode cX6_paints 117 = .ok (.iaload, 1) := by decide +kernel
theorem dX6_paints_118 : decode cX6_paints 118 = .ok (.iaload, 1) := by decide +kernel
theorem dX6_paints_119 : decode cX6_paints 119 = .ok (.if_icmp .ge 18, 3) := by decide +kernel
theorem dX6_paints_122 : decode cX6_paints 122 = .ok (.aload_n 0, 1) := by decide +kernel
theorem dX6_paints_123 : decode cX6_paints 123 = .ok (.getfield 53, 3) := by decide +kernel
theorem dX6_paints_126 : decode cX6_paints 126 = .ok (.aload_n 0, 1) := by decide +kernel
theorem dX6_paints_127 : decode cX6_paints 127 = .ok (.getfield 23, 3) := by decide +kernel
theorem dX6_paints_130 : decode cX6_paints 130 = .ok (.iload 4, 2) := by decide +kernel
theorem dX6_paints_132 : decode cX6_paints 132 = .ok (.iaload, 1) := by decide +kernel
theorem dX6_paints_133 : decode cX6_paints 133 = .ok (.iaload, 1) := by decide +kernel
theorem dX6_paints_134 : decode cX6_paints 134 = .ok (.goto 15, 3) := by decide +kernel
theorem dX6_paints_137 : decode cX6_paints 137 = .ok (.aload_n 0, 1) := by decide +kernel
theorem dX6_paints_138 : decode cX6_paints 138 = .ok (.getfield 53, 3) := by decide +kernel
theorem dX6_paints_141 : decode cX6_paints 141 = .ok (.aload_n 0, 1) := by decide +kernel
theorem dX6_paints_142 : decode cX6_paints 142 = .ok (.getfield 26, 3) := by decide +kernel
theorem dX6_paints_145 : decode cX6_paints 145 = .ok (.iload 4, 2) := by decide +kernel
theorem dX6_paints_147 : decode cX6_paints 147 = .ok (.iaload, 1) := by decide +kernel
theorem dX6_paints_148 : decode cX6_paints 148 = .ok (.iaload, 1) := by decide +kernel
theorem dX6_paints_149 : decode cX6_paints 149 = .ok (.istore 5, 2) := by decide +kernel
theorem dX6_paints_151 : decode cX6_paints 151 = .ok (.aload_n 0, 1) := by decide +kernel
theorem dX6_paints_152 : decode cX6_paints 152 = .ok (.getfield 53, 3) := by decide +kernel
theorem dX6_paints_155 : decode cX6_paints 155 = .ok (.aload_n 0, 1) := by decide +kernel
theorem dX6_paints_156 : decode cX6_paints 156 = .ok (.getfield 23, 3) := by decide +kernel
