theorem dX6_islandByRounds_5 : decode cX6_islandByRounds 5 = .ok (.ireturn, 1) := by decide +kernel
set_option maxRecDepth 20000 in
theorem ggX6_islands_X6_paints : GoodIn wsX6_islands wsX6_paints := goodIn_ca (goodIn_r _ [8, 2, 3, 9, 10, 11, 12, 13, 14, 15, 16, 17, 18, 19, 20, 21, 22, 23, 24, 25, 26, 27, 28, 29, 30, 31, 32, 33, 34, 35, 36, 37, 38, 39] (by decide +kernel) (by decide +kernel)) (goodIn_sub (fun _ h => List.mem_cons_of_mem _ (List.mem_append_right _ h)) (by decide +kernel))
set_option maxRecDepth 20000 in
theorem gX6_islands_X6_paints : GoodIn wsX6_islands (wsV RX6 90 RX6 yX6_paints wsX6_paints) := goodIn_app (goodIn_of _ (by decide +kernel)) ggX6_islands_X6_paints
theorem dX6_islands_0 : decode cX6_islands 0 = .ok (.aload_n 0, 1) := by decide +kernel
theorem dX6_islands_1 : decode cX6_islands 1 = .ok (.iconst (-1), 1) := by decide +kernel
theorem dX6_islands_2 : decode cX6_islands 2 = .ok (.iconst (-1), 1) := by decide +kernel
theorem dX6_islands_3 : decode cX6_islands 3 = .ok (.invokevirtual 90, 3) := by decide +kernel
theorem dX6_islands_6 : decode cX6_islands 6 = .ok (.aload_n 0, 1) := by decide +kernel
theorem dX6_islands_7 : decode cX6_islands 7 = .ok (.iconst 0, 1) := by decide +kernel
theorem dX6_islands_8 : decode cX6_islands 8 = .ok (.putfield 68, 3) := by decide +kernel
theorem dX6_islands_11 : decode cX6_islands 11 = .ok (.iconst 0, 1) := by decide +kernel
theorem dX6_islands_12 : decode cX6_islands 12 = .ok (.istore_n 1, 1) := by decide +kernel
theorem dX6_islands_13 : decode cX6_islands 13 = .ok (.iconst 0, 1) := by decide +kernel
theorem dX6_islands_14 : decode cX6_islands 14 = .ok (.istore_n 2, 1) := by decide +kernel
theorem dX6_islands_15 : decode cX6_islands 15 = .ok (.iload_n 2, 1) := by decide +kernel
theorem dX6_islands_16 : decode cX6_islands 16 = .ok (.aload_n 0, 1) := by decide +kernel
theorem dX6_islands_17 : decode cX6_islands 17 = .ok (.getfield 72, 3) := by decide +kernel
theorem dX6_islands_20 : decode cX6_islands 20 = .ok (.if_icmp .ge 27, 3) := by decide +kernel
theorem dX6_islands_23 : decode cX6_islands 23 = .ok (.iload_n 1, 1) := by decide +kernel
theorem dX6_islands_24 : decode cX6_islands 24 = .ok (.aload_n 0, 1) := by decide +kernel
theorem dX6_islands_25 : decode cX6_islands 25 = .ok (.getfield 53, 3) := by decide +kernel
theorem dX6_islands_28 : decode cX6_islands 28 = .ok (.iload_n 2, 1) := by decide +kernel
theorem dX6_islands_29 : decode cX6_islands 29 = .ok (.iaload, 1) := by decide +kernel
theorem dX6_islands_30 : decode cX6_islands 30 = .ok (.iload_n 2, 1) := by decide +kernel
theorem dX6_islands_31 : decode cX6_islands 31 = .ok (.if_icmp .ne 7, 3) := by decide +kernel
theorem dX6_islands_34 : decode cX6_islands 34 = .ok (.iconst 1, 1) := by decide +kernel
theorem dX6_islands_35 : decode cX6_islands 35 = .ok (.goto 4, 3) := by decide +kernel
theorem dX6_islands_38 : decode cX6_islands 38 = .ok (.iconst 0, 1) := by decide +kernel
theorem dX6_islands_39 : decode cX6_islands 39 = .ok (.iadd, 1) := by decide +kernel
theorem dX6_islands_40 : decode cX6_islands 40 = .ok (.istore_n 1, 1) := by decide +kernel
theorem dX6_islands_41 : decode cX6_islands 41 = .ok (.iinc 2 1, 3) := by decide +kernel
theorem dX6_islands_44 : decode cX6_islands 44 = .ok (.goto (-29), 3) := by decide +kernel
theorem dX6_islands_47 : decode cX6_islands 47 = .ok (.iload_n 1, 1) := by decide +kernel
theorem dX6_islands_48 : decode cX6_islands 48 = .ok (.ireturn, 1) := by decide +kernel
set_option maxRecDepth 20000 in
theorem ggX6_isLive_X6_isPainted : GoodIn wsX6_isLive wsX6_isPainted := goodIn_ca (goodIn_r _ [6, 7, 8, 9, 5, 10, 11, 1, 12, 13, 14, 15, 16, 17, 18, 19, 20, 21, 22, 23, 24, 25, 26, 27, 33, 34, 35, 36, 37, 38, 39, 40, 41, 42, 43, 44, 45, 46, 47, 48, 49, 50, 51, 52, 53, 54, 55, 56, 57, 58, 59] (by decide +kernel) (by decide +kernel)) (goodIn_sub (fun _ h => List.mem_cons_of_mem _ (List.mem_append_right _ h)) (by decide +kernel))
set_option maxRecDepth 20000 in
theorem gX6_isLive_X6_isPainted : GoodIn wsX6_isLive (wsV RX6 153 RX6 yX6_isPainted wsX6_isPainted) := goodIn_app (goodIn_of _ (by decide +kernel)) ggX6_isLive_X6_isPainted
set_option maxRecDepth 20000 in
theorem ggX6_isLive_X6_source : GoodIn wsX6_isLive wsX6_source := goodIn_ca (goodIn_r _ [31, 11, 32, 1, 33, 34, 35, 36, 37, 38, 39, 40, 41, 42, 43, 44, 45, 46, 47, 48, 49, 50, 51, 52, 53, 54, 55, 56, 57, 58, 59] (by decide +kernel) (by decide +kernel)) (goodIn_sub (fun _ h => List.mem_cons_of_mem _ (List.mem_append_right _ h)) (by decide +kernel))
set_option maxRecDepth 20000 in
theorem gX6_isLive_X6_source : GoodIn wsX6_isLive (wsV RX6 94 RX6 yX6_source wsX6_source) := goodIn_app (goodIn_of _ (by decide +kernel)) ggX6_isLive_X6_source
theorem dX6_isLive_0 : decode cX6_isLive 0 = .ok (.aload_n 0, 1) := by decide +kernel
theorem dX6_isLive_1 : decode cX6_isLive 1 = .ok (.iload_n 1, 1) := by decide +kernel
theorem dX6_isLive_2 : decode cX6_isLive 2 = .ok (.invokevirtual 153, 3) := by decide +kernel
theorem dX6_isLive_5 : decode cX6_isLive 5 = .ok (.ifCond .eq 21, 3) := by decide +kernel
theorem dX6_isLive_8 : decode cX6_isLive 8 = .ok (.aload_n 0, 1) := by decide +kernel
theorem dX6_isLive_9 : decode cX6_isLive 9 = .ok (.aload_n 0, 1) := by decide +kernel
theorem dX6_isLive_10 : decode cX6_isLive 10 = .ok (.getfield 53, 3) := by decide +kernel
theorem dX6_isLive_13 : decode cX6_isLive 13 = .ok (.iload_n 1, 1) := by decide +kernel
theorem dX6_isLive_14 : decode cX6_isLive 14 = .ok (.iaload, 1) := by decide +kernel
theorem dX6_isLive_15 : decode cX6_isLive 15 = .ok (.invokevirtual 94, 3) := by decide +kernel
theorem dX6_isLive_18 : decode cX6_isLive 18 = .ok (.iconst (-1), 1) := by decide +kernel
theorem dX6_isLive_19 : decode cX6_isLive 19 = .ok (.if_icmp .eq 7, 3) := by decide +kernel
theorem dX6_isLive_22 : decode cX6_isLive 22 = .ok (.iconst 1, 1) := by decide +kernel
theorem dX6_isLive_23 : decode cX6_isLive 23 = .ok (.goto 4, 3) := by decide +kernel
theorem dX6_isLive_26 : decode cX6_isLive 26 = .ok (.iconst 0, 1) := by decide +kernel
theorem dX6_isLive_27 : decode cX6_isLive 27 = .ok (.ireturn, 1) := by decide +kernel
set_option maxRecDepth 20000 in
theorem ggX6_sourceOf_X6_isPainted : GoodIn wsX6_sourceOf wsX6_isPainted := goodIn_ca (goodIn_r _ [6, 7, 8, 9, 5, 10, 11, 1, 12, 13, 14, 15, 16, 17, 18, 19, 20, 21, 22, 23, 24, 25, 26, 27, 37, 38, 39, 40, 41, 42, 43, 44, 45, 46, 47, 48, 49, 50, 51, 52, 53, 54, 55, 56, 57, 58, 59, 60, 61, 62, 63] (by decide +kernel) (by decide +kernel)) (goodIn_sub (fun _ h => List.mem_cons_of_mem _ (List.mem_append_right _ h)) (by decide +kernel))
set_option maxRecDepth 20000 in
theorem gX6_sourceOf_X6_isPainted : GoodIn wsX6_sourceOf (wsV RX6 153 RX6 yX6_isPainted wsX6_isPainted) := goodIn_app (goodIn_of _ (by decide +kernel)) ggX6_sourceOf_X6_isPainted
set_option maxRecDepth 20000 in
theorem ggX6_sourceOf_X6_source : GoodIn wsX6_sourceOf wsX6_source := goodIn_ca (goodIn_r _ [31, 11, 32, 1, 37, 38, 39, 40, 41, 42, 43, 44, 45, 46, 47, 48, 49, 50, 51, 52, 53, 54, 55, 56, 57, 58, 59, 60, 61, 62, 63] (by decide +kernel) (by decide +kernel)) (goodIn_sub (fun _ h => List.mem_cons_of_mem _ (List.mem_append_right _ h)) (by decide +kernel))
set_option maxRecDepth 20000 in
theorem gX6_sourceOf_X6_source : GoodIn wsX6_sourceOf (wsV RX6 94 RX6 yX6_source wsX6_source) := goodIn_app (goodIn_of _ (by decide +kernel)) ggX6_sourceOf_X6_source
set_option maxRecDepth 20000 in
theorem ggX6_sourceOf_X6_fails : GoodIn wsX6_sourceOf wsX6_fails := goodIn_r _ [36, 27, 37, 38, 39, 40, 41, 42, 43, 44, 45, 46, 47, 48, 49, 50, 51, 52, 53, 54, 55, 56, 57, 58, 59, 60, 61, 62, 63] (by decide +kernel) (by decide +kernel)
set_option maxRecDepth 20000 in
theorem gX6_sourceOf_X6_fails : GoodIn wsX6_sourceOf (wsV RX6 82 RX6 yX6_fails wsX6_fails) := goodIn_app (goodIn_of _ (by decide +kernel)) ggX6_sourceOf_X6_fails
theorem dX6_sourceOf_0 : decode cX6_sourceOf 0 = .ok (.aload_n 0, 1) := by decide +kernel
theorem dX6_sourceOf_1 : decode cX6_sourceOf 1 = .ok (.iload_n 1, 1) := by decide +kernel
theorem dX6_sourceOf_2 : decode cX6_sourceOf 2 = .ok (.invokevirtual 153, 3) := by decide +kernel
theorem dX6_sourceOf_5 : decode cX6_sourceOf 5 = .ok (.ifCond .ne 5, 3) := by decide +kernel
theorem dX6_sourceOf_8 : decode cX6_sourceOf 8 = .ok (.iconst 0, 1) := by decide +kernel
theorem dX6_sourceOf_9 : decode cX6_sourceOf 9 = .ok (.ireturn, 1) := by decide +kernel
theorem dX6_sourceOf_10 : decode cX6_sourceOf 10 = .ok (.aload_n 0, 1) := by decide +kernel
theorem dX6_sourceOf_11 : decode cX6_sourceOf 11 = .ok (.aload_n 0, 1) := by decide +kernel
theorem dX6_sourceOf_12 : decode cX6_sourceOf 12 = .ok (.getfield 53, 3) := by decide +kernel
theorem dX6_sourceOf_15 : decode cX6_sourceOf 15 = .ok (.iload_n 1, 1) := by decide +kernel
theorem dX6_sourceOf_16 : decode cX6_sourceOf 16 = .ok (.iaload, 1) := by decide +kernel
theorem dX6_sourceOf_17 : decode cX6_sourceOf 17 = .ok (.invokevirtual 94, 3) := by decide +kernel
theorem dX6_sourceOf_20 : decode cX6_sourceOf 20 = .ok (.istore_n 2, 1) := by decide +kernel
theorem dX6_sourceOf_21 : decode cX6_sourceOf 21 = .ok (.iload_n 2, 1) := by decide +kernel
theorem dX6_sourceOf_22 : decode cX6_sourceOf 22 = .ok (.iconst (-1), 1) := by decide +kernel
theorem dX6_sourceOf_23 : decode cX6_sourceOf 23 = .ok (.if_icmp .ne 11, 3) := by decide +kernel
theorem dX6_sourceOf_26 : decode cX6_sourceOf 26 = .ok (.aload_n 0, 1) := by decide +kernel
theorem dX6_sourceOf_27 : decode cX6_sourceOf 27 = .ok (.iconst 2, 1) := by decide +kernel
theorem dX6_sourceOf_28 : decode cX6_sourceOf 28 = .ok (.invokevirtual 82, 3) := by decide +kernel
theorem dX6_sourceOf_31 : decode cX6_sourceOf 31 = .ok (.goto 4, 3) := by decide +kernel
theorem dX6_sourceOf_34 : decode cX6_sourceOf 34 = .ok (.iload_n 2, 1) := by decide +kernel
theorem dX6_sourceOf_35 : decode cX6_sourceOf 35 = .ok (.ireturn, 1) := by decide +kernel
set_option maxRecDepth 20000 in
theorem ggX6_islandLoad_X6_isPainted : GoodIn wsX6_islandLoad wsX6_isPainted := goodIn_ca (goodIn_r _ [6, 7, 8, 9, 5, 10, 11, 1, 12, 13, 14, 15, 16, 17, 18, 19, 20, 21, 22, 23, 24, 25, 26, 27, 33, 34, 35, 36, 37, 38, 39, 40, 41, 42, 43, 44, 45, 46, 47, 48, 49, 50, 51, 52, 53, 54, 55, 56, 57, 58, 59] (by decide +kernel) (by decide +kernel)) (goodIn_sub (fun _ h => List.mem_cons_of_mem _ (List.mem_append_right _ h)) (by decide +kernel))
set_option maxRecDepth 20000 in
theorem gX6_islandLoad_X6_isPainted : GoodIn wsX6_islandLoad (wsV RX6 153 RX6 yX6_isPainted wsX6_isPainted) := goodIn_app (goodIn_of _ (by decide +kernel)) ggX6_islandLoad_X6_isPainted
set_option maxRecDepth 20000 in
theorem ggX6_islandLoad_X6_sum : GoodIn wsX6_islandLoad wsX6_sum := goodIn_ca (goodIn_r _ [31, 11, 1, 32, 33, 34, 35, 36, 37, 38, 39, 40, 41, 42, 43, 44, 45, 46, 47, 48, 49, 50, 51, 52, 53, 54, 55, 56, 57, 58, 59] (by decide +kernel) (by decide +kernel)) (goodIn_sub (fun _ h => List.mem_cons_of_mem _ (List.mem_append_right _ h)) (by decide +kernel))
set_option maxRecDepth 20000 in
theorem gX6_islandLoad_X6_sum : GoodIn wsX6_islandLoad (wsV RX6 97 RX6 yX6_sum wsX6_sum) := goodIn_app (goodIn_of _ (by decide +kernel)) ggX6_islandLoad_X6_sum
theorem dX6_islandLoad_0 : decode cX6_islandLoad 0 = .ok (.aload_n 0, 1) := by decide +kernel
theorem dX6_islandLoad_1 : decode cX6_islandLoad 1 = .ok (.iload_n 1, 1) := by decide +kernel
theorem dX6_islandLoad_2 : decode cX6_islandLoad 2 = .ok (.invokevirtual 153, 3) := by decide +kernel
theorem dX6_islandLoad_5 : decode cX6_islandLoad 5 = .ok (.ifCond .eq 16, 3) := by decide +kernel
theorem dX6_islandLoad_8 : decode cX6_islandLoad 8 = .ok (.aload_n 0, 1) := by decide +kernel
theorem dX6_islandLoad_9 : decode cX6_islandLoad 9 = .ok (.aload_n 0, 1) := by decide +kernel
theorem dX6_islandLoad_10 : decode cX6_islandLoad 10 = .ok (.getfield 53, 3) := by decide +kernel
theorem dX6_islandLoad_13 : decode cX6_islandLoad 13 = .ok (.iload_n 1, 1) := by decide +kernel
theorem dX6_islandLoad_14 : decode cX6_islandLoad 14 = .ok (.iaload, 1) := by decide +kernel
theorem dX6_islandLoad_15 : decode cX6_islandLoad 15 = .ok (.invokevirtual 97, 3) := by decide +kernel
theorem dX6_islandLoad_18 : decode cX6_islandLoad 18 = .ok (.goto 4, 3) := by decide +kernel
theorem dX6_islandLoad_21 : decode cX6_islandLoad 21 = .ok (.iconst 0, 1) := by decide +kernel
theorem dX6_islandLoad_22 : decode cX6_islandLoad 22 = .ok (.ireturn, 1) := by decide +kernel
set_option maxRecDepth 20000 in
theorem ggX6_current_X6_isLine : GoodIn wsX6_current wsX6_isLine := goodIn_r _ [5, 6, 7, 8, 4, 9, 42, 43, 44, 45, 46, 47, 48, 49, 50, 51, 52, 53, 54, 55, 56, 57, 58, 59, 60, 61, 62, 63, 64, 65, 66, 67, 68] (by decide +kernel) (by decide +kernel)
set_option maxRecDepth 20000 in
theorem gX6_current_X6_isLine : GoodIn wsX6_current (wsV RX6 113 RX6 yX6_isLine wsX6_isLine) := goodIn_app (goodIn_of _ (by decide +kernel)) ggX6_current_X6_isLine
set_option maxRecDepth 20000 in
theorem ggX6_current_X6_isThere : GoodIn wsX6_current wsX6_isThere := goodIn_r _ [13, 14, 42, 43, 44, 45, 46, 47, 48, 49, 50, 51, 52, 53, 54, 55, 56, 57, 58, 59, 60, 61, 62, 63, 64, 65, 66, 67, 68] (by decide +kernel) (by decide +kernel)
set_option maxRecDepth 20000 in
theorem gX6_current_X6_isThere : GoodIn wsX6_current (wsV RX6 116 RX6 yX6_isThere wsX6_isThere) := goodIn_app (goodIn_of _ (by decide +kernel)) ggX6_current_X6_isThere
set_option maxRecDepth 20000 in
theorem ggX6_current_X6_flowOf : GoodIn wsX6_current wsX6_flowOf := goodIn_ca (goodIn_r _ [18, 19, 20, 21, 22, 4, 23, 24, 25, 26, 27, 28, 29, 30, 31, 6, 32, 33, 34, 35, 36, 37, 38, 39, 40, 41, 42, 43, 44, 45, 46, 47, 48, 49, 50, 51, 52, 53, 54, 55, 56, 57, 58, 59, 60, 61, 62, 63, 64, 65, 66, 67, 68] (by decide +kernel) (by decide +kernel)) (goodIn_sub (fun _ h => List.mem_cons_of_mem _ (List.mem_append_right _ h)) (by decide +kernel))
set_option maxRecDepth 20000 in
theorem gX6_current_X6_flowOf : GoodIn wsX6_current (wsV RX6 110 RX6 yX6_flowOf wsX6_flowOf) := goodIn_app (goodIn_of _ (by decide +kernel)) ggX6_current_X6_flowOf
theorem dX6_current_0 : decode cX6_current 0 = .ok (.aload_n 0, 1) := by decide +kernel
theorem dX6_current_1 : decode cX6_current 1 = .ok (.aload_n 0, 1) := by decide +kernel
theorem dX6_current_2 : decode cX6_current 2 = .ok (.iload_n 1, 1) := by decide +kernel
theorem dX6_current_3 : decode cX6_current 3 = .ok (.invokevirtual 113, 3) := by decide +kernel
theorem dX6_current_6 : decode cX6_current 6 = .ok (.invokevirtual 116, 3) := by decide +kernel
theorem dX6_current_9 : decode cX6_current 9 = .ok (.ifCond .eq 11, 3) := by decide +kernel
theorem dX6_current_12 : decode cX6_current 12 = .ok (.aload_n 0, 1) := by decide +kernel
theorem dX6_current_13 : decode cX6_current 13 = .ok (.iload_n 1, 1) := by decide +kernel
theorem dX6_current_14 : decode cX6_current 14 = .ok (.invokevirtual 110, 3) := by decide +kernel
theorem dX6_current_17 : decode cX6_current 17 = .ok (.goto 4, 3) := by decide +kernel
theorem dX6_current_20 : decode cX6_current 20 = .ok (.iconst 0, 1) := by decide +kernel
theorem dX6_current_21 : decode cX6_current 21 = .ok (.ireturn, 1) := by decide +kernel
set_option maxRecDepth 20000 in
theorem ggX6_currentByCutting_X6_current : GoodIn wsX6_currentByCutting wsX6_current := goodIn_ca (goodIn_r _ [5, 6, 7, 8, 4, 9, 10, 11, 12, 13, 14, 15, 16, 17, 18, 19, 20, 21, 22, 23, 24, 25, 26, 27, 28, 29, 30, 31, 32, 33, 34, 35, 36, 37, 38, 39, 40, 41, 42, 43, 44, 45, 46, 47, 48, 49, 50, 51, 52, 53, 54, 55, 56, 57, 58, 59, 60, 61, 62, 63, 64, 65, 66, 67, 68, 69, 70, 71, 72] (by decide +kernel) (by decide +kernel)) (goodIn_sub (fun _ h => List.mem_cons_of_mem _ (List.mem_append_right _ h)) (by decide +kernel))
set_option maxRecDepth 20000 in
theorem gX6_currentByCutting_X6_current : GoodIn wsX6_currentByCutting (wsV RX6 159 RX6 yX6_current wsX6_current) := goodIn_app (goodIn_of _ (by decide +kernel)) ggX6_currentByCutting_X6_current
theorem dX6_currentByCutting_0 : decode cX6_currentByCutting 0 = .ok (.aload_n 0, 1) := by decide +kernel
theorem dX6_currentByCutting_1 : decode cX6_currentByCutting 1 = .ok (.iload_n 1, 1) := by decide +kernel
theorem dX6_currentByCutting_2 : decode cX6_currentByCutting 2 = .ok (.invokevirtual 159, 3) := by decide +kernel
theorem dX6_currentByCutting_5 : decode cX6_currentByCutting 5 = .ok (.ireturn, 1) := by decide +kernel
set_option maxRecDepth 20000 in
theorem ggX6_isFound_X6_isLine : GoodIn wsX6_isFound wsX6_isLine := goodIn_r _ [6, 7, 8, 9, 5, 10, 36, 37, 38, 39, 40, 41, 42, 43, 44, 45, 46, 47, 48, 49, 50, 51, 52, 53, 54, 55, 56, 57, 58, 59, 60, 61, 62] (by decide +kernel) (by decide +kernel)
set_option maxRecDepth 20000 in
theorem gX6_isFound_X6_isLine : GoodIn wsX6_isFound (wsV RX6 113 RX6 yX6_isLine wsX6_isLine) := goodIn_app (goodIn_of _ (by decide +kernel)) ggX6_isFound_X6_isLine
set_option maxRecDepth 20000 in
theorem ggX6_isFound_X6_isThere : GoodIn wsX6_isFound wsX6_isThere := goodIn_r _ [14, 1, 36, 37, 38, 39, 40, 41, 42, 43, 44, 45, 46, 47, 48, 49, 50, 51, 52, 53, 54, 55, 56, 57, 58, 59, 60, 61, 62] (by decide +kernel) (by decide +kernel)
set_option maxRecDepth 20000 in
theorem gX6_isFound_X6_isThere : GoodIn wsX6_isFound (wsV RX6 116 RX6 yX6_isThere wsX6_isThere) := goodIn_app (goodIn_of _ (by decide +kernel)) ggX6_isFound_X6_isThere
set_option maxRecDepth 20000 in
theorem ggX6_isFound_X6_finds : GoodIn wsX6_isFound wsX6_finds := goodIn_ca (goodIn_r _ [18, 19, 20, 21, 22, 23, 24, 7, 25, 26, 27, 28, 29, 5, 30, 31, 32, 33, 34, 35, 36, 37, 38, 39, 40, 41, 42, 43, 44, 45, 46, 47, 48, 49, 50, 51, 52, 53, 54, 55, 56, 57, 58, 59, 60, 61, 62] (by decide +kernel) (by decide +kernel)) (goodIn_sub (fun _ h => List.mem_cons_of_mem _ (List.mem_append_right _ h)) (by decide +kernel))
set_option maxRecDepth 20000 in
theorem gX6_isFound_X6_finds : GoodIn wsX6_isFound (wsV RX6 134 RX6 yX6_finds wsX6_finds) := goodIn_app (goodIn_of _ (by decide +kernel)) ggX6_isFound_X6_finds
theorem dX6_isFound_0 : decode cX6_isFound 0 = .ok (.aload_n 0, 1) := by decide +kernel
theorem dX6_isFound_1 : decode cX6_isFound 1 = .ok (.aload_n 0, 1) := by decide +kernel
theorem dX6_isFound_2 : decode cX6_isFound 2 = .ok (.iload_n 1, 1) := by decide +kernel
theorem dX6_isFound_3 : decode cX6_isFound 3 = .ok (.invokevirtual 113, 3) := by decide +kernel
theorem dX6_isFound_6 : decode cX6_isFound 6 = .ok (.invokevirtual 116, 3) := by decide +kernel
theorem dX6_isFound_9 : decode cX6_isFound 9 = .ok (.ifCond .ne 5, 3) := by decide +kernel
theorem dX6_isFound_12 : decode cX6_isFound 12 = .ok (.iconst 0, 1) := by decide +kernel
theorem dX6_isFound_13 : decode cX6_isFound 13 = .ok (.ireturn, 1) := by decide +kernel
theorem dX6_isFound_14 : decode cX6_isFound 14 = .ok (.aload_n 0, 1) := by decide +kernel
theorem dX6_isFound_15 : decode cX6_isFound 15 = .ok (.aload_n 0, 1) := by decide +kernel
theorem dX6_isFound_16 : decode cX6_isFound 16 = .ok (.iload_n 1, 1) := by decide +kernel
theorem dX6_isFound_17 : decode cX6_isFound 17 = .ok (.invokevirtual 134, 3) := by decide +kernel
theorem dX6_isFound_20 : decode cX6_isFound 20 = .ok (.ifCond .eq 7, 3) := by decide +kernel
theorem dX6_isFound_23 : decode cX6_isFound 23 = .ok (.iconst 0, 1) := by decide +kernel
theorem dX6_isFound_24 : decode cX6_isFound 24 = .ok (.goto 4, 3) := by decide +kernel
theorem dX6_isFound_27 : decode cX6_isFound 27 = .ok (.iconst 2, 1) := by decide +kernel
theorem dX6_isFound_28 : decode cX6_isFound 28 = .ok (.putfield 68, 3) := by decide +kernel
theorem dX6_isFound_31 : decode cX6_isFound 31 = .ok (.aload_n 0, 1) := by decide +kernel
theorem dX6_isFound_32 : decode cX6_isFound 32 = .ok (.getfield 68, 3) := by decide +kernel
theorem dX6_isFound_35 : decode cX6_isFound 35 = .ok (.ifCond .ne 7, 3) := by decide +kernel
theorem dX6_isFound_38 : decode cX6_isFound 38 = .ok (.iconst 1, 1) := by decide +kernel
theorem dX6_isFound_39 : decode cX6_isFound 39 = .ok (.goto 4, 3) := by decide +kernel
theorem dX6_isFound_42 : decode cX6_isFound 42 = .ok (.iconst 0, 1) := by decide +kernel
theorem dX6_isFound_43 : decode cX6_isFound 43 = .ok (.ireturn, 1) := by decide +kernel
set_option maxRecDepth 20000 in
theorem ggX6_distance_X6_isFound : GoodIn wsX6_distance wsX6_isFound := goodIn_ca (goodIn_r _ [6, 7, 8, 9, 10, 5, 11, 12, 13, 14, 15, 16, 17, 18, 19, 20, 21, 22, 23, 1, 24, 25, 26, 27, 28, 29, 30, 31, 32, 33, 34, 35, 36, 37, 38, 39, 40, 41, 42, 43, 44, 45, 46, 47, 48, 49, 50, 51, 52, 53, 54, 55, 56, 57, 58, 59, 60, 61, 62, 63, 64, 65, 66] (by decide +kernel) (by decide +kernel)) (goodIn_sub (fun _ h => List.mem_cons_of_mem _ (List.mem_append_right _ h)) (by decide +kernel))
set_option maxRecDepth 20000 in
theorem gX6_distance_X6_isFound : GoodIn wsX6_distance (wsV RX6 162 RX6 yX6_isFound wsX6_isFound) := goodIn_app (goodIn_of _ (by decide +kernel)) ggX6_distance_X6_isFound
theorem dX6_distance_0 : decode cX6_distance 0 = .ok (.aload_n 0, 1) := by decide +kernel
theorem dX6_distance_1 : decode cX6_distance 1 = .ok (.iload_n 1, 1) := by decide +kernel
theorem dX6_distance_2 : decode cX6_distance 2 = .ok (.invokevirtual 162, 3) := by decide +kernel
theorem dX6_distance_5 : decode cX6_distance 5 = .ok (.ifCond .eq 10, 3) := by decide +kernel
theorem dX6_distance_8 : decode cX6_distance 8 = .ok (.aload_n 0, 1) := by decide +kernel
theorem dX6_distance_9 : decode cX6_distance 9 = .ok (.getfield 127, 3) := by decide +kernel
theorem dX6_distance_12 : decode cX6_distance 12 = .ok (.goto 4, 3) := by decide +kernel
theorem dX6_distance_15 : decode cX6_distance 15 = .ok (.iconst 0, 1) := by decide +kernel
theorem dX6_distance_16 : decode cX6_distance 16 = .ok (.ireturn, 1) := by decide +kernel
set_option maxRecDepth 20000 in
theorem ggX6_pathAt_X6_isFound : GoodIn wsX6_pathAt wsX6_isFound := goodIn_ca (goodIn_r _ [7, 8, 9, 10, 11, 6, 12, 13, 14, 15, 16, 17, 18, 19, 20, 21, 22, 23, 24, 1, 25, 26, 27, 28, 29, 30, 2, 31, 32, 33, 34, 35, 36, 37, 38, 39, 44, 45, 46, 47, 48, 49, 50, 51, 52, 53, 54, 55, 56, 57, 58, 59, 60, 61, 62, 63, 64, 65, 66, 67, 68, 69, 70] (by decide +kernel) (by decide +kernel)) (goodIn_sub (fun _ h => List.mem_cons_of_mem _ (List.mem_append_right _ h)) (by decide +kernel))
set_option maxRecDepth 20000 in
theorem gX6_pathAt_X6_isFound : GoodIn wsX6_pathAt (wsV RX6 162 RX6 yX6_isFound wsX6_isFound) := goodIn_app (goodIn_of _ (by decide +kernel)) ggX6_pathAt_X6_isFound
set_option maxRecDepth 20000 in
theorem ggX6_pathAt_X6_in : GoodIn wsX6_pathAt wsX6_in := goodIn_r _ [16] (by decide +kernel) (by decide +kernel)
set_option maxRecDepth 20000 in
theorem gX6_pathAt_X6_in : GoodIn wsX6_pathAt (va_wsS RX6 75 yX6_in wsX6_in) := goodIn_app (goodIn_of _ (by decide +kernel)) ggX6_pathAt_X6_in
set_option maxRecDepth 20000 in
theorem ggX6_pathAt_X6_fails : GoodIn wsX6_pathAt wsX6_fails := goodIn_r _ [43, 8, 44, 45, 46, 47, 48, 49, 50, 51, 52, 53, 54, 55, 56, 57, 58, 59, 60, 61, 62, 63, 64, 65, 66, 67, 68, 69, 70] (by decide +kernel) (by decide +kernel)
set_option maxRecDepth 20000 in
theorem gX6_pathAt_X6_fails : GoodIn wsX6_pathAt (wsV RX6 82 RX6 yX6_fails wsX6_fails) := goodIn_app (goodIn_of _ (by decide +kernel)) ggX6_pathAt_X6_fails
theorem dX6_pathAt_0 : decode cX6_pathAt 0 = .ok (.aload_n 0, 1) := by decide +kernel
theorem dX6_pathAt_1 : decode cX6_pathAt 1 = .ok (.iload_n 1, 1) := by decide +kernel
theorem dX6_pathAt_2 : decode cX6_pathAt 2 = .ok (.invokevirtual 162, 3) := by decide +kernel
theorem dX6_pathAt_5 : decode cX6_pathAt 5 = .ok (.ifCond .ne 5, 3) := by decide +kernel
theorem dX6_pathAt_8 : decode cX6_pathAt 8 = .ok (.iconst 0, 1) := by decide +kernel
theorem dX6_pathAt_9 : decode cX6_pathAt 9 = .ok (.ireturn, 1) := by decide +kernel
theorem dX6_pathAt_10 : decode cX6_pathAt 10 = .ok (.iload_n 2, 1) := by decide +kernel
theorem dX6_pathAt_11 : decode cX6_pathAt 11 = .ok (.iconst 0, 1) := by decide +kernel
theorem dX6_pathAt_12 : decode cX6_pathAt 12 = .ok (.aload_n 0, 1) := by decide +kernel
theorem dX6_pathAt_13 : decode cX6_pathAt 13 = .ok (.getfield 127, 3) := by decide +kernel
theorem dX6_pathAt_16 : decode cX6_pathAt 16 = .ok (.iconst 1, 1) := by decide +kernel
theorem dX6_pathAt_17 : decode cX6_pathAt 17 = .ok (.isub, 1) := by decide +kernel
theorem dX6_pathAt_18 : decode cX6_pathAt 18 = .ok (.invokestatic 75, 3) := by decide +kernel
theorem dX6_pathAt_21 : decode cX6_pathAt 21 = .ok (.ifCond .eq 12, 3) := by decide +kernel
theorem dX6_pathAt_24 : decode cX6_pathAt 24 = .ok (.aload_n 0, 1) := by decide +kernel
theorem dX6_pathAt_25 : decode cX6_pathAt 25 = .ok (.getfield 56, 3) := by decide +kernel
theorem dX6_pathAt_28 : decode cX6_pathAt 28 = .ok (.iload_n 2, 1) := by decide +kernel
theorem dX6_pathAt_29 : decode cX6_pathAt 29 = .ok (.iaload, 1) := by decide +kernel
theorem dX6_pathAt_30 : decode cX6_pathAt 30 = .ok (.goto 8, 3) := by decide +kernel
theorem dX6_pathAt_33 : decode cX6_pathAt 33 = .ok (.aload_n 0, 1) := by decide +kernel
theorem dX6_pathAt_34 : decode cX6_pathAt 34 = .ok (.iconst 3, 1) := by decide +kernel
theorem dX6_pathAt_35 : decode cX6_pathAt 35 = .ok (.invokevirtual 82, 3) := by decide +kernel
theorem dX6_pathAt_38 : decode cX6_pathAt 38 = .ok (.ireturn, 1) := by decide +kernel
set_option maxRecDepth 20000 in
theorem ggX6_faultCurrent_X6_isFound : GoodIn wsX6_faultCurrent wsX6_isFound := goodIn_ca (goodIn_r _ [5, 6, 7, 8, 9, 4, 10, 11, 12, 13, 14, 15, 16, 17, 18, 19, 20, 21, 22, 23, 24, 25, 26, 27, 28, 29, 30, 31, 32, 33, 34, 35, 36, 37, 38, 39, 49, 50, 51, 52, 53, 54, 55, 56, 57, 58, 59, 60, 61, 62, 63, 64, 65, 66, 67, 68, 69, 70, 71, 72, 73, 74, 75] (by decide +kernel) (by decide +kernel)) (goodIn_sub (fun _ h => List.mem_cons_of_mem _ (List.mem_append_left _ (List.mem_append_right _ h))) (by decide +kernel))
set_option maxRecDepth 20000 in
theorem gX6_faultCurrent_X6_isFound : GoodIn wsX6_faultCurrent (wsV RX6 162 RX6 yX6_isFound wsX6_isFound) := goodIn_app (goodIn_of _ (by decide +kernel)) ggX6_faultCurrent_X6_isFound
set_option maxRecDepth 20000 in
theorem ggX6_faultCurrent_X6_drawn : GoodIn wsX6_faultCurrent wsX6_drawn := goodIn_ca (goodIn_ca (goodIn_r _ [43, 44, 23, 45, 46, 47, 4, 48, 30, 39, 26, 29, 49, 50, 51, 52, 53, 54, 55, 56, 57, 58, 59, 60, 61, 62, 63, 64, 65, 66, 67, 68, 69, 70, 71, 72, 73, 74, 75] (by decide +kernel) (by decide +kernel)) (goodIn_sub (fun _ h => List.mem_cons_of_mem _ (List.mem_append_left _ (List.mem_append_right _ h))) (by decide +kernel))) (goodIn_sub (fun _ h => List.mem_cons_of_mem _ (List.mem_append_right _ h)) (by decide +kernel))
set_option maxRecDepth 20000 in
theorem gX6_faultCurrent_X6_drawn : GoodIn wsX6_faultCurrent (wsV RX6 137 RX6 yX6_drawn wsX6_drawn) := goodIn_app (goodIn_of _ (by decide +kernel)) ggX6_faultCurrent_X6_drawn
theorem dX6_faultCurrent_0 : decode cX6_faultCurrent 0 = .ok (.aload_n 0, 1) := by decide +kernel
theorem dX6_faultCurrent_1 : decode cX6_faultCurrent 1 = .ok (.iload_n 1, 1) := by decide +kernel
theorem dX6_faultCurrent_2 : decode cX6_faultCurrent 2 = .ok (.invokevirtual 162, 3) := by decide +kernel
theorem dX6_faultCurrent_5 : decode cX6_faultCurrent 5 = .ok (.ifCond .eq 10, 3) := by decide +kernel
theorem dX6_faultCurrent_8 : decode cX6_faultCurrent 8 = .ok (.aload_n 0, 1) := by decide +kernel
theorem dX6_faultCurrent_9 : decode cX6_faultCurrent 9 = .ok (.invokevirtual 137, 3) := by decide +kernel
theorem dX6_faultCurrent_12 : decode cX6_faultCurrent 12 = .ok (.goto 4, 3) := by decide +kernel
theorem dX6_faultCurrent_15 : decode cX6_faultCurrent 15 = .ok (.iconst 0, 1) := by decide +kernel
theorem dX6_faultCurrent_16 : decode cX6_faultCurrent 16 = .ok (.ireturn, 1) := by decide +kernel
set_option maxRecDepth 20000 in
theorem ggX6_tripTime_X6_isLine : GoodIn wsX6_tripTime wsX6_isLine := goodIn_r _ [8, 9, 10, 11, 7, 12, 24, 25, 26, 27, 28, 29, 30, 31, 32, 33, 34, 35, 36, 37, 38, 39, 40, 41, 42, 43, 44, 45, 46, 47, 48, 49, 50] (by decide +kernel) (by decide +kernel)
set_option maxRecDepth 20000 in
theorem gX6_tripTime_X6_isLine : GoodIn wsX6_tripTime (wsV RX6 113 RX6 yX6_isLine wsX6_isLine) := goodIn_app (goodIn_of _ (by decide +kernel)) ggX6_tripTime_X6_isLine
set_option maxRecDepth 20000 in
theorem ggX6_tripTime_X6_fails : GoodIn wsX6_tripTime wsX6_fails := goodIn_r _ [16, 3, 24, 25, 26, 27, 28, 29, 30, 31, 32, 33, 34, 35, 36, 37, 38, 39, 40, 41, 42, 43, 44, 45, 46, 47, 48, 49, 50] (by decide +kernel) (by decide +kernel)
set_option maxRecDepth 20000 in
theorem gX6_tripTime_X6_fails : GoodIn wsX6_tripTime (wsV RX6 82 RX6 yX6_fails wsX6_fails) := goodIn_app (goodIn_of _ (by decide +kernel)) ggX6_tripTime_X6_fails
set_option maxRecDepth 20000 in
theorem ggX6_tripTime_X6_in : GoodIn wsX6_tripTime wsX6_in := goodIn_r _ [12] (by decide +kernel) (by decide +kernel)
set_option maxRecDepth 20000 in
theorem gX6_tripTime_X6_in : GoodIn wsX6_tripTime (va_wsS RX6 75 yX6_in wsX6_in) := goodIn_app (goodIn_of _ (by decide +kernel)) ggX6_tripTime_X6_in
set_option maxRecDepth 20000 in
theorem ggX6_tripTime_X6_time : GoodIn wsX6_tripTime wsX6_time := goodIn_ca (goodIn_ca (goodIn_r _ [20, 21, 22, 23, 24, 25, 26, 27, 28, 29, 30, 31, 32, 33, 34, 35, 36, 37, 38, 39, 40, 41, 42, 43, 44, 45, 46, 47, 48, 49, 50] (by decide +kernel) (by decide +kernel)) (goodIn_sub (fun _ h => List.mem_cons_of_mem _ (List.mem_append_left _ (List.mem_append_right _ h))) (by decide +kernel))) (goodIn_sub (fun _ h => List.mem_cons_of_mem _ (List.mem_append_right _ h)) (by decide +kernel))
set_option maxRecDepth 20000 in
theorem gX6_tripTime_X6_time : GoodIn wsX6_tripTime (wsV RX6 140 RX6 yX6_time wsX6_time) := goodIn_app (goodIn_of _ (by decide +kernel)) ggX6_tripTime_X6_time
theorem dX6_tripTime_0 : decode cX6_tripTime 0 = .ok (.aload_n 0, 1) := by decide +kernel
theorem dX6_tripTime_1 : decode cX6_tripTime 1 = .ok (.iload_n 1, 1) := by decide +kernel
theorem dX6_tripTime_2 : decode cX6_tripTime 2 = .ok (.invokevirtual 113, 3) := by decide +kernel
theorem dX6_tripTime_5 : decode cX6_tripTime 5 = .ok (.ifCond .ne 9, 3) := by decide +kernel
theorem dX6_tripTime_8 : decode cX6_tripTime 8 = .ok (.aload_n 0, 1) := by decide +kernel
theorem dX6_tripTime_9 : decode cX6_tripTime 9 = .ok (.iconst 1, 1) := by decide +kernel
theorem dX6_tripTime_10 : decode cX6_tripTime 10 = .ok (.invokevirtual 82, 3) := by decide +kernel
theorem dX6_tripTime_13 : decode cX6_tripTime 13 = .ok (.ireturn, 1) := by decide +kernel
theorem dX6_tripTime_14 : decode cX6_tripTime 14 = .ok (.iload_n 2, 1) := by decide +kernel
theorem dX6_tripTime_15 : decode cX6_tripTime 15 = .ok (.iconst 1, 1) := by decide +kernel
theorem dX6_tripTime_16 : decode cX6_tripTime 16 = .ok (.ldc 165, 2) := by decide +kernel
theorem dX6_tripTime_18 : decode cX6_tripTime 18 = .ok (.invokestatic 75, 3) := by decide +kernel
theorem dX6_tripTime_21 : decode cX6_tripTime 21 = .ok (.ifCond .ne 9, 3) := by decide +kernel
theorem dX6_tripTime_24 : decode cX6_tripTime 24 = .ok (.aload_n 0, 1) := by decide +kernel
theorem dX6_tripTime_25 : decode cX6_tripTime 25 = .ok (.iconst 2, 1) := by decide +kernel
theorem dX6_tripTime_26 : decode cX6_tripTime 26 = .ok (.invokevirtual 82, 3) := by decide +kernel
theorem dX6_tripTime_29 : decode cX6_tripTime 29 = .ok (.ireturn, 1) := by decide +kernel
theorem dX6_tripTime_30 : decode cX6_tripTime 30 = .ok (.aload_n 0, 1) := by decide +kernel
theorem dX6_tripTime_31 : decode cX6_tripTime 31 = .ok (.getfield 41, 3) := by decide +kernel
theorem dX6_tripTime_34 : decode cX6_tripTime 34 = .ok (.iload_n 1, 1) := by decide +kernel
theorem dX6_tripTime_35 : decode cX6_tripTime 35 = .ok (.baload, 1) := by decide +kernel
theorem dX6_tripTime_36 : decode cX6_tripTime 36 = .ok (.ifCond .ne 9, 3) := by decide +kernel
theorem dX6_tripTime_39 : decode cX6_tripTime 39 = .ok (.aload_n 0, 1) := by decide +kernel
theorem dX6_tripTime_40 : decode cX6_tripTime 40 = .ok (.iconst 3, 1) := by decide +kernel
theorem dX6_tripTime_41 : decode cX6_tripTime 41 = .ok (.invokevirtual 82, 3) := by decide +kernel
theorem dX6_tripTime_44 : decode cX6_tripTime 44 = .ok (.ireturn, 1) := by decide +kernel
theorem dX6_tripTime_45 : decode cX6_tripTime 45 = .ok (.aload_n 0, 1) := by decide +kernel
theorem dX6_tripTime_46 : decode cX6_tripTime 46 = .ok (.iconst 0, 1) := by decide +kernel
theorem dX6_tripTime_47 : decode cX6_tripTime 47 = .ok (.putfield 68, 3) := by decide +kernel
theorem dX6_tripTime_50 : decode cX6_tripTime 50 = .ok (.aload_n 0, 1) := by decide +kernel
theorem dX6_tripTime_51 : decode cX6_tripTime 51 = .ok (.iload_n 1, 1) := by decide +kernel
theorem dX6_tripTime_52 : decode cX6_tripTime 52 = .ok (.iload_n 2, 1) := by decide +kernel
theorem dX6_tripTime_53 : decode cX6_tripTime 53 = .ok (.invokevirtual 140, 3) := by decide +kernel
theorem dX6_tripTime_56 : decode cX6_tripTime 56 = .ok (.ireturn, 1) := by decide +kernel
set_option maxRecDepth 20000 in
theorem ggX6_wouldTrip_X6_isLine : GoodIn wsX6_wouldTrip wsX6_isLine := goodIn_r _ [5, 6, 7, 8, 4, 9, 57, 58, 59, 60, 61, 62, 63, 64, 65, 66, 67, 68, 69, 70, 71, 72, 73, 74, 75, 76, 77, 78, 79, 80, 81, 82, 83] (by decide +kernel) (by decide +kernel)
set_option maxRecDepth 20000 in
theorem gX6_wouldTrip_X6_isLine : GoodIn wsX6_wouldTrip (wsV RX6 113 RX6 yX6_isLine wsX6_isLine) := goodIn_app (goodIn_of _ (by decide +kernel)) ggX6_wouldTrip_X6_isLine
set_option maxRecDepth 20000 in
theorem ggX6_wouldTrip_X6_isThere : GoodIn wsX6_wouldTrip wsX6_isThere := goodIn_r _ [13, 14, 57, 58, 59, 60, 61, 62, 63, 64, 65, 66, 67, 68, 69, 70, 71, 72, 73, 74, 75, 76, 77, 78, 79, 80, 81, 82, 83] (by decide +kernel) (by decide +kernel)
set_option maxRecDepth 20000 in
theorem gX6_wouldTrip_X6_isThere : GoodIn wsX6_wouldTrip (wsV RX6 116 RX6 yX6_isThere wsX6_isThere) := goodIn_app (goodIn_of _ (by decide +kernel)) ggX6_wouldTrip_X6_isThere
set_option maxRecDepth 20000 in
theorem ggX6_wouldTrip_X6_tripped : GoodIn wsX6_wouldTrip wsX6_tripped := goodIn_ca (goodIn_ca (goodIn_r _ [18, 19, 20, 21, 22, 23, 24, 4, 25, 26, 27, 28, 29, 30, 6, 31, 32, 33, 34, 35, 36, 37, 38, 39, 40, 41, 42, 43, 44, 45, 46, 47, 48, 49, 50, 51, 52, 53, 54, 55, 56, 57, 58, 59, 60, 61, 62, 63, 64, 65, 66, 67, 68, 69, 70, 71, 72, 73, 74, 75, 76, 77, 78, 79, 80, 81, 82, 83] (by decide +kernel) (by decide +kernel)) (goodIn_sub (fun _ h => List.mem_cons_of_mem _ (List.mem_append_left _ (List.mem_append_right _ h))) (by decide +kernel))) (goodIn_sub (fun _ h => List.mem_cons_of_mem _ (List.mem_append_right _ h)) (by decide +kernel))
set_option maxRecDepth 20000 in
theorem gX6_wouldTrip_X6_tripped : GoodIn wsX6_wouldTrip (wsV RX6 143 RX6 yX6_tripped wsX6_tripped) := goodIn_app (goodIn_of _ (by decide +kernel)) ggX6_wouldTrip_X6_tripped
theorem dX6_wouldTrip_0 : decode cX6_wouldTrip 0 = .ok (.aload_n 0, 1) := by decide +kernel
theorem dX6_wouldTrip_1 : decode cX6_wouldTrip 1 = .ok (.aload_n 0, 1) := by decide +kernel
theorem dX6_wouldTrip_2 : decode cX6_wouldTrip 2 = .ok (.iload_n 1, 1) := by decide +kernel
theorem dX6_wouldTrip_3 : decode cX6_wouldTrip 3 = .ok (.invokevirtual 113, 3) := by decide +kernel
theorem dX6_wouldTrip_6 : decode cX6_wouldTrip 6 = .ok (.invokevirtual 116, 3) := by decide +kernel
theorem dX6_wouldTrip_9 : decode cX6_wouldTrip 9 = .ok (.ifCond .eq 11, 3) := by decide +kernel
theorem dX6_wouldTrip_12 : decode cX6_wouldTrip 12 = .ok (.aload_n 0, 1) := by decide +kernel
theorem dX6_wouldTrip_13 : decode cX6_wouldTrip 13 = .ok (.iload_n 1, 1) := by decide +kernel
theorem dX6_wouldTrip_14 : decode cX6_wouldTrip 14 = .ok (.invokevirtual 143, 3) := by decide +kernel
theorem dX6_wouldTrip_17 : decode cX6_wouldTrip 17 = .ok (.goto 4, 3) := by decide +kernel
theorem dX6_wouldTrip_20 : decode cX6_wouldTrip 20 = .ok (.iconst 0, 1) := by decide +kernel
theorem dX6_wouldTrip_21 : decode cX6_wouldTrip 21 = .ok (.ireturn, 1) := by decide +kernel
set_option maxRecDepth 20000 in
theorem ggX6_tripsItself_X6_tripped : GoodIn wsX6_tripsItself wsX6_tripped := goodIn_ca (goodIn_ca (goodIn_r _ [6, 7, 8, 1, 9, 10, 11, 5, 12, 13, 14, 15, 16, 17, 18, 19, 20, 21, 22, 23, 24, 25, 26, 27, 28, 29, 30, 31, 32, 33, 34, 35, 36, 37, 38, 39, 40, 41, 42, 43, 44, 45, 46, 47, 48, 49, 50, 51, 52, 53, 54, 55, 56, 57, 58, 59, 60, 61, 62, 63, 64, 65, 66, 67, 68, 69, 70, 71] (by decide +kernel) (by decide +kernel)) (goodIn_sub (fun _ h => List.mem_cons_of_mem _ (List.mem_append_left _ (List.mem_append_right _ h))) (by decide +kernel))) (goodIn_sub (fun _ h => List.mem_cons_of_mem _ (List.mem_append_right _ h)) (by decide +kernel))
set_option maxRecDepth 20000 in
theorem gX6_tripsItself_X6_tripped : GoodIn wsX6_tripsItself (wsV RX6 143 RX6 yX6_tripped wsX6_tripped) := goodIn_app (goodIn_of _ (by decide +kernel)) ggX6_tripsItself_X6_tripped
theorem dX6_tripsItself_0 : decode cX6_tripsItself 0 = .ok (.aload_n 0, 1) := by decide +kernel
theorem dX6_tripsItself_1 : decode cX6_tripsItself 1 = .ok (.getfield 41, 3) := by decide +kernel
theorem dX6_tripsItself_4 : decode cX6_tripsItself 4 = .ok (.iload_n 1, 1) := by decide +kernel
theorem dX6_tripsItself_5 : decode cX6_tripsItself 5 = .ok (.baload, 1) := by decide +kernel
theorem dX6_tripsItself_6 : decode cX6_tripsItself 6 = .ok (.ifCond .eq 16, 3) := by decide +kernel
theorem dX6_tripsItself_9 : decode cX6_tripsItself 9 = .ok (.aload_n 0, 1) := by decide +kernel
theorem dX6_tripsItself_10 : decode cX6_tripsItself 10 = .ok (.iload_n 1, 1) := by decide +kernel
theorem dX6_tripsItself_11 : decode cX6_tripsItself 11 = .ok (.invokevirtual 143, 3) := by decide +kernel
theorem dX6_tripsItself_14 : decode cX6_tripsItself 14 = .ok (.iload_n 1, 1) := by decide +kernel
theorem dX6_tripsItself_15 : decode cX6_tripsItself 15 = .ok (.if_icmp .ne 7, 3) := by decide +kernel
theorem dX6_tripsItself_18 : decode cX6_tripsItself 18 = .ok (.iconst 1, 1) := by decide +kernel
theorem dX6_tripsItself_19 : decode cX6_tripsItself 19 = .ok (.goto 4, 3) := by decide +kernel
theorem dX6_tripsItself_22 : decode cX6_tripsItself 22 = .ok (.iconst 0, 1) := by decide +kernel
theorem dX6_tripsItself_23 : decode cX6_tripsItself 23 = .ok (.ireturn, 1) := by decide +kernel
set_option maxRecDepth 20000 in
theorem ggX6_isSelective_X6_isLine : GoodIn wsX6_isSelective wsX6_isLine := goodIn_r _ [5, 6, 7, 8, 4, 9, 61, 62, 63, 64, 65, 66, 67, 68, 69, 70, 71, 72, 73, 74, 75, 76, 77, 78, 79, 80, 81, 82, 83, 84, 85, 86, 87] (by decide +kernel) (by decide +kernel)
set_option maxRecDepth 20000 in
theorem gX6_isSelective_X6_isLine : GoodIn wsX6_isSelective (wsV RX6 113 RX6 yX6_isLine wsX6_isLine) := goodIn_app (goodIn_of _ (by decide +kernel)) ggX6_isSelective_X6_isLine
set_option maxRecDepth 20000 in
theorem ggX6_isSelective_X6_isThere : GoodIn wsX6_isSelective wsX6_isThere := goodIn_r _ [13, 14, 61, 62, 63, 64, 65, 66, 67, 68, 69, 70, 71, 72, 73, 74, 75, 76, 77, 78, 79, 80, 81, 82, 83, 84, 85, 86, 87] (by decide +kernel) (by decide +kernel)
set_option maxRecDepth 20000 in
theorem gX6_isSelective_X6_isThere : GoodIn wsX6_isSelective (wsV RX6 116 RX6 yX6_isThere wsX6_isThere) := goodIn_app (goodIn_of _ (by decide +kernel)) ggX6_isSelective_X6_isThere
set_option maxRecDepth 20000 in
theorem ggX6_isSelective_X6_tripsItself : GoodIn wsX6_isSelective wsX6_tripsItself := goodIn_ca (goodIn_ca (goodIn_r _ [18, 19, 20, 21, 22, 4, 23, 24, 25, 26, 27, 28, 29, 30, 31, 32, 33, 34, 6, 35, 36, 37, 38, 39, 40, 41, 42, 43, 44, 45, 46, 47, 48, 49, 50, 51, 52, 53, 54, 55, 56, 57, 58, 59, 60, 61, 62, 63, 64, 65, 66, 67, 68, 69, 70, 71, 72, 73, 74, 75, 76, 77, 78, 79, 80, 81, 82, 83, 84, 85, 86, 87] (by decide +kernel) (by decide +kernel)) (goodIn_sub (fun _ h => List.mem_cons_of_mem _ (List.mem_append_left _ (List.mem_append_right _ h))) (by decide +kernel))) (goodIn_sub (fun _ h => List.mem_cons_of_mem _ (List.mem_append_right _ h)) (by decide +kernel))
set_option maxRecDepth 20000 in
theorem gX6_isSelective_X6_tripsItself : GoodIn wsX6_isSelective (wsV RX6 166 RX6 yX6_tripsItself wsX6_tripsItself) := goodIn_app (goodIn_of _ (by decide +kernel)) ggX6_isSelective_X6_tripsItself
theorem dX6_isSelective_0 : decode cX6_isSelective 0 = .ok (.aload_n 0, 1) := by decide +kernel
theorem dX6_isSelective_1 : decode cX6_isSelective 1 = .ok (.aload_n 0, 1) := by decide +kernel
theorem dX6_isSelective_2 : decode cX6_isSelective 2 = .ok (.iload_n 1, 1) := by decide +kernel
theorem dX6_isSelective_3 : decode cX6_isSelective 3 = .ok (.invokevirtual 113, 3) := by decide +kernel
theorem dX6_isSelective_6 : decode cX6_isSelective 6 = .ok (.invokevirtual 116, 3) := by decide +kernel
theorem dX6_isSelective_9 : decode cX6_isSelective 9 = .ok (.ifCond .eq 15, 3) := by decide +kernel
theorem dX6_isSelective_12 : decode cX6_isSelective 12 = .ok (.aload_n 0, 1) := by decide +kernel
theorem dX6_isSelective_13 : decode cX6_isSelective 13 = .ok (.iload_n 1, 1) := by decide +kernel
theorem dX6_isSelective_14 : decode cX6_isSelective 14 = .ok (.invokevirtual 166, 3) := by decide +kernel
theorem dX6_isSelective_17 : decode cX6_isSelective 17 = .ok (.ifCond .eq 7, 3) := by decide +kernel
theorem dX6_isSelective_20 : decode cX6_isSelective 20 = .ok (.iconst 1, 1) := by decide +kernel
theorem dX6_isSelective_21 : decode cX6_isSelective 21 = .ok (.goto 4, 3) := by decide +kernel
theorem dX6_isSelective_24 : decode cX6_isSelective 24 = .ok (.iconst 0, 1) := by decide +kernel
theorem dX6_isSelective_25 : decode cX6_isSelective 25 = .ok (.ireturn, 1) := by decide +kernel
set_option maxRecDepth 20000 in
theorem ggX6_margin_X6_isLine : GoodIn wsX6_margin wsX6_isLine := goodIn_r _ [8, 9, 10, 11, 7, 12, 65, 66, 67, 68, 69, 70, 71, 72, 73, 74, 75, 76, 77, 78, 79, 80, 81, 82, 83, 84, 85, 86, 87, 88, 89, 90, 91] (by decide +kernel) (by decide +kernel)
set_option maxRecDepth 20000 in
theorem gX6_margin_X6_isLine : GoodIn wsX6_margin (wsV RX6 113 RX6 yX6_isLine wsX6_isLine) := goodIn_app (goodIn_of _ (by decide +kernel)) ggX6_margin_X6_isLine
set_option maxRecDepth 20000 in
theorem ggX6_margin_X6_isThere : GoodIn wsX6_margin wsX6_isThere := goodIn_r _ [16, 17, 65, 66, 67, 68, 69, 70, 71, 72, 73, 74, 75, 76, 77, 78, 79, 80, 81, 82, 83, 84, 85, 86, 87, 88, 89, 90, 91] (by decide +kernel) (by decide +kernel)
set_option maxRecDepth 20000 in
theorem gX6_margin_X6_isThere : GoodIn wsX6_margin (wsV RX6 116 RX6 yX6_isThere wsX6_isThere) := goodIn_app (goodIn_of _ (by decide +kernel)) ggX6_margin_X6_isThere
set_option maxRecDepth 20000 in
theorem ggX6_margin_X6_tripsItself : GoodIn wsX6_margin wsX6_tripsItself := goodIn_ca (goodIn_ca (goodIn_r _ [21, 3, 22, 23, 24, 7, 25, 1, 2, 26, 27, 28, 29, 30, 31, 32, 33, 34, 9, 35, 36, 37, 38, 39, 40, 41, 42, 43, 44, 45, 46, 47, 48, 49, 50, 51, 52, 53, 54, 55, 56, 57, 58, 59, 60, 65, 66, 67, 68, 69, 70, 71, 72, 73, 74, 75, 76, 77, 78, 79, 80, 81, 82, 83, 84, 85, 86, 87, 88, 89, 90, 91] (by decide +kernel) (by decide +kernel)) (goodIn_sub (fun _ h => List.mem_cons_of_mem _ (List.mem_append_left _ (List.mem_append_right _ h))) (by decide +kernel))) (goodIn_sub (fun _ h => List.mem_cons_of_mem _ (List.mem_append_right _ h)) (by decide +kernel))
set_option maxRecDepth 20000 in
theorem gX6_margin_X6_tripsItself : GoodIn wsX6_margin (wsV RX6 166 RX6 yX6_tripsItself wsX6_tripsItself) := goodIn_app (goodIn_of _ (by decide +kernel)) ggX6_margin_X6_tripsItself
set_option maxRecDepth 20000 in
theorem ggX6_margin_X6_fails : GoodIn wsX6_margin wsX6_fails := goodIn_r _ [64, 17, 65, 66, 67, 68, 69, 70, 71, 72, 73, 74, 75, 76, 77, 78, 79, 80, 81, 82, 83, 84, 85, 86, 87, 88, 89, 90, 91] (by decide +kernel) (by decide +kernel)
set_option maxRecDepth 20000 in
theorem gX6_margin_X6_fails : GoodIn wsX6_margin (wsV RX6 82 RX6 yX6_fails wsX6_fails) := goodIn_app (goodIn_of _ (by decide +kernel)) ggX6_margin_X6_fails
set_option maxRecDepth 20000 in
theorem ggX6_margin_X6_drawn : GoodIn wsX6_margin wsX6_drawn := goodIn_ca (goodIn_ca (goodIn_r _ [48, 49, 1, 50, 51, 52, 7, 53, 2, 44, 32, 35, 65, 66, 67, 68, 69, 70, 71, 72, 73, 74, 75, 76, 77, 78, 79, 80, 81, 82, 83, 84, 85, 86, 87, 88, 89, 90, 91] (by decide +kernel) (by decide +kernel)) (goodIn_sub (fun _ h => List.mem_cons_of_mem _ (List.mem_append_left _ (List.mem_append_right _ h))) (by decide +kernel))) (goodIn_sub (fun _ h => List.mem_cons_of_mem _ (List.mem_append_right _ h)) (by decide +kernel))
set_option maxRecDepth 20000 in
theorem gX6_margin_X6_drawn : GoodIn wsX6_margin (wsV RX6 137 RX6 yX6_drawn wsX6_drawn) := goodIn_app (goodIn_of _ (by decide +kernel)) ggX6_margin_X6_drawn
set_option maxRecDepth 20000 in
theorem ggX6_margin_X6_time : GoodIn wsX6_margin wsX6_time := goodIn_ca (goodIn_ca (goodIn_r _ [57, 58, 59, 60, 65, 66, 67, 68, 69, 70, 71, 72, 73, 74, 75, 76, 77, 78, 79, 80, 81, 82, 83, 84, 85, 86, 87, 88, 89, 90, 91] (by decide +kernel) (by decide +kernel)) (goodIn_sub (fun _ h => List.mem_cons_of_mem _ (List.mem_append_left _ (List.mem_append_right _ h))) (by decide +kernel))) (goodIn_sub (fun _ h => List.mem_cons_of_mem _ (List.mem_append_right _ h)) (by decide +kernel))
set_option maxRecDepth 20000 in
theorem gX6_margin_X6_time : GoodIn wsX6_margin (wsV RX6 140 RX6 yX6_time wsX6_time) := goodIn_app (goodIn_of _ (by decide +kernel)) ggX6_margin_X6_time
theorem dX6_margin_0 : decode cX6_margin 0 = .ok (.aload_n 0, 1) := by decide +kernel
theorem dX6_margin_1 : decode cX6_margin 1 = .ok (.aload_n 0, 1) := by decide +kernel
theorem dX6_margin_2 : decode cX6_margin 2 = .ok (.iload_n 1, 1) := by decide +kernel
theorem dX6_margin_3 : decode cX6_margin 3 = .ok (.invokevirtual 113, 3) := by decide +kernel
theorem dX6_margin_6 : decode cX6_margin 6 = .ok (.invokevirtual 116, 3) := by decide +kernel
theorem dX6_margin_9 : decode cX6_margin 9 = .ok (.ifCond .ne 5, 3) := by decide +kernel
theorem dX6_margin_12 : decode cX6_margin 12 = .ok (.iconst 0, 1) := by decide +kernel
theorem dX6_margin_13 : decode cX6_margin 13 = .ok (.ireturn, 1) := by decide +kernel
theorem dX6_margin_14 : decode cX6_margin 14 = .ok (.aload_n 0, 1) := by decide +kernel
theorem dX6_margin_15 : decode cX6_margin 15 = .ok (.iload_n 1, 1) := by decide +kernel
theorem dX6_margin_16 : decode cX6_margin 16 = .ok (.invokevirtual 166, 3) := by decide +kernel
theorem dX6_margin_19 : decode cX6_margin 19 = .ok (.ifCond .ne 9, 3) := by decide +kernel
theorem dX6_margin_22 : decode cX6_margin 22 = .ok (.aload_n 0, 1) := by decide +kernel
theorem dX6_margin_23 : decode cX6_margin 23 = .ok (.iconst 2, 1) := by decide +kernel
theorem dX6_margin_24 : decode cX6_margin 24 = .ok (.invokevirtual 82, 3) := by decide +kernel
theorem dX6_margin_27 : decode cX6_margin 27 = .ok (.ireturn, 1) := by decide +kernel
theorem dX6_margin_28 : decode cX6_margin 28 = .ok (.iconst (-1), 1) := by decide +kernel
theorem dX6_margin_29 : decode cX6_margin 29 = .ok (.istore_n 2, 1) := by decide +kernel
theorem dX6_margin_30 : decode cX6_margin 30 = .ok (.iconst 0, 1) := by decide +kernel
theorem dX6_margin_31 : decode cX6_margin 31 = .ok (.istore_n 3, 1) := by decide +kernel
theorem dX6_margin_32 : decode cX6_margin 32 = .ok (.iload_n 3, 1) := by decide +kernel
theorem dX6_margin_33 : decode cX6_margin 33 = .ok (.aload_n 0, 1) := by decide +kernel
theorem dX6_margin_34 : decode cX6_margin 34 = .ok (.getfield 127, 3) := by decide +kernel
theorem dX6_margin_37 : decode cX6_margin 37 = .ok (.if_icmp .ge 69, 3) := by decide +kernel
theorem dX6_margin_40 : decode cX6_margin 40 = .ok (.aload_n 0, 1) := by decide +kernel
theorem dX6_margin_41 : decode cX6_margin 41 = .ok (.getfield 56, 3) := by decide +kernel
theorem dX6_margin_44 : decode cX6_margin 44 = .ok (.iload_n 3, 1) := by decide +kernel
theorem dX6_margin_45 : decode cX6_margin 45 = .ok (.iaload, 1) := by decide +kernel
theorem dX6_margin_46 : decode cX6_margin 46 = .ok (.istore 4, 2) := by decide +kernel
theorem dX6_margin_48 : decode cX6_margin 48 = .ok (.iload 4, 2) := by decide +kernel
theorem dX6_margin_50 : decode cX6_margin 50 = .ok (.iload_n 1, 1) := by decide +kernel
theorem dX6_margin_51 : decode cX6_margin 51 = .ok (.if_icmp .eq 26, 3) := by decide +kernel
theorem dX6_margin_54 : decode cX6_margin 54 = .ok (.aload_n 0, 1) := by decide +kernel
theorem dX6_margin_55 : decode cX6_margin 55 = .ok (.getfield 41, 3) := by decide +kernel
theorem dX6_margin_58 : decode cX6_margin 58 = .ok (.iload 4, 2) := by decide +kernel
theorem dX6_margin_60 : decode cX6_margin 60 = .ok (.baload, 1) := by decide +kernel
theorem dX6_margin_61 : decode cX6_margin 61 = .ok (.ifCond .eq 16, 3) := by decide +kernel
theorem dX6_margin_64 : decode cX6_margin 64 = .ok (.aload_n 0, 1) := by decide +kernel
theorem dX6_margin_65 : decode cX6_margin 65 = .ok (.iload 4, 2) := by decide +kernel
theorem dX6_margin_67 : decode cX6_margin 67 = .ok (.aload_n 0, 1) := by decide +kernel
theorem dX6_margin_68 : decode cX6_margin 68 = .ok (.invokevirtual 137, 3) := by decide +kernel
theorem dX6_margin_71 : decode cX6_margin 71 = .ok (.invokevirtual 140, 3) := by decide +kernel
theorem dX6_margin_74 : decode cX6_margin 74 = .ok (.goto 4, 3) := by decide +kernel
theorem dX6_margin_77 : decode cX6_margin 77 = .ok (.iconst (-1), 1) := by decide +kernel
theorem dX6_margin_78 : decode cX6_margin 78 = .ok (.istore 5, 2) := by decide +kernel
theorem dX6_margin_80 : decode cX6_margin 80 = .ok (.iload 5, 2) := by decide +kernel
theorem dX6_margin_82 : decode cX6_margin 82 = .ok (.iconst (-1), 1) := by decide +kernel
theorem dX6_margin_83 : decode cX6_margin 83 = .ok (.if_icmp .eq 17, 3) := by decide +kernel
theorem dX6_margin_86 : decode cX6_margin 86 = .ok (.iload_n 2, 1) := by decide +kernel
theorem dX6_margin_87 : decode cX6_margin 87 = .ok (.iconst (-1), 1) := by decide +kernel
theorem dX6_margin_88 : decode cX6_margin 88 = .ok (.if_icmp .eq 9, 3) := by decide +kernel
theorem dX6_margin_91 : decode cX6_margin 91 = .ok (.iload 5, 2) := by decide +kernel
theorem dX6_margin_93 : decode cX6_margin 93 = .ok (.iload_n 2, 1) := by decide +kernel
theorem dX6_margin_94 : decode cX6_margin 94 = .ok (.if_icmp .ge 6, 3) := by decide +kernel
theorem dX6_margin_97 : decode cX6_margin 97 = .ok (.iload 5, 2) := by decide +kernel
theorem dX6_margin_99 : decode cX6_margin 99 = .ok (.istore_n 2, 1) := by decide +kernel
theorem dX6_margin_100 : decode cX6_margin 100 = .ok (.iinc 3 1, 3) := by decide +kernel
theorem dX6_margin_103 : decode cX6_margin 103 = .ok (.goto (-71), 3) := by decide +kernel
theorem dX6_margin_106 : decode cX6_margin 106 = .ok (.iload_n 2, 1) := by decide +kernel
theorem dX6_margin_107 : decode cX6_margin 107 = .ok (.iconst (-1), 1) := by decide +kernel
theorem dX6_margin_108 : decode cX6_margin 108 = .ok (.if_icmp .ne 11, 3) := by decide +kernel
theorem dX6_margin_111 : decode cX6_margin 111 = .ok (.aload_n 0, 1) := by decide +kernel
theorem dX6_margin_112 : decode cX6_margin 112 = .ok (.iconst 3, 1) := by decide +kernel
theorem dX6_margin_113 : decode cX6_margin 113 = .ok (.invokevirtual 82, 3) := by decide +kernel
theorem dX6_margin_116 : decode cX6_margin 116 = .ok (.goto 14, 3) := by decide +kernel
theorem dX6_margin_119 : decode cX6_margin 119 = .ok (.iload_n 2, 1) := by decide +kernel
theorem dX6_margin_120 : decode cX6_margin 120 = .ok (.aload_n 0, 1) := by decide +kernel
theorem dX6_margin_121 : decode cX6_margin 121 = .ok (.iload_n 1, 1) := by decide +kernel
theorem dX6_margin_122 : decode cX6_margin 122 = .ok (.aload_n 0, 1) := by decide +kernel
theorem dX6_margin_123 : decode cX6_margin 123 = .ok (.invokevirtual 137, 3) := by decide +kernel
theorem dX6_margin_126 : decode cX6_margin 126 = .ok (.invokevirtual 140, 3) := by decide +kernel
theorem dX6_margin_129 : decode cX6_margin 129 = .ok (.isub, 1) := by decide +kernel
theorem dX6_margin_130 : decode cX6_margin 130 = .ok (.ireturn, 1) := by decide +kernel
theorem dX6_trips_0 : decode cX6_trips 0 = .ok (.aload_n 0, 1) := by decide +kernel
theorem dX6_trips_1 : decode cX6_trips 1 = .ok (.iconst 0, 1) := by decide +kernel
theorem dX6_trips_2 : decode cX6_trips 2 = .ok (.putfield 68, 3) := by decide +kernel
theorem dX6_trips_5 : decode cX6_trips 5 = .ok (.aload_n 0, 1) := by decide +kernel
theorem dX6_trips_6 : decode cX6_trips 6 = .ok (.getfield 150, 3) := by decide +kernel
theorem dX6_trips_9 : decode cX6_trips 9 = .ok (.ireturn, 1) := by decide +kernel
set_option maxRecDepth 20000 in
theorem ggX6_loads_X6_paints : GoodIn wsX6_loads wsX6_paints := goodIn_ca (goodIn_r _ [8, 1, 2, 9, 10, 11, 12, 18, 19, 20, 21, 22, 23, 24, 25, 26, 27, 28, 29, 30, 31, 32, 33, 34, 35, 36, 37, 38, 39, 40, 41, 42, 43, 44] (by decide +kernel) (by decide +kernel)) (goodIn_sub (fun _ h => List.mem_cons_of_mem _ (List.mem_append_right _ h)) (by decide +kernel))
set_option maxRecDepth 20000 in
theorem gX6_loads_X6_paints : GoodIn wsX6_loads (wsV RX6 90 RX6 yX6_paints wsX6_paints) := goodIn_app (goodIn_of _ (by decide +kernel)) ggX6_loads_X6_paints
set_option maxRecDepth 20000 in
theorem ggX6_loads_X6_source : GoodIn wsX6_loads wsX6_source := goodIn_ca (goodIn_r _ [16, 1, 17, 2, 18, 19, 20, 21, 22, 23, 24, 25, 26, 27, 28, 29, 30, 31, 32, 33, 34, 35, 36, 37, 38, 39, 40, 41, 42, 43, 44] (by decide +kernel) (by decide +kernel)) (goodIn_sub (fun _ h => List.mem_cons_of_mem _ (List.mem_append_right _ h)) (by decide +kernel))
set_option maxRecDepth 20000 in
theorem gX6_loads_X6_source : GoodIn wsX6_loads (wsV RX6 94 RX6 yX6_source wsX6_source) := goodIn_app (goodIn_of _ (by decide +kernel)) ggX6_loads_X6_source
theorem dX6_loads_0 : decode cX6_loads 0 = .ok (.aload_n 0, 1) := by decide +kernel
theorem dX6_loads_1 : decode cX6_loads 1 = .ok (.iconst (-1), 1) := by decide +kernel
theorem dX6_loads_2 : decode cX6_loads 2 = .ok (.iconst (-1), 1) := by decide +kernel
theorem dX6_loads_3 : decode cX6_loads 3 = .ok (.invokevirtual 90, 3) := by decide +kernel
theorem dX6_loads_6 : decode cX6_loads 6 = .ok (.iconst 0, 1) := by decide +kernel
theorem dX6_loads_7 : decode cX6_loads 7 = .ok (.istore_n 2, 1) := by decide +kernel
theorem dX6_loads_8 : decode cX6_loads 8 = .ok (.iconst 0, 1) := by decide +kernel
theorem dX6_loads_9 : decode cX6_loads 9 = .ok (.istore_n 3, 1) := by decide +kernel
theorem dX6_loads_10 : decode cX6_loads 10 = .ok (.iload_n 3, 1) := by decide +kernel
theorem dX6_loads_11 : decode cX6_loads 11 = .ok (.aload_n 0, 1) := by decide +kernel
theorem dX6_loads_12 : decode cX6_loads 12 = .ok (.getfield 72, 3) := by decide +kernel
theorem dX6_loads_15 : decode cX6_loads 15 = .ok (.if_icmp .ge 40, 3) := by decide +kernel
theorem dX6_loads_18 : decode cX6_loads 18 = .ok (.iload_n 2, 1) := by decide +kernel
theorem dX6_loads_19 : decode cX6_loads 19 = .ok (.iload_n 1, 1) := by decide +kernel
theorem dX6_loads_20 : decode cX6_loads 20 = .ok (.ifCond .eq 21, 3) := by decide +kernel
theorem dX6_loads_23 : decode cX6_loads 23 = .ok (.aload_n 0, 1) := by decide +kernel
theorem dX6_loads_24 : decode cX6_loads 24 = .ok (.aload_n 0, 1) := by decide +kernel
theorem dX6_loads_25 : decode cX6_loads 25 = .ok (.getfield 53, 3) := by decide +kernel
theorem dX6_loads_28 : decode cX6_loads 28 = .ok (.iload_n 3, 1) := by decide +kernel
theorem dX6_loads_29 : decode cX6_loads 29 = .ok (.iaload, 1) := by decide +kernel
theorem dX6_loads_30 : decode cX6_loads 30 = .ok (.invokevirtual 94, 3) := by decide +kernel
theorem dX6_loads_33 : decode cX6_loads 33 = .ok (.iconst (-1), 1) := by decide +kernel
theorem dX6_loads_34 : decode cX6_loads 34 = .ok (.if_icmp .eq 7, 3) := by decide +kernel
theorem dX6_loads_37 : decode cX6_loads 37 = .ok (.iconst 0, 1) := by decide +kernel
theorem dX6_loads_38 : decode cX6_loads 38 = .ok (.goto 9, 3) := by decide +kernel
theorem dX6_loads_41 : decode cX6_loads 41 = .ok (.aload_n 0, 1) := by decide +kernel
theorem dX6_loads_42 : decode cX6_loads 42 = .ok (.getfield 17, 3) := by decide +kernel
theorem dX6_loads_45 : decode cX6_loads 45 = .ok (.iload_n 3, 1) := by decide +kernel
theorem dX6_loads_46 : decode cX6_loads 46 = .ok (.iaload, 1) := by decide +kernel
theorem dX6_loads_47 : decode cX6_loads 47 = .ok (.iadd, 1) := by decide +kernel
theorem dX6_loads_48 : decode cX6_loads 48 = .ok (.istore_n 2, 1) := by decide +kernel
theorem dX6_loads_49 : decode cX6_loads 49 = .ok (.iinc 3 1, 3) := by decide +kernel
theorem dX6_loads_52 : decode cX6_loads 52 = .ok (.goto (-42), 3) := by decide +kernel
theorem dX6_loads_55 : decode cX6_loads 55 = .ok (.iload_n 2, 1) := by decide +kernel
theorem dX6_loads_56 : decode cX6_loads 56 = .ok (.ireturn, 1) := by decide +kernel
set_option maxRecDepth 20000 in
theorem ggX6_darkLoad_X6_loads : GoodIn wsX6_darkLoad wsX6_loads := goodIn_ca (goodIn_r _ [6, 7, 8, 9, 10, 11, 12, 5, 13, 14, 15, 16, 17, 18, 19, 20, 21, 22, 23, 24, 25, 26, 27, 28, 29, 30, 31, 32, 33, 34, 35, 36, 37, 38, 39, 40, 41, 42, 43, 44, 45, 46, 47, 48, 49] (by decide +kernel) (by decide +kernel)) (goodIn_sub (fun _ h => List.mem_cons_of_mem _ (List.mem_append_right _ h)) (by decide +kernel))
set_option maxRecDepth 20000 in
theorem gX6_darkLoad_X6_loads : GoodIn wsX6_darkLoad (wsV RX6 169 RX6 yX6_loads wsX6_loads) := goodIn_app (goodIn_of _ (by decide +kernel)) ggX6_darkLoad_X6_loads
theorem dX6_darkLoad_0 : decode cX6_darkLoad 0 = .ok (.aload_n 0, 1) := by decide +kernel
theorem dX6_darkLoad_1 : decode cX6_darkLoad 1 = .ok (.iconst 0, 1) := by decide +kernel
theorem dX6_darkLoad_2 : decode cX6_darkLoad 2 = .ok (.putfield 68, 3) := by decide +kernel
theorem dX6_darkLoad_5 : decode cX6_darkLoad 5 = .ok (.aload_n 0, 1) := by decide +kernel
theorem dX6_darkLoad_6 : decode cX6_darkLoad 6 = .ok (.iconst 1, 1) := by decide +kernel
theorem dX6_darkLoad_7 : decode cX6_darkLoad 7 = .ok (.invokevirtual 169, 3) := by decide +kernel
theorem dX6_darkLoad_10 : decode cX6_darkLoad 10 = .ok (.ireturn, 1) := by decide +kernel
theorem dX6_isChoice_0 : decode cX6_isChoice 0 = .ok (.aload_n 0, 1) := by decide +kernel
theorem dX6_isChoice_1 : decode cX6_isChoice 1 = .ok (.getfield 44, 3) := by decide +kernel
theorem dX6_isChoice_4 : decode cX6_isChoice 4 = .ok (.iload_n 1, 1) := by decide +kernel
theorem dX6_isChoice_5 : decode cX6_isChoice 5 = .ok (.baload, 1) := by decide +kernel
theorem dX6_isChoice_6 : decode cX6_isChoice 6 = .ok (.ifCond .ne 34, 3) := by decide +kernel
theorem dX6_isChoice_9 : decode cX6_isChoice 9 = .ok (.aload_n 0, 1) := by decide +kernel
theorem dX6_isChoice_10 : decode cX6_isChoice 10 = .ok (.getfield 47, 3) := by decide +kernel
theorem dX6_isChoice_13 : decode cX6_isChoice 13 = .ok (.iload_n 1, 1) := by decide +kernel
theorem dX6_isChoice_14 : decode cX6_isChoice 14 = .ok (.baload, 1) := by decide +kernel
theorem dX6_isChoice_15 : decode cX6_isChoice 15 = .ok (.ifCond .ne 25, 3) := by decide +kernel
theorem dX6_isChoice_18 : decode cX6_isChoice 18 = .ok (.aload_n 0, 1) := by decide +kernel
theorem dX6_isChoice_19 : decode cX6_isChoice 19 = .ok (.getfield 50, 3) := by decide +kernel
theorem dX6_isChoice_22 : decode cX6_isChoice 22 = .ok (.iload_n 1, 1) := by decide +kernel
theorem dX6_isChoice_23 : decode cX6_isChoice 23 = .ok (.baload, 1) := by decide +kernel
theorem dX6_isChoice_24 : decode cX6_isChoice 24 = .ok (.ifCond .ne 16, 3) := by decide +kernel
theorem dX6_isChoice_27 : decode cX6_isChoice 27 = .ok (.aload_n 0, 1) := by decide +kernel
theorem dX6_isChoice_28 : decode cX6_isChoice 28 = .ok (.getfield 41, 3) := by decide +kernel
theorem dX6_isChoice_31 : decode cX6_isChoice 31 = .ok (.iload_n 1, 1) := by decide +kernel
theorem dX6_isChoice_32 : decode cX6_isChoice 32 = .ok (.baload, 1) := by decide +kernel
theorem dX6_isChoice_33 : decode cX6_isChoice 33 = .ok (.ifCond .eq 7, 3) := by decide +kernel
theorem dX6_isChoice_36 : decode cX6_isChoice 36 = .ok (.iconst 1, 1) := by decide +kernel
theorem dX6_isChoice_37 : decode cX6_isChoice 37 = .ok (.goto 4, 3) := by decide +kernel
theorem dX6_isChoice_40 : decode cX6_isChoice 40 = .ok (.iconst 0, 1) := by decide +kernel
theorem dX6_isChoice_41 : decode cX6_isChoice 41 = .ok (.ireturn, 1) := by decide +kernel
set_option maxRecDepth 20000 in
theorem ggX6_worth_X6_paints : GoodIn wsX6_worth wsX6_paints := goodIn_ca (goodIn_r _ [10, 1, 3, 11, 12, 13, 14, 19, 20, 21, 22, 23, 24, 25, 26, 27, 28, 29, 30, 31, 32, 33, 34, 35, 36, 37, 38, 39, 40, 41, 42, 43, 44, 45] (by decide +kernel) (by decide +kernel)) (goodIn_sub (fun _ h => List.mem_cons_of_mem _ (List.mem_append_right _ h)) (by decide +kernel))
set_option maxRecDepth 20000 in
theorem gX6_worth_X6_paints : GoodIn wsX6_worth (wsV RX6 90 RX6 yX6_paints wsX6_paints) := goodIn_app (goodIn_of _ (by decide +kernel)) ggX6_worth_X6_paints
set_option maxRecDepth 20000 in
theorem ggX6_worth_X6_source : GoodIn wsX6_worth wsX6_source := goodIn_ca (goodIn_r _ [18, 1, 2, 3, 19, 20, 21, 22, 23, 24, 25, 26, 27, 28, 29, 30, 31, 32, 33, 34, 35, 36, 37, 38, 39, 40, 41, 42, 43, 44, 45] (by decide +kernel) (by decide +kernel)) (goodIn_sub (fun _ h => List.mem_cons_of_mem _ (List.mem_append_right _ h)) (by decide +kernel))
set_option maxRecDepth 20000 in
theorem gX6_worth_X6_source : GoodIn wsX6_worth (wsV RX6 94 RX6 yX6_source wsX6_source) := goodIn_app (goodIn_of _ (by decide +kernel)) ggX6_worth_X6_source
theorem dX6_worth_0 : decode cX6_worth 0 = .ok (.aload_n 0, 1) := by decide +kernel
theorem dX6_worth_1 : decode cX6_worth 1 = .ok (.iconst (-1), 1) := by decide +kernel
theorem dX6_worth_2 : decode cX6_worth 2 = .ok (.iconst (-1), 1) := by decide +kernel
theorem dX6_worth_3 : decode cX6_worth 3 = .ok (.invokevirtual 90, 3) := by decide +kernel
theorem dX6_worth_6 : decode cX6_worth 6 = .ok (.iconst 0, 1) := by decide +kernel
theorem dX6_worth_7 : decode cX6_worth 7 = .ok (.istore_n 1, 1) := by decide +kernel
theorem dX6_worth_8 : decode cX6_worth 8 = .ok (.iconst 0, 1) := by decide +kernel
theorem dX6_worth_9 : decode cX6_worth 9 = .ok (.istore_n 2, 1) := by decide +kernel
theorem dX6_worth_10 : decode cX6_worth 10 = .ok (.iload_n 2, 1) := by decide +kernel
theorem dX6_worth_11 : decode cX6_worth 11 = .ok (.aload_n 0, 1) := by decide +kernel
theorem dX6_worth_12 : decode cX6_worth 12 = .ok (.getfield 72, 3) := by decide +kernel
theorem dX6_worth_15 : decode cX6_worth 15 = .ok (.if_icmp .ge 52, 3) := by decide +kernel
theorem dX6_worth_18 : decode cX6_worth 18 = .ok (.iload_n 1, 1) := by decide +kernel
theorem dX6_worth_19 : decode cX6_worth 19 = .ok (.aload_n 0, 1) := by decide +kernel
theorem dX6_worth_20 : decode cX6_worth 20 = .ok (.getfield 7, 3) := by decide +kernel
theorem dX6_worth_23 : decode cX6_worth 23 = .ok (.iload_n 2, 1) := by decide +kernel
theorem dX6_worth_24 : decode cX6_worth 24 = .ok (.baload, 1) := by decide +kernel
theorem dX6_worth_25 : decode cX6_worth 25 = .ok (.ifCond .ne 33, 3) := by decide +kernel
theorem dX6_worth_28 : decode cX6_worth 28 = .ok (.aload_n 0, 1) := by decide +kernel
theorem dX6_worth_29 : decode cX6_worth 29 = .ok (.aload_n 0, 1) := by decide +kernel
theorem dX6_worth_30 : decode cX6_worth 30 = .ok (.getfield 53, 3) := by decide +kernel
theorem dX6_worth_33 : decode cX6_worth 33 = .ok (.iload_n 2, 1) := by decide +kernel
theorem dX6_worth_34 : decode cX6_worth 34 = .ok (.iaload, 1) := by decide +kernel
theorem dX6_worth_35 : decode cX6_worth 35 = .ok (.invokevirtual 94, 3) := by decide +kernel
theorem dX6_worth_38 : decode cX6_worth 38 = .ok (.iconst (-1), 1) := by decide +kernel
theorem dX6_worth_39 : decode cX6_worth 39 = .ok (.if_icmp .eq 19, 3) := by decide +kernel
theorem dX6_worth_42 : decode cX6_worth 42 = .ok (.aload_n 0, 1) := by decide +kernel
theorem dX6_worth_43 : decode cX6_worth 43 = .ok (.getfield 17, 3) := by decide +kernel
theorem dX6_worth_46 : decode cX6_worth 46 = .ok (.iload_n 2, 1) := by decide +kernel
theorem dX6_worth_47 : decode cX6_worth 47 = .ok (.iaload, 1) := by decide +kernel
theorem dX6_worth_48 : decode cX6_worth 48 = .ok (.aload_n 0, 1) := by decide +kernel
theorem dX6_worth_49 : decode cX6_worth 49 = .ok (.getfield 20, 3) := by decide +kernel
theorem dX6_worth_52 : decode cX6_worth 52 = .ok (.iload_n 2, 1) := by decide +kernel
theorem dX6_worth_53 : decode cX6_worth 53 = .ok (.iaload, 1) := by decide +kernel
theorem dX6_worth_54 : decode cX6_worth 54 = .ok (.imul, 1) := by decide +kernel
theorem dX6_worth_55 : decode cX6_worth 55 = .ok (.goto 4, 3) := by decide +kernel
theorem dX6_worth_58 : decode cX6_worth 58 = .ok (.iconst 0, 1) := by decide +kernel
theorem dX6_worth_59 : decode cX6_worth 59 = .ok (.iadd, 1) := by decide +kernel
theorem dX6_worth_60 : decode cX6_worth 60 = .ok (.istore_n 1, 1) := by decide +kernel
theorem dX6_worth_61 : decode cX6_worth 61 = .ok (.iinc 2 1, 3) := by decide +kernel
theorem dX6_worth_64 : decode cX6_worth 64 = .ok (.goto (-54), 3) := by decide +kernel
theorem dX6_worth_67 : decode cX6_worth 67 = .ok (.iload_n 1, 1) := by decide +kernel
theorem dX6_worth_68 : decode cX6_worth 68 = .ok (.ireturn, 1) := by decide +kernel
theorem dX6_isEarlier_0 : decode cX6_isEarlier 0 = .ok (.iconst 0, 1) := by decide +kernel
theorem dX6_isEarlier_1 : decode cX6_isEarlier 1 = .ok (.istore_n 1, 1) := by decide +kernel
theorem dX6_isEarlier_2 : decode cX6_isEarlier 2 = .ok (.iload_n 1, 1) := by decide +kernel
theorem dX6_isEarlier_3 : decode cX6_isEarlier 3 = .ok (.aload_n 0, 1) := by decide +kernel
theorem dX6_isEarlier_4 : decode cX6_isEarlier 4 = .ok (.getfield 173, 3) := by decide +kernel
theorem dX6_isEarlier_7 : decode cX6_isEarlier 7 = .ok (.if_icmp .ge 45, 3) := by decide +kernel
theorem dX6_isEarlier_10 : decode cX6_isEarlier 10 = .ok (.aload_n 0, 1) := by decide +kernel
theorem dX6_isEarlier_11 : decode cX6_isEarlier 11 = .ok (.getfield 62, 3) := by decide +kernel
theorem dX6_isEarlier_14 : decode cX6_isEarlier 14 = .ok (.iload_n 1, 1) := by decide +kernel
theorem dX6_isEarlier_15 : decode cX6_isEarlier 15 = .ok (.iaload, 1) := by decide +kernel
theorem dX6_isEarlier_16 : decode cX6_isEarlier 16 = .ok (.aload_n 0, 1) := by decide +kernel
theorem dX6_isEarlier_17 : decode cX6_isEarlier 17 = .ok (.getfield 65, 3) := by decide +kernel
theorem dX6_isEarlier_20 : decode cX6_isEarlier 20 = .ok (.iload_n 1, 1) := by decide +kernel
theorem dX6_isEarlier_21 : decode cX6_isEarlier 21 = .ok (.iaload, 1) := by decide +kernel
theorem dX6_isEarlier_22 : decode cX6_isEarlier 22 = .ok (.if_icmp .eq 24, 3) := by decide +kernel
theorem dX6_isEarlier_25 : decode cX6_isEarlier 25 = .ok (.aload_n 0, 1) := by decide +kernel
theorem dX6_isEarlier_26 : decode cX6_isEarlier 26 = .ok (.getfield 62, 3) := by decide +kernel
theorem dX6_isEarlier_29 : decode cX6_isEarlier 29 = .ok (.iload_n 1, 1) := by decide +kernel
theorem dX6_isEarlier_30 : decode cX6_isEarlier 30 = .ok (.iaload, 1) := by decide +kernel
theorem dX6_isEarlier_31 : decode cX6_isEarlier 31 = .ok (.aload_n 0, 1) := by decide +kernel
theorem dX6_isEarlier_32 : decode cX6_isEarlier 32 = .ok (.getfield 65, 3) := by decide +kernel
theorem dX6_isEarlier_35 : decode cX6_isEarlier 35 = .ok (.iload_n 1, 1) := by decide +kernel
theorem dX6_isEarlier_36 : decode cX6_isEarlier 36 = .ok (.iaload, 1) := by decide +kernel
theorem dX6_isEarlier_37 : decode cX6_isEarlier 37 = .ok (.if_icmp .ge 7, 3) := by decide +kernel
theorem dX6_isEarlier_40 : decode cX6_isEarlier 40 = .ok (.iconst 1, 1) := by decide +kernel
theorem dX6_isEarlier_41 : decode cX6_isEarlier 41 = .ok (.goto 4, 3) := by decide +kernel
theorem dX6_isEarlier_44 : decode cX6_isEarlier 44 = .ok (.iconst 0, 1) := by decide +kernel
theorem dX6_isEarlier_45 : decode cX6_isEarlier 45 = .ok (.ireturn, 1) := by decide +kernel
theorem dX6_isEarlier_46 : decode cX6_isEarlier 46 = .ok (.iinc 1 1, 3) := by decide +kernel
theorem dX6_isEarlier_49 : decode cX6_isEarlier 49 = .ok (.goto (-47), 3) := by decide +kernel
theorem dX6_isEarlier_52 : decode cX6_isEarlier 52 = .ok (.iconst 0, 1) := by decide +kernel
theorem dX6_isEarlier_53 : decode cX6_isEarlier 53 = .ok (.ireturn, 1) := by decide +kernel
set_option maxRecDepth 20000 in
theorem ggX6_tries_X6_worth : GoodIn wsX6_tries wsX6_worth := goodIn_ca (goodIn_r _ [12, 13, 14, 15, 16, 17, 18, 19, 20, 11, 21, 1, 7, 22, 23, 24, 25, 26, 27, 64, 65, 66, 67, 68, 69, 70, 71, 72, 73, 74, 75, 76, 77, 78, 79, 80, 81, 82, 83, 84, 85, 86, 87, 88, 89, 90] (by decide +kernel) (by decide +kernel)) (goodIn_sub (fun _ h => List.mem_cons_of_mem _ (List.mem_append_right _ h)) (by decide +kernel))
set_option maxRecDepth 20000 in
theorem gX6_tries_X6_worth : GoodIn wsX6_tries (wsV RX6 176 RX6 yX6_worth wsX6_worth) := goodIn_app (goodIn_of _ (by decide +kernel)) ggX6_tries_X6_worth
set_option maxRecDepth 20000 in
theorem ggX6_tries_X6_isEarlier : GoodIn wsX6_tries wsX6_isEarlier := goodIn_ca (goodIn_r _ [31, 3, 6, 5, 64, 65, 66, 67, 68, 69, 70, 71, 72, 73, 74, 75, 76, 77, 78, 79, 80, 81, 82, 83, 84, 85, 86, 87, 88, 89, 90] (by decide +kernel) (by decide +kernel)) (goodIn_sub (fun _ h => List.mem_cons_of_mem _ (List.mem_append_right _ h)) (by decide +kernel))
set_option maxRecDepth 20000 in
theorem gX6_tries_X6_isEarlier : GoodIn wsX6_tries (wsV RX6 185 RX6 yX6_isEarlier wsX6_isEarlier) := goodIn_app (goodIn_of _ (by decide +kernel)) ggX6_tries_X6_isEarlier
set_option maxRecDepth 20000 in
theorem ggX6_tries_X6_tries : GoodIn wsX6_tries wsX6_tries := goodIn_ca (goodIn_r _ [0, 1, 2, 3, 4, 5, 6, 7, 8, 9, 10, 11, 12, 13, 14, 15, 16, 17, 18, 19, 20, 21, 22, 23, 24, 25, 26, 27, 28, 29, 30, 31, 32, 33, 34, 35, 36, 37, 38, 39, 40, 41, 42, 43, 44, 45, 46, 47, 48, 49, 50, 51, 52, 53, 54, 55, 56, 57, 58, 59, 60, 61, 62, 63, 64, 65, 66, 67, 68, 69, 70, 71, 72, 73, 74, 75, 76, 77, 78, 79, 80, 81, 82, 83, 84, 85, 86, 87, 88, 89, 90] (by decide +kernel) (by decide +kernel)) (goodIn_sub (fun _ h => List.mem_cons_of_mem _ (List.mem_append_right _ h)) (by decide +kernel))
set_option maxRecDepth 20000 in
theorem gX6_tries_X6_tries : GoodIn wsX6_tries (wsV RX6 189 RX6 yX6_tries wsX6_tries) := goodIn_app (goodIn_of _ (by decide +kernel)) ggX6_tries_X6_tries
set_option maxRecDepth 20000 in
theorem ggX6_tries_X6_isChoice : GoodIn wsX6_tries wsX6_isChoice := goodIn_ca (goodIn_r _ [38, 7, 39, 40, 41, 64, 65, 66, 67, 68, 69, 70, 71, 72, 73, 74, 75, 76, 77, 78, 79, 80, 81, 82, 83, 84, 85, 86, 87, 88, 89, 90] (by decide +kernel) (by decide +kernel)) (goodIn_sub (fun _ h => List.mem_cons_of_mem _ (List.mem_append_right _ h)) (by decide +kernel))
set_option maxRecDepth 20000 in
theorem gX6_tries_X6_isChoice : GoodIn wsX6_tries (wsV RX6 192 RX6 yX6_isChoice wsX6_isChoice) := goodIn_app (goodIn_of _ (by decide +kernel)) ggX6_tries_X6_isChoice
set_option maxRecDepth 20000 in
theorem ggX6_tries_X6_reason : GoodIn wsX6_tries wsX6_reason := goodIn_ca (goodIn_r _ [45, 7, 39, 40, 15, 22, 23, 41, 46, 18, 19, 20, 11, 21, 13, 1, 24, 25, 26, 27, 14, 47, 48, 49, 50, 51, 52, 53, 54, 16, 55, 56, 57, 58, 59, 60, 61, 62, 63, 64, 65, 66, 67, 68, 69, 70, 71, 72, 73, 74, 75, 76, 77, 78, 79, 80, 81, 82, 83, 84, 85, 86, 87, 88, 89, 90] (by decide +kernel) (by decide +kernel)) (goodIn_sub (fun _ h => List.mem_cons_of_mem _ (List.mem_append_right _ h)) (by decide +kernel))
set_option maxRecDepth 20000 in
theorem gX6_tries_X6_reason : GoodIn wsX6_tries (wsV RX6 120 RX6 yX6_reason wsX6_reason) := goodIn_app (goodIn_of _ (by decide +kernel)) ggX6_tries_X6_reason
theorem dX6_tries_0 : decode cX6_tries 0 = .ok (.iload_n 1, 1) := by decide +kernel
theorem dX6_tries_1 : decode cX6_tries 1 = .ok (.aload_n 0, 1) := by decide +kernel
theorem dX6_tries_2 : decode cX6_tries 2 = .ok (.getfield 79, 3) := by decide +kernel
theorem dX6_tries_5 : decode cX6_tries 5 = .ok (.if_icmp .ne 96, 3) := by decide +kernel
theorem dX6_tries_8 : decode cX6_tries 8 = .ok (.aload_n 0, 1) := by decide +kernel
theorem dX6_tries_9 : decode cX6_tries 9 = .ok (.invokevirtual 176, 3) := by decide +kernel
theorem dX6_tries_12 : decode cX6_tries 12 = .ok (.istore_n 2, 1) := by decide +kernel
theorem dX6_tries_13 : decode cX6_tries 13 = .ok (.iload_n 2, 1) := by decide +kernel
theorem dX6_tries_14 : decode cX6_tries 14 = .ok (.aload_n 0, 1) := by decide +kernel
theorem dX6_tries_15 : decode cX6_tries 15 = .ok (.getfield 179, 3) := by decide +kernel
theorem dX6_tries_18 : decode cX6_tries 18 = .ok (.if_icmp .lt 40, 3) := by decide +kernel
theorem dX6_tries_21 : decode cX6_tries 21 = .ok (.iload_n 2, 1) := by decide +kernel
theorem dX6_tries_22 : decode cX6_tries 22 = .ok (.aload_n 0, 1) := by decide +kernel
theorem dX6_tries_23 : decode cX6_tries 23 = .ok (.getfield 179, 3) := by decide +kernel
theorem dX6_tries_26 : decode cX6_tries 26 = .ok (.if_icmp .ne 33, 3) := by decide +kernel
theorem dX6_tries_29 : decode cX6_tries 29 = .ok (.aload_n 0, 1) := by decide +kernel
theorem dX6_tries_30 : decode cX6_tries 30 = .ok (.getfield 173, 3) := by decide +kernel
theorem dX6_tries_33 : decode cX6_tries 33 = .ok (.aload_n 0, 1) := by decide +kernel
theorem dX6_tries_34 : decode cX6_tries 34 = .ok (.getfield 182, 3) := by decide +kernel
theorem dX6_tries_37 : decode cX6_tries 37 = .ok (.if_icmp .gt 21, 3) := by decide +kernel
theorem dX6_tries_40 : decode cX6_tries 40 = .ok (.aload_n 0, 1) := by decide +kernel
theorem dX6_tries_41 : decode cX6_tries 41 = .ok (.getfield 173, 3) := by decide +kernel
theorem dX6_tries_44 : decode cX6_tries 44 = .ok (.aload_n 0, 1) := by decide +kernel
theorem dX6_tries_45 : decode cX6_tries 45 = .ok (.getfield 182, 3) := by decide +kernel
theorem dX6_tries_48 : decode cX6_tries 48 = .ok (.if_icmp .ne 11, 3) := by decide +kernel
theorem dX6_tries_51 : decode cX6_tries 51 = .ok (.aload_n 0, 1) := by decide +kernel
theorem dX6_tries_52 : decode cX6_tries 52 = .ok (.invokevirtual 185, 3) := by decide +kernel
theorem dX6_tries_55 : decode cX6_tries 55 = .ok (.ifCond .ne 4, 3) := by decide +kernel
theorem dX6_tries_58 : decode cX6_tries 58 = .ok (.return_, 1) := by decide +kernel
theorem dX6_tries_59 : decode cX6_tries 59 = .ok (.aload_n 0, 1) := by decide +kernel
theorem dX6_tries_60 : decode cX6_tries 60 = .ok (.iload_n 2, 1) := by decide +kernel
theorem dX6_tries_61 : decode cX6_tries 61 = .ok (.putfield 179, 3) := by decide +kernel
theorem dX6_tries_64 : decode cX6_tries 64 = .ok (.aload_n 0, 1) := by decide +kernel
theorem dX6_tries_65 : decode cX6_tries 65 = .ok (.aload_n 0, 1) := by decide +kernel
theorem dX6_tries_66 : decode cX6_tries 66 = .ok (.getfield 173, 3) := by decide +kernel
theorem dX6_tries_69 : decode cX6_tries 69 = .ok (.putfield 182, 3) := by decide +kernel
theorem dX6_tries_72 : decode cX6_tries 72 = .ok (.iconst 0, 1) := by decide +kernel
theorem dX6_tries_73 : decode cX6_tries 73 = .ok (.istore_n 3, 1) := by decide +kernel
theorem dX6_tries_74 : decode cX6_tries 74 = .ok (.iload_n 3, 1) := by decide +kernel
theorem dX6_tries_75 : decode cX6_tries 75 = .ok (.aload_n 0, 1) := by decide +kernel
theorem dX6_tries_76 : decode cX6_tries 76 = .ok (.getfield 173, 3) := by decide +kernel
theorem dX6_tries_79 : decode cX6_tries 79 = .ok (.if_icmp .ge 21, 3) := by decide +kernel
theorem dX6_tries_82 : decode cX6_tries 82 = .ok (.aload_n 0, 1) := by decide +kernel
theorem dX6_tries_83 : decode cX6_tries 83 = .ok (.getfield 65, 3) := by decide +kernel
theorem dX6_tries_86 : decode cX6_tries 86 = .ok (.iload_n 3, 1) := by decide +kernel
theorem dX6_tries_87 : decode cX6_tries 87 = .ok (.aload_n 0, 1) := by decide +kernel
theorem dX6_tries_88 : decode cX6_tries 88 = .ok (.getfield 62, 3) := by decide +kernel
theorem dX6_tries_91 : decode cX6_tries 91 = .ok (.iload_n 3, 1) := by decide +kernel
theorem dX6_tries_92 : decode cX6_tries 92 = .ok (.iaload, 1) := by decide +kernel
theorem dX6_tries_93 : decode cX6_tries 93 = .ok (.iastore, 1) := by decide +kernel
theorem dX6_tries_94 : decode cX6_tries 94 = .ok (.iinc 3 1, 3) := by decide +kernel
theorem dX6_tries_97 : decode cX6_tries 97 = .ok (.goto (-23), 3) := by decide +kernel
theorem dX6_tries_100 : decode cX6_tries 100 = .ok (.return_, 1) := by decide +kernel
theorem dX6_tries_101 : decode cX6_tries 101 = .ok (.aload_n 0, 1) := by decide +kernel
theorem dX6_tries_102 : decode cX6_tries 102 = .ok (.iload_n 1, 1) := by decide +kernel
theorem dX6_tries_103 : decode cX6_tries 103 = .ok (.iconst 1, 1) := by decide +kernel
theorem dX6_tries_104 : decode cX6_tries 104 = .ok (.iadd, 1) := by decide +kernel
theorem dX6_tries_105 : decode cX6_tries 105 = .ok (.invokevirtual 189, 3) := by decide +kernel
theorem dX6_tries_108 : decode cX6_tries 108 = .ok (.aload_n 0, 1) := by decide +kernel
theorem dX6_tries_109 : decode cX6_tries 109 = .ok (.iload_n 1, 1) := by decide +kernel
theorem dX6_tries_110 : decode cX6_tries 110 = .ok (.invokevirtual 192, 3) := by decide +kernel
theorem dX6_tries_113 : decode cX6_tries 113 = .ok (.ifCond .eq 13, 3) := by decide +kernel
theorem dX6_tries_116 : decode cX6_tries 116 = .ok (.aload_n 0, 1) := by decide +kernel
theorem dX6_tries_117 : decode cX6_tries 117 = .ok (.iload_n 1, 1) := by decide +kernel
theorem dX6_tries_118 : decode cX6_tries 118 = .ok (.invokevirtual 120, 3) := by decide +kernel
theorem dX6_tries_121 : decode cX6_tries 121 = .ok (.bipush 110, 2) := by decide +kernel
theorem dX6_tries_123 : decode cX6_tries 123 = .ok (.if_icmp .eq 4, 3) := by decide +kernel
theorem dX6_tries_126 : decode cX6_tries 126 = .ok (.return_, 1) := by decide +kernel
theorem dX6_tries_127 : decode cX6_tries 127 = .ok (.aload_n 0, 1) := by decide +kernel
theorem dX6_tries_128 : decode cX6_tries 128 = .ok (.getfield 44, 3) := by decide +kernel
theorem dX6_tries_131 : decode cX6_tries 131 = .ok (.iload_n 1, 1) := by decide +kernel
theorem dX6_tries_132 : decode cX6_tries 132 = .ok (.iconst 1, 1) := by decide +kernel
theorem dX6_tries_133 : decode cX6_tries 133 = .ok (.bastore, 1) := by decide +kernel
theorem dX6_tries_134 : decode cX6_tries 134 = .ok (.aload_n 0, 1) := by decide +kernel
theorem dX6_tries_135 : decode cX6_tries 135 = .ok (.getfield 62, 3) := by decide +kernel
theorem dX6_tries_138 : decode cX6_tries 138 = .ok (.aload_n 0, 1) := by decide +kernel
theorem dX6_tries_139 : decode cX6_tries 139 = .ok (.getfield 173, 3) := by decide +kernel
theorem dX6_tries_142 : decode cX6_tries 142 = .ok (.iload_n 1, 1) := by decide +kernel
theorem dX6_tries_143 : decode cX6_tries 143 = .ok (.iastore, 1) := by decide +kernel
theorem dX6_tries_144 : decode cX6_tries 144 = .ok (.aload_n 0, 1) := by decide +kernel
theorem dX6_tries_145 : decode cX6_tries 145 = .ok (.dup, 1) := by decide +kernel
theorem dX6_tries_146 : decode cX6_tries 146 = .ok (.getfield 173, 3) := by decide +kernel
theorem dX6_tries_149 : decode cX6_tries 149 = .ok (.iconst 1, 1) := by decide +kernel
theorem dX6_tries_150 : decode cX6_tries 150 = .ok (.iadd, 1) := by decide +kernel
theorem dX6_tries_151 : decode cX6_tries 151 = .ok (.putfield 173, 3) := by decide +kernel
theorem dX6_tries_154 : decode cX6_tries 154 = .ok (.aload_n 0, 1) := by decide +kernel
theorem dX6_tries_155 : decode cX6_tries 155 = .ok (.iload_n 1, 1) := by decide +kernel
theorem dX6_tries_156 : decode cX6_tries 156 = .ok (.iconst 1, 1) := by decide +kernel
theorem dX6_tries_157 : decode cX6_tries 157 = .ok (.iadd, 1) := by decide +kernel
theorem dX6_tries_158 : decode cX6_tries 158 = .ok (.invokevirtual 189, 3) := by decide +kernel
theorem dX6_tries_161 : decode cX6_tries 161 = .ok (.aload_n 0, 1) := by decide +kernel
theorem dX6_tries_162 : decode cX6_tries 162 = .ok (.dup, 1) := by decide +kernel
theorem dX6_tries_163 : decode cX6_tries 163 = .ok (.getfield 173, 3) := by decide +kernel
theorem dX6_tries_166 : decode cX6_tries 166 = .ok (.iconst 1, 1) := by decide +kernel
theorem dX6_tries_167 : decode cX6_tries 167 = .ok (.isub, 1) := by decide +kernel
theorem dX6_tries_168 : decode cX6_tries 168 = .ok (.putfield 173, 3) := by decide +kernel
theorem dX6_tries_171 : decode cX6_tries 171 = .ok (.aload_n 0, 1) := by decide +kernel
theorem dX6_tries_172 : decode cX6_tries 172 = .ok (.getfield 44, 3) := by decide +kernel
theorem dX6_tries_175 : decode cX6_tries 175 = .ok (.iload_n 1, 1) := by decide +kernel
theorem dX6_tries_176 : decode cX6_tries 176 = .ok (.iconst 0, 1) := by decide +kernel
theorem dX6_tries_177 : decode cX6_tries 177 = .ok (.bastore, 1) := by decide +kernel
theorem dX6_tries_178 : decode cX6_tries 178 = .ok (.return_, 1) := by decide +kernel
set_option maxRecDepth 20000 in
theorem ggX6_chooses_X6_worth : GoodIn wsX6_chooses wsX6_worth := goodIn_ca (goodIn_r _ [9, 10, 11, 12, 13, 14, 15, 16, 17, 8, 18, 19, 20, 21, 22, 23, 24, 25, 26, 66, 67, 68, 69, 70, 71, 72, 73, 74, 75, 76, 77, 78, 79, 80, 81, 82, 83, 84, 85, 86, 87, 88, 89, 90, 91, 92] (by decide +kernel) (by decide +kernel)) (goodIn_sub (fun _ h => List.mem_cons_of_mem _ (List.mem_append_right _ h)) (by decide +kernel))
set_option maxRecDepth 20000 in
theorem gX6_chooses_X6_worth : GoodIn wsX6_chooses (wsV RX6 176 RX6 yX6_worth wsX6_worth) := goodIn_app (goodIn_of _ (by decide +kernel)) ggX6_chooses_X6_worth
set_option maxRecDepth 20000 in
theorem ggX6_chooses_X6_tries : GoodIn wsX6_chooses wsX6_tries := goodIn_ca (goodIn_r _ [30, 19, 4, 2, 3, 31, 32, 20, 5, 6, 7, 8, 9, 10, 11, 12, 13, 14, 15, 16, 17, 18, 21, 22, 23, 24, 25, 26, 33, 34, 35, 36, 27, 28, 29, 37, 38, 39, 40, 41, 42, 43, 44, 45, 46, 47, 48, 49, 50, 51, 52, 53, 54, 55, 56, 57, 58, 59, 60, 61, 62, 63, 64, 65, 66, 67, 68, 69, 70, 71, 72, 73, 74, 75, 76, 77, 78, 79, 80, 81, 82, 83, 84, 85, 86, 87, 88, 89, 90, 91, 92] (by decide +kernel) (by decide +kernel)) (goodIn_sub (fun _ h => List.mem_cons_of_mem _ (List.mem_append_right _ h)) (by decide +kernel))
set_option maxRecDepth 20000 in
theorem gX6_chooses_X6_tries : GoodIn wsX6_chooses (wsV RX6 189 RX6 yX6_tries wsX6_tries) := goodIn_app (goodIn_of _ (by decide +kernel)) ggX6_chooses_X6_tries
theorem dX6_chooses_0 : decode cX6_chooses 0 = .ok (.aload_n 0, 1) := by decide +kernel
theorem dX6_chooses_1 : decode cX6_chooses 1 = .ok (.iconst 0, 1) := by decide +kernel
theorem dX6_chooses_2 : decode cX6_chooses 2 = .ok (.putfield 68, 3) := by decide +kernel
theorem dX6_chooses_5 : decode cX6_chooses 5 = .ok (.aload_n 0, 1) := by decide +kernel
theorem dX6_chooses_6 : decode cX6_chooses 6 = .ok (.iconst 0, 1) := by decide +kernel
theorem dX6_chooses_7 : decode cX6_chooses 7 = .ok (.putfield 173, 3) := by decide +kernel
theorem dX6_chooses_10 : decode cX6_chooses 10 = .ok (.aload_n 0, 1) := by decide +kernel
theorem dX6_chooses_11 : decode cX6_chooses 11 = .ok (.iconst 0, 1) := by decide +kernel
theorem dX6_chooses_12 : decode cX6_chooses 12 = .ok (.putfield 182, 3) := by decide +kernel
theorem dX6_chooses_15 : decode cX6_chooses 15 = .ok (.aload_n 0, 1) := by decide +kernel
theorem dX6_chooses_16 : decode cX6_chooses 16 = .ok (.aload_n 0, 1) := by decide +kernel
theorem dX6_chooses_17 : decode cX6_chooses 17 = .ok (.invokevirtual 176, 3) := by decide +kernel
theorem dX6_chooses_20 : decode cX6_chooses 20 = .ok (.putfield 179, 3) := by decide +kernel
theorem dX6_chooses_23 : decode cX6_chooses 23 = .ok (.aload_n 0, 1) := by decide +kernel
theorem dX6_chooses_24 : decode cX6_chooses 24 = .ok (.iconst 0, 1) := by decide +kernel
theorem dX6_chooses_25 : decode cX6_chooses 25 = .ok (.invokevirtual 189, 3) := by decide +kernel
theorem dX6_chooses_28 : decode cX6_chooses 28 = .ok (.return_, 1) := by decide +kernel
set_option maxRecDepth 20000 in
theorem ggX6_bestValue_X6_chooses : GoodIn wsX6_bestValue wsX6_chooses := goodIn_ca (goodIn_r _ [6, 7, 8, 9, 1, 10, 11, 12, 5, 13, 14, 15, 16, 17, 18, 19, 20, 21, 22, 23, 24, 25, 26, 27, 28, 29, 30, 31, 32, 33, 34, 35, 36, 37, 38, 39, 40, 41, 42, 43, 44, 45, 46, 47, 48, 49, 50, 51, 52, 53, 54, 55, 56, 57, 58, 59, 60, 61, 62, 63, 64, 65, 66, 67, 68, 69, 70, 71, 72, 73, 74, 75, 76, 77, 78, 79, 80, 81, 82, 83, 84, 85, 86, 87, 88, 89, 90, 91, 92, 93, 94, 95, 96] (by decide +kernel) (by decide +kernel)) (goodIn_sub (fun _ h => List.mem_cons_of_mem _ (List.mem_append_right _ h)) (by decide +kernel))
set_option maxRecDepth 20000 in
theorem gX6_bestValue_X6_chooses : GoodIn wsX6_bestValue (wsV RX6 195 RX6 yX6_chooses wsX6_chooses) := goodIn_app (goodIn_of _ (by decide +kernel)) ggX6_bestValue_X6_chooses
theorem dX6_bestValue_0 : decode cX6_bestValue 0 = .ok (.aload_n 0, 1) := by decide +kernel
theorem dX6_bestValue_1 : decode cX6_bestValue 1 = .ok (.invokevirtual 195, 3) := by decide +kernel
theorem dX6_bestValue_4 : decode cX6_bestValue 4 = .ok (.aload_n 0, 1) := by decide +kernel
theorem dX6_bestValue_5 : decode cX6_bestValue 5 = .ok (.getfield 179, 3) := by decide +kernel
theorem dX6_bestValue_8 : decode cX6_bestValue 8 = .ok (.ireturn, 1) := by decide +kernel
set_option maxRecDepth 20000 in
theorem ggX6_bestSize_X6_chooses : GoodIn wsX6_bestSize wsX6_chooses := goodIn_ca (goodIn_r _ [6, 7, 8, 1, 9, 10, 11, 12, 5, 13, 14, 15, 16, 17, 18, 19, 20, 21, 22, 23, 24, 25, 26, 27, 28, 29, 30, 31, 32, 33, 34, 35, 36, 37, 38, 39, 40, 41, 42, 43, 44, 45, 46, 47, 48, 49, 50, 51, 52, 53, 54, 55, 56, 57, 58, 59, 60, 61, 62, 63, 64, 65, 66, 67, 68, 69, 70, 71, 72, 73, 74, 75, 76, 77, 78, 79, 80, 81, 82, 83, 84, 85, 86, 87, 88, 89, 90, 91, 92, 93, 94, 95, 96] (by decide +kernel) (by decide +kernel)) (goodIn_sub (fun _ h => List.mem_cons_of_mem _ (List.mem_append_right _ h)) (by decide +kernel))
set_option maxRecDepth 20000 in
theorem gX6_bestSize_X6_chooses : GoodIn wsX6_bestSize (wsV RX6 195 RX6 yX6_chooses wsX6_chooses) := goodIn_app (goodIn_of _ (by decide +kernel)) ggX6_bestSize_X6_chooses
theorem dX6_bestSize_0 : decode cX6_bestSize 0 = .ok (.aload_n 0, 1) := by decide +kernel
theorem dX6_bestSize_1 : decode cX6_bestSize 1 = .ok (.invokevirtual 195, 3) := by decide +kernel
theorem dX6_bestSize_4 : decode cX6_bestSize 4 = .ok (.aload_n 0, 1) := by decide +kernel
theorem dX6_bestSize_5 : decode cX6_bestSize 5 = .ok (.getfield 182, 3) := by decide +kernel
theorem dX6_bestSize_8 : decode cX6_bestSize 8 = .ok (.ireturn, 1) := by decide +kernel
set_option maxRecDepth 20000 in
theorem ggX6_bestAt_X6_chooses : GoodIn wsX6_bestAt wsX6_chooses := goodIn_ca (goodIn_r _ [7, 8, 9, 1, 10, 11, 12, 13, 6, 14, 15, 16, 17, 18, 19, 20, 21, 22, 23, 24, 25, 26, 27, 28, 29, 30, 31, 32, 33, 34, 35, 2, 36, 37, 38, 39, 40, 41, 42, 43, 44, 45, 46, 47, 48, 49, 50, 51, 52, 53, 54, 55, 56, 57, 58, 59, 60, 61, 62, 63, 64, 65, 66, 67, 68, 69, 77, 78, 79, 80, 81, 82, 83, 84, 85, 86, 87, 88, 89, 90, 91, 92, 93, 94, 95, 96, 97, 98, 99, 100, 101, 102, 103] (by decide +kernel) (by decide +kernel)) (goodIn_sub (fun _ h => List.mem_cons_of_mem _ (List.mem_append_right _ h)) (by decide +kernel))
set_option maxRecDepth 20000 in
theorem gX6_bestAt_X6_chooses : GoodIn wsX6_bestAt (wsV RX6 195 RX6 yX6_chooses wsX6_chooses) := goodIn_app (goodIn_of _ (by decide +kernel)) ggX6_bestAt_X6_chooses
set_option maxRecDepth 20000 in
theorem ggX6_bestAt_X6_in : GoodIn wsX6_bestAt wsX6_in := goodIn_r _ [72] (by decide +kernel) (by decide +kernel)
set_option maxRecDepth 20000 in
theorem gX6_bestAt_X6_in : GoodIn wsX6_bestAt (va_wsS RX6 75 yX6_in wsX6_in) := goodIn_app (goodIn_of _ (by decide +kernel)) ggX6_bestAt_X6_in
set_option maxRecDepth 20000 in
theorem ggX6_bestAt_X6_fails : GoodIn wsX6_bestAt wsX6_fails := goodIn_r _ [76, 8, 77, 78, 79, 80, 81, 82, 83, 84, 85, 86, 87, 88, 89, 90, 91, 92, 93, 94, 95, 96, 97, 98, 99, 100, 101, 102, 103] (by decide +kernel) (by decide +kernel)
set_option maxRecDepth 20000 in
theorem gX6_bestAt_X6_fails : GoodIn wsX6_bestAt (wsV RX6 82 RX6 yX6_fails wsX6_fails) := goodIn_app (goodIn_of _ (by decide +kernel)) ggX6_bestAt_X6_fails
theorem dX6_bestAt_0 : decode cX6_bestAt 0 = .ok (.aload_n 0, 1) := by decide +kernel
theorem dX6_bestAt_1 : decode cX6_bestAt 1 = .ok (.invokevirtual 195, 3) := by decide +kernel
theorem dX6_bestAt_4 : decode cX6_bestAt 4 = .ok (.iload_n 1, 1) := by decide +kernel
theorem dX6_bestAt_5 : decode cX6_bestAt 5 = .ok (.iconst 0, 1) := by decide +kernel
theorem dX6_bestAt_6 : decode cX6_bestAt 6 = .ok (.aload_n 0, 1) := by decide +kernel
theorem dX6_bestAt_7 : decode cX6_bestAt 7 = .ok (.getfield 182, 3) := by decide +kernel
theorem dX6_bestAt_10 : decode cX6_bestAt 10 = .ok (.iconst 1, 1) := by decide +kernel
theorem dX6_bestAt_11 : decode cX6_bestAt 11 = .ok (.isub, 1) := by decide +kernel
theorem dX6_bestAt_12 : decode cX6_bestAt 12 = .ok (.invokestatic 75, 3) := by decide +kernel
theorem dX6_bestAt_15 : decode cX6_bestAt 15 = .ok (.ifCond .eq 12, 3) := by decide +kernel
theorem dX6_bestAt_18 : decode cX6_bestAt 18 = .ok (.aload_n 0, 1) := by decide +kernel
theorem dX6_bestAt_19 : decode cX6_bestAt 19 = .ok (.getfield 65, 3) := by decide +kernel
theorem dX6_bestAt_22 : decode cX6_bestAt 22 = .ok (.iload_n 1, 1) := by decide +kernel
theorem dX6_bestAt_23 : decode cX6_bestAt 23 = .ok (.iaload, 1) := by decide +kernel
theorem dX6_bestAt_24 : decode cX6_bestAt 24 = .ok (.goto 8, 3) := by decide +kernel
theorem dX6_bestAt_27 : decode cX6_bestAt 27 = .ok (.aload_n 0, 1) := by decide +kernel
theorem dX6_bestAt_28 : decode cX6_bestAt 28 = .ok (.iconst 1, 1) := by decide +kernel
theorem dX6_bestAt_29 : decode cX6_bestAt 29 = .ok (.invokevirtual 82, 3) := by decide +kernel
theorem dX6_bestAt_32 : decode cX6_bestAt 32 = .ok (.ireturn, 1) := by decide +kernel
set_option maxRecDepth 20000 in
theorem ggX6_canTry_X6_isChoice : GoodIn wsX6_canTry wsX6_isChoice := goodIn_ca (goodIn_r _ [6, 7, 8, 9, 10, 16, 17, 18, 19, 20, 21, 22, 23, 24, 25, 26, 27, 28, 29, 30, 31, 32, 33, 34, 35, 36, 37, 38, 39, 40, 41, 42] (by decide +kernel) (by decide +kernel)) (goodIn_sub (fun _ h => List.mem_cons_of_mem _ (List.mem_append_right _ h)) (by decide +kernel))
set_option maxRecDepth 20000 in
theorem gX6_canTry_X6_isChoice : GoodIn wsX6_canTry (wsV RX6 192 RX6 yX6_isChoice wsX6_isChoice) := goodIn_app (goodIn_of _ (by decide +kernel)) ggX6_canTry_X6_isChoice
set_option maxRecDepth 20000 in
theorem ggX6_canTry_X6_isThere : GoodIn wsX6_canTry wsX6_isThere := goodIn_r _ [14, 15, 16, 17, 18, 19, 20, 21, 22, 23, 24, 25, 26, 27, 28, 29, 30, 31, 32, 33, 34, 35, 36, 37, 38, 39, 40, 41, 42] (by decide +kernel) (by decide +kernel)
set_option maxRecDepth 20000 in
theorem gX6_canTry_X6_isThere : GoodIn wsX6_canTry (wsV RX6 116 RX6 yX6_isThere wsX6_isThere) := goodIn_app (goodIn_of _ (by decide +kernel)) ggX6_canTry_X6_isThere
theorem dX6_canTry_0 : decode cX6_canTry 0 = .ok (.iconst 0, 1) := by decide +kernel
theorem dX6_canTry_1 : decode cX6_canTry 1 = .ok (.istore_n 1, 1) := by decide +kernel
theorem dX6_canTry_2 : decode cX6_canTry 2 = .ok (.iconst 0, 1) := by decide +kernel
theorem dX6_canTry_3 : decode cX6_canTry 3 = .ok (.istore_n 2, 1) := by decide +kernel
theorem dX6_canTry_4 : decode cX6_canTry 4 = .ok (.iload_n 2, 1) := by decide +kernel
theorem dX6_canTry_5 : decode cX6_canTry 5 = .ok (.aload_n 0, 1) := by decide +kernel
theorem dX6_canTry_6 : decode cX6_canTry 6 = .ok (.getfield 79, 3) := by decide +kernel
theorem dX6_canTry_9 : decode cX6_canTry 9 = .ok (.if_icmp .ge 25, 3) := by decide +kernel
theorem dX6_canTry_12 : decode cX6_canTry 12 = .ok (.iload_n 1, 1) := by decide +kernel
theorem dX6_canTry_13 : decode cX6_canTry 13 = .ok (.aload_n 0, 1) := by decide +kernel
theorem dX6_canTry_14 : decode cX6_canTry 14 = .ok (.iload_n 2, 1) := by decide +kernel
theorem dX6_canTry_15 : decode cX6_canTry 15 = .ok (.invokevirtual 192, 3) := by decide +kernel
theorem dX6_canTry_18 : decode cX6_canTry 18 = .ok (.ifCond .eq 7, 3) := by decide +kernel
theorem dX6_canTry_21 : decode cX6_canTry 21 = .ok (.iconst 1, 1) := by decide +kernel
theorem dX6_canTry_22 : decode cX6_canTry 22 = .ok (.goto 4, 3) := by decide +kernel
theorem dX6_canTry_25 : decode cX6_canTry 25 = .ok (.iconst 0, 1) := by decide +kernel
theorem dX6_canTry_26 : decode cX6_canTry 26 = .ok (.iadd, 1) := by decide +kernel
theorem dX6_canTry_27 : decode cX6_canTry 27 = .ok (.istore_n 1, 1) := by decide +kernel
theorem dX6_canTry_28 : decode cX6_canTry 28 = .ok (.iinc 2 1, 3) := by decide +kernel
theorem dX6_canTry_31 : decode cX6_canTry 31 = .ok (.goto (-27), 3) := by decide +kernel
theorem dX6_canTry_34 : decode cX6_canTry 34 = .ok (.aload_n 0, 1) := by decide +kernel
theorem dX6_canTry_35 : decode cX6_canTry 35 = .ok (.iload_n 1, 1) := by decide +kernel
theorem dX6_canTry_36 : decode cX6_canTry 36 = .ok (.bipush 9, 2) := by decide +kernel
theorem dX6_canTry_38 : decode cX6_canTry 38 = .ok (.if_icmp .gt 7, 3) := by decide +kernel
theorem dX6_canTry_41 : decode cX6_canTry 41 = .ok (.iconst 1, 1) := by decide +kernel
theorem dX6_canTry_42 : decode cX6_canTry 42 = .ok (.goto 4, 3) := by decide +kernel
theorem dX6_canTry_45 : decode cX6_canTry 45 = .ok (.iconst 0, 1) := by decide +kernel
theorem dX6_canTry_46 : decode cX6_canTry 46 = .ok (.invokevirtual 116, 3) := by decide +kernel
theorem dX6_canTry_49 : decode cX6_canTry 49 = .ok (.ireturn, 1) := by decide +kernel
set_option maxRecDepth 20000 in
theorem ggX6_valueByTrying_X6_canTry : GoodIn wsX6_valueByTrying wsX6_canTry := goodIn_ca (goodIn_r _ [5, 6, 7, 8, 9, 4, 10, 11, 12, 13, 14, 15, 16, 17, 18, 19, 82, 83, 84, 85, 86, 87, 88, 89, 90, 91, 92, 93, 94, 95, 96, 97, 98, 99, 100, 101, 102, 103, 104, 105, 106, 107, 108] (by decide +kernel) (by decide +kernel)) (goodIn_sub (fun _ h => List.mem_cons_of_mem _ (List.mem_append_right _ h)) (by decide +kernel))
set_option maxRecDepth 20000 in
theorem gX6_valueByTrying_X6_canTry : GoodIn wsX6_valueByTrying (wsV RX6 198 RX6 yX6_canTry wsX6_canTry) := goodIn_app (goodIn_of _ (by decide +kernel)) ggX6_valueByTrying_X6_canTry
set_option maxRecDepth 20000 in
theorem ggX6_valueByTrying_X6_bestValue : GoodIn wsX6_valueByTrying wsX6_bestValue := goodIn_ca (goodIn_r _ [23, 24, 25, 26, 27, 4, 28, 19, 29, 30, 31, 32, 33, 34, 35, 36, 37, 38, 39, 40, 41, 42, 43, 6, 11, 44, 45, 46, 47, 48, 49, 50, 51, 52, 53, 54, 55, 56, 57, 58, 59, 7, 8, 9, 10, 12, 13, 14, 60, 61, 62, 63, 64, 65, 66, 67, 68, 69, 70, 71, 72, 73, 74, 75, 76, 77, 78, 79, 80, 81, 82, 83, 84, 85, 86, 87, 88, 89, 90, 91, 92, 93, 94, 95, 96, 97, 98, 99, 100, 101, 102, 103, 104, 105, 106, 107, 108] (by decide +kernel) (by decide +kernel)) (goodIn_sub (fun _ h => List.mem_cons_of_mem _ (List.mem_append_right _ h)) (by decide +kernel))
set_option maxRecDepth 20000 in
theorem gX6_valueByTrying_X6_bestValue : GoodIn wsX6_valueByTrying (wsV RX6 201 RX6 yX6_bestValue wsX6_bestValue) := goodIn_app (goodIn_of _ (by decide +kernel)) ggX6_valueByTrying_X6_bestValue
theorem dX6_valueByTrying_0 : decode cX6_valueByTrying 0 = .ok (.aload_n 0, 1) := by decide +kernel
theorem dX6_valueByTrying_1 : decode cX6_valueByTrying 1 = .ok (.invokevirtual 198, 3) := by decide +kernel
theorem dX6_valueByTrying_4 : decode cX6_valueByTrying 4 = .ok (.ifCond .eq 10, 3) := by decide +kernel
theorem dX6_valueByTrying_7 : decode cX6_valueByTrying 7 = .ok (.aload_n 0, 1) := by decide +kernel
theorem dX6_valueByTrying_8 : decode cX6_valueByTrying 8 = .ok (.invokevirtual 201, 3) := by decide +kernel
theorem dX6_valueByTrying_11 : decode cX6_valueByTrying 11 = .ok (.goto 4, 3) := by decide +kernel
theorem dX6_valueByTrying_14 : decode cX6_valueByTrying 14 = .ok (.iconst 0, 1) := by decide +kernel
theorem dX6_valueByTrying_15 : decode cX6_valueByTrying 15 = .ok (.ireturn, 1) := by decide +kernel
set_option maxRecDepth 20000 in
theorem ggX6_sizeByTrying_X6_canTry : GoodIn wsX6_sizeByTrying wsX6_canTry := goodIn_ca (goodIn_r _ [5, 6, 7, 8, 9, 4, 10, 11, 12, 13, 14, 15, 16, 17, 18, 19, 82, 83, 84, 85, 86, 87, 88, 89, 90, 91, 92, 93, 94, 95, 96, 97, 98, 99, 100, 101, 102, 103, 104, 105, 106, 107, 108] (by decide +kernel) (by decide +kernel)) (goodIn_sub (fun _ h => List.mem_cons_of_mem _ (List.mem_append_right _ h)) (by decide +kernel))
set_option maxRecDepth 20000 in
theorem gX6_sizeByTrying_X6_canTry : GoodIn wsX6_sizeByTrying (wsV RX6 198 RX6 yX6_canTry wsX6_canTry) := goodIn_app (goodIn_of _ (by decide +kernel)) ggX6_sizeByTrying_X6_canTry
set_option maxRecDepth 20000 in
theorem ggX6_sizeByTrying_X6_bestSize : GoodIn wsX6_sizeByTrying wsX6_bestSize := goodIn_ca (goodIn_r _ [23, 24, 25, 26, 27, 4, 28, 19, 29, 30, 31, 32, 33, 34, 35, 36, 37, 38, 39, 40, 41, 42, 43, 6, 11, 44, 45, 46, 47, 48, 49, 50, 51, 52, 53, 54, 55, 56, 57, 58, 59, 7, 8, 9, 10, 12, 13, 14, 60, 61, 62, 63, 64, 65, 66, 67, 68, 69, 70, 71, 72, 73, 74, 75, 76, 77, 78, 79, 80, 81, 82, 83, 84, 85, 86, 87, 88, 89, 90, 91, 92, 93, 94, 95, 96, 97, 98, 99, 100, 101, 102, 103, 104, 105, 106, 107, 108] (by decide +kernel) (by decide +kernel)) (goodIn_sub (fun _ h => List.mem_cons_of_mem _ (List.mem_append_right _ h)) (by decide +kernel))
set_option maxRecDepth 20000 in
theorem gX6_sizeByTrying_X6_bestSize : GoodIn wsX6_sizeByTrying (wsV RX6 204 RX6 yX6_bestSize wsX6_bestSize) := goodIn_app (goodIn_of _ (by decide +kernel)) ggX6_sizeByTrying_X6_bestSize
theorem dX6_sizeByTrying_0 : decode cX6_sizeByTrying 0 = .ok (.aload_n 0, 1) := by decide +kernel
theorem dX6_sizeByTrying_1 : decode cX6_sizeByTrying 1 = .ok (.invokevirtual 198, 3) := by decide +kernel
theorem dX6_sizeByTrying_4 : decode cX6_sizeByTrying 4 = .ok (.ifCond .eq 10, 3) := by decide +kernel
theorem dX6_sizeByTrying_7 : decode cX6_sizeByTrying 7 = .ok (.aload_n 0, 1) := by decide +kernel
theorem dX6_sizeByTrying_8 : decode cX6_sizeByTrying 8 = .ok (.invokevirtual 204, 3) := by decide +kernel
theorem dX6_sizeByTrying_11 : decode cX6_sizeByTrying 11 = .ok (.goto 4, 3) := by decide +kernel
theorem dX6_sizeByTrying_14 : decode cX6_sizeByTrying 14 = .ok (.iconst 0, 1) := by decide +kernel
theorem dX6_sizeByTrying_15 : decode cX6_sizeByTrying 15 = .ok (.ireturn, 1) := by decide +kernel
set_option maxRecDepth 20000 in
theorem ggX6_restore_X6_chooses : GoodIn wsX6_restore wsX6_chooses := goodIn_ca (goodIn_r _ [8, 9, 10, 1, 11, 12, 13, 14, 7, 15, 16, 17, 18, 19, 20, 21, 22, 23, 24, 25, 2, 26, 27, 28, 29, 30, 31, 32, 33, 34, 35, 3, 36, 37, 38, 39, 40, 41, 42, 43, 44, 45, 46, 47, 48, 49, 50, 51, 52, 53, 54, 55, 56, 57, 58, 59, 60, 61, 62, 63, 64, 65, 66, 67, 68, 69, 70, 71, 72, 73, 74, 75, 76, 77, 78, 79, 80, 81, 82, 83, 84, 85, 86, 87, 88, 89, 90, 91, 92, 93, 94, 95, 96] (by decide +kernel) (by decide +kernel)) (goodIn_sub (fun _ h => List.mem_cons_of_mem _ (List.mem_append_right _ h)) (by decide +kernel))
set_option maxRecDepth 20000 in
theorem gX6_restore_X6_chooses : GoodIn wsX6_restore (wsV RX6 195 RX6 yX6_chooses wsX6_chooses) := goodIn_app (goodIn_of _ (by decide +kernel)) ggX6_restore_X6_chooses
theorem dX6_restore_0 : decode cX6_restore 0 = .ok (.aload_n 0, 1) := by decide +kernel
theorem dX6_restore_1 : decode cX6_restore 1 = .ok (.invokevirtual 195, 3) := by decide +kernel
theorem dX6_restore_4 : decode cX6_restore 4 = .ok (.iconst 0, 1) := by decide +kernel
theorem dX6_restore_5 : decode cX6_restore 5 = .ok (.istore_n 1, 1) := by decide +kernel
theorem dX6_restore_6 : decode cX6_restore 6 = .ok (.iload_n 1, 1) := by decide +kernel
theorem dX6_restore_7 : decode cX6_restore 7 = .ok (.aload_n 0, 1) := by decide +kernel
theorem dX6_restore_8 : decode cX6_restore 8 = .ok (.getfield 182, 3) := by decide +kernel
theorem dX6_restore_11 : decode cX6_restore 11 = .ok (.if_icmp .ge 21, 3) := by decide +kernel
theorem dX6_restore_14 : decode cX6_restore 14 = .ok (.aload_n 0, 1) := by decide +kernel
theorem dX6_restore_15 : decode cX6_restore 15 = .ok (.getfield 44, 3) := by decide +kernel
theorem dX6_restore_18 : decode cX6_restore 18 = .ok (.aload_n 0, 1) := by decide +kernel
theorem dX6_restore_19 : decode cX6_restore 19 = .ok (.getfield 65, 3) := by decide +kernel
theorem dX6_restore_22 : decode cX6_restore 22 = .ok (.iload_n 1, 1) := by decide +kernel
theorem dX6_restore_23 : decode cX6_restore 23 = .ok (.iaload, 1) := by decide +kernel
theorem dX6_restore_24 : decode cX6_restore 24 = .ok (.iconst 1, 1) := by decide +kernel
theorem dX6_restore_25 : decode cX6_restore 25 = .ok (.bastore, 1) := by decide +kernel
theorem dX6_restore_26 : decode cX6_restore 26 = .ok (.iinc 1 1, 3) := by decide +kernel
theorem dX6_restore_29 : decode cX6_restore 29 = .ok (.goto (-23), 3) := by decide +kernel
theorem dX6_restore_32 : decode cX6_restore 32 = .ok (.aload_n 0, 1) := by decide +kernel
theorem dX6_restore_33 : decode cX6_restore 33 = .ok (.getfield 182, 3) := by decide +kernel
theorem dX6_restore_36 : decode cX6_restore 36 = .ok (.ireturn, 1) := by decide +kernel
set_option maxRecDepth 20000 in
theorem ggX6_liveShare_X6_loads : GoodIn wsX6_liveShare wsX6_loads := goodIn_ca (goodIn_r _ [6, 7, 8, 9, 10, 11, 12, 5, 13, 14, 15, 16, 17, 18, 19, 20, 21, 22, 23, 24, 25, 26, 27, 28, 29, 30, 31, 32, 33, 34, 35, 36, 37, 38, 39, 40, 41, 42, 43, 44, 45, 46, 47, 48, 49] (by decide +kernel) (by decide +kernel)) (goodIn_sub (fun _ h => List.mem_cons_of_mem _ (List.mem_append_right _ h)) (by decide +kernel))
set_option maxRecDepth 20000 in
theorem gX6_liveShare_X6_loads : GoodIn wsX6_liveShare (wsV RX6 169 RX6 yX6_loads wsX6_loads) := goodIn_app (goodIn_of _ (by decide +kernel)) ggX6_liveShare_X6_loads
theorem dX6_liveShare_0 : decode cX6_liveShare 0 = .ok (.aload_n 0, 1) := by decide +kernel
theorem dX6_liveShare_1 : decode cX6_liveShare 1 = .ok (.iconst 0, 1) := by decide +kernel
theorem dX6_liveShare_2 : decode cX6_liveShare 2 = .ok (.invokevirtual 169, 3) := by decide +kernel
theorem dX6_liveShare_5 : decode cX6_liveShare 5 = .ok (.istore_n 1, 1) := by decide +kernel
theorem dX6_liveShare_6 : decode cX6_liveShare 6 = .ok (.aload_n 0, 1) := by decide +kernel
theorem dX6_liveShare_7 : decode cX6_liveShare 7 = .ok (.iconst 1, 1) := by decide +kernel
theorem dX6_liveShare_8 : decode cX6_liveShare 8 = .ok (.invokevirtual 169, 3) := by decide +kernel
theorem dX6_liveShare_11 : decode cX6_liveShare 11 = .ok (.istore_n 2, 1) := by decide +kernel
theorem dX6_liveShare_12 : decode cX6_liveShare 12 = .ok (.aload_n 0, 1) := by decide +kernel
theorem dX6_liveShare_13 : decode cX6_liveShare 13 = .ok (.iload_n 1, 1) := by decide +kernel
theorem dX6_liveShare_14 : decode cX6_liveShare 14 = .ok (.ifCond .ne 7, 3) := by decide +kernel
theorem dX6_liveShare_17 : decode cX6_liveShare 17 = .ok (.iconst 1, 1) := by decide +kernel
theorem dX6_liveShare_18 : decode cX6_liveShare 18 = .ok (.goto 4, 3) := by decide +kernel
theorem dX6_liveShare_21 : decode cX6_liveShare 21 = .ok (.iconst 0, 1) := by decide +kernel
theorem dX6_liveShare_22 : decode cX6_liveShare 22 = .ok (.putfield 68, 3) := by decide +kernel
theorem dX6_liveShare_25 : decode cX6_liveShare 25 = .ok (.iload_n 1, 1) := by decide +kernel
theorem dX6_liveShare_26 : decode cX6_liveShare 26 = .ok (.ifCond .ne 7, 3) := by decide +kernel
theorem dX6_liveShare_29 : decode cX6_liveShare 29 = .ok (.fconst 0, 1) := by decide +kernel
theorem dX6_liveShare_30 : decode cX6_liveShare 30 = .ok (.goto 10, 3) := by decide +kernel
theorem dX6_liveShare_33 : decode cX6_liveShare 33 = .ok (.iload_n 1, 1) := by decide +kernel
theorem dX6_liveShare_34 : decode cX6_liveShare 34 = .ok (.iload_n 2, 1) := by decide +kernel
theorem dX6_liveShare_35 : decode cX6_liveShare 35 = .ok (.isub, 1) := by decide +kernel
theorem dX6_liveShare_36 : decode cX6_liveShare 36 = .ok (.i2f, 1) := by decide +kernel
theorem dX6_liveShare_37 : decode cX6_liveShare 37 = .ok (.iload_n 1, 1) := by decide +kernel
theorem dX6_liveShare_38 : decode cX6_liveShare 38 = .ok (.i2f, 1) := by decide +kernel
theorem dX6_liveShare_39 : decode cX6_liveShare 39 = .ok (.fdiv, 1) := by decide +kernel
theorem dX6_liveShare_40 : decode cX6_liveShare 40 = .ok (.freturn, 1) := by decide +kernel
set_option maxRecDepth 20000 in
theorem ggX6_meanCurrent_X6_finds : GoodIn wsX6_meanCurrent wsX6_finds := goodIn_ca (goodIn_r _ [7, 8, 9, 10, 11, 12, 13, 1, 14, 15, 16, 17, 18, 6, 19, 20, 21, 22, 23, 24, 38, 39, 40, 41, 42, 43, 44, 45, 46, 47, 48, 49, 50, 51, 52, 53, 54, 55, 56, 57, 58, 59, 60, 61, 62, 63, 64] (by decide +kernel) (by decide +kernel)) (goodIn_sub (fun _ h => List.mem_cons_of_mem _ (List.mem_append_right _ h)) (by decide +kernel))
set_option maxRecDepth 20000 in
theorem gX6_meanCurrent_X6_finds : GoodIn wsX6_meanCurrent (wsV RX6 134 RX6 yX6_finds wsX6_finds) := goodIn_app (goodIn_of _ (by decide +kernel)) ggX6_meanCurrent_X6_finds
set_option maxRecDepth 20000 in
theorem ggX6_meanCurrent_X6_flowOf : GoodIn wsX6_meanCurrent wsX6_flowOf := goodIn_ca (goodIn_r _ [28, 9, 29, 30, 31, 6, 32, 10, 11, 14, 16, 17, 18, 19, 12, 1, 20, 21, 22, 23, 24, 33, 34, 35, 36, 37, 38, 39, 40, 41, 42, 43, 44, 45, 46, 47, 48, 49, 50, 51, 52, 53, 54, 55, 56, 57, 58, 59, 60, 61, 62, 63, 64] (by decide +kernel) (by decide +kernel)) (goodIn_sub (fun _ h => List.mem_cons_of_mem _ (List.mem_append_right _ h)) (by decide +kernel))
set_option maxRecDepth 20000 in
theorem gX6_meanCurrent_X6_flowOf : GoodIn wsX6_meanCurrent (wsV RX6 110 RX6 yX6_flowOf wsX6_flowOf) := goodIn_app (goodIn_of _ (by decide +kernel)) ggX6_meanCurrent_X6_flowOf
theorem dX6_meanCurrent_0 : decode cX6_meanCurrent 0 = .ok (.iconst 0, 1) := by decide +kernel
theorem dX6_meanCurrent_1 : decode cX6_meanCurrent 1 = .ok (.istore_n 1, 1) := by decide +kernel
theorem dX6_meanCurrent_2 : decode cX6_meanCurrent 2 = .ok (.iconst 0, 1) := by decide +kernel
theorem dX6_meanCurrent_3 : decode cX6_meanCurrent 3 = .ok (.istore_n 2, 1) := by decide +kernel
theorem dX6_meanCurrent_4 : decode cX6_meanCurrent 4 = .ok (.iconst 0, 1) := by decide +kernel
theorem dX6_meanCurrent_5 : decode cX6_meanCurrent 5 = .ok (.istore_n 3, 1) := by decide +kernel
theorem dX6_meanCurrent_6 : decode cX6_meanCurrent 6 = .ok (.iload_n 3, 1) := by decide +kernel
theorem dX6_meanCurrent_7 : decode cX6_meanCurrent 7 = .ok (.aload_n 0, 1) := by decide +kernel
theorem dX6_meanCurrent_8 : decode cX6_meanCurrent 8 = .ok (.getfield 79, 3) := by decide +kernel
theorem dX6_meanCurrent_11 : decode cX6_meanCurrent 11 = .ok (.if_icmp .ge 46, 3) := by decide +kernel
theorem dX6_meanCurrent_14 : decode cX6_meanCurrent 14 = .ok (.aload_n 0, 1) := by decide +kernel
theorem dX6_meanCurrent_15 : decode cX6_meanCurrent 15 = .ok (.iload_n 3, 1) := by decide +kernel
theorem dX6_meanCurrent_16 : decode cX6_meanCurrent 16 = .ok (.invokevirtual 134, 3) := by decide +kernel
theorem dX6_meanCurrent_19 : decode cX6_meanCurrent 19 = .ok (.istore 4, 2) := by decide +kernel
theorem dX6_meanCurrent_21 : decode cX6_meanCurrent 21 = .ok (.iload_n 1, 1) := by decide +kernel
theorem dX6_meanCurrent_22 : decode cX6_meanCurrent 22 = .ok (.iload 4, 2) := by decide +kernel
theorem dX6_meanCurrent_24 : decode cX6_meanCurrent 24 = .ok (.ifCond .eq 7, 3) := by decide +kernel
theorem dX6_meanCurrent_27 : decode cX6_meanCurrent 27 = .ok (.iconst 1, 1) := by decide +kernel
theorem dX6_meanCurrent_28 : decode cX6_meanCurrent 28 = .ok (.goto 4, 3) := by decide +kernel
theorem dX6_meanCurrent_31 : decode cX6_meanCurrent 31 = .ok (.iconst 0, 1) := by decide +kernel
theorem dX6_meanCurrent_32 : decode cX6_meanCurrent 32 = .ok (.iadd, 1) := by decide +kernel
theorem dX6_meanCurrent_33 : decode cX6_meanCurrent 33 = .ok (.istore_n 1, 1) := by decide +kernel
theorem dX6_meanCurrent_34 : decode cX6_meanCurrent 34 = .ok (.iload_n 2, 1) := by decide +kernel
theorem dX6_meanCurrent_35 : decode cX6_meanCurrent 35 = .ok (.iload 4, 2) := by decide +kernel
theorem dX6_meanCurrent_37 : decode cX6_meanCurrent 37 = .ok (.ifCond .eq 11, 3) := by decide +kernel
theorem dX6_meanCurrent_40 : decode cX6_meanCurrent 40 = .ok (.aload_n 0, 1) := by decide +kernel
theorem dX6_meanCurrent_41 : decode cX6_meanCurrent 41 = .ok (.iload_n 3, 1) := by decide +kernel
theorem dX6_meanCurrent_42 : decode cX6_meanCurrent 42 = .ok (.invokevirtual 110, 3) := by decide +kernel
theorem dX6_meanCurrent_45 : decode cX6_meanCurrent 45 = .ok (.goto 4, 3) := by decide +kernel
theorem dX6_meanCurrent_48 : decode cX6_meanCurrent 48 = .ok (.iconst 0, 1) := by decide +kernel
theorem dX6_meanCurrent_49 : decode cX6_meanCurrent 49 = .ok (.iadd, 1) := by decide +kernel
theorem dX6_meanCurrent_50 : decode cX6_meanCurrent 50 = .ok (.istore_n 2, 1) := by decide +kernel
theorem dX6_meanCurrent_51 : decode cX6_meanCurrent 51 = .ok (.iinc 3 1, 3) := by decide +kernel
theorem dX6_meanCurrent_54 : decode cX6_meanCurrent 54 = .ok (.goto (-48), 3) := by decide +kernel
theorem dX6_meanCurrent_57 : decode cX6_meanCurrent 57 = .ok (.aload_n 0, 1) := by decide +kernel
theorem dX6_meanCurrent_58 : decode cX6_meanCurrent 58 = .ok (.iload_n 1, 1) := by decide +kernel
theorem dX6_meanCurrent_59 : decode cX6_meanCurrent 59 = .ok (.ifCond .ne 7, 3) := by decide +kernel
theorem dX6_meanCurrent_62 : decode cX6_meanCurrent 62 = .ok (.iconst 1, 1) := by decide +kernel
theorem dX6_meanCurrent_63 : decode cX6_meanCurrent 63 = .ok (.goto 4, 3) := by decide +kernel
theorem dX6_meanCurrent_66 : decode cX6_meanCurrent 66 = .ok (.iconst 0, 1) := by decide +kernel
theorem dX6_meanCurrent_67 : decode cX6_meanCurrent 67 = .ok (.putfield 68, 3) := by decide +kernel
theorem dX6_meanCurrent_70 : decode cX6_meanCurrent 70 = .ok (.iload_n 1, 1) := by decide +kernel
theorem dX6_meanCurrent_71 : decode cX6_meanCurrent 71 = .ok (.ifCond .ne 7, 3) := by decide +kernel
theorem dX6_meanCurrent_74 : decode cX6_meanCurrent 74 = .ok (.dconst 0, 1) := by decide +kernel
theorem dX6_meanCurrent_75 : decode cX6_meanCurrent 75 = .ok (.goto 8, 3) := by decide +kernel
theorem dX6_meanCurrent_78 : decode cX6_meanCurrent 78 = .ok (.iload_n 2, 1) := by decide +kernel
theorem dX6_meanCurrent_79 : decode cX6_meanCurrent 79 = .ok (.i2d, 1) := by decide +kernel
theorem dX6_meanCurrent_80 : decode cX6_meanCurrent 80 = .ok (.iload_n 1, 1) := by decide +kernel
theorem dX6_meanCurrent_81 : decode cX6_meanCurrent 81 = .ok (.i2d, 1) := by decide +kernel
theorem dX6_meanCurrent_82 : decode cX6_meanCurrent 82 = .ok (.ddiv, 1) := by decide +kernel
theorem dX6_meanCurrent_83 : decode cX6_meanCurrent 83 = .ok (.dreturn, 1) := by decide +kernel
