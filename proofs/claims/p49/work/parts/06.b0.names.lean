theorem dJx00060_init_a7421_0 : decode cJx00060_init_a7421 0 = .ok (.aload_n 0, 1) := by decide +kernel
theorem dJx00060_init_a7421_1 : decode cJx00060_init_a7421 1 = .ok (.aload_n 1, 1) := by decide +kernel
theorem dJx00060_init_a7421_2 : decode cJx00060_init_a7421 2 = .ok (.invokespecial 7, 3) := by decide +kernel
theorem dJx00060_init_a7421_5 : decode cJx00060_init_a7421 5 = .ok (.return_, 1) := by decide +kernel
theorem dL_cell_0 : decode cL_cell 0 = .ok (.iload_n 1, 1) := by decide +kernel
theorem dL_cell_1 : decode cL_cell 1 = .ok (.aload_n 0, 1) := by decide +kernel
theorem dL_cell_2 : decode cL_cell 2 = .ok (.arraylength, 1) := by decide +kernel
theorem dL_cell_3 : decode cL_cell 3 = .ok (.if_icmp .ge 9, 3) := by decide +kernel
theorem dL_cell_6 : decode cL_cell 6 = .ok (.aload_n 0, 1) := by decide +kernel
theorem dL_cell_7 : decode cL_cell 7 = .ok (.iload_n 1, 1) := by decide +kernel
theorem dL_cell_8 : decode cL_cell 8 = .ok (.iaload, 1) := by decide +kernel
theorem dL_cell_9 : decode cL_cell 9 = .ok (.goto 7, 3) := by decide +kernel
theorem dL_cell_12 : decode cL_cell 12 = .ok (.ldc 7, 2) := by decide +kernel
theorem dL_cell_14 : decode cL_cell 14 = .ok (.iload_n 1, 1) := by decide +kernel
theorem dL_cell_15 : decode cL_cell 15 = .ok (.imul, 1) := by decide +kernel
theorem dL_cell_16 : decode cL_cell 16 = .ok (.ireturn, 1) := by decide +kernel
set_option maxRecDepth 20000 in
theorem ggL_pick_L_cell : GoodIn wsL_pick wsL_cell := goodIn_ca (goodIn_r _ [4, 5] (by decide +kernel) (by decide +kernel)) (goodIn_sub (fun _ h => List.mem_cons_of_mem _ (List.mem_append_right _ h)) (by decide +kernel))
set_option maxRecDepth 20000 in
theorem gL_pick_L_cell : GoodIn wsL_pick (va_wsS RL 8 yL_cell wsL_cell) := goodIn_app (goodIn_of _ (by decide +kernel)) ggL_pick_L_cell
theorem dL_pick_0 : decode cL_pick 0 = .ok (.aload_n 0, 1) := by decide +kernel
theorem dL_pick_1 : decode cL_pick 1 = .ok (.iload_n 1, 1) := by decide +kernel
theorem dL_pick_2 : decode cL_pick 2 = .ok (.invokestatic 8, 3) := by decide +kernel
theorem dL_pick_5 : decode cL_pick 5 = .ok (.iconst 1, 1) := by decide +kernel
theorem dL_pick_6 : decode cL_pick 6 = .ok (.iushr, 1) := by decide +kernel
theorem dL_pick_7 : decode cL_pick 7 = .ok (.iload_n 2, 1) := by decide +kernel
theorem dL_pick_8 : decode cL_pick 8 = .ok (.irem, 1) := by decide +kernel
theorem dL_pick_9 : decode cL_pick 9 = .ok (.ireturn, 1) := by decide +kernel
set_option maxRecDepth 20000 in
theorem ggL_addSource_X5_addSource : GoodIn wsL_addSource wsX5_addSource := goodIn_ca (goodIn_ca (goodIn_ca (goodIn_r _ [7, 8, 9, 10, 11, 12, 13, 14, 15, 16, 17, 18, 19, 20, 21, 6, 22, 23, 24, 25, 26, 27, 28, 29, 30, 31, 32, 33, 34, 35, 36, 37, 38, 39, 40, 41, 42, 43] (by decide +kernel) (by decide +kernel)) (goodIn_sub (fun _ h => List.mem_cons_of_mem _ (List.mem_append_left _ (List.mem_append_left _ (List.mem_append_right _ h)))) (by decide +kernel))) (goodIn_sub (fun _ h => List.mem_cons_of_mem _ (List.mem_append_left _ (List.mem_append_right _ h))) (by decide +kernel))) (goodIn_sub (fun _ h => List.mem_cons_of_mem _ (List.mem_append_right _ h)) (by decide +kernel))
set_option maxRecDepth 20000 in
theorem gL_addSource_X5_addSource : GoodIn wsL_addSource (wsV RL 14 RX5 yX5_addSource wsX5_addSource) := goodIn_app (goodIn_of _ (by decide +kernel)) ggL_addSource_X5_addSource
theorem dL_addSource_0 : decode cL_addSource 0 = .ok (.aload_n 0, 1) := by decide +kernel
theorem dL_addSource_1 : decode cL_addSource 1 = .ok (.iload_n 1, 1) := by decide +kernel
theorem dL_addSource_2 : decode cL_addSource 2 = .ok (.invokevirtual 14, 3) := by decide +kernel
theorem dL_addSource_5 : decode cL_addSource 5 = .ok (.ireturn, 1) := by decide +kernel
theorem dL_addSource_6 : decode cL_addSource 6 = .ok (.astore_n 2, 1) := by decide +kernel
theorem dL_addSource_7 : decode cL_addSource 7 = .ok (.bipush (-78), 2) := by decide +kernel
theorem dL_addSource_9 : decode cL_addSource 9 = .ok (.ireturn, 1) := by decide +kernel
theorem dL_addSource_10 : decode cL_addSource 10 = .ok (.astore_n 2, 1) := by decide +kernel
theorem dL_addSource_11 : decode cL_addSource 11 = .ok (.bipush (-79), 2) := by decide +kernel
theorem dL_addSource_13 : decode cL_addSource 13 = .ok (.ireturn, 1) := by decide +kernel
set_option maxRecDepth 20000 in
theorem ggL_addBus_X5_addBus : GoodIn wsL_addBus wsX5_addBus := goodIn_ca (goodIn_ca (goodIn_ca (goodIn_r _ [7, 8, 9, 10, 11, 12, 6, 13, 14, 15, 16, 17, 18, 19, 20, 21, 22, 23, 24, 25, 26, 27, 28, 29, 30, 31, 32, 33, 34, 35, 36, 37, 38, 39, 40, 41, 42, 43, 44, 45, 46] (by decide +kernel) (by decide +kernel)) (goodIn_sub (fun _ h => List.mem_cons_of_mem _ (List.mem_append_left _ (List.mem_append_left _ (List.mem_append_right _ h)))) (by decide +kernel))) (goodIn_sub (fun _ h => List.mem_cons_of_mem _ (List.mem_append_left _ (List.mem_append_right _ h))) (by decide +kernel))) (goodIn_sub (fun _ h => List.mem_cons_of_mem _ (List.mem_append_right _ h)) (by decide +kernel))
set_option maxRecDepth 20000 in
theorem gL_addBus_X5_addBus : GoodIn wsL_addBus (wsV RL 24 RX5 yX5_addBus wsX5_addBus) := goodIn_app (goodIn_of _ (by decide +kernel)) ggL_addBus_X5_addBus
theorem dL_addBus_0 : decode cL_addBus 0 = .ok (.aload_n 0, 1) := by decide +kernel
theorem dL_addBus_1 : decode cL_addBus 1 = .ok (.iload_n 1, 1) := by decide +kernel
theorem dL_addBus_2 : decode cL_addBus 2 = .ok (.iload_n 2, 1) := by decide +kernel
theorem dL_addBus_3 : decode cL_addBus 3 = .ok (.invokevirtual 24, 3) := by decide +kernel
theorem dL_addBus_6 : decode cL_addBus 6 = .ok (.ireturn, 1) := by decide +kernel
theorem dL_addBus_7 : decode cL_addBus 7 = .ok (.astore_n 3, 1) := by decide +kernel
theorem dL_addBus_8 : decode cL_addBus 8 = .ok (.bipush (-78), 2) := by decide +kernel
theorem dL_addBus_10 : decode cL_addBus 10 = .ok (.ireturn, 1) := by decide +kernel
theorem dL_addBus_11 : decode cL_addBus 11 = .ok (.astore_n 3, 1) := by decide +kernel
theorem dL_addBus_12 : decode cL_addBus 12 = .ok (.bipush (-79), 2) := by decide +kernel
theorem dL_addBus_14 : decode cL_addBus 14 = .ok (.ireturn, 1) := by decide +kernel
set_option maxRecDepth 20000 in
theorem ggL_addLine_X5_addLine : GoodIn wsL_addLine wsX5_addLine := goodIn_ca (goodIn_ca (goodIn_ca (goodIn_ca (goodIn_r _ [8, 9, 10, 11, 12, 13, 14, 15, 7, 16, 17, 18, 19, 20, 21, 22, 23, 24, 25, 26, 27, 28, 29, 30, 31, 32, 33, 34, 35, 36, 37, 38, 39, 40, 41, 42, 43, 44, 45, 46, 47, 48, 49, 50, 51, 52, 53, 54, 55, 56, 57, 58, 59, 60, 61, 62, 63, 64, 65, 66, 67, 68, 69, 70, 71, 72, 73, 74] (by decide +kernel) (by decide +kernel)) (goodIn_sub (fun _ h => List.mem_cons_of_mem _ (List.mem_append_left _ (List.mem_append_left _ (List.mem_append_left _ (List.mem_append_right _ h))))) (by decide +kernel))) (goodIn_sub (fun _ h => List.mem_cons_of_mem _ (List.mem_append_left _ (List.mem_append_left _ (List.mem_append_right _ h)))) (by decide +kernel))) (goodIn_sub (fun _ h => List.mem_cons_of_mem _ (List.mem_append_left _ (List.mem_append_right _ h))) (by decide +kernel))) (goodIn_sub (fun _ h => List.mem_cons_of_mem _ (List.mem_append_right _ h)) (by decide +kernel))
set_option maxRecDepth 20000 in
theorem gL_addLine_X5_addLine : GoodIn wsL_addLine (wsV RL 28 RX5 yX5_addLine wsX5_addLine) := goodIn_app (goodIn_of _ (by decide +kernel)) ggL_addLine_X5_addLine
theorem dL_addLine_0 : decode cL_addLine 0 = .ok (.aload_n 0, 1) := by decide +kernel
theorem dL_addLine_1 : decode cL_addLine 1 = .ok (.iload_n 1, 1) := by decide +kernel
theorem dL_addLine_2 : decode cL_addLine 2 = .ok (.iload_n 2, 1) := by decide +kernel
theorem dL_addLine_3 : decode cL_addLine 3 = .ok (.iload_n 3, 1) := by decide +kernel
theorem dL_addLine_4 : decode cL_addLine 4 = .ok (.iload 4, 2) := by decide +kernel
theorem dL_addLine_6 : decode cL_addLine 6 = .ok (.invokevirtual 28, 3) := by decide +kernel
theorem dL_addLine_9 : decode cL_addLine 9 = .ok (.ireturn, 1) := by decide +kernel
theorem dL_addLine_10 : decode cL_addLine 10 = .ok (.astore 5, 2) := by decide +kernel
theorem dL_addLine_12 : decode cL_addLine 12 = .ok (.bipush (-75), 2) := by decide +kernel
theorem dL_addLine_14 : decode cL_addLine 14 = .ok (.ireturn, 1) := by decide +kernel
theorem dL_addLine_15 : decode cL_addLine 15 = .ok (.astore 5, 2) := by decide +kernel
theorem dL_addLine_17 : decode cL_addLine 17 = .ok (.bipush (-78), 2) := by decide +kernel
theorem dL_addLine_19 : decode cL_addLine 19 = .ok (.ireturn, 1) := by decide +kernel
theorem dL_addLine_20 : decode cL_addLine 20 = .ok (.astore 5, 2) := by decide +kernel
theorem dL_addLine_22 : decode cL_addLine 22 = .ok (.bipush (-79), 2) := by decide +kernel
theorem dL_addLine_24 : decode cL_addLine 24 = .ok (.ireturn, 1) := by decide +kernel
set_option maxRecDepth 20000 in
theorem ggL_setLoad_X5_setLoad : GoodIn wsL_setLoad wsX5_setLoad := goodIn_ca (goodIn_ca (goodIn_ca (goodIn_ca (goodIn_ca (goodIn_r _ [9, 10, 11, 12, 13, 14, 15, 16, 8, 17, 18, 19, 20, 21, 22, 23, 24, 25, 26, 27, 28, 29, 30, 31, 32, 33, 34, 35, 36, 37, 38, 39, 40, 41, 42, 43, 44, 45, 46, 47, 48, 49, 50, 51, 52, 53, 54, 55, 56, 57, 58, 59, 60, 61, 62, 63, 64, 65, 66, 67, 68, 69, 70, 71, 72, 73, 74, 75, 76, 77, 78, 79, 80, 81, 82, 83, 84, 85, 86, 87, 88, 89, 90, 91, 92, 93, 94, 95, 96, 97, 98, 99, 100, 101, 102, 103, 104, 105, 106, 107, 108, 109, 110, 111, 112, 113, 114, 115, 116, 117, 118, 119, 120, 121, 122, 123, 124, 125, 126, 127, 128, 129, 130, 131, 132, 133, 134, 135, 136, 137, 138, 139, 140, 141, 142, 143, 144, 145, 146, 147] (by decide +kernel) (by decide +kernel)) (goodIn_sub (fun _ h => List.mem_cons_of_mem _ (List.mem_append_left _ (List.mem_append_left _ (List.mem_append_left _ (List.mem_append_left _ (List.mem_append_right _ h)))))) (by decide +kernel))) (goodIn_sub (fun _ h => List.mem_cons_of_mem _ (List.mem_append_left _ (List.mem_append_left _ (List.mem_append_left _ (List.mem_append_right _ h))))) (by decide +kernel))) (goodIn_sub (fun _ h => List.mem_cons_of_mem _ (List.mem_append_left _ (List.mem_append_left _ (List.mem_append_right _ h)))) (by decide +kernel))) (goodIn_sub (fun _ h => List.mem_cons_of_mem _ (List.mem_append_left _ (List.mem_append_right _ h))) (by decide +kernel))) (goodIn_sub (fun _ h => List.mem_cons_of_mem _ (List.mem_append_right _ h)) (by decide +kernel))
set_option maxRecDepth 20000 in
theorem gL_setLoad_X5_setLoad : GoodIn wsL_setLoad (wsV RL 34 RX5 yX5_setLoad wsX5_setLoad) := goodIn_app (goodIn_of _ (by decide +kernel)) ggL_setLoad_X5_setLoad
theorem dL_setLoad_0 : decode cL_setLoad 0 = .ok (.aload_n 0, 1) := by decide +kernel
theorem dL_setLoad_1 : decode cL_setLoad 1 = .ok (.iload_n 1, 1) := by decide +kernel
theorem dL_setLoad_2 : decode cL_setLoad 2 = .ok (.iload_n 2, 1) := by decide +kernel
theorem dL_setLoad_3 : decode cL_setLoad 3 = .ok (.invokevirtual 34, 3) := by decide +kernel
theorem dL_setLoad_6 : decode cL_setLoad 6 = .ok (.ireturn, 1) := by decide +kernel
theorem dL_setLoad_7 : decode cL_setLoad 7 = .ok (.astore_n 3, 1) := by decide +kernel
theorem dL_setLoad_8 : decode cL_setLoad 8 = .ok (.bipush (-75), 2) := by decide +kernel
theorem dL_setLoad_10 : decode cL_setLoad 10 = .ok (.ireturn, 1) := by decide +kernel
theorem dL_setLoad_11 : decode cL_setLoad 11 = .ok (.astore_n 3, 1) := by decide +kernel
theorem dL_setLoad_12 : decode cL_setLoad 12 = .ok (.bipush (-78), 2) := by decide +kernel
theorem dL_setLoad_14 : decode cL_setLoad 14 = .ok (.ireturn, 1) := by decide +kernel
theorem dL_setLoad_15 : decode cL_setLoad 15 = .ok (.astore_n 3, 1) := by decide +kernel
theorem dL_setLoad_16 : decode cL_setLoad 16 = .ok (.bipush (-76), 2) := by decide +kernel
theorem dL_setLoad_18 : decode cL_setLoad 18 = .ok (.ireturn, 1) := by decide +kernel
theorem dL_setLoad_19 : decode cL_setLoad 19 = .ok (.astore_n 3, 1) := by decide +kernel
theorem dL_setLoad_20 : decode cL_setLoad 20 = .ok (.bipush (-79), 2) := by decide +kernel
theorem dL_setLoad_22 : decode cL_setLoad 22 = .ok (.ireturn, 1) := by decide +kernel
set_option maxRecDepth 20000 in
theorem ggL_setRelay_X5_setRelay : GoodIn wsL_setRelay wsX5_setRelay := goodIn_ca (goodIn_ca (goodIn_ca (goodIn_ca (goodIn_r _ [8, 9, 10, 11, 12, 13, 14, 7, 15, 16, 17, 18, 19, 20, 21, 22, 23, 24, 25, 26, 27, 28, 29, 30, 31, 32, 33, 34, 35, 36, 37, 38, 39, 40, 41, 42, 43, 44, 45, 46, 47, 48, 49, 50, 51, 52, 53, 54, 55, 56, 57, 58, 59, 60, 61, 62, 63, 64, 65, 66, 67, 68] (by decide +kernel) (by decide +kernel)) (goodIn_sub (fun _ h => List.mem_cons_of_mem _ (List.mem_append_left _ (List.mem_append_left _ (List.mem_append_left _ (List.mem_append_right _ h))))) (by decide +kernel))) (goodIn_sub (fun _ h => List.mem_cons_of_mem _ (List.mem_append_left _ (List.mem_append_left _ (List.mem_append_right _ h)))) (by decide +kernel))) (goodIn_sub (fun _ h => List.mem_cons_of_mem _ (List.mem_append_left _ (List.mem_append_right _ h))) (by decide +kernel))) (goodIn_sub (fun _ h => List.mem_cons_of_mem _ (List.mem_append_right _ h)) (by decide +kernel))
set_option maxRecDepth 20000 in
theorem gL_setRelay_X5_setRelay : GoodIn wsL_setRelay (wsV RL 39 RX5 yX5_setRelay wsX5_setRelay) := goodIn_app (goodIn_of _ (by decide +kernel)) ggL_setRelay_X5_setRelay
theorem dL_setRelay_0 : decode cL_setRelay 0 = .ok (.aload_n 0, 1) := by decide +kernel
theorem dL_setRelay_1 : decode cL_setRelay 1 = .ok (.iload_n 1, 1) := by decide +kernel
theorem dL_setRelay_2 : decode cL_setRelay 2 = .ok (.iload_n 2, 1) := by decide +kernel
theorem dL_setRelay_3 : decode cL_setRelay 3 = .ok (.iload_n 3, 1) := by decide +kernel
theorem dL_setRelay_4 : decode cL_setRelay 4 = .ok (.iload 4, 2) := by decide +kernel
theorem dL_setRelay_6 : decode cL_setRelay 6 = .ok (.invokevirtual 39, 3) := by decide +kernel
theorem dL_setRelay_9 : decode cL_setRelay 9 = .ok (.ireturn, 1) := by decide +kernel
theorem dL_setRelay_10 : decode cL_setRelay 10 = .ok (.astore 5, 2) := by decide +kernel
theorem dL_setRelay_12 : decode cL_setRelay 12 = .ok (.bipush (-75), 2) := by decide +kernel
theorem dL_setRelay_14 : decode cL_setRelay 14 = .ok (.ireturn, 1) := by decide +kernel
theorem dL_setRelay_15 : decode cL_setRelay 15 = .ok (.astore 5, 2) := by decide +kernel
theorem dL_setRelay_17 : decode cL_setRelay 17 = .ok (.bipush (-78), 2) := by decide +kernel
theorem dL_setRelay_19 : decode cL_setRelay 19 = .ok (.ireturn, 1) := by decide +kernel
theorem dL_setRelay_20 : decode cL_setRelay 20 = .ok (.astore 5, 2) := by decide +kernel
theorem dL_setRelay_22 : decode cL_setRelay 22 = .ok (.bipush (-76), 2) := by decide +kernel
theorem dL_setRelay_24 : decode cL_setRelay 24 = .ok (.ireturn, 1) := by decide +kernel
set_option maxRecDepth 20000 in
theorem ggL_close_X5_close : GoodIn wsL_close wsX5_close := goodIn_ca (goodIn_ca (goodIn_r _ [6, 7, 8, 9, 10, 5, 11, 12, 13, 14, 15, 16, 17, 18, 19, 20, 21, 22, 23, 24, 25, 26, 27, 28, 29, 30, 31, 32, 33, 34, 35, 36, 37, 38, 39, 40, 41, 42, 43, 44, 45, 46, 47, 48, 49, 50, 51, 52, 53, 54, 55, 56, 57, 58, 59, 60, 61, 62, 63, 64, 65, 66, 67, 68, 69, 70, 71, 72, 73, 74, 75, 76, 77, 78, 79, 80, 81, 82, 83, 84, 85, 86, 87, 88, 89, 90, 91, 92, 93, 94, 95, 96, 97, 98, 99, 100, 101, 102, 103, 104, 105, 106, 107, 108, 109, 110, 111, 112, 113, 114, 115, 116, 117, 118, 119, 120, 121, 122, 123, 124, 125, 126, 127, 128, 129, 130, 131, 132, 133, 134, 135, 136, 137, 138, 139, 140, 141, 142, 143] (by decide +kernel) (by decide +kernel)) (goodIn_sub (fun _ h => List.mem_cons_of_mem _ (List.mem_append_left _ (List.mem_append_right _ h))) (by decide +kernel))) (goodIn_sub (fun _ h => List.mem_cons_of_mem _ (List.mem_append_right _ h)) (by decide +kernel))
set_option maxRecDepth 20000 in
theorem gL_close_X5_close : GoodIn wsL_close (wsV RL 43 RX5 yX5_close wsX5_close) := goodIn_app (goodIn_of _ (by decide +kernel)) ggL_close_X5_close
theorem dL_close_0 : decode cL_close 0 = .ok (.aload_n 0, 1) := by decide +kernel
theorem dL_close_1 : decode cL_close 1 = .ok (.iload_n 1, 1) := by decide +kernel
theorem dL_close_2 : decode cL_close 2 = .ok (.invokevirtual 43, 3) := by decide +kernel
theorem dL_close_5 : decode cL_close 5 = .ok (.ireturn, 1) := by decide +kernel
theorem dL_close_6 : decode cL_close 6 = .ok (.astore_n 2, 1) := by decide +kernel
theorem dL_close_7 : decode cL_close 7 = .ok (.bipush (-75), 2) := by decide +kernel
theorem dL_close_9 : decode cL_close 9 = .ok (.ireturn, 1) := by decide +kernel
set_option maxRecDepth 20000 in
theorem ggL_open_X5_open : GoodIn wsL_open wsX5_open := goodIn_ca (goodIn_ca (goodIn_r _ [6, 7, 8, 9, 10, 5, 11, 12, 13, 14, 15, 16, 17, 18, 19, 20, 21, 22, 23, 24, 25, 26, 27, 28, 29, 30, 31, 32, 33, 34, 35, 36, 37, 38, 39, 40, 41, 42, 43, 44, 45, 46, 47, 48, 49, 50, 51, 52, 53, 54, 55, 56, 57, 58, 59, 60, 61, 62, 63, 64, 65, 66, 67, 68, 69, 70, 71, 72, 73, 74, 75, 76, 77, 78, 79, 80, 81, 82, 83, 84, 85, 86, 87, 88, 89] (by decide +kernel) (by decide +kernel)) (goodIn_sub (fun _ h => List.mem_cons_of_mem _ (List.mem_append_left _ (List.mem_append_right _ h))) (by decide +kernel))) (goodIn_sub (fun _ h => List.mem_cons_of_mem _ (List.mem_append_right _ h)) (by decide +kernel))
set_option maxRecDepth 20000 in
theorem gL_open_X5_open : GoodIn wsL_open (wsV RL 47 RX5 yX5_open wsX5_open) := goodIn_app (goodIn_of _ (by decide +kernel)) ggL_open_X5_open
theorem dL_open_0 : decode cL_open 0 = .ok (.aload_n 0, 1) := by decide +kernel
theorem dL_open_1 : decode cL_open 1 = .ok (.iload_n 1, 1) := by decide +kernel
theorem dL_open_2 : decode cL_open 2 = .ok (.invokevirtual 47, 3) := by decide +kernel
theorem dL_open_5 : decode cL_open 5 = .ok (.ireturn, 1) := by decide +kernel
theorem dL_open_6 : decode cL_open 6 = .ok (.astore_n 2, 1) := by decide +kernel
theorem dL_open_7 : decode cL_open 7 = .ok (.bipush (-75), 2) := by decide +kernel
theorem dL_open_9 : decode cL_open 9 = .ok (.ireturn, 1) := by decide +kernel
set_option maxRecDepth 20000 in
theorem ggL_canClose_X5_canClose : GoodIn wsL_canClose wsX5_canClose := goodIn_ca (goodIn_ca (goodIn_r _ [6, 7, 8, 9, 10, 5, 11, 12, 13, 14, 15, 16, 17, 18, 19, 20, 21, 22, 23, 24, 25, 26, 27, 28, 29, 30, 31, 32, 33, 34, 35, 36, 37, 38, 39, 40, 41, 42, 43, 44, 45, 46, 47, 48, 49, 50, 51, 52, 53, 54, 55, 56, 57, 58, 59, 60, 61, 62, 63, 64, 65, 66, 67, 68, 69, 70, 71, 72, 73, 74, 75, 76, 77, 78, 79, 80, 81, 82, 83, 84, 85, 86, 87, 88, 89, 90, 91, 92, 93, 94, 95, 96, 97, 98, 99, 100, 101, 102, 103, 104, 105, 106, 107, 108, 109, 110, 111, 112, 113, 114, 115, 116, 117, 118, 119, 120, 121, 122, 123, 124, 125, 126, 127, 128, 129, 130, 131, 132, 133, 134, 135, 136, 137] (by decide +kernel) (by decide +kernel)) (goodIn_sub (fun _ h => List.mem_cons_of_mem _ (List.mem_append_left _ (List.mem_append_right _ h))) (by decide +kernel))) (goodIn_sub (fun _ h => List.mem_cons_of_mem _ (List.mem_append_right _ h)) (by decide +kernel))
set_option maxRecDepth 20000 in
theorem gL_canClose_X5_canClose : GoodIn wsL_canClose (wsV RL 50 RX5 yX5_canClose wsX5_canClose) := goodIn_app (goodIn_of _ (by decide +kernel)) ggL_canClose_X5_canClose
theorem dL_canClose_0 : decode cL_canClose 0 = .ok (.aload_n 0, 1) := by decide +kernel
theorem dL_canClose_1 : decode cL_canClose 1 = .ok (.iload_n 1, 1) := by decide +kernel
theorem dL_canClose_2 : decode cL_canClose 2 = .ok (.invokevirtual 50, 3) := by decide +kernel
theorem dL_canClose_5 : decode cL_canClose 5 = .ok (.ireturn, 1) := by decide +kernel
theorem dL_canClose_6 : decode cL_canClose 6 = .ok (.astore_n 2, 1) := by decide +kernel
theorem dL_canClose_7 : decode cL_canClose 7 = .ok (.bipush (-75), 2) := by decide +kernel
theorem dL_canClose_9 : decode cL_canClose 9 = .ok (.ireturn, 1) := by decide +kernel
set_option maxRecDepth 20000 in
theorem ggL_canOpen_X5_canOpen : GoodIn wsL_canOpen wsX5_canOpen := goodIn_ca (goodIn_ca (goodIn_r _ [6, 7, 8, 9, 10, 5, 11, 12, 13, 14, 15, 16, 17, 18, 19, 20, 21, 22, 23, 24, 25, 26, 27, 28, 29, 30, 31, 32, 33, 34, 35, 36, 37, 38, 39, 40, 41, 42, 43, 44, 45, 46, 47, 48, 49, 50, 51, 52, 53, 54, 55, 56, 57, 58, 59, 60, 61, 62, 63, 64, 65, 66, 67, 68, 69, 70, 71, 72, 73, 74, 75, 76, 77, 78, 79, 80, 81, 82] (by decide +kernel) (by decide +kernel)) (goodIn_sub (fun _ h => List.mem_cons_of_mem _ (List.mem_append_left _ (List.mem_append_right _ h))) (by decide +kernel))) (goodIn_sub (fun _ h => List.mem_cons_of_mem _ (List.mem_append_right _ h)) (by decide +kernel))
set_option maxRecDepth 20000 in
theorem gL_canOpen_X5_canOpen : GoodIn wsL_canOpen (wsV RL 53 RX5 yX5_canOpen wsX5_canOpen) := goodIn_app (goodIn_of _ (by decide +kernel)) ggL_canOpen_X5_canOpen
theorem dL_canOpen_0 : decode cL_canOpen 0 = .ok (.aload_n 0, 1) := by decide +kernel
theorem dL_canOpen_1 : decode cL_canOpen 1 = .ok (.iload_n 1, 1) := by decide +kernel
theorem dL_canOpen_2 : decode cL_canOpen 2 = .ok (.invokevirtual 53, 3) := by decide +kernel
theorem dL_canOpen_5 : decode cL_canOpen 5 = .ok (.ireturn, 1) := by decide +kernel
theorem dL_canOpen_6 : decode cL_canOpen 6 = .ok (.astore_n 2, 1) := by decide +kernel
theorem dL_canOpen_7 : decode cL_canOpen 7 = .ok (.bipush (-75), 2) := by decide +kernel
theorem dL_canOpen_9 : decode cL_canOpen 9 = .ok (.ireturn, 1) := by decide +kernel
set_option maxRecDepth 20000 in
theorem ggL_fault_X5_fault : GoodIn wsL_fault wsX5_fault := goodIn_ca (goodIn_ca (goodIn_ca (goodIn_ca (goodIn_r _ [7, 8, 9, 10, 11, 12, 13, 14, 15, 16, 6, 17, 18, 19, 20, 21, 22, 23, 24, 25, 26, 27, 28, 29, 30, 31, 32, 33, 34, 35, 36, 37, 38, 39, 40, 41, 42, 43, 44, 45, 46, 47, 48, 49, 50, 51, 52, 53, 54, 55, 56, 57, 58, 59, 60, 61, 62, 63, 64, 65, 66, 67, 68, 69, 70, 71, 72, 73, 74, 75, 76, 77, 78, 79, 80, 81, 82, 83, 84, 85, 86, 87, 88, 89, 90, 91, 92, 93, 94, 95, 96, 97, 98, 99, 100, 101, 102, 103, 104, 105, 106, 107, 108, 109, 110, 111, 112, 113, 114, 115, 116, 117, 118, 119, 120, 121, 122, 123, 124, 125, 126, 127, 128, 129, 130, 131, 132, 133, 134, 135, 136, 137, 138, 139, 140, 141, 142, 143, 144, 145, 146, 147, 148, 149, 150, 151, 152, 153, 154] (by decide +kernel) (by decide +kernel)) (goodIn_sub (fun _ h => List.mem_cons_of_mem _ (List.mem_append_left _ (List.mem_append_left _ (List.mem_append_left _ (List.mem_append_right _ h))))) (by decide +kernel))) (goodIn_sub (fun _ h => List.mem_cons_of_mem _ (List.mem_append_left _ (List.mem_append_left _ (List.mem_append_right _ h)))) (by decide +kernel))) (goodIn_sub (fun _ h => List.mem_cons_of_mem _ (List.mem_append_left _ (List.mem_append_right _ h))) (by decide +kernel))) (goodIn_sub (fun _ h => List.mem_cons_of_mem _ (List.mem_append_right _ h)) (by decide +kernel))
set_option maxRecDepth 20000 in
theorem gL_fault_X5_fault : GoodIn wsL_fault (wsV RL 56 RX5 yX5_fault wsX5_fault) := goodIn_app (goodIn_of _ (by decide +kernel)) ggL_fault_X5_fault
theorem dL_fault_0 : decode cL_fault 0 = .ok (.aload_n 0, 1) := by decide +kernel
theorem dL_fault_1 : decode cL_fault 1 = .ok (.iload_n 1, 1) := by decide +kernel
theorem dL_fault_2 : decode cL_fault 2 = .ok (.invokevirtual 56, 3) := by decide +kernel
theorem dL_fault_5 : decode cL_fault 5 = .ok (.ireturn, 1) := by decide +kernel
theorem dL_fault_6 : decode cL_fault 6 = .ok (.astore_n 2, 1) := by decide +kernel
theorem dL_fault_7 : decode cL_fault 7 = .ok (.bipush (-75), 2) := by decide +kernel
theorem dL_fault_9 : decode cL_fault 9 = .ok (.ireturn, 1) := by decide +kernel
theorem dL_fault_10 : decode cL_fault 10 = .ok (.astore_n 2, 1) := by decide +kernel
theorem dL_fault_11 : decode cL_fault 11 = .ok (.bipush (-79), 2) := by decide +kernel
theorem dL_fault_13 : decode cL_fault 13 = .ok (.ireturn, 1) := by decide +kernel
set_option maxRecDepth 20000 in
theorem ggL_repair_X5_repair : GoodIn wsL_repair wsX5_repair := goodIn_ca (goodIn_ca (goodIn_r _ [7, 8, 9, 10, 11, 12, 13, 6, 14, 15, 16, 17, 18, 19, 20, 21, 22, 23, 24, 25, 26, 27, 28, 29, 30, 31, 32, 33, 34, 35, 36, 37, 38, 39, 40, 41, 42, 43, 44, 45, 46, 47, 48, 49, 50] (by decide +kernel) (by decide +kernel)) (goodIn_sub (fun _ h => List.mem_cons_of_mem _ (List.mem_append_left _ (List.mem_append_right _ h))) (by decide +kernel))) (goodIn_sub (fun _ h => List.mem_cons_of_mem _ (List.mem_append_right _ h)) (by decide +kernel))
set_option maxRecDepth 20000 in
theorem gL_repair_X5_repair : GoodIn wsL_repair (wsV RL 59 RX5 yX5_repair wsX5_repair) := goodIn_app (goodIn_of _ (by decide +kernel)) ggL_repair_X5_repair
theorem dL_repair_0 : decode cL_repair 0 = .ok (.aload_n 0, 1) := by decide +kernel
theorem dL_repair_1 : decode cL_repair 1 = .ok (.iload_n 1, 1) := by decide +kernel
theorem dL_repair_2 : decode cL_repair 2 = .ok (.invokevirtual 59, 3) := by decide +kernel
theorem dL_repair_5 : decode cL_repair 5 = .ok (.ifCond .eq 7, 3) := by decide +kernel
theorem dL_repair_8 : decode cL_repair 8 = .ok (.iconst 1, 1) := by decide +kernel
theorem dL_repair_9 : decode cL_repair 9 = .ok (.goto 4, 3) := by decide +kernel
theorem dL_repair_12 : decode cL_repair 12 = .ok (.iconst 0, 1) := by decide +kernel
theorem dL_repair_13 : decode cL_repair 13 = .ok (.ireturn, 1) := by decide +kernel
theorem dL_repair_14 : decode cL_repair 14 = .ok (.astore_n 2, 1) := by decide +kernel
theorem dL_repair_15 : decode cL_repair 15 = .ok (.bipush (-75), 2) := by decide +kernel
theorem dL_repair_17 : decode cL_repair 17 = .ok (.ireturn, 1) := by decide +kernel
theorem dL_repair_18 : decode cL_repair 18 = .ok (.astore_n 2, 1) := by decide +kernel
theorem dL_repair_19 : decode cL_repair 19 = .ok (.bipush (-79), 2) := by decide +kernel
theorem dL_repair_21 : decode cL_repair 21 = .ok (.ireturn, 1) := by decide +kernel
set_option maxRecDepth 20000 in
theorem ggL_reset_X5_reset : GoodIn wsL_reset wsX5_reset := goodIn_ca (goodIn_ca (goodIn_ca (goodIn_r _ [8, 9, 10, 11, 12, 13, 14, 15, 16, 7, 17, 18, 19, 20, 21, 22, 23, 24, 25, 26, 27, 28, 29, 30, 31, 32, 33, 34, 35, 36, 37, 38, 39, 40, 41, 42, 43, 44, 45, 46, 47, 48, 49, 50, 51, 52, 53, 54, 55, 56, 57, 58, 59, 60] (by decide +kernel) (by decide +kernel)) (goodIn_sub (fun _ h => List.mem_cons_of_mem _ (List.mem_append_left _ (List.mem_append_left _ (List.mem_append_right _ h)))) (by decide +kernel))) (goodIn_sub (fun _ h => List.mem_cons_of_mem _ (List.mem_append_left _ (List.mem_append_right _ h))) (by decide +kernel))) (goodIn_sub (fun _ h => List.mem_cons_of_mem _ (List.mem_append_right _ h)) (by decide +kernel))
set_option maxRecDepth 20000 in
theorem gL_reset_X5_reset : GoodIn wsL_reset (wsV RL 63 RX5 yX5_reset wsX5_reset) := goodIn_app (goodIn_of _ (by decide +kernel)) ggL_reset_X5_reset
theorem dL_reset_0 : decode cL_reset 0 = .ok (.aload_n 0, 1) := by decide +kernel
theorem dL_reset_1 : decode cL_reset 1 = .ok (.iload_n 1, 1) := by decide +kernel
theorem dL_reset_2 : decode cL_reset 2 = .ok (.invokevirtual 63, 3) := by decide +kernel
theorem dL_reset_5 : decode cL_reset 5 = .ok (.ireturn, 1) := by decide +kernel
theorem dL_reset_6 : decode cL_reset 6 = .ok (.astore_n 2, 1) := by decide +kernel
theorem dL_reset_7 : decode cL_reset 7 = .ok (.bipush (-75), 2) := by decide +kernel
theorem dL_reset_9 : decode cL_reset 9 = .ok (.ireturn, 1) := by decide +kernel
theorem dL_reset_10 : decode cL_reset 10 = .ok (.astore_n 2, 1) := by decide +kernel
theorem dL_reset_11 : decode cL_reset 11 = .ok (.bipush (-76), 2) := by decide +kernel
theorem dL_reset_13 : decode cL_reset 13 = .ok (.ireturn, 1) := by decide +kernel
theorem dL_reset_14 : decode cL_reset 14 = .ok (.astore_n 2, 1) := by decide +kernel
theorem dL_reset_15 : decode cL_reset 15 = .ok (.bipush (-79), 2) := by decide +kernel
theorem dL_reset_17 : decode cL_reset 17 = .ok (.ireturn, 1) := by decide +kernel
set_option maxRecDepth 20000 in
theorem ggL_isSource_X5_isSource : GoodIn wsL_isSource wsX5_isSource := goodIn_ca (goodIn_r _ [6, 7, 8, 9, 10, 5, 11, 12, 13, 14, 15, 16, 17, 18, 19, 20, 21, 22, 23, 24, 25, 26, 27, 28, 29, 30, 31, 32, 33, 34, 35, 36, 37, 38] (by decide +kernel) (by decide +kernel)) (goodIn_sub (fun _ h => List.mem_cons_of_mem _ (List.mem_append_right _ h)) (by decide +kernel))
set_option maxRecDepth 20000 in
theorem gL_isSource_X5_isSource : GoodIn wsL_isSource (wsV RL 66 RX5 yX5_isSource wsX5_isSource) := goodIn_app (goodIn_of _ (by decide +kernel)) ggL_isSource_X5_isSource
theorem dL_isSource_0 : decode cL_isSource 0 = .ok (.aload_n 0, 1) := by decide +kernel
theorem dL_isSource_1 : decode cL_isSource 1 = .ok (.iload_n 1, 1) := by decide +kernel
theorem dL_isSource_2 : decode cL_isSource 2 = .ok (.invokevirtual 66, 3) := by decide +kernel
theorem dL_isSource_5 : decode cL_isSource 5 = .ok (.ifCond .eq 7, 3) := by decide +kernel
theorem dL_isSource_8 : decode cL_isSource 8 = .ok (.iconst 1, 1) := by decide +kernel
theorem dL_isSource_9 : decode cL_isSource 9 = .ok (.goto 4, 3) := by decide +kernel
theorem dL_isSource_12 : decode cL_isSource 12 = .ok (.iconst 0, 1) := by decide +kernel
theorem dL_isSource_13 : decode cL_isSource 13 = .ok (.ireturn, 1) := by decide +kernel
theorem dL_isSource_14 : decode cL_isSource 14 = .ok (.astore_n 2, 1) := by decide +kernel
theorem dL_isSource_15 : decode cL_isSource 15 = .ok (.bipush (-75), 2) := by decide +kernel
theorem dL_isSource_17 : decode cL_isSource 17 = .ok (.ireturn, 1) := by decide +kernel
set_option maxRecDepth 20000 in
theorem ggL_loadOf_X5_loadOf : GoodIn wsL_loadOf wsX5_loadOf := goodIn_ca (goodIn_ca (goodIn_r _ [6, 7, 8, 9, 10, 5, 11, 12, 13, 14, 15, 16, 17, 18, 19, 20, 21, 22, 23, 24, 25, 26, 27, 28, 29, 30, 31, 32, 33, 34, 35, 36, 37, 38, 39, 40] (by decide +kernel) (by decide +kernel)) (goodIn_sub (fun _ h => List.mem_cons_of_mem _ (List.mem_append_left _ (List.mem_append_right _ h))) (by decide +kernel))) (goodIn_sub (fun _ h => List.mem_cons_of_mem _ (List.mem_append_right _ h)) (by decide +kernel))
set_option maxRecDepth 20000 in
theorem gL_loadOf_X5_loadOf : GoodIn wsL_loadOf (wsV RL 69 RX5 yX5_loadOf wsX5_loadOf) := goodIn_app (goodIn_of _ (by decide +kernel)) ggL_loadOf_X5_loadOf
theorem dL_loadOf_0 : decode cL_loadOf 0 = .ok (.aload_n 0, 1) := by decide +kernel
theorem dL_loadOf_1 : decode cL_loadOf 1 = .ok (.iload_n 1, 1) := by decide +kernel
theorem dL_loadOf_2 : decode cL_loadOf 2 = .ok (.invokevirtual 69, 3) := by decide +kernel
theorem dL_loadOf_5 : decode cL_loadOf 5 = .ok (.ireturn, 1) := by decide +kernel
theorem dL_loadOf_6 : decode cL_loadOf 6 = .ok (.astore_n 2, 1) := by decide +kernel
theorem dL_loadOf_7 : decode cL_loadOf 7 = .ok (.bipush (-75), 2) := by decide +kernel
theorem dL_loadOf_9 : decode cL_loadOf 9 = .ok (.ireturn, 1) := by decide +kernel
set_option maxRecDepth 20000 in
theorem ggL_weight_X5_weight : GoodIn wsL_weight wsX5_weight := goodIn_ca (goodIn_ca (goodIn_ca (goodIn_r _ [7, 8, 9, 10, 11, 6, 12, 13, 14, 15, 16, 17, 18, 19, 20, 21, 22, 23, 24, 25, 26, 27, 28, 29, 30, 31, 32, 33, 34, 35, 36, 37, 38, 39, 40, 41, 42, 43, 44, 45, 46, 47, 48, 49, 50, 51, 52, 53, 54] (by decide +kernel) (by decide +kernel)) (goodIn_sub (fun _ h => List.mem_cons_of_mem _ (List.mem_append_left _ (List.mem_append_left _ (List.mem_append_right _ h)))) (by decide +kernel))) (goodIn_sub (fun _ h => List.mem_cons_of_mem _ (List.mem_append_left _ (List.mem_append_right _ h))) (by decide +kernel))) (goodIn_sub (fun _ h => List.mem_cons_of_mem _ (List.mem_append_right _ h)) (by decide +kernel))
set_option maxRecDepth 20000 in
theorem gL_weight_X5_weight : GoodIn wsL_weight (wsV RL 72 RX5 yX5_weight wsX5_weight) := goodIn_app (goodIn_of _ (by decide +kernel)) ggL_weight_X5_weight
theorem dL_weight_0 : decode cL_weight 0 = .ok (.aload_n 0, 1) := by decide +kernel
theorem dL_weight_1 : decode cL_weight 1 = .ok (.iload_n 1, 1) := by decide +kernel
theorem dL_weight_2 : decode cL_weight 2 = .ok (.invokevirtual 72, 3) := by decide +kernel
theorem dL_weight_5 : decode cL_weight 5 = .ok (.ireturn, 1) := by decide +kernel
theorem dL_weight_6 : decode cL_weight 6 = .ok (.astore_n 2, 1) := by decide +kernel
theorem dL_weight_7 : decode cL_weight 7 = .ok (.bipush (-75), 2) := by decide +kernel
theorem dL_weight_9 : decode cL_weight 9 = .ok (.ireturn, 1) := by decide +kernel
theorem dL_weight_10 : decode cL_weight 10 = .ok (.astore_n 2, 1) := by decide +kernel
theorem dL_weight_11 : decode cL_weight 11 = .ok (.bipush (-76), 2) := by decide +kernel
theorem dL_weight_13 : decode cL_weight 13 = .ok (.ireturn, 1) := by decide +kernel
set_option maxRecDepth 20000 in
theorem ggL_isClosed_X5_isClosed : GoodIn wsL_isClosed wsX5_isClosed := goodIn_ca (goodIn_r _ [6, 7, 8, 9, 10, 5, 11, 12, 13, 14, 15, 16, 17, 18, 19, 20, 21, 22, 23, 24, 25, 26, 27, 28, 29, 30, 31, 32, 33, 34, 35, 36, 37, 38, 39, 40, 41, 42, 43, 44] (by decide +kernel) (by decide +kernel)) (goodIn_sub (fun _ h => List.mem_cons_of_mem _ (List.mem_append_right _ h)) (by decide +kernel))
set_option maxRecDepth 20000 in
theorem gL_isClosed_X5_isClosed : GoodIn wsL_isClosed (wsV RL 75 RX5 yX5_isClosed wsX5_isClosed) := goodIn_app (goodIn_of _ (by decide +kernel)) ggL_isClosed_X5_isClosed
theorem dL_isClosed_0 : decode cL_isClosed 0 = .ok (.aload_n 0, 1) := by decide +kernel
theorem dL_isClosed_1 : decode cL_isClosed 1 = .ok (.iload_n 1, 1) := by decide +kernel
theorem dL_isClosed_2 : decode cL_isClosed 2 = .ok (.invokevirtual 75, 3) := by decide +kernel
theorem dL_isClosed_5 : decode cL_isClosed 5 = .ok (.ifCond .eq 7, 3) := by decide +kernel
theorem dL_isClosed_8 : decode cL_isClosed 8 = .ok (.iconst 1, 1) := by decide +kernel
theorem dL_isClosed_9 : decode cL_isClosed 9 = .ok (.goto 4, 3) := by decide +kernel
theorem dL_isClosed_12 : decode cL_isClosed 12 = .ok (.iconst 0, 1) := by decide +kernel
theorem dL_isClosed_13 : decode cL_isClosed 13 = .ok (.ireturn, 1) := by decide +kernel
theorem dL_isClosed_14 : decode cL_isClosed 14 = .ok (.astore_n 2, 1) := by decide +kernel
theorem dL_isClosed_15 : decode cL_isClosed 15 = .ok (.bipush (-75), 2) := by decide +kernel
theorem dL_isClosed_17 : decode cL_isClosed 17 = .ok (.ireturn, 1) := by decide +kernel
set_option maxRecDepth 20000 in
theorem ggL_isLocked_X5_isLocked : GoodIn wsL_isLocked wsX5_isLocked := goodIn_ca (goodIn_r _ [6, 7, 8, 9, 10, 5, 11, 12, 13, 14, 15, 16, 17, 18, 19, 20, 21, 22, 23, 24, 25, 26, 27, 28, 29, 30, 31, 32, 33, 34, 35, 36, 37, 38, 39, 40, 41, 42, 43, 44] (by decide +kernel) (by decide +kernel)) (goodIn_sub (fun _ h => List.mem_cons_of_mem _ (List.mem_append_right _ h)) (by decide +kernel))
set_option maxRecDepth 20000 in
theorem gL_isLocked_X5_isLocked : GoodIn wsL_isLocked (wsV RL 78 RX5 yX5_isLocked wsX5_isLocked) := goodIn_app (goodIn_of _ (by decide +kernel)) ggL_isLocked_X5_isLocked
theorem dL_isLocked_0 : decode cL_isLocked 0 = .ok (.aload_n 0, 1) := by decide +kernel
theorem dL_isLocked_1 : decode cL_isLocked 1 = .ok (.iload_n 1, 1) := by decide +kernel
theorem dL_isLocked_2 : decode cL_isLocked 2 = .ok (.invokevirtual 78, 3) := by decide +kernel
theorem dL_isLocked_5 : decode cL_isLocked 5 = .ok (.ifCond .eq 7, 3) := by decide +kernel
theorem dL_isLocked_8 : decode cL_isLocked 8 = .ok (.iconst 1, 1) := by decide +kernel
theorem dL_isLocked_9 : decode cL_isLocked 9 = .ok (.goto 4, 3) := by decide +kernel
theorem dL_isLocked_12 : decode cL_isLocked 12 = .ok (.iconst 0, 1) := by decide +kernel
theorem dL_isLocked_13 : decode cL_isLocked 13 = .ok (.ireturn, 1) := by decide +kernel
theorem dL_isLocked_14 : decode cL_isLocked 14 = .ok (.astore_n 2, 1) := by decide +kernel
theorem dL_isLocked_15 : decode cL_isLocked 15 = .ok (.bipush (-75), 2) := by decide +kernel
theorem dL_isLocked_17 : decode cL_isLocked 17 = .ok (.ireturn, 1) := by decide +kernel
set_option maxRecDepth 20000 in
theorem ggL_hasFault_X5_hasFault : GoodIn wsL_hasFault wsX5_hasFault := goodIn_ca (goodIn_r _ [6, 7, 8, 9, 10, 5, 11, 12, 13, 14, 15, 16, 17, 18, 19, 20, 21, 22, 23, 24, 25, 26, 27, 28, 29, 30, 31, 32, 33, 34, 35, 36, 37, 38, 39, 40, 41, 42, 43, 44] (by decide +kernel) (by decide +kernel)) (goodIn_sub (fun _ h => List.mem_cons_of_mem _ (List.mem_append_right _ h)) (by decide +kernel))
set_option maxRecDepth 20000 in
theorem gL_hasFault_X5_hasFault : GoodIn wsL_hasFault (wsV RL 81 RX5 yX5_hasFault wsX5_hasFault) := goodIn_app (goodIn_of _ (by decide +kernel)) ggL_hasFault_X5_hasFault
theorem dL_hasFault_0 : decode cL_hasFault 0 = .ok (.aload_n 0, 1) := by decide +kernel
theorem dL_hasFault_1 : decode cL_hasFault 1 = .ok (.iload_n 1, 1) := by decide +kernel
theorem dL_hasFault_2 : decode cL_hasFault 2 = .ok (.invokevirtual 81, 3) := by decide +kernel
theorem dL_hasFault_5 : decode cL_hasFault 5 = .ok (.ifCond .eq 7, 3) := by decide +kernel
theorem dL_hasFault_8 : decode cL_hasFault 8 = .ok (.iconst 1, 1) := by decide +kernel
theorem dL_hasFault_9 : decode cL_hasFault 9 = .ok (.goto 4, 3) := by decide +kernel
theorem dL_hasFault_12 : decode cL_hasFault 12 = .ok (.iconst 0, 1) := by decide +kernel
theorem dL_hasFault_13 : decode cL_hasFault 13 = .ok (.ireturn, 1) := by decide +kernel
theorem dL_hasFault_14 : decode cL_hasFault 14 = .ok (.astore_n 2, 1) := by decide +kernel
theorem dL_hasFault_15 : decode cL_hasFault 15 = .ok (.bipush (-75), 2) := by decide +kernel
theorem dL_hasFault_17 : decode cL_hasFault 17 = .ok (.ireturn, 1) := by decide +kernel
set_option maxRecDepth 20000 in
theorem ggL_islandOf_X5_islandOf : GoodIn wsL_islandOf wsX5_islandOf := goodIn_ca (goodIn_ca (goodIn_r _ [6, 7, 8, 9, 5, 10, 11, 12, 13, 14, 15, 16, 17, 18, 19, 20, 21, 22, 23, 24, 25, 26, 27, 28, 29, 30, 31, 32, 33, 34, 35, 36, 37, 38, 39, 40, 41, 42, 43, 44, 45, 46, 47, 48, 49, 50, 51, 52, 53, 54, 55, 56, 57, 58, 59, 60, 61, 62, 63, 64, 65, 66, 67, 68, 69, 70] (by decide +kernel) (by decide +kernel)) (goodIn_sub (fun _ h => List.mem_cons_of_mem _ (List.mem_append_left _ (List.mem_append_right _ h))) (by decide +kernel))) (goodIn_sub (fun _ h => List.mem_cons_of_mem _ (List.mem_append_right _ h)) (by decide +kernel))
set_option maxRecDepth 20000 in
theorem gL_islandOf_X5_islandOf : GoodIn wsL_islandOf (wsV RL 84 RX5 yX5_islandOf wsX5_islandOf) := goodIn_app (goodIn_of _ (by decide +kernel)) ggL_islandOf_X5_islandOf
theorem dL_islandOf_0 : decode cL_islandOf 0 = .ok (.aload_n 0, 1) := by decide +kernel
theorem dL_islandOf_1 : decode cL_islandOf 1 = .ok (.iload_n 1, 1) := by decide +kernel
theorem dL_islandOf_2 : decode cL_islandOf 2 = .ok (.invokevirtual 84, 3) := by decide +kernel
theorem dL_islandOf_5 : decode cL_islandOf 5 = .ok (.ireturn, 1) := by decide +kernel
theorem dL_islandOf_6 : decode cL_islandOf 6 = .ok (.astore_n 2, 1) := by decide +kernel
theorem dL_islandOf_7 : decode cL_islandOf 7 = .ok (.bipush (-75), 2) := by decide +kernel
theorem dL_islandOf_9 : decode cL_islandOf 9 = .ok (.ireturn, 1) := by decide +kernel
set_option maxRecDepth 20000 in
theorem ggL_islandByRounds_X5_islandByRounds : GoodIn wsL_islandByRounds wsX5_islandByRounds := goodIn_ca (goodIn_ca (goodIn_r _ [6, 7, 8, 9, 10, 11, 5, 12, 13, 14, 15, 16, 17, 18, 19, 20, 21, 22, 23, 24, 25, 26, 27, 28, 29, 30, 31, 32, 33, 34, 35, 36, 37, 38, 39, 40, 41, 42, 43, 44, 45, 46, 47, 48, 49, 50, 51, 52, 53, 54, 55, 56, 57, 58] (by decide +kernel) (by decide +kernel)) (goodIn_sub (fun _ h => List.mem_cons_of_mem _ (List.mem_append_left _ (List.mem_append_right _ h))) (by decide +kernel))) (goodIn_sub (fun _ h => List.mem_cons_of_mem _ (List.mem_append_right _ h)) (by decide +kernel))
set_option maxRecDepth 20000 in
theorem gL_islandByRounds_X5_islandByRounds : GoodIn wsL_islandByRounds (wsV RL 87 RX5 yX5_islandByRounds wsX5_islandByRounds) := goodIn_app (goodIn_of _ (by decide +kernel)) ggL_islandByRounds_X5_islandByRounds
theorem dL_islandByRounds_0 : decode cL_islandByRounds 0 = .ok (.aload_n 0, 1) := by decide +kernel
theorem dL_islandByRounds_1 : decode cL_islandByRounds 1 = .ok (.iload_n 1, 1) := by decide +kernel
theorem dL_islandByRounds_2 : decode cL_islandByRounds 2 = .ok (.invokevirtual 87, 3) := by decide +kernel
theorem dL_islandByRounds_5 : decode cL_islandByRounds 5 = .ok (.ireturn, 1) := by decide +kernel
theorem dL_islandByRounds_6 : decode cL_islandByRounds 6 = .ok (.astore_n 2, 1) := by decide +kernel
theorem dL_islandByRounds_7 : decode cL_islandByRounds 7 = .ok (.bipush (-75), 2) := by decide +kernel
theorem dL_islandByRounds_9 : decode cL_islandByRounds 9 = .ok (.ireturn, 1) := by decide +kernel
set_option maxRecDepth 20000 in
theorem ggL_isLive_X5_isLive : GoodIn wsL_isLive wsX5_isLive := goodIn_ca (goodIn_ca (goodIn_r _ [6, 7, 8, 9, 10, 5, 11, 12, 13, 14, 15, 16, 17, 18, 19, 20, 21, 22, 23, 24, 25, 26, 27, 28, 29, 30, 31, 32, 33, 34, 35, 36, 37, 38, 39, 40, 41, 42, 43, 44, 45, 46, 47, 48, 49, 50, 51, 52, 53, 54, 55, 56, 57, 58, 59, 60, 61, 62, 63, 64, 65, 66, 67, 68, 69, 70, 71, 72, 73, 74] (by decide +kernel) (by decide +kernel)) (goodIn_sub (fun _ h => List.mem_cons_of_mem _ (List.mem_append_left _ (List.mem_append_right _ h))) (by decide +kernel))) (goodIn_sub (fun _ h => List.mem_cons_of_mem _ (List.mem_append_right _ h)) (by decide +kernel))
set_option maxRecDepth 20000 in
theorem gL_isLive_X5_isLive : GoodIn wsL_isLive (wsV RL 90 RX5 yX5_isLive wsX5_isLive) := goodIn_app (goodIn_of _ (by decide +kernel)) ggL_isLive_X5_isLive
theorem dL_isLive_0 : decode cL_isLive 0 = .ok (.aload_n 0, 1) := by decide +kernel
theorem dL_isLive_1 : decode cL_isLive 1 = .ok (.iload_n 1, 1) := by decide +kernel
theorem dL_isLive_2 : decode cL_isLive 2 = .ok (.invokevirtual 90, 3) := by decide +kernel
theorem dL_isLive_5 : decode cL_isLive 5 = .ok (.ifCond .eq 7, 3) := by decide +kernel
theorem dL_isLive_8 : decode cL_isLive 8 = .ok (.iconst 1, 1) := by decide +kernel
theorem dL_isLive_9 : decode cL_isLive 9 = .ok (.goto 4, 3) := by decide +kernel
theorem dL_isLive_12 : decode cL_isLive 12 = .ok (.iconst 0, 1) := by decide +kernel
theorem dL_isLive_13 : decode cL_isLive 13 = .ok (.ireturn, 1) := by decide +kernel
theorem dL_isLive_14 : decode cL_isLive 14 = .ok (.astore_n 2, 1) := by decide +kernel
theorem dL_isLive_15 : decode cL_isLive 15 = .ok (.bipush (-75), 2) := by decide +kernel
theorem dL_isLive_17 : decode cL_isLive 17 = .ok (.ireturn, 1) := by decide +kernel
set_option maxRecDepth 20000 in
theorem ggL_sourceOf_X5_sourceOf : GoodIn wsL_sourceOf wsX5_sourceOf := goodIn_ca (goodIn_ca (goodIn_ca (goodIn_r _ [7, 8, 9, 10, 11, 12, 13, 6, 14, 15, 16, 17, 18, 19, 20, 21, 22, 23, 24, 25, 26, 27, 28, 29, 30, 31, 32, 33, 34, 35, 36, 37, 38, 39, 40, 41, 42, 43, 44, 45, 46, 47, 48, 49, 50, 51, 52, 53, 54, 55, 56, 57, 58, 59, 60, 61, 62, 63, 64, 65, 66, 67, 68, 69, 70, 71, 72, 73, 74, 75, 76, 77] (by decide +kernel) (by decide +kernel)) (goodIn_sub (fun _ h => List.mem_cons_of_mem _ (List.mem_append_left _ (List.mem_append_left _ (List.mem_append_right _ h)))) (by decide +kernel))) (goodIn_sub (fun _ h => List.mem_cons_of_mem _ (List.mem_append_left _ (List.mem_append_right _ h))) (by decide +kernel))) (goodIn_sub (fun _ h => List.mem_cons_of_mem _ (List.mem_append_right _ h)) (by decide +kernel))
set_option maxRecDepth 20000 in
theorem gL_sourceOf_X5_sourceOf : GoodIn wsL_sourceOf (wsV RL 93 RX5 yX5_sourceOf wsX5_sourceOf) := goodIn_app (goodIn_of _ (by decide +kernel)) ggL_sourceOf_X5_sourceOf
theorem dL_sourceOf_0 : decode cL_sourceOf 0 = .ok (.aload_n 0, 1) := by decide +kernel
theorem dL_sourceOf_1 : decode cL_sourceOf 1 = .ok (.iload_n 1, 1) := by decide +kernel
theorem dL_sourceOf_2 : decode cL_sourceOf 2 = .ok (.invokevirtual 93, 3) := by decide +kernel
theorem dL_sourceOf_5 : decode cL_sourceOf 5 = .ok (.ireturn, 1) := by decide +kernel
theorem dL_sourceOf_6 : decode cL_sourceOf 6 = .ok (.astore_n 2, 1) := by decide +kernel
theorem dL_sourceOf_7 : decode cL_sourceOf 7 = .ok (.bipush (-75), 2) := by decide +kernel
theorem dL_sourceOf_9 : decode cL_sourceOf 9 = .ok (.ireturn, 1) := by decide +kernel
theorem dL_sourceOf_10 : decode cL_sourceOf 10 = .ok (.astore_n 2, 1) := by decide +kernel
theorem dL_sourceOf_11 : decode cL_sourceOf 11 = .ok (.bipush (-79), 2) := by decide +kernel
theorem dL_sourceOf_13 : decode cL_sourceOf 13 = .ok (.ireturn, 1) := by decide +kernel
set_option maxRecDepth 20000 in
theorem ggL_islandLoad_X5_islandLoad : GoodIn wsL_islandLoad wsX5_islandLoad := goodIn_ca (goodIn_ca (goodIn_r _ [6, 7, 8, 9, 10, 5, 11, 12, 13, 14, 15, 16, 17, 18, 19, 20, 21, 22, 23, 24, 25, 26, 27, 28, 29, 30, 31, 32, 33, 34, 35, 36, 37, 38, 39, 40, 41, 42, 43, 44, 45, 46, 47, 48, 49, 50, 51, 52, 53, 54, 55, 56, 57, 58, 59, 60, 61, 62, 63, 64, 65, 66, 67, 68, 69, 70, 71, 72, 73, 74] (by decide +kernel) (by decide +kernel)) (goodIn_sub (fun _ h => List.mem_cons_of_mem _ (List.mem_append_left _ (List.mem_append_right _ h))) (by decide +kernel))) (goodIn_sub (fun _ h => List.mem_cons_of_mem _ (List.mem_append_right _ h)) (by decide +kernel))
set_option maxRecDepth 20000 in
theorem gL_islandLoad_X5_islandLoad : GoodIn wsL_islandLoad (wsV RL 96 RX5 yX5_islandLoad wsX5_islandLoad) := goodIn_app (goodIn_of _ (by decide +kernel)) ggL_islandLoad_X5_islandLoad
theorem dL_islandLoad_0 : decode cL_islandLoad 0 = .ok (.aload_n 0, 1) := by decide +kernel
theorem dL_islandLoad_1 : decode cL_islandLoad 1 = .ok (.iload_n 1, 1) := by decide +kernel
theorem dL_islandLoad_2 : decode cL_islandLoad 2 = .ok (.invokevirtual 96, 3) := by decide +kernel
theorem dL_islandLoad_5 : decode cL_islandLoad 5 = .ok (.ireturn, 1) := by decide +kernel
theorem dL_islandLoad_6 : decode cL_islandLoad 6 = .ok (.astore_n 2, 1) := by decide +kernel
theorem dL_islandLoad_7 : decode cL_islandLoad 7 = .ok (.bipush (-75), 2) := by decide +kernel
theorem dL_islandLoad_9 : decode cL_islandLoad 9 = .ok (.ireturn, 1) := by decide +kernel
set_option maxRecDepth 20000 in
theorem ggL_current_X5_current : GoodIn wsL_current wsX5_current := goodIn_ca (goodIn_ca (goodIn_r _ [6, 7, 8, 9, 10, 11, 5, 12, 13, 14, 15, 16, 17, 18, 19, 20, 21, 22, 23, 24, 25, 26, 27, 28, 29, 30, 31, 32, 33, 34, 35, 36, 37, 38, 39, 40, 41, 42, 43, 44, 45, 46, 47, 48, 49, 50, 51, 52, 53, 54, 55, 56, 57, 58, 59, 60, 61, 62, 63, 64, 65, 66, 67, 68, 69, 70, 71, 72, 73, 74, 75] (by decide +kernel) (by decide +kernel)) (goodIn_sub (fun _ h => List.mem_cons_of_mem _ (List.mem_append_left _ (List.mem_append_right _ h))) (by decide +kernel))) (goodIn_sub (fun _ h => List.mem_cons_of_mem _ (List.mem_append_right _ h)) (by decide +kernel))
set_option maxRecDepth 20000 in
theorem gL_current_X5_current : GoodIn wsL_current (wsV RL 99 RX5 yX5_current wsX5_current) := goodIn_app (goodIn_of _ (by decide +kernel)) ggL_current_X5_current
theorem dL_current_0 : decode cL_current 0 = .ok (.aload_n 0, 1) := by decide +kernel
theorem dL_current_1 : decode cL_current 1 = .ok (.iload_n 1, 1) := by decide +kernel
theorem dL_current_2 : decode cL_current 2 = .ok (.invokevirtual 99, 3) := by decide +kernel
theorem dL_current_5 : decode cL_current 5 = .ok (.ireturn, 1) := by decide +kernel
theorem dL_current_6 : decode cL_current 6 = .ok (.astore_n 2, 1) := by decide +kernel
theorem dL_current_7 : decode cL_current 7 = .ok (.bipush (-75), 2) := by decide +kernel
theorem dL_current_9 : decode cL_current 9 = .ok (.ireturn, 1) := by decide +kernel
set_option maxRecDepth 20000 in
theorem ggL_currentByCutting_X5_currentByCutting : GoodIn wsL_currentByCutting wsX5_currentByCutting := goodIn_ca (goodIn_ca (goodIn_r _ [6, 7, 8, 9, 10, 11, 5, 12, 13, 14, 15, 16, 17, 18, 19, 20, 21, 22, 23, 24, 25, 26, 27, 28, 29, 30, 31, 32, 33, 34, 35, 36, 37, 38, 39, 40, 41, 42, 43, 44, 45, 46, 47, 48, 49, 50, 51, 52, 53, 54, 55, 56, 57, 58, 59, 60, 61, 62, 63, 64, 65, 66, 67, 68, 69, 70, 71, 72, 73, 74, 75, 76, 77, 78, 79, 80, 81, 82, 83, 84, 85, 86, 87, 88] (by decide +kernel) (by decide +kernel)) (goodIn_sub (fun _ h => List.mem_cons_of_mem _ (List.mem_append_left _ (List.mem_append_right _ h))) (by decide +kernel))) (goodIn_sub (fun _ h => List.mem_cons_of_mem _ (List.mem_append_right _ h)) (by decide +kernel))
set_option maxRecDepth 20000 in
theorem gL_currentByCutting_X5_currentByCutting : GoodIn wsL_currentByCutting (wsV RL 102 RX5 yX5_currentByCutting wsX5_currentByCutting) := goodIn_app (goodIn_of _ (by decide +kernel)) ggL_currentByCutting_X5_currentByCutting
theorem dL_currentByCutting_0 : decode cL_currentByCutting 0 = .ok (.aload_n 0, 1) := by decide +kernel
theorem dL_currentByCutting_1 : decode cL_currentByCutting 1 = .ok (.iload_n 1, 1) := by decide +kernel
theorem dL_currentByCutting_2 : decode cL_currentByCutting 2 = .ok (.invokevirtual 102, 3) := by decide +kernel
theorem dL_currentByCutting_5 : decode cL_currentByCutting 5 = .ok (.ireturn, 1) := by decide +kernel
theorem dL_currentByCutting_6 : decode cL_currentByCutting 6 = .ok (.astore_n 2, 1) := by decide +kernel
theorem dL_currentByCutting_7 : decode cL_currentByCutting 7 = .ok (.bipush (-75), 2) := by decide +kernel
theorem dL_currentByCutting_9 : decode cL_currentByCutting 9 = .ok (.ireturn, 1) := by decide +kernel
set_option maxRecDepth 20000 in
theorem ggL_distance_X5_distance : GoodIn wsL_distance wsX5_distance := goodIn_ca (goodIn_ca (goodIn_ca (goodIn_r _ [7, 8, 9, 10, 6, 11, 12, 13, 14, 15, 16, 17, 18, 19, 20, 21, 22, 23, 24, 25, 26, 27, 28, 29, 30, 31, 32, 33, 34, 35, 36, 37, 38, 39, 40, 41, 42, 43, 44, 45, 46, 47, 48, 49, 50, 51, 52, 53, 54, 55, 56, 57, 58, 59, 60, 61, 62, 63, 64, 65, 66, 67, 68, 69, 70, 71] (by decide +kernel) (by decide +kernel)) (goodIn_sub (fun _ h => List.mem_cons_of_mem _ (List.mem_append_left _ (List.mem_append_left _ (List.mem_append_right _ h)))) (by decide +kernel))) (goodIn_sub (fun _ h => List.mem_cons_of_mem _ (List.mem_append_left _ (List.mem_append_right _ h))) (by decide +kernel))) (goodIn_sub (fun _ h => List.mem_cons_of_mem _ (List.mem_append_right _ h)) (by decide +kernel))
set_option maxRecDepth 20000 in
theorem gL_distance_X5_distance : GoodIn wsL_distance (wsV RL 105 RX5 yX5_distance wsX5_distance) := goodIn_app (goodIn_of _ (by decide +kernel)) ggL_distance_X5_distance
theorem dL_distance_0 : decode cL_distance 0 = .ok (.aload_n 0, 1) := by decide +kernel
theorem dL_distance_1 : decode cL_distance 1 = .ok (.iload_n 1, 1) := by decide +kernel
theorem dL_distance_2 : decode cL_distance 2 = .ok (.invokevirtual 105, 3) := by decide +kernel
theorem dL_distance_5 : decode cL_distance 5 = .ok (.ireturn, 1) := by decide +kernel
theorem dL_distance_6 : decode cL_distance 6 = .ok (.astore_n 2, 1) := by decide +kernel
theorem dL_distance_7 : decode cL_distance 7 = .ok (.bipush (-75), 2) := by decide +kernel
theorem dL_distance_9 : decode cL_distance 9 = .ok (.ireturn, 1) := by decide +kernel
theorem dL_distance_10 : decode cL_distance 10 = .ok (.astore_n 2, 1) := by decide +kernel
theorem dL_distance_11 : decode cL_distance 11 = .ok (.bipush (-79), 2) := by decide +kernel
theorem dL_distance_13 : decode cL_distance 13 = .ok (.ireturn, 1) := by decide +kernel
set_option maxRecDepth 20000 in
theorem ggL_pathAt_X5_pathAt : GoodIn wsL_pathAt wsX5_pathAt := goodIn_ca (goodIn_ca (goodIn_ca (goodIn_ca (goodIn_r _ [8, 9, 10, 11, 12, 13, 14, 7, 15, 16, 17, 18, 19, 20, 21, 22, 23, 24, 25, 26, 27, 28, 29, 30, 31, 32, 33, 34, 35, 36, 37, 38, 39, 40, 41, 42, 43, 44, 45, 46, 47, 48, 49, 50, 51, 52, 53, 54, 55, 56, 57, 58, 59, 60, 61, 62, 63, 64, 65, 66, 67, 68, 69, 70, 71, 72, 73, 74, 75, 76, 77, 78] (by decide +kernel) (by decide +kernel)) (goodIn_sub (fun _ h => List.mem_cons_of_mem _ (List.mem_append_left _ (List.mem_append_left _ (List.mem_append_left _ (List.mem_append_right _ h))))) (by decide +kernel))) (goodIn_sub (fun _ h => List.mem_cons_of_mem _ (List.mem_append_left _ (List.mem_append_left _ (List.mem_append_right _ h)))) (by decide +kernel))) (goodIn_sub (fun _ h => List.mem_cons_of_mem _ (List.mem_append_left _ (List.mem_append_right _ h))) (by decide +kernel))) (goodIn_sub (fun _ h => List.mem_cons_of_mem _ (List.mem_append_right _ h)) (by decide +kernel))
set_option maxRecDepth 20000 in
theorem gL_pathAt_X5_pathAt : GoodIn wsL_pathAt (wsV RL 108 RX5 yX5_pathAt wsX5_pathAt) := goodIn_app (goodIn_of _ (by decide +kernel)) ggL_pathAt_X5_pathAt
theorem dL_pathAt_0 : decode cL_pathAt 0 = .ok (.aload_n 0, 1) := by decide +kernel
theorem dL_pathAt_1 : decode cL_pathAt 1 = .ok (.iload_n 1, 1) := by decide +kernel
theorem dL_pathAt_2 : decode cL_pathAt 2 = .ok (.iload_n 2, 1) := by decide +kernel
theorem dL_pathAt_3 : decode cL_pathAt 3 = .ok (.invokevirtual 108, 3) := by decide +kernel
theorem dL_pathAt_6 : decode cL_pathAt 6 = .ok (.ireturn, 1) := by decide +kernel
theorem dL_pathAt_7 : decode cL_pathAt 7 = .ok (.astore_n 3, 1) := by decide +kernel
theorem dL_pathAt_8 : decode cL_pathAt 8 = .ok (.bipush (-75), 2) := by decide +kernel
theorem dL_pathAt_10 : decode cL_pathAt 10 = .ok (.ireturn, 1) := by decide +kernel
theorem dL_pathAt_11 : decode cL_pathAt 11 = .ok (.astore_n 3, 1) := by decide +kernel
theorem dL_pathAt_12 : decode cL_pathAt 12 = .ok (.bipush (-79), 2) := by decide +kernel
theorem dL_pathAt_14 : decode cL_pathAt 14 = .ok (.ireturn, 1) := by decide +kernel
theorem dL_pathAt_15 : decode cL_pathAt 15 = .ok (.astore_n 3, 1) := by decide +kernel
theorem dL_pathAt_16 : decode cL_pathAt 16 = .ok (.bipush (-77), 2) := by decide +kernel
theorem dL_pathAt_18 : decode cL_pathAt 18 = .ok (.ireturn, 1) := by decide +kernel
set_option maxRecDepth 20000 in
theorem ggL_faultCurrent_X5_faultCurrent : GoodIn wsL_faultCurrent wsX5_faultCurrent := goodIn_ca (goodIn_ca (goodIn_ca (goodIn_ca (goodIn_r _ [7, 8, 9, 10, 11, 12, 6, 13, 14, 15, 16, 17, 18, 19, 20, 21, 22, 23, 24, 25, 26, 27, 28, 29, 30, 31, 32, 33, 34, 35, 36, 37, 38, 39, 40, 41, 42, 43, 44, 45, 46, 47, 48, 49, 50, 51, 52, 53, 54, 55, 56, 57, 58, 59, 60, 61, 62, 63, 64, 65, 66, 67, 68, 69, 70, 71, 72, 73, 74, 75, 76, 77, 78, 79, 80, 81, 82, 83, 84, 85, 86, 87, 88, 89, 90, 91, 92, 93, 94, 95, 96, 97, 98, 99, 100, 101, 102, 103, 104, 105, 106, 107, 108, 109, 110, 111, 112, 113, 114, 115, 116, 117, 118, 119, 120, 121, 122, 123] (by decide +kernel) (by decide +kernel)) (goodIn_sub (fun _ h => List.mem_cons_of_mem _ (List.mem_append_left _ (List.mem_append_left _ (List.mem_append_left _ (List.mem_append_right _ h))))) (by decide +kernel))) (goodIn_sub (fun _ h => List.mem_cons_of_mem _ (List.mem_append_left _ (List.mem_append_left _ (List.mem_append_right _ h)))) (by decide +kernel))) (goodIn_sub (fun _ h => List.mem_cons_of_mem _ (List.mem_append_left _ (List.mem_append_right _ h))) (by decide +kernel))) (goodIn_sub (fun _ h => List.mem_cons_of_mem _ (List.mem_append_right _ h)) (by decide +kernel))
set_option maxRecDepth 20000 in
theorem gL_faultCurrent_X5_faultCurrent : GoodIn wsL_faultCurrent (wsV RL 113 RX5 yX5_faultCurrent wsX5_faultCurrent) := goodIn_app (goodIn_of _ (by decide +kernel)) ggL_faultCurrent_X5_faultCurrent
theorem dL_faultCurrent_0 : decode cL_faultCurrent 0 = .ok (.aload_n 0, 1) := by decide +kernel
theorem dL_faultCurrent_1 : decode cL_faultCurrent 1 = .ok (.iload_n 1, 1) := by decide +kernel
theorem dL_faultCurrent_2 : decode cL_faultCurrent 2 = .ok (.invokevirtual 113, 3) := by decide +kernel
theorem dL_faultCurrent_5 : decode cL_faultCurrent 5 = .ok (.ireturn, 1) := by decide +kernel
theorem dL_faultCurrent_6 : decode cL_faultCurrent 6 = .ok (.astore_n 2, 1) := by decide +kernel
theorem dL_faultCurrent_7 : decode cL_faultCurrent 7 = .ok (.bipush (-75), 2) := by decide +kernel
theorem dL_faultCurrent_9 : decode cL_faultCurrent 9 = .ok (.ireturn, 1) := by decide +kernel
theorem dL_faultCurrent_10 : decode cL_faultCurrent 10 = .ok (.astore_n 2, 1) := by decide +kernel
theorem dL_faultCurrent_11 : decode cL_faultCurrent 11 = .ok (.bipush (-79), 2) := by decide +kernel
theorem dL_faultCurrent_13 : decode cL_faultCurrent 13 = .ok (.ireturn, 1) := by decide +kernel
set_option maxRecDepth 20000 in
theorem ggL_tripTime_X5_tripTime : GoodIn wsL_tripTime wsX5_tripTime := goodIn_ca (goodIn_ca (goodIn_ca (goodIn_ca (goodIn_ca (goodIn_r _ [8, 9, 10, 11, 12, 13, 14, 15, 7, 16, 17, 18, 19, 20, 21, 22, 23, 24, 25, 26, 27, 28, 29, 30, 31, 32, 33, 34, 35, 36, 37, 38, 39, 40, 41, 42, 43, 44, 45, 46, 47, 48, 49, 50, 51, 52, 53, 54, 55, 56, 57, 58, 59, 60, 61, 62, 63, 64, 65] (by decide +kernel) (by decide +kernel)) (goodIn_sub (fun _ h => List.mem_cons_of_mem _ (List.mem_append_left _ (List.mem_append_left _ (List.mem_append_left _ (List.mem_append_left _ (List.mem_append_right _ h)))))) (by decide +kernel))) (goodIn_sub (fun _ h => List.mem_cons_of_mem _ (List.mem_append_left _ (List.mem_append_left _ (List.mem_append_left _ (List.mem_append_right _ h))))) (by decide +kernel))) (goodIn_sub (fun _ h => List.mem_cons_of_mem _ (List.mem_append_left _ (List.mem_append_left _ (List.mem_append_right _ h)))) (by decide +kernel))) (goodIn_sub (fun _ h => List.mem_cons_of_mem _ (List.mem_append_left _ (List.mem_append_right _ h))) (by decide +kernel))) (goodIn_sub (fun _ h => List.mem_cons_of_mem _ (List.mem_append_right _ h)) (by decide +kernel))
set_option maxRecDepth 20000 in
theorem gL_tripTime_X5_tripTime : GoodIn wsL_tripTime (wsV RL 116 RX5 yX5_tripTime wsX5_tripTime) := goodIn_app (goodIn_of _ (by decide +kernel)) ggL_tripTime_X5_tripTime
theorem dL_tripTime_0 : decode cL_tripTime 0 = .ok (.aload_n 0, 1) := by decide +kernel
theorem dL_tripTime_1 : decode cL_tripTime 1 = .ok (.iload_n 1, 1) := by decide +kernel
theorem dL_tripTime_2 : decode cL_tripTime 2 = .ok (.iload_n 2, 1) := by decide +kernel
theorem dL_tripTime_3 : decode cL_tripTime 3 = .ok (.invokevirtual 116, 3) := by decide +kernel
theorem dL_tripTime_6 : decode cL_tripTime 6 = .ok (.ireturn, 1) := by decide +kernel
theorem dL_tripTime_7 : decode cL_tripTime 7 = .ok (.astore_n 3, 1) := by decide +kernel
theorem dL_tripTime_8 : decode cL_tripTime 8 = .ok (.bipush (-75), 2) := by decide +kernel
theorem dL_tripTime_10 : decode cL_tripTime 10 = .ok (.ireturn, 1) := by decide +kernel
theorem dL_tripTime_11 : decode cL_tripTime 11 = .ok (.astore_n 3, 1) := by decide +kernel
theorem dL_tripTime_12 : decode cL_tripTime 12 = .ok (.bipush (-78), 2) := by decide +kernel
theorem dL_tripTime_14 : decode cL_tripTime 14 = .ok (.ireturn, 1) := by decide +kernel
theorem dL_tripTime_15 : decode cL_tripTime 15 = .ok (.astore_n 3, 1) := by decide +kernel
theorem dL_tripTime_16 : decode cL_tripTime 16 = .ok (.bipush (-76), 2) := by decide +kernel
theorem dL_tripTime_18 : decode cL_tripTime 18 = .ok (.ireturn, 1) := by decide +kernel
set_option maxRecDepth 20000 in
theorem ggL_wouldTrip_X5_wouldTrip : GoodIn wsL_wouldTrip wsX5_wouldTrip := goodIn_ca (goodIn_ca (goodIn_ca (goodIn_r _ [6, 7, 8, 9, 10, 11, 5, 12, 13, 14, 15, 16, 17, 18, 19, 20, 21, 22, 23, 24, 25, 26, 27, 28, 29, 30, 31, 32, 33, 34, 35, 36, 37, 38, 39, 40, 41, 42, 43, 44, 45, 46, 47, 48, 49, 50, 51, 52, 53, 54, 55, 56, 57, 58, 59, 60, 61, 62, 63, 64, 65, 66, 67, 68, 69, 70, 71, 72, 73, 74, 75, 76, 77, 78, 79, 80, 81, 82, 83, 84, 85, 86, 87, 88, 89, 90, 91, 92, 93, 94, 95, 96, 97, 98, 99, 100, 101, 102, 103, 104, 105, 106, 107, 108, 109, 110, 111, 112, 113, 114, 115, 116, 117, 118, 119, 120, 121, 122, 123, 124, 125, 126, 127, 128, 129, 130, 131, 132, 133, 134, 135, 136] (by decide +kernel) (by decide +kernel)) (goodIn_sub (fun _ h => List.mem_cons_of_mem _ (List.mem_append_left _ (List.mem_append_left _ (List.mem_append_right _ h)))) (by decide +kernel))) (goodIn_sub (fun _ h => List.mem_cons_of_mem _ (List.mem_append_left _ (List.mem_append_right _ h))) (by decide +kernel))) (goodIn_sub (fun _ h => List.mem_cons_of_mem _ (List.mem_append_right _ h)) (by decide +kernel))
set_option maxRecDepth 20000 in
theorem gL_wouldTrip_X5_wouldTrip : GoodIn wsL_wouldTrip (wsV RL 119 RX5 yX5_wouldTrip wsX5_wouldTrip) := goodIn_app (goodIn_of _ (by decide +kernel)) ggL_wouldTrip_X5_wouldTrip
theorem dL_wouldTrip_0 : decode cL_wouldTrip 0 = .ok (.aload_n 0, 1) := by decide +kernel
theorem dL_wouldTrip_1 : decode cL_wouldTrip 1 = .ok (.iload_n 1, 1) := by decide +kernel
theorem dL_wouldTrip_2 : decode cL_wouldTrip 2 = .ok (.invokevirtual 119, 3) := by decide +kernel
theorem dL_wouldTrip_5 : decode cL_wouldTrip 5 = .ok (.ireturn, 1) := by decide +kernel
theorem dL_wouldTrip_6 : decode cL_wouldTrip 6 = .ok (.astore_n 2, 1) := by decide +kernel
theorem dL_wouldTrip_7 : decode cL_wouldTrip 7 = .ok (.bipush (-75), 2) := by decide +kernel
theorem dL_wouldTrip_9 : decode cL_wouldTrip 9 = .ok (.ireturn, 1) := by decide +kernel
set_option maxRecDepth 20000 in
theorem ggL_isSelective_X5_isSelective : GoodIn wsL_isSelective wsX5_isSelective := goodIn_ca (goodIn_ca (goodIn_ca (goodIn_r _ [6, 7, 8, 9, 10, 11, 5, 12, 13, 14, 15, 16, 17, 18, 19, 20, 21, 22, 23, 24, 25, 26, 27, 28, 29, 30, 31, 32, 33, 34, 35, 36, 37, 38, 39, 40, 41, 42, 43, 44, 45, 46, 47, 48, 49, 50, 51, 52, 53, 54, 55, 56, 57, 58, 59, 60, 61, 62, 63, 64, 65, 66, 67, 68, 69, 70, 71, 72, 73, 74, 75, 76, 77, 78, 79, 80, 81, 82, 83, 84, 85, 86, 87, 88, 89, 90, 91, 92, 93, 94, 95, 96, 97, 98, 99, 100, 101, 102, 103, 104, 105, 106, 107, 108, 109, 110, 111, 112, 113, 114, 115, 116, 117, 118, 119, 120, 121, 122, 123, 124, 125, 126, 127, 128, 129, 130, 131, 132, 133, 134, 135, 136] (by decide +kernel) (by decide +kernel)) (goodIn_sub (fun _ h => List.mem_cons_of_mem _ (List.mem_append_left _ (List.mem_append_left _ (List.mem_append_right _ h)))) (by decide +kernel))) (goodIn_sub (fun _ h => List.mem_cons_of_mem _ (List.mem_append_left _ (List.mem_append_right _ h))) (by decide +kernel))) (goodIn_sub (fun _ h => List.mem_cons_of_mem _ (List.mem_append_right _ h)) (by decide +kernel))
set_option maxRecDepth 20000 in
theorem gL_isSelective_X5_isSelective : GoodIn wsL_isSelective (wsV RL 122 RX5 yX5_isSelective wsX5_isSelective) := goodIn_app (goodIn_of _ (by decide +kernel)) ggL_isSelective_X5_isSelective
theorem dL_isSelective_0 : decode cL_isSelective 0 = .ok (.aload_n 0, 1) := by decide +kernel
theorem dL_isSelective_1 : decode cL_isSelective 1 = .ok (.iload_n 1, 1) := by decide +kernel
theorem dL_isSelective_2 : decode cL_isSelective 2 = .ok (.invokevirtual 122, 3) := by decide +kernel
theorem dL_isSelective_5 : decode cL_isSelective 5 = .ok (.ifCond .eq 7, 3) := by decide +kernel
theorem dL_isSelective_8 : decode cL_isSelective 8 = .ok (.iconst 1, 1) := by decide +kernel
theorem dL_isSelective_9 : decode cL_isSelective 9 = .ok (.goto 4, 3) := by decide +kernel
theorem dL_isSelective_12 : decode cL_isSelective 12 = .ok (.iconst 0, 1) := by decide +kernel
theorem dL_isSelective_13 : decode cL_isSelective 13 = .ok (.ireturn, 1) := by decide +kernel
theorem dL_isSelective_14 : decode cL_isSelective 14 = .ok (.astore_n 2, 1) := by decide +kernel
theorem dL_isSelective_15 : decode cL_isSelective 15 = .ok (.bipush (-75), 2) := by decide +kernel
theorem dL_isSelective_17 : decode cL_isSelective 17 = .ok (.ireturn, 1) := by decide +kernel
set_option maxRecDepth 20000 in
theorem ggL_margin_X5_margin : GoodIn wsL_margin wsX5_margin := goodIn_ca (goodIn_ca (goodIn_ca (goodIn_ca (goodIn_ca (goodIn_r _ [8, 9, 10, 11, 12, 13, 14, 15, 16, 17, 7, 18, 19, 20, 21, 22, 23, 24, 25, 26, 27, 28, 29, 30, 31, 32, 33, 34, 35, 36, 37, 38, 39, 40, 41, 42, 43, 44, 45, 46, 47, 48, 49, 50, 51, 52, 53, 54, 55, 56, 57, 58, 59, 60, 61, 62, 63, 64, 65, 66, 67, 68, 69, 70, 71, 72, 73, 74, 75, 76, 77, 78, 79, 80, 81, 82, 83, 84, 85, 86, 87, 88, 89, 90, 91, 92, 93, 94, 95, 96, 97, 98, 99, 100, 101, 102, 103, 104, 105, 106, 107, 108, 109, 110, 111, 112, 113, 114, 115, 116, 117, 118, 119, 120, 121, 122, 123, 124, 125, 126, 127, 128, 129, 130, 131, 132, 133, 134, 135, 136, 137, 138, 139, 140, 141, 142, 143, 144, 145, 146] (by decide +kernel) (by decide +kernel)) (goodIn_sub (fun _ h => List.mem_cons_of_mem _ (List.mem_append_left _ (List.mem_append_left _ (List.mem_append_left _ (List.mem_append_left _ (List.mem_append_right _ h)))))) (by decide +kernel))) (goodIn_sub (fun _ h => List.mem_cons_of_mem _ (List.mem_append_left _ (List.mem_append_left _ (List.mem_append_left _ (List.mem_append_right _ h))))) (by decide +kernel))) (goodIn_sub (fun _ h => List.mem_cons_of_mem _ (List.mem_append_left _ (List.mem_append_left _ (List.mem_append_right _ h)))) (by decide +kernel))) (goodIn_sub (fun _ h => List.mem_cons_of_mem _ (List.mem_append_left _ (List.mem_append_right _ h))) (by decide +kernel))) (goodIn_sub (fun _ h => List.mem_cons_of_mem _ (List.mem_append_right _ h)) (by decide +kernel))
set_option maxRecDepth 20000 in
theorem gL_margin_X5_margin : GoodIn wsL_margin (wsV RL 125 RX5 yX5_margin wsX5_margin) := goodIn_app (goodIn_of _ (by decide +kernel)) ggL_margin_X5_margin
theorem dL_margin_0 : decode cL_margin 0 = .ok (.aload_n 0, 1) := by decide +kernel
theorem dL_margin_1 : decode cL_margin 1 = .ok (.iload_n 1, 1) := by decide +kernel
theorem dL_margin_2 : decode cL_margin 2 = .ok (.invokevirtual 125, 3) := by decide +kernel
theorem dL_margin_5 : decode cL_margin 5 = .ok (.ireturn, 1) := by decide +kernel
theorem dL_margin_6 : decode cL_margin 6 = .ok (.astore_n 2, 1) := by decide +kernel
theorem dL_margin_7 : decode cL_margin 7 = .ok (.bipush (-75), 2) := by decide +kernel
theorem dL_margin_9 : decode cL_margin 9 = .ok (.ireturn, 1) := by decide +kernel
theorem dL_margin_10 : decode cL_margin 10 = .ok (.astore_n 2, 1) := by decide +kernel
theorem dL_margin_11 : decode cL_margin 11 = .ok (.bipush (-79), 2) := by decide +kernel
theorem dL_margin_13 : decode cL_margin 13 = .ok (.ireturn, 1) := by decide +kernel
theorem dL_margin_14 : decode cL_margin 14 = .ok (.astore_n 2, 1) := by decide +kernel
theorem dL_margin_15 : decode cL_margin 15 = .ok (.bipush (-76), 2) := by decide +kernel
theorem dL_margin_17 : decode cL_margin 17 = .ok (.ireturn, 1) := by decide +kernel
set_option maxRecDepth 20000 in
theorem ggL_bestAt_X5_bestAt : GoodIn wsL_bestAt wsX5_bestAt := goodIn_ca (goodIn_ca (goodIn_r _ [6, 7, 8, 9, 10, 11, 12, 13, 14, 15, 16, 17, 18, 19, 20, 21, 22, 23, 24, 25, 26, 27, 28, 29, 30, 31, 32, 33, 34, 35, 36, 37, 38, 39, 40, 41, 42, 43, 44, 5, 45, 46, 47, 48, 49, 50, 51, 52, 53, 54, 55, 56, 57, 58, 59, 60, 61, 62, 63, 64, 65, 66, 67, 68, 69, 70, 71, 72, 73, 74, 75, 76, 77, 78, 79, 80, 81, 82, 83, 84, 85, 86, 87, 88, 89, 90, 91, 92, 93, 94, 95, 96, 97, 98, 99, 100, 101, 102, 103, 104, 105, 106, 107, 108, 109, 110, 111, 112, 113, 114, 115, 116, 117, 118, 119, 120, 121, 122, 123, 124, 125, 126, 127, 128, 129, 130, 131, 132, 133, 134, 135, 136, 137, 138, 139, 140, 141, 142, 143, 144, 145, 146, 147, 148, 149, 150, 151, 152, 153, 154, 155, 156, 157, 158, 159, 160, 161, 162, 163, 164, 165, 166, 167, 168, 169, 170, 171, 172, 173, 174, 175, 176, 177, 178, 179, 180, 181, 182, 183, 184, 185, 186, 187, 188, 189] (by decide +kernel) (by decide +kernel)) (goodIn_sub (fun _ h => List.mem_cons_of_mem _ (List.mem_append_left _ (List.mem_append_right _ h))) (by decide +kernel))) (goodIn_sub (fun _ h => List.mem_cons_of_mem _ (List.mem_append_right _ h)) (by decide +kernel))
set_option maxRecDepth 20000 in
theorem gL_bestAt_X5_bestAt : GoodIn wsL_bestAt (wsV RL 128 RX5 yX5_bestAt wsX5_bestAt) := goodIn_app (goodIn_of _ (by decide +kernel)) ggL_bestAt_X5_bestAt
theorem dL_bestAt_0 : decode cL_bestAt 0 = .ok (.aload_n 0, 1) := by decide +kernel
theorem dL_bestAt_1 : decode cL_bestAt 1 = .ok (.iload_n 1, 1) := by decide +kernel
theorem dL_bestAt_2 : decode cL_bestAt 2 = .ok (.invokevirtual 128, 3) := by decide +kernel
theorem dL_bestAt_5 : decode cL_bestAt 5 = .ok (.ireturn, 1) := by decide +kernel
theorem dL_bestAt_6 : decode cL_bestAt 6 = .ok (.astore_n 2, 1) := by decide +kernel
theorem dL_bestAt_7 : decode cL_bestAt 7 = .ok (.bipush (-77), 2) := by decide +kernel
theorem dL_bestAt_9 : decode cL_bestAt 9 = .ok (.ireturn, 1) := by decide +kernel
set_option maxRecDepth 20000 in
theorem ggL_valueByTrying_X5_valueByTrying : GoodIn wsL_valueByTrying wsX5_valueByTrying := goodIn_ca (goodIn_ca (goodIn_r _ [6, 7, 8, 9, 10, 5, 11, 12, 13, 14, 15, 16, 17, 18, 19, 20, 21, 22, 23, 24, 25, 26, 27, 28, 29, 30, 31, 32, 33, 34, 35, 36, 37, 38, 39, 40, 41, 42, 43, 44, 45, 46, 47, 48, 49, 50, 51, 52, 53, 54, 55, 56, 57, 58, 59, 60, 61, 62, 63, 64, 65, 66, 67, 68, 69, 70, 71, 72, 73, 74, 75, 76, 77, 78, 79, 80, 81, 82, 83, 84, 85, 86, 87, 88, 89, 90, 91, 92, 93, 94, 95, 96, 97, 98, 99, 100, 101, 102, 103, 104, 105, 106, 107, 108, 109, 110, 111, 112, 113, 114, 115, 116, 117, 118, 119, 120, 121, 122, 123, 124, 125, 126, 127, 128, 129, 130, 131, 132, 133, 134, 135, 136, 137, 138, 139, 140, 141, 142, 143, 144, 145, 146, 147, 148, 149, 150, 151, 152, 153, 154, 155, 156, 157, 158, 159, 160, 161, 162, 163, 164, 165, 166, 167, 168, 169, 170, 171, 172, 173, 174, 175, 176, 177, 178, 179, 180, 181, 182, 183, 184, 185, 186, 187, 188, 189, 190, 191, 192, 193, 194, 195] (by decide +kernel) (by decide +kernel)) (goodIn_sub (fun _ h => List.mem_cons_of_mem _ (List.mem_append_left _ (List.mem_append_right _ h))) (by decide +kernel))) (goodIn_sub (fun _ h => List.mem_cons_of_mem _ (List.mem_append_right _ h)) (by decide +kernel))
set_option maxRecDepth 20000 in
theorem gL_valueByTrying_X5_valueByTrying : GoodIn wsL_valueByTrying (wsV RL 131 RX5 yX5_valueByTrying wsX5_valueByTrying) := goodIn_app (goodIn_of _ (by decide +kernel)) ggL_valueByTrying_X5_valueByTrying
theorem dL_valueByTrying_0 : decode cL_valueByTrying 0 = .ok (.aload_n 0, 1) := by decide +kernel
theorem dL_valueByTrying_1 : decode cL_valueByTrying 1 = .ok (.invokevirtual 131, 3) := by decide +kernel
theorem dL_valueByTrying_4 : decode cL_valueByTrying 4 = .ok (.ireturn, 1) := by decide +kernel
theorem dL_valueByTrying_5 : decode cL_valueByTrying 5 = .ok (.astore_n 1, 1) := by decide +kernel
theorem dL_valueByTrying_6 : decode cL_valueByTrying 6 = .ok (.bipush (-76), 2) := by decide +kernel
theorem dL_valueByTrying_8 : decode cL_valueByTrying 8 = .ok (.ireturn, 1) := by decide +kernel
set_option maxRecDepth 20000 in
theorem ggL_sizeByTrying_X5_sizeByTrying : GoodIn wsL_sizeByTrying wsX5_sizeByTrying := goodIn_ca (goodIn_ca (goodIn_r _ [6, 7, 8, 9, 10, 5, 11, 12, 13, 14, 15, 16, 17, 18, 19, 20, 21, 22, 23, 24, 25, 26, 27, 28, 29, 30, 31, 32, 33, 34, 35, 36, 37, 38, 39, 40, 41, 42, 43, 44, 45, 46, 47, 48, 49, 50, 51, 52, 53, 54, 55, 56, 57, 58, 59, 60, 61, 62, 63, 64, 65, 66, 67, 68, 69, 70, 71, 72, 73, 74, 75, 76, 77, 78, 79, 80, 81, 82, 83, 84, 85, 86, 87, 88, 89, 90, 91, 92, 93, 94, 95, 96, 97, 98, 99, 100, 101, 102, 103, 104, 105, 106, 107, 108, 109, 110, 111, 112, 113, 114, 115, 116, 117, 118, 119, 120, 121, 122, 123, 124, 125, 126, 127, 128, 129, 130, 131, 132, 133, 134, 135, 136, 137, 138, 139, 140, 141, 142, 143, 144, 145, 146, 147, 148, 149, 150, 151, 152, 153, 154, 155, 156, 157, 158, 159, 160, 161, 162, 163, 164, 165, 166, 167, 168, 169, 170, 171, 172, 173, 174, 175, 176, 177, 178, 179, 180, 181, 182, 183, 184, 185, 186, 187, 188, 189, 190, 191, 192, 193, 194, 195] (by decide +kernel) (by decide +kernel)) (goodIn_sub (fun _ h => List.mem_cons_of_mem _ (List.mem_append_left _ (List.mem_append_right _ h))) (by decide +kernel))) (goodIn_sub (fun _ h => List.mem_cons_of_mem _ (List.mem_append_right _ h)) (by decide +kernel))
set_option maxRecDepth 20000 in
theorem gL_sizeByTrying_X5_sizeByTrying : GoodIn wsL_sizeByTrying (wsV RL 135 RX5 yX5_sizeByTrying wsX5_sizeByTrying) := goodIn_app (goodIn_of _ (by decide +kernel)) ggL_sizeByTrying_X5_sizeByTrying
theorem dL_sizeByTrying_0 : decode cL_sizeByTrying 0 = .ok (.aload_n 0, 1) := by decide +kernel
theorem dL_sizeByTrying_1 : decode cL_sizeByTrying 1 = .ok (.invokevirtual 135, 3) := by decide +kernel
theorem dL_sizeByTrying_4 : decode cL_sizeByTrying 4 = .ok (.ireturn, 1) := by decide +kernel
theorem dL_sizeByTrying_5 : decode cL_sizeByTrying 5 = .ok (.astore_n 1, 1) := by decide +kernel
theorem dL_sizeByTrying_6 : decode cL_sizeByTrying 6 = .ok (.bipush (-76), 2) := by decide +kernel
theorem dL_sizeByTrying_8 : decode cL_sizeByTrying 8 = .ok (.ireturn, 1) := by decide +kernel
set_option maxRecDepth 20000 in
theorem ggL_liveShare_X5_liveShare : GoodIn wsL_liveShare wsX5_liveShare := goodIn_ca (goodIn_ca (goodIn_r _ [7, 8, 9, 10, 11, 12, 13, 14, 15, 16, 17, 6, 18, 19, 20, 21, 22, 23, 24, 25, 26, 27, 28, 29, 30, 31, 32, 33, 34, 35, 36, 37, 38, 39, 40, 41, 42, 43, 44, 45, 46, 47, 48, 49, 50, 51, 52, 53, 54, 55, 56, 57, 58, 59, 60, 61, 62, 63, 64, 65, 66, 67, 68, 69, 70, 71, 72, 73, 74, 75, 76] (by decide +kernel) (by decide +kernel)) (goodIn_sub (fun _ h => List.mem_cons_of_mem _ (List.mem_append_left _ (List.mem_append_right _ h))) (by decide +kernel))) (goodIn_sub (fun _ h => List.mem_cons_of_mem _ (List.mem_append_right _ h)) (by decide +kernel))
set_option maxRecDepth 20000 in
theorem gL_liveShare_X5_liveShare : GoodIn wsL_liveShare (wsV RL 138 RX5 yX5_liveShare wsX5_liveShare) := goodIn_app (goodIn_of _ (by decide +kernel)) ggL_liveShare_X5_liveShare
theorem dL_liveShare_0 : decode cL_liveShare 0 = .ok (.aload_n 0, 1) := by decide +kernel
theorem dL_liveShare_1 : decode cL_liveShare 1 = .ok (.invokevirtual 138, 3) := by decide +kernel
theorem dL_liveShare_4 : decode cL_liveShare 4 = .ok (.freturn, 1) := by decide +kernel
theorem dL_liveShare_5 : decode cL_liveShare 5 = .ok (.astore_n 1, 1) := by decide +kernel
theorem dL_liveShare_6 : decode cL_liveShare 6 = .ok (.ldc 144, 2) := by decide +kernel
theorem dL_liveShare_8 : decode cL_liveShare 8 = .ok (.freturn, 1) := by decide +kernel
