theorem dJx00060_init_a7421_0 : decode cJx00060_init_a7421 0 = .ok (.aload_n 0, 1) := by decide +kernel
theorem dJx00060_init_a7421_1 : decode cJx00060_init_a7421 1 = .ok (.aload_n 1, 1) := by decide +kernel
theorem dJx00060_init_a7421_2 : decode cJx00060_init_a7421 2 = .ok (.invokespecial 7, 3) := by decide +kernel
theorem dJx00060_init_a7421_5 : decode cJx00060_init_a7421 5 = .ok (.return_, 1) := by decide +kernel
theorem dL_cell_0 : decode cL_cell 0 = .ok (.iload_n 1, 1) := by decide +kernel
theorem dL_cell_1 : decode cL_cell 1 = .ok (.aload_n 0, 1) := by decide +kernel
theorem dL_cell_2 : decode cL_cell 2 = .ok (.arraylength, 1) := by decide +kernel
theorem dL_cell_3 : decode cL_cell 3 = .ok (.if_icmp .ge 9, 3) := by decide +kernel
theorem dL_cell_6 : decode cL_cell 6 = .ok (.aload_n 0, 1) := by decide +kernel
theorem dL_cell_7 : decode cL_cell 7 = .ok (.iload_n 1, 1) := by decide +kernel
theorem dL_cell_8 : decode cL_cell 8 = .ok (.iaload, 1) := by decide +kernel
theorem dL_cell_9 : decode cL_cell 9 = .ok (.goto 7, 3) := by decide +kernel
theorem dL_cell_12 : decode cL_cell 12 = .ok (.ldc 7, 2) := by decide +kernel
theorem dL_cell_14 : decode cL_cell 14 = .ok (.iload_n 1, 1) := by decide +kernel
theorem dL_cell_15 : decode cL_cell 15 = .ok (.imul, 1) := by decide +kernel
theorem dL_cell_16 : decode cL_cell 16 = .ok (.ireturn, 1) := by decide +kernel
set_option maxRecDepth 20000 in
theorem ggL_pick_L_cell : GoodIn wsL_pick wsL_cell := goodIn_ca (goodIn_r _ [4, 5] (by decide +kernel) (by decide +kernel)) (goodIn_sub (fun _ h => List.mem_cons_of_mem _ (List.mem_append_right _ h)) (by decide +kernel))
set_option maxRecDepth 20000 in
theorem gL_pick_L_cell : GoodIn wsL_pick (va_wsS RL 8 yL_cell wsL_cell) := goodIn_app (goodIn_of _ (by decide +kernel)) ggL_pick_L_cell
theorem dL_pick_0 : decode cL_pick 0 = .ok (.aload_n 0, 1) := by decide +kernel
theorem dL_pick_1 : decode cL_pick 1 = .ok (.iload_n 1, 1) := by decide +kernel
theorem dL_pick_2 : decode cL_pick 2 = .ok (.invokestatic 8, 3) := by decide +kernel
theorem dL_pick_5 : decode cL_pick 5 = .ok (.iconst 1, 1) := by decide +kernel
theorem dL_pick_6 : decode cL_pick 6 = .ok (.iushr, 1) := by decide +kernel
theorem dL_pick_7 : decode cL_pick 7 = .ok (.iload_n 2, 1) := by decide +kernel
theorem dL_pick_8 : decode cL_pick 8 = .ok (.irem, 1) := by decide +kernel
theorem dL_pick_9 : decode cL_pick 9 = .ok (.ireturn, 1) := by decide +kernel
set_option maxRecDepth 20000 in
theorem ggL_addSource_X5_addSource : GoodIn wsL_addSource wsX5_addSource := goodIn_ca (goodIn_ca (goodIn_ca (goodIn_r _ [7, 8, 9, 10, 11, 12, 13, 14, 15, 16, 17, 18, 19, 20, 21, 6, 22, 23, 24, 25, 26, 27, 28, 29, 30, 31, 32, 33, 34, 35, 36, 37, 38, 39, 40, 41, 42, 43] (by decide +kernel) (by decide +kernel)) (goodIn_sub (fun _ h => List.mem_cons_of_mem _ (List.mem_append_left _ (List.mem_append_left _ (List.mem_append_right _ h)))) (by decide +kernel))) (goodIn_sub (fun _ h => List.mem_cons_of_mem _ (List.mem_append_left _ (List.mem_append_right _ h))) (by decide +kernel))) (goodIn_sub (fun _ h => List.mem_cons_of_mem _ (List.mem_append_right _ h)) (by decide +kernel))
set_option maxRecDepth 20000 in
theorem gL_addSource_X5_addSource : GoodIn wsL_addSource (wsV RL 14 RX5 yX5_addSource wsX5_addSource) := goodIn_app (goodIn_of _ (by decide +kernel)) ggL_addSource_X5_addSource
theorem dL_addSource_0 : decode cL_addSource 0 = .ok (.aload_n 0, 1) := by decide +kernel
theorem dL_addSource_1 : decode cL_addSource 1 = .ok (.iload_n 1, 1) := by decide +kernel
theorem dL_addSource_2 : decode cL_addSource 2 = .ok (.invokevirtual 14, 3) := by decide +kernel
theorem dL_addSource_5 : decode cL_addSource 5 = .ok (.ireturn, 1) := by decide +kernel
theorem dL_addSource_6 : decode cL_addSource 6 = .ok (.astore_n 2, 1) := by decide +kernel
theorem dL_addSource_7 : decode cL_addSource 7 = .ok (.bipush (-78), 2) := by decide +kernel
theorem dL_addSource_9 : decode cL_addSource 9 = .ok (.ireturn, 1) := by decide +kernel
theorem dL_addSource_10 : decode cL_addSource 10 = .ok (.astore_n 2, 1) := by decide +kernel
theorem dL_addSource_11 : decode cL_addSource 11 = .ok (.bipush (-79), 2) := by decide +kernel
theorem dL_addSource_13 : decode cL_addSource 13 = .ok (.ireturn, 1) := by decide +kernel
set_option maxRecDepth 20000 in
theorem ggL_addBus_X5_addBus : GoodIn wsL_addBus wsX5_addBus := goodIn_ca (goodIn_ca (goodIn_ca (goodIn_r _ [7, 8, 9, 10, 11, 12, 6, 13, 14, 15, 16, 17, 18, 19, 20, 21, 22, 23, 24, 25, 26, 27, 28, 29, 30, 31, 32, 33, 34, 35, 36, 37, 38, 39, 40, 41, 42, 43, 44, 45, 46] (by decide +kernel) (by decide +kernel)) (goodIn_sub (fun _ h => List.mem_cons_of_mem _ (List.mem_append_left _ (List.mem_append_left _ (List.mem_append_right _ h)))) (by decide +kernel))) (goodIn_sub (fun _ h => List.mem_cons_of_mem _ (List.mem_append_left _ (List.mem_append_right _ h))) (by decide +kernel))) (goodIn_sub (fun _ h => List.mem_cons_of_mem _ (List.mem_append_right _ h)) (by decide +kernel))
set_option maxRecDepth 20000 in
theorem gL_addBus_X5_addBus : GoodIn wsL_addBus (wsV RL 24 RX5 yX5_addBus wsX5_addBus) := goodIn_app (goodIn_of _ (by decide +kernel)) ggL_addBus_X5_addBus
theorem dL_addBus_0 : decode cL_addBus 0 = .ok (.aload_n 0, 1) := by decide +kernel
theorem dL_addBus_1 : decode cL_addBus 1 = .ok (.iload_n 1, 1) := by decide +kernel
theorem dL_addBus_2 : decode cL_addBus 2 = .ok (.iload_n 2, 1) := by decide +kernel
theorem dL_addBus_3 : decode cL_addBus 3 = .ok (.invokevirtual 24, 3) := by decide +kernel
theorem dL_addBus_6 : decode cL_addBus 6 = .ok (.ireturn, 1) := by decide +kernel
theorem dL_addBus_7 : decode cL_addBus 7 = .ok (.astore_n 3, 1) := by decide +kernel
theorem dL_addBus_8 : decode cL_addBus 8 = .ok (.bipush (-78), 2) := by decide +kernel
theorem dL_addBus_10 : decode cL_addBus 10 = .ok (.ireturn, 1) := by decide +kernel
theorem dL_addBus_11 : decode cL_addBus 11 = .ok (.astore_n 3, 1) := by decide +kernel
theorem dL_addBus_12 : decode cL_addBus 12 = .ok (.bipush (-79), 2) := by decide +kernel
theorem dL_addBus_14 : decode cL_addBus 14 = .ok (.ireturn, 1) := by decide +kernel
set_option maxRecDepth 20000 in
theorem ggL_addLine_X5_addLine : GoodIn wsL_addLine wsX5_addLine := goodIn_ca (goodIn_ca (goodIn_ca (goodIn_ca (goodIn_r _ [8, 9, 10, 11, 12, 13, 14, 15, 7, 16, 17, 18, 19, 20, 21, 22, 23, 24, 25, 26, 27, 28, 29, 30, 31, 32, 33, 34, 35, 36, 37, 38, 39, 40, 41, 42, 43, 44, 45, 46, 47, 48, 49, 50, 51, 52, 53, 54, 55, 56, 57, 58, 59, 60, 61, 62, 63, 64, 65, 66, 67, 68, 69, 70, 71, 72, 73, 74] (by decide +kernel) (by decide +kernel)) (goodIn_sub (fun _ h => List.mem_cons_of_mem _ (List.mem_append_left _ (List.mem_append_left _ (List.mem_append_left _ (List.mem_append_right _ h))))) (by decide +kernel))) (goodIn_sub (fun _ h => List.mem_cons_of_mem _ (List.mem_append_left _ (List.mem_append_left _ (List.mem_append_right _ h)))) (by decide +kernel))) (goodIn_sub (fun _ h => List.mem_cons_of_mem _ (List.mem_append_left _ (List.mem_append_right _ h))) (by decide +kernel))) (goodIn_sub (fun _ h => List.mem_cons_of_mem _ (List.mem_append_right _ h)) (by decide +kernel))
set_option maxRecDepth 20000 in
theorem gL_addLine_X5_addLine : GoodIn wsL_addLine (wsV RL 28 RX5 yX5_addLine wsX5_addLine) := goodIn_app (goodIn_of _ (by decide +kernel)) ggL_addLine_X5_addLine
theorem dL_addLine_0 : decode cL_addLine 0 = .ok (.aload_n 0, 1) := by decide +kernel
theorem dL_addLine_1 : decode cL_addLine 1 = .ok (.iload_n 1, 1) := by decide +kernel
theorem dL_addLine_2 : decode cL_addLine 2 = .ok (.iload_n 2, 1) := by decide +kernel
theorem dL_addLine_3 : decode cL_addLine 3 = .ok (.iload_n 3, 1) := by decide +kernel
theorem dL_addLine_4 : decode cL_addLine 4 = .ok (.iload 4, 2) := by decide +kernel
theorem dL_addLine_6 : decode cL_addLine 6 = .ok (.invokevirtual 28, 3) := by decide +kernel
theorem dL_addLine_9 : decode cL_addLine 9 = .ok (.ireturn, 1) := by decide +kernel
theorem dL_addLine_10 : decode cL_addLine 10 = .ok (.astore 5, 2) := by decide +kernel
theorem dL_addLine_12 : decode cL_addLine 12 = .ok (.bipush (-75), 2) := by decide +kernel
theorem dL_addLine_14 : decode cL_addLine 14 = .ok (.ireturn, 1) := by decide +kernel
theorem dL_addLine_15 : decode cL_addLine 15 = .ok (.astore 5, 2) := by decide +kernel
theorem dL_addLine_17 : decode cL_addLine 17 = .ok (.bipush (-78), 2) := by decide +kernel
theorem dL_addLine_19 : decode cL_addLine 19 = .ok (.ireturn, 1) := by decide +kernel
theorem dL_addLine_20 : decode cL_addLine 20 = .ok (.astore 5, 2) := by decide +kernel
theorem dL_addLine_22 : decode cL_addLine 22 = .ok (.bipush (-79), 2) := by decide +kernel
theorem dL_addLine_24 : decode cL_addLine 24 = .ok (.ireturn, 1) := by decide +kernel
set_option maxRecDepth 20000 in
theorem ggL_setLoad_X5_setLoad : GoodIn wsL_setLoad wsX5_setLoad := goodIn_ca (goodIn_ca (goodIn_ca (goodIn_ca (goodIn_ca (goodIn_r _ [9, 10, 11, 12, 13, 14, 15, 16, 8, 17, 18, 19, 20, 21, 22, 23, 24, 25, 26, 27, 28, 29, 30, 31, 32, 33, 34, 35, 36, 37, 38, 39, 40, 41, 42, 43, 44, 45, 46, 47, 48, 49, 50, 51, 52, 53, 54, 55, 56, 57, 58, 59, 60, 61, 62, 63, 64, 65, 66, 67, 68, 69, 70, 71, 72, 73, 74, 75, 76, 77, 78, 79, 80, 81, 82, 83, 84, 85, 86, 87, 88, 89, 90, 91, 92, 93, 94, 95, 96, 97, 98, 99, 100, 101, 102, 103, 104, 105, 106, 107, 108, 109, 110, 111, 112, 113, 114, 115, 116, 117, 118, 119, 120, 121, 122, 123, 124, 125, 126, 127, 128, 129, 130, 131, 132, 133, 134, 135, 136, 137, 138, 139, 140, 141, 142, 143, 144, 145, 146, 147] (by decide +kernel) (by decide +kernel)) (goodIn_sub (fun _ h => List.mem_cons_of_mem _ (List.mem_append_left _ (List.mem_append_left _ (List.mem_append_left _ (List.mem_append_left _ (List.mem_append_right _ h)))))) (by decide +kernel))) (goodIn_sub (fun _ h => List.mem_cons_of_mem _ (List.mem_append_left _ (List.mem_append_left _ (List.mem_append_left _ (List.mem_append_right _ h))))) (by decide +kernel))) (goodIn_sub (fun _ h => List.mem_cons_of_mem _ (List.mem_append_left _ (List.mem_append_left _ (List.mem_append_right _ h)))) (by decide +kernel))) (goodIn_sub (fun _ h => List.mem_cons_of_mem _ (List.mem_append_left _ (List.mem_append_right _ h))) (by decide +kernel))) (goodIn_sub (fun _ h => List.mem_cons_of_mem _ (List.mem_append_right _ h)) (by decide +kernel))
set_option maxRecDepth 20000 in
theorem gL_setLoad_X5_setLoad : GoodIn wsL_setLoad (wsV RL 34 RX5 yX5_setLoad wsX5_setLoad) := goodIn_app (goodIn_of _ (by decide +kernel)) ggL_setLoad_X5_setLoad
theorem dL_setLoad_0 : decode cL_setLoad 0 = .ok (.aload_n 0, 1) := by decide +kernel
theorem dL_setLoad_1 : decode cL_setLoad 1 = .ok (.iload_n 1, 1) := by decide +kernel
theorem dL_setLoad_2 : decode cL_setLoad 2 = .ok (.iload_n 2, 1) := by decide +kernel
theorem dL_setLoad_3 : decode cL_setLoad 3 = .ok (.invokevirtual 34, 3) := by decide +kernel
theorem dL_setLoad_6 : decode cL_setLoad 6 = .ok (.ireturn, 1) := by decide +kernel
theorem dL_setLoad_7 : decode cL_setLoad 7 = .ok (.astore_n 3, 1) := by decide +kernel
theorem dL_setLoad_8 : decode cL_setLoad 8 = .ok (.bipush (-75), 2) := by decide +kernel
theorem dL_setLoad_10 : decode cL_setLoad 10 = .ok (.ireturn, 1) := by decide +kernel
theorem dL_setLoad_11 : decode cL_setLoad 11 = .ok (.astore_n 3, 1) := by decide +kernel
theorem dL_setLoad_12 : decode cL_setLoad 12 = .ok (.bipush (-78), 2) := by decide +kernel
theorem dL_setLoad_14 : decode cL_setLoad 14 = .ok (.ireturn, 1) := by decide +kernel
theorem dL_setLoad_15 : decode cL_setLoad 15 = .ok (.astore_n 3, 1) := by decide +kernel
theorem dL_setLoad_16 : decode cL_setLoad 16 = .ok (.bipush (-76), 2) := by decide +kernel
theorem dL_setLoad_18 : decode cL_setLoad 18 = .ok (.ireturn, 1) := by decide +kernel
theorem dL_setLoad_19 : decode cL_setLoad 19 = .ok (.astore_n 3, 1) := by decide +kernel
theorem dL_setLoad_20 : decode cL_setLoad 20 = .ok (.bipush (-79), 2) := by decide +kernel
theorem dL_setLoad_22 : decode cL_setLoad 22 = .ok (.ireturn, 1) := by decide +kernel
set_option maxRecDepth 20000 in
theorem ggL_setRelay_X5_setRelay : GoodIn wsL_setRelay wsX5_setRelay := goodIn_ca (goodIn_ca (goodIn_ca (goodIn_ca (goodIn_r _ [8, 9, 10, 11, 12, 13, 14, 7, 15, 16, 17, 18, 19, 20, 21, 22, 23, 24, 25, 26, 27, 28, 29, 30, 31, 32, 33, 34, 35, 36, 37, 38, 39, 40, 41, 42, 43, 44, 45, 46, 47, 48, 49, 50, 51, 52, 53, 54, 55, 56, 57, 58, 59, 60, 61, 62, 63, 64, 65, 66, 67, 68] (by decide +kernel) (by decide +kernel)) (goodIn_sub (fun _ h => List.mem_cons_of_mem _ (List.mem_append_left _ (List.mem_append_left _ (List.mem_append_left _ (List.mem_append_right _ h))))) (by decide +kernel))) (goodIn_sub (fun _ h => List.mem_cons_of_mem _ (List.mem_append_left _ (List.mem_append_left _ (List.mem_append_right _ h)))) (by decide +kernel))) (goodIn_sub (fun _ h => List.mem_cons_of_mem _ (List.mem_append_left _ (List.mem_append_right _ h))) (by decide +kernel))) (goodIn_sub (fun _ h => List.mem_cons_of_mem _ (List.mem_append_right _ h)) (by decide +kernel))
set_option maxRecDepth 20000 in
theorem gL_setRelay_X5_setRelay : GoodIn wsL_setRelay (wsV RL 39 RX5 yX5_setRelay wsX5_setRelay) := goodIn_app (goodIn_of _ (by decide +kernel)) ggL_setRelay_X5_setRelay
theorem dL_setRelay_0 : decode cL_setRelay 0 = .ok (.aload_n 0, 1) := by decide +kernel
theorem dL_setRelay_1 : decode cL_setRelay 1 = .ok (.iload_n 1, 1) := by decide +kernel
theorem dL_setRelay_2 : decode cL_setRelay 2 = .ok (.iload_n 2, 1) := by decide +kernel
theorem dL_setRelay_3 : decode cL_setRelay 3 = .ok (.iload_n 3, 1) := by decide +kernel
theorem dL_setRelay_4 : decode cL_setRelay 4 = .ok (.iload 4, 2) := by decide +kernel
theorem dL_setRelay_6 : decode cL_setRelay 6 = .ok (.invokevirtual 39, 3) := by decide +kernel
theorem dL_setRelay_9 : decode cL_setRelay 9 = .ok (.ireturn, 1) := by decide +kernel
theorem dL_setRelay_10 : decode cL_setRelay 10 = .ok (.astore 5, 2) := by decide +kernel
theorem dL_setRelay_12 : decode cL_setRelay 12 = .ok (.bipush (-75), 2) := by decide +kernel
theorem dL_setRelay_14 : decode cL_setRelay 14 = .ok (.ireturn, 1) := by decide +kernel
theorem dL_setRelay_15 : decode cL_setRelay 15 = .ok (.astore 5, 2) := by decide +kernel
theorem dL_setRelay_17 : decode cL_setRelay 17 = .ok (.bipush (-78), 2) := by decide +kernel
theorem dL_setRelay_19 : decode cL_setRelay 19 = .ok (.ireturn, 1) := by decide +kernel
theorem dL_setRelay_20 : decode cL_setRelay 20 = .ok (.astore 5, 2) := by decide +kernel
theorem dL_setRelay_22 : decode cL_setRelay 22 = .ok (.bipush (-76), 2) := by decide +kernel
theorem dL_setRelay_24 : decode cL_setRelay 24 = .ok (.ireturn, 1) := by decide +kernel
set_option maxRecDepth 20000 in
theorem ggL_close_X5_close : GoodIn wsL_close wsX5_close := goodIn_ca (goodIn_ca (goodIn_r _ [6, 7, 8, 9, 10, 5, 11, 12, 13, 14, 15, 16, 17, 18, 19, 20, 21, 22, 23, 24, 25, 26, 27, 28, 29, 30, 31, 32, 33, 34, 35, 36, 37, 38, 39, 40, 41, 42, 43, 44, 45, 46, 47, 48, 49, 50, 51, 52, 53, 54, 55, 56, 57, 58, 59, 60, 61, 62, 63, 64, 65, 66, 67, 68, 69, 70, 71, 72, 73, 74, 75, 76, 77, 78, 79, 80, 81, 82, 83, 84, 85, 86, 87, 88, 89, 90, 91, 92, 93, 94, 95, 96, 97, 98, 99, 100, 101, 102, 103, 104, 105, 106, 107, 108, 109, 110, 111, 112, 113, 114, 115, 116, 117, 118, 119, 120, 121, 122, 123, 124, 125, 126, 127, 128, 129, 130, 131, 132, 133, 134, 135, 136, 137, 138, 139, 140, 141, 142, 143] (by decide +kernel) (by decide +kernel)) (goodIn_sub (fun _ h => List.mem_cons_of_mem _ (List.mem_append_left _ (List.mem_append_right _ h))) (by decide +kernel))) (goodIn_sub (fun _ h => List.mem_cons_of_mem _ (List.mem_append_right _ h)) (by decide +kernel))
set_option maxRecDepth 20000 in
theorem gL_close_X5_close : GoodIn wsL_close (wsV RL 43 RX5 yX5_close wsX5_close) := goodIn_app (goodIn_of _ (by decide +kernel)) ggL_close_X5_close
theorem dL_close_0 : decode cL_close 0 = .ok (.aload_n 0, 1) := by decide +kernel
theorem dL_close_1 : decode cL_close 1 = .ok (.iload_n 1, 1) := by decide +kernel
theorem dL_close_2 : decode cL_close 2 = .ok (.invokevirtual 43, 3) := by decide +kernel
theorem dL_close_5 : decode cL_close 5 = .ok (.ireturn, 1) := by decide +kernel
theorem dL_close_6 : decode cL_close 6 = .ok (.astore_n 2, 1) := by decide +kernel
theorem dL_close_7 : decode cL_close 7 = .ok (.bipush (-75), 2) := by decide +kernel
theorem dL_close_9 : decode cL_close 9 = .ok (.ireturn, 1) := by decide +kernel
set_option maxRecDepth 20000 in
theorem ggL_open_X5_open : GoodIn wsL_open wsX5_open := goodIn_ca (goodIn_ca (goodIn_r _ [6, 7, 8, 9, 10, 5, 11, 12, 13, 14, 15, 16, 17, 18, 19, 20, 21, 22, 23, 24, 25, 26, 27, 28, 29, 30, 31, 32, 33, 34, 35, 36, 37, 38, 39, 40, 41, 42, 43, 44, 45, 46, 47, 48, 49, 50, 51, 52, 53, 54, 55, 56, 57, 58, 59, 60, 61, 62, 63, 64, 65, 66, 67, 68, 69, 70, 71, 72, 73, 74, 75, 76, 77, 78, 79, 80, 81, 82, 83, 84, 85, 86, 87, 88, 89] (by decide +kernel) (by decide +kernel)) (goodIn_sub (fun _ h => List.mem_cons_of_mem _ (List.mem_append_left _ (List.mem_append_right _ h))) (by decide +kernel))) (goodIn_sub (fun _ h => List.mem_cons_of_mem _ (List.mem_append_right _ h)) (by decide +kernel))
set_option maxRecDepth 20000 in
theorem gL_open_X5_open : GoodIn wsL_open (wsV RL 47 RX5 yX5_open wsX5_open) := goodIn_app (goodIn_of _ (by decide +kernel)) ggL_open_X5_open
theorem dL_open_0 : decode cL_open 0 = .ok (.aload_n 0, 1) := by decide +kernel
theorem dL_open_1 : decode cL_open 1 = .ok (.iload_n 1, 1) := by decide +kernel
theorem dL_open_2 : decode cL_open 2 = .ok (.invokevirtual 47, 3) := by decide +kernel
theorem dL_open_5 : decode cL_open 5 = .ok (.ireturn, 1) := by decide +kernel
theorem dL_open_6 : decode cL_open 6 = .ok (.astore_n 2, 1) := by decide +kernel
theorem dL_open_7 : decode cL_open 7 = .ok (.bipush (-75), 2) := by decide +kernel
theorem dL_open_9 : decode cL_open 9 = .ok (.ireturn, 1) := by decide +kernel
set_option maxRecDepth 20000 in
theorem ggL_canClose_X5_canClose : GoodIn wsL_canClose wsX5_canClose := goodIn_ca (goodIn_ca (goodIn_r _ [6, 7, 8, 9, 10, 5, 11, 12, 13, 14, 15, 16, 17, 18, 19, 20, 21, 22, 23, 24, 25, 26, 27, 28, 29, 30, 31, 32, 33, 34, 35, 36, 37, 38, 39, 40, 41, 42, 43, 44, 45, 46, 47, 48, 49, 50, 51, 52, 53, 54, 55, 56, 57, 58, 59, 60, 61, 62, 63, 64, 65, 66, 67, 68, 69, 70, 71, 72, 73, 74, 75, 76, 77, 78, 79, 80, 81, 82, 83, 84, 85, 86, 87, 88, 89, 90, 91, 92, 93, 94, 95, 96, 97, 98, 99, 100, 101, 102, 103, 104, 105, 106, 107, 108, 109, 110, 111, 112, 113, 114, 115, 116, 117, 118, 119, 120, 121, 122, 123, 124, 125, 126, 127, 128, 129, 130, 131, 132, 133, 134, 135, 136, 137] (by decide +kernel) (by decide +kernel)) (goodIn_sub (fun _ h => List.mem_cons_of_mem _ (List.mem_append_left _ (List.mem_append_right _ h))) (by decide +kernel))) (goodIn_sub (fun _ h => List.mem_cons_of_mem _ (List.mem_append_right _ h)) (by decide +kernel))
set_option maxRecDepth 20000 in
theorem gL_canClose_X5_canClose : GoodIn wsL_canClose (wsV RL 50 RX5 yX5_canClose wsX5_canClose) := goodIn_app (goodIn_of _ (by decide +kernel)) ggL_canClose_X5_canClose
theorem dL_canClose_0 : decode cL_canClose 0 = .ok (.aload_n 0, 1) := by decide +kernel
theorem dL_canClose_1 : decode cL_canClose 1 = .ok (.iload_n 1, 1) := by decide +kernel
theorem dL_canClose_2 : decode cL_canClose 2 = .ok (.invokevirtual 50, 3) := by decide +kernel
theorem dL_canClose_5 : decode cL_canClose 5 = .ok (.ireturn, 1) := by decide +kernel
theorem dL_canClose_6 : decode cL_canClose 6 = .ok (.astore_n 2, 1) := by decide +kernel
theorem dL_canClose_7 : decode cL_canClose 7 = .ok (.bipush (-75), 2) := by decide +kernel
theorem dL_canClose_9 : decode cL_canClose 9 = .ok (.ireturn, 1) := by decide +kernel
set_option maxRecDepth 20000 in
theorem ggL_canOpen_X5_canOpen : GoodIn wsL_canOpen wsX5_canOpen := goodIn_ca (goodIn_ca (goodIn_r _ [6, 7, 8, 9, 10, 5, 11, 12, 13, 14, 15, 16, 17, 18, 19, 20, 21, 22, 23, 24, 25, 26, 27, 28, 29, 30, 31, 32, 33, 34, 35, 36, 37, 38, 39, 40, 41, 42, 43, 44, 45, 46, 47, 48, 49, 50, 51, 52, 53, 54, 55, 56, 57, 58, 59, 60, 61, 62, 63, 64, 65, 66, 67, 68, 69, 70, 71, 72, 73, 74, 75, 76, 77, 78, 79, 80, 81, 82] (by decide +kernel) (by decide +kernel)) (goodIn_sub (fun _ h => List.mem_cons_of_mem _ (List.mem_append_left _ (List.mem_append_right _ h))) (by decide +kernel))) (goodIn_sub (fun _ h => List.mem_cons_of_mem _ (List.mem_append_right _ h)) (by decide +kernel))
set_option maxRecDepth 20000 in
theorem gL_canOpen_X5_canOpen : GoodIn wsL_canOpen (wsV RL 53 RX5 yX5_canOpen wsX5_canOpen) := goodIn_app (goodIn_of _ (by decide +kernel)) ggL_canOpen_X5_canOpen
theorem dL_canOpen_0 : decode cL_canOpen 0 = .ok (.aload_n 0, 1) := by decide +kernel
theorem dL_canOpen_1 : decode cL_canOpen 1 = .ok (.iload_n 1, 1) := by decide +kernel
theorem dL_canOpen_2 : decode cL_canOpen 2 = .ok (.invokevirtual 53, 3) := by decide +kernel
theorem dL_canOpen_5 : decode cL_canOpen 5 = .ok (.ireturn, 1) := by decide +kernel
theorem dL_canOpen_6 : decode cL_canOpen 6 = .ok (.astore_n 2, 1) := by decide +kernel
theorem dL_canOpen_7 : decode cL_canOpen 7 = .ok (.bipush (-75), 2) := by decide +kernel
theorem dL_canOpen_9 : decode cL_canOpen 9 = .ok (.ireturn, 1) := by decide +kernel
set_option maxRecDepth 20000 in
theorem ggL_fault_X5_fault : GoodIn wsL_fault wsX5_fault := goodIn_ca (goodIn_ca (goodIn_ca (goodIn_ca (goodIn_r _ [7, 8, 9, 10, 11, 12, 13, 14, 15, 16, 6, 17, 18, 19, 20, 21, 22, 23, 24, 25, 26, 27, 28, 29, 30, 31, 32, 33, 34, 35, 36, 37, 38, 39, 40, 41, 42, 43, 44, 45, 46, 47, 48, 49, 50, 51, 52, 53, 54, 55, 56, 57, 58, 59, 60, 61, 62, 63, 64, 65, 66, 67, 68, 69, 70, 71, 72, 73, 74, 75, 76, 77, 78, 79, 80, 81, 82, 83, 84, 85, 86, 87, 88, 89, 90, 91, 92, 93, 94, 95, 96, 97, 98, 99, 100, 101, 102, 103, 104, 105, 106, 107, 108, 109, 110, 111, 112, 113, 114, 115, 116, 117, 118, 119, 120, 121, 122, 123, 124, 125, 126, 127, 128, 129, 130, 131, 132, 133, 134, 135, 136, 137, 138, 139, 140, 141, 142, 143, 144, 145, 146, 147, 148, 149, 150, 151, 152, 153, 154] (by decide +kernel) (by decide +kernel)) (goodIn_sub (fun _ h => List.mem_cons_of_mem _ (List.mem_append_left _ (List.mem_append_left _ (List.mem_append_left _ (List.mem_append_right _ h))))) (by decide +kernel))) (goodIn_sub (fun _ h => List.mem_cons_of_mem _ (List.mem_append_left _ (List.mem_append_left _ (List.mem_append_right _ h)))) (by decide +kernel))) (goodIn_sub (fun _ h => List.mem_cons_of_mem _ (List.mem_append_left _ (List.mem_append_right _ h))) (by decide +kernel))) (goodIn_sub (fun _ h => List.mem_cons_of_mem _ (List.mem_append_right _ h)) (by decide +kernel))
set_option maxRecDepth 20000 in
theorem gL_fault_X5_fault : GoodIn wsL_fault (wsV RL 56 RX5 yX5_fault wsX5_fault) := goodIn_app (goodIn_of _ (by decide +kernel)) ggL_fault_X5_fault
theorem dL_fault_0 : decode cL_fault 0 = .ok (.aload_n 0, 1) := by decide +kernel
theorem dL_fault_1 : decode cL_fault 1 = .ok (.iload_n 1, 1) := by decide +kernel
theorem dL_fault_2 : decode cL_fault 2 = .ok (.invokevirtual 56, 3) := by decide +kernel
theorem dL_fault_5 : decode cL_fault 5 = .ok (.ireturn, 1) := by decide +kernel
theorem dL_fault_6 : decode cL_fault 6 = .ok (.astore_n 2, 1) := by decide +kernel
theorem dL_fault_7 : decode cL_fault 7 = .ok (.bipush (-75), 2) := by decide +kernel
theorem dL_fault_9 : decode cL_fault 9 = .ok (.ireturn, 1) := by decide +kernel
theorem dL_fault_10 : decode cL_fault 10 = .ok (.astore_n 2, 1) := by decide +kernel
theorem dL_fault_11 : decode cL_fault 11 = .ok (.bipush (-79), 2) := by decide +kernel
theorem dL_fault_13 : decode cL_fault 13 = .ok (.ireturn, 1) := by decide +kernel
set_option maxRecDepth 20000 in
theorem ggL_repair_X5_repair : GoodIn wsL_repair wsX5_repair := goodIn_ca (goodIn_ca (goodIn_r _ [7, 8, 9, 10, 11, 12, 13, 6, 14, 15, 16, 17, 18, 19, 20, 21, 22, 23, 24, 25, 26, 27, 28, 29, 30, 31, 32, 33, 34, 35, 36, 37, 38, 39, 40, 41, 42, 43, 44, 45, 46, 47, 48, 49, 50] (by decide +kernel) (by decide +kernel)) (goodIn_sub (fun _ h => List.mem_cons_of_mem _ (List.mem_append_left _ (List.mem_append_right _ h))) (by decide +kernel))) (goodIn_sub (fun _ h => List.mem_cons_of_mem _ (List.mem_append_right _ h)) (by decide +kernel))
set_option maxRecDepth 20000 in
theorem gL_repair_X5_repair : GoodIn wsL_repair (wsV RL 59 RX5 yX5_repair wsX5_repair) := goodIn_app (goodIn_of _ (by decide +kernel)) ggL_repair_X5_repair
theorem dL_repair_0 : decode cL_repair 0 = .ok (.aload_n 0, 1) := by decide +kernel
theorem dL_repair_1 : decode cL_repair 1 = .ok (.iload_n 1, 1) := by decide +kernel
theorem dL_repair_2 : decode cL_repair 2 = .ok (.invokevirtual 59, 3) := by decide +kernel
theorem dL_repair_5 : decode cL_repair 5 = .ok (.ifCond .eq 7, 3) := by decide +kernel
theorem dL_repair_8 : decode cL_repair 8 = .ok (.iconst 1, 1) := by decide +kernel
theorem dL_repair_9 : decode cL_repair 9 = .ok (.goto 4, 3) := by decide +kernel
theorem dL_repair_12 : decode cL_repair 12 = .ok (.iconst 0, 1) := by decide +kernel
theorem dL_repair_13 : decode cL_repair 13 = .ok (.ireturn, 1) := by decide +kernel
theorem dL_repair_14 : decode cL_repair 14 = .ok (.astore_n 2, 1) := by decide +kernel
theorem dL_repair_15 : decode cL_repair 15 = .ok (.bipush (-75), 2) := by decide +kernel
theorem dL_repair_17 : decode cL_repair 17 = .ok (.ireturn, 1) := by decide +kernel
theorem dL_repair_18 : decode cL_repair 18 = .ok (.astore_n 2, 1) := by decide +kernel
theorem dL_repair_19 : decode cL_repair 19 = .ok (.bipush (-79), 2) := by decide +kernel
theorem dL_repair_21 : decode cL_repair 21 = .ok (.ireturn, 1) := by decide +kernel
set_option maxRecDepth 20000 in
theorem ggL_reset_X5_reset : GoodIn wsL_reset wsX5_reset := goodIn_ca (goodIn_ca (goodIn_ca (goodIn_r _ [8, 9, 10, 11, 12, 13, 14, 15, 16, 7, 17, 18, 19, 20, 21, 22, 23, 24, 25, 26, 27, 28, 29, 30, 31, 32, 33, 34, 35, 36, 37, 38, 39, 40, 41, 42, 43, 44, 45, 46, 47, 48, 49, 50, 51, 52, 53, 54, 55, 56, 57, 58, 59, 60] (by decide +kernel) (by decide +kernel)) (goodIn_sub (fun _ h => List.mem_cons_of_mem _ (List.mem_append_left _ (List.mem_append_left _ (List.mem_append_right _ h)))) (by decide +kernel))) (goodIn_sub (fun _ h => List.mem_cons_of_mem _ (List.mem_append_left _ (List.mem_append_right _ h))) (by decide +kernel))) (goodIn_sub (fun _ h => List.mem_cons_of_mem _ (List.mem_append_right _ h)) (by decide +kernel))
set_option maxRecDepth 20000 in
theorem gL_reset_X5_reset : GoodIn wsL_reset (wsV RL 63 RX5 yX5_reset wsX5_reset) := goodIn_app (goodIn_of _ (by decide +kernel)) ggL_reset_X5_reset
theorem dL_reset_0 : decode cL_reset 0 = .ok (.aload_n 0, 1) := by decide +kernel
theorem dL_reset_1 : decode cL_reset 1 = .ok (.iload_n 1, 1) := by decide +kernel
theorem dL_reset_2 : decode cL_reset 2 = .ok (.invokevirtual 63, 3) := by decide +kernel
theorem dL_reset_5 : decode cL_reset 5 = .ok (.ireturn, 1) := by decide +kernel
theorem dL_reset_6 : decode cL_reset 6 = .ok (.astore_n 2, 1) := by decide +kernel
theorem dL_reset_7 : decode cL_reset 7 = .ok (.bipush (-75), 2) := by decide +kernel
theorem dL_reset_9 : decode cL_reset 9 = .ok (.ireturn, 1) := by decide +kernel
theorem dL_reset_10 : decode cL_reset 10 = .ok (.astore_n 2, 1) := by decide +kernel
theorem dL_reset_11 : decode cL_reset 11 = .ok (.bipush (-76), 2) := by decide +kernel
theorem dL_reset_13 : decode cL_reset 13 = .ok (.ireturn, 1) := by decide +kernel
theorem dL_reset_14 : decode cL_reset 14 = .ok (.astore_n 2, 1) := by decide +kernel
theorem dL_reset_15 : decode cL_reset 15 = .ok (.bipush (-79), 2) := by decide +kernel
theorem dL_reset_17 : decode cL_reset 17 = .ok (.ireturn, 1) := by decide +kernel
set_option maxRecDepth 20000 in
theorem ggL_isSource_X5_isSource : GoodIn wsL_isSource wsX5_isSource := goodIn_ca (goodIn_r _ [6, 7, 8, 9, 10, 5, 11, 12, 13, 14, 15, 16, 17, 18, 19, 20, 21, 22, 23, 24, 25, 26, 27, 28, 29, 30, 31, 32, 33, 34, 35, 36, 37, 38] (by decide +kernel) (by decide +kernel)) (goodIn_sub (fun _ h => List.mem_cons_of_mem _ (List.mem_append_right _ h)) (by decide +kernel))
set_option maxRecDepth 20000 in
theorem gL_isSource_X5_isSource : GoodIn wsL_isSource (wsV RL 66 RX5 yX5_isSource wsX5_isSource) := goodIn_app (goodIn_of _ (by decide +kernel)) ggL_isSource_X5_isSource
theorem dL_isSource_0 : decode cL_isSource 0 = .ok (.aload_n 0, 1) := by decide +kernel
theorem dL_isSource_1 : decode cL_isSource 1 = .ok (.iload_n 1, 1) := by decide +kernel
theorem dL_isSource_2 : decode cL_isSource 2 = .ok (.invokevirtual 66, 3) := by decide +kernel
theorem dL_isSource_5 : decode cL_isSource 5 = .ok (.ifCond .eq 7, 3) := by decide +kernel
theorem dL_isSource_8 : decode cL_isSource 8 = .ok (.iconst 1, 1) := by decide +kernel
theorem dL_isSource_9 : decode cL_isSource 9 = .ok (.goto 4, 3) := by decide +kernel
theorem dL_isSource_12 : decode cL_isSource 12 = .ok (.iconst 0, 1) := by decide +kernel
theorem dL_isSource_13 : decode cL_isSource 13 = .ok (.ireturn, 1) := by decide +kernel
theorem dL_isSource_14 : decode cL_isSource 14 = .ok (.astore_n 2, 1) := by decide +kernel
theorem dL_isSource_15 : decode cL_isSource 15 = .ok (.bipush (-75), 2) := by decide +kernel
theorem dL_isSource_17 : decode cL_isSource 17 = .ok (.ireturn, 1) := by decide +kernel
set_option maxRecDepth 20000 in
theorem ggL_loadOf_X5_loadOf : GoodIn wsL_loadOf wsX5_loadOf := goodIn_ca (goodIn_ca (goodIn_r _ [6, 7, 8, 9, 10, 5, 11, 12, 13, 14, 15, 16, 17, 18, 19, 20, 21, 22, 23, 24, 25, 26, 27, 28, 29, 30, 31, 32, 33, 34, 35, 36, 37, 38, 39, 40] (by decide +kernel) (by decide +kernel)) (goodIn_sub (fun _ h => List.mem_cons_of_mem _ (List.mem_append_left _ (List.mem_append_right _ h))) (by decide +kernel))) (goodIn_sub (fun _ h => List.mem_cons_of_mem _ (List.mem_append_right _ h)) (by decide +kernel))
set_option maxRecDepth 20000 in
theorem gL_loadOf_X5_loadOf : GoodIn wsL_loadOf (wsV RL 69 RX5 yX5_loadOf wsX5_loadOf) := goodIn_app (goodIn_of _ (by decide +kernel)) ggL_loadOf_X5_loadOf
theorem dL_loadOf_0 : decode cL_loadOf 0 = .ok (.aload_n 0, 1) := by decide +kernel
theorem dL_loadOf_1 : decode cL_loadOf 1 = .ok (.iload_n 1, 1) := by decide +kernel
theorem dL_loadOf_2 : decode cL_loadOf 2 = .ok (.invokevirtual 69, 3) := by decide +kernel
theorem dL_loadOf_5 : decode cL_loadOf 5 = .ok (.ireturn, 1) := by decide +kernel
theorem dL_loadOf_6 : decode cL_loadOf 6 = .ok (.astore_n 2, 1) := by decide +kernel
theorem dL_loadOf_7 : decode cL_loadOf 7 = .ok (.bipush (-75), 2) := by decide +kernel
theorem dL_loadOf_9 : decode cL_loadOf 9 = .ok (.ireturn, 1) := by decide +kernel
set_option maxRecDepth 20000 in
theorem ggL_weight_X5_weight : GoodIn wsL_weight wsX5_weight := goodIn_ca (goodIn_ca (goodIn_ca (goodIn_r _ [7, 8, 9, 10, 11, 6, 12, 13, 14, 15, 16, 17, 18, 19, 20, 21, 22, 23, 24, 25, 26, 27, 28, 29, 30, 31, 32, 33, 34, 35, 36, 37, 38, 39, 40, 41, 42, 43, 44, 45, 46, 47, 48, 49, 50, 51, 52, 53, 54] (by decide +kernel) (by decide +kernel)) (goodIn_sub (fun _ h => List.mem_cons_of_mem _ (List.mem_append_left _ (List.mem_append_left _ (List.mem_append_right _ h)))) (by decide +kernel))) (goodIn_sub (fun _ h => List.mem_cons_of_mem _ (List.mem_append_left _ (List.mem_append_right _ h))) (by decide +kernel))) (goodIn_sub (fun _ h => List.mem_cons_of_mem _ (List.mem_append_right _ h)) (by decide +kernel))
set_option maxRecDepth 20000 in
theorem gL_weight_X5_weight : GoodIn wsL_weight (wsV RL 72 RX5 yX5_weight wsX5_weight) := goodIn_app (goodIn_of _ (by decide +kernel)) ggL_weight_X5_weight
theorem dL_weight_0 : decode cL_weight 0 = .ok (.aload_n 0, 1) := by decide +kernel
theorem dL_weight_1 : decode cL_weight 1 = .ok (.iload_n 1, 1) := by decide +kernel
theorem dL_weight_2 : decode cL_weight 2 = .ok (.invokevirtual 72, 3) := by decide +kernel
theorem dL_weight_5 : decode cL_weight 5 = .ok (.ireturn, 1) := by decide +kernel
theorem dL_weight_6 : decode cL_weight 6 = .ok (.astore_n 2, 1) := by decide +kernel
theorem dL_weight_7 : decode cL_weight 7 = .ok (.bipush (-75), 2) := by decide +kernel
theorem dL_weight_9 : decode cL_weight 9 = .ok (.ireturn, 1) := by decide +kernel
theorem dL_weight_10 : decode cL_weight 10 = .ok (.astore_n 2, 1) := by decide +kernel
theorem dL_weight_11 : decode cL_weight 11 = .ok (.bipush (-76), 2) := by decide +kernel
theorem dL_weight_13 : decode cL_weight 13 = .ok (.ireturn, 1) := by decide +kernel
set_option maxRecDepth 20000 in
theorem ggL_isClosed_X5_isClosed : GoodIn wsL_isClosed wsX5_isClosed := goodIn_ca (goodIn_r _ [6, 7, 8, 9, 10, 5, 11, 12, 13, 14, 15, 16, 17, 18, 19, 20, 21, 22, 23, 24, 25, 26, 27, 28, 29, 30, 31, 32, 33, 34, 35, 36, 37, 38, 39, 40, 41, 42, 43, 44] (by decide +kernel) (by decide +kernel)) (goodIn_sub (fun _ h => List.mem_cons_of_mem _ (List.mem_append_right _ h)) (by decide +kernel))
set_option maxRecDepth 20000 in
theorem gL_isClosed_X5_isClosed : GoodIn wsL_isClosed (wsV RL 75 RX5 yX5_isClosed wsX5_isClosed) := goodIn_app (goodIn_of _ (by decide +kernel)) ggL_isClosed_X5_isClosed
theorem dL_isClosed_0 : decode cL_isClosed 0 = .ok (.aload_n 0, 1) := by decide +kernel
theorem dL_isClosed_1 : decode cL_isClosed 1 = .ok (.iload_n 1, 1) := by decide +kernel
theorem dL_isClosed_2 : decode cL_isClosed 2 = .ok (.invokevirtual 75, 3) := by decide +kernel
theorem dL_isClosed_5 : decode cL_isClosed 5 = .ok (.ifCond .eq 7, 3) := by decide +kernel
theorem dL_isClosed_8 : decode cL_isClosed 8 = .ok (.iconst 1, 1) := by decide +kernel
theorem dL_isClosed_9 : decode cL_isClosed 9 = .ok (.goto 4, 3) := by decide +kernel
theorem dL_isClosed_12 : decode cL_isClosed 12 = .ok (.iconst 0, 1) := by decide +kernel
theorem dL_isClosed_13 : decode cL_isClosed 13 = .ok (.ireturn, 1) := by decide +kernel
theorem dL_isClosed_14 : decode cL_isClosed 14 = .ok (.astore_n 2, 1) := by decide +kernel
theorem dL_isClosed_15 : decode cL_isClosed 15 = .ok (.bipush (-75), 2) := by decide +kernel
theorem dL_isClosed_17 : decode cL_isClosed 17 = .ok (.ireturn, 1) := by decide +kernel
set_option maxRecDepth 20000 in
theorem ggL_isLocked_X5_isLocked : GoodIn wsL_isLocked wsX5_isLocked := goodIn_ca (goodIn_r _ [6, 7, 8, 9, 10, 5, 11, 12, 13, 14, 15, 16, 17, 18, 19, 20, 21, 22, 23, 24, 25, 26, 27, 28, 29, 30, 31, 32, 33, 34, 35, 36, 37, 38, 39, 40, 41, 42, 43, 44] (by decide +kernel) (by decide +kernel)) (goodIn_sub (fun _ h => List.mem_cons_of_mem _ (List.mem_append_right _ h)) (by decide +kernel))
set_option maxRecDepth 20000 in
theorem gL_isLocked_X5_isLocked : GoodIn wsL_isLocked (wsV RL 78 RX5 yX5_isLocked wsX5_isLocked) := goodIn_app (goodIn_of _ (by decide +kernel)) ggL_isLocked_X5_isLocked
theorem dL_isLocked_0 : decode cL_isLocked 0 = .ok (.aload_n 0, 1) := by decide +kernel
theorem dL_isLocked_1 : decode cL_isLocked 1 = .ok (.iload_n 1, 1) := by decide +kernel
theorem dL_isLocked_2 : decode cL_isLocked 2 = .ok (.invokevirtual 78, 3) := by decide +kernel
theorem dL_isLocked_5 : decode cL_isLocked 5 = .ok (.ifCond .eq 7, 3) := by decide +kernel
theorem dL_isLocked_8 : decode cL_isLocked 8 = .ok (.iconst 1, 1) := by decide +kernel
theorem dL_isLocked_9 : decode cL_isLocked 9 = .ok (.goto 4, 3) := by decide +kernel
theorem dL_isLocked_12 : decode cL_isLocked 12 = .ok (.iconst 0, 1) := by decide +kernel
theorem dL_isLocked_13 : decode cL_isLocked 13 = .ok (.ireturn, 1) := by decide +kernel
theorem dL_isLocked_14 : decode cL_isLocked 14 = .ok (.astore_n 2, 1) := by decide +kernel
theorem dL_isLocked_15 : decode cL_isLocked 15 = .ok (.bipush (-75), 2) := by decide +kernel
theorem dL_isLocked_17 : decode cL_isLocked 17 = .ok (.ireturn, 1) := by decide +kernel
set_option maxRecDepth 20000 in
theorem ggL_hasFault_X5_hasFault : GoodIn wsL_hasFault wsX5_hasFault := goodIn_ca (goodIn_r _ [6, 7, 8, 9, 10, 5, 11, 12, 13, 14, 15, 16, 17, 18, 19, 20, 21, 22, 23, 24, 25, 26, 27, 28, 29, 30, 31, 32, 33, 34, 35, 36, 37, 38, 39, 40, 41, 42, 43, 44] (by decide +kernel) (by decide +kernel)) (goodIn_sub (fun _ h => List.mem_cons_of_mem _ (List.mem_append_right _ h)) (by decide +kernel))
set_option maxRecDepth 20000 in
theorem gL_hasFault_X5_hasFault : GoodIn wsL_hasFault (wsV RL 81 RX5 yX5_hasFault wsX5_hasFault) := goodIn_app (goodIn_of _ (by decide +kernel)) ggL_hasFault_X5_hasFault
theorem dL_hasFault_0 : decode cL_hasFault 0 = .ok (.aload_n 0, 1) := by decide +kernel
theorem dL_hasFault_1 : decode cL_hasFault 1 = .ok (.iload_n 1, 1) := by decide +kernel
theorem dL_hasFault_2 : decode cL_hasFault 2 = .ok (.invokevirtual 81, 3) := by decide +kernel
theorem dL_hasFault_5 : decode cL_hasFault 5 = .ok (.ifCond .eq 7, 3) := by decide +kernel
theorem dL_hasFault_8 : decode cL_hasFault 8 = .ok (.iconst 1, 1) := by decide +kernel
theorem dL_hasFault_9 : decode cL_hasFault 9 = .ok (.goto 4, 3) := by decide +kernel
theorem dL_hasFault_12 : decode cL_hasFault 12 = .ok (.iconst 0, 1) := by decide +kernel
theorem dL_hasFault_13 : decode cL_hasFault 13 = .ok (.ireturn, 1) := by decide +kernel
theorem dL_hasFault_14 : decode cL_hasFault 14 = .ok (.astore_n 2, 1) := by decide +kernel
theorem dL_hasFault_15 : decode cL_hasFault 15 = .ok (.bipush (-75), 2) := by decide +kernel
theorem dL_hasFault_17 : decode cL_hasFault 17 = .ok (.ireturn, 1) := by decide +kernel
set_option maxRecDepth 20000 in
theorem ggL_islandOf_X5_islandOf : GoodIn wsL_islandOf wsX5_islandOf := goodIn_ca (goodIn_ca (goodIn_r _ [6, 7, 8, 9, 5, 10, 11, 12, 13, 14, 15, 16, 17, 18, 19, 20, 21, 22, 23, 24, 25, 26, 27, 28, 29, 30, 31, 32, 33, 34, 35, 36, 37, 38, 39, 40, 41, 42, 43, 44, 45, 46, 47, 48, 49, 50, 51, 52, 53, 54, 55, 56, 57, 58, 59, 60, 61, 62, 63, 64, 65, 66, 67, 68, 69, 70] (by decide +kernel) (by decide +kernel)) (goodIn_sub (fun _ h => List.mem_cons_of_mem _ (List.mem_append_left _ (List.mem_append_right _ h))) (by decide +kernel))) (goodIn_sub (fun _ h => List.mem_cons_of_mem _ (List.mem_append_right _ h)) (by decide +kernel))
set_option maxRecDepth 20000 in
theorem gL_islandOf_X5_islandOf : GoodIn wsL_islandOf (wsV RL 84 RX5 yX5_islandOf wsX5_islandOf) := goodIn_app (goodIn_of _ (by decide +kernel)) ggL_islandOf_X5_islandOf
theorem dL_islandOf_0 : decode cL_islandOf 0 = .ok (.aload_n 0, 1) := by decide +kernel
theorem dL_islandOf_1 : decode cL_islandOf 1 = .ok (.iload_n 1, 1) := by decide +kernel
theorem dL_islandOf_2 : decode cL_islandOf 2 = .ok (.invokevirtual 84, 3) := by decide +kernel
theorem dL_islandOf_5 : decode cL_islandOf 5 = .ok (.ireturn, 1) := by decide +kernel
theorem dL_islandOf_6 : decode cL_islandOf 6 = .ok (.astore_n 2, 1) := by decide +kernel
theorem dL_islandOf_7 : decode cL_islandOf 7 = .ok (.bipush (-75), 2) := by decide +kernel
theorem dL_islandOf_9 : decode cL_islandOf 9 = .ok (.ireturn, 1) := by decide +kernel
set_option maxRecDepth 20000 in
theorem ggL_islandByRounds_X5_islandByRounds : GoodIn wsL_islandByRounds wsX5_islandByRounds := goodIn_ca (goodIn_ca (goodIn_r _ [6, 7, 8, 9, 10, 11, 5, 12, 13, 14, 15, 16, 17, 18, 19, 20, 21, 22, 23, 24, 25, 26, 27, 28, 29, 30, 31, 32, 33, 34, 35, 36, 37, 38, 39, 40, 41, 42, 43, 44, 45, 46, 47, 48, 49, 50, 51, 52, 53, 54, 55, 56, 57, 58] (by decide +kernel) (by decide +kernel)) (goodIn_sub (fun _ h => List.mem_cons_of_mem _ (List.mem_append_left _ (List.mem_append_right _ h))) (by decide +kernel))) (goodIn_sub (fun _ h => List.mem_cons_of_mem _ (List.mem_append_right _ h)) (by decide +kernel))
set_option maxRecDepth 20000 in
theorem gL_islandByRounds_X5_islandByRounds : GoodIn wsL_islandByRounds (wsV RL 87 RX5 yX5_islandByRounds wsX5_islandByRounds) := goodIn_app (goodIn_of _ (by decide +kernel)) ggL_islandByRounds_X5_islandByRounds
theorem dL_islandByRounds_0 : decode cL_islandByRounds 0 = .ok (.aload_n 0, 1) := by decide +kernel
theorem dL_islandByRounds_1 : decode cL_islandByRounds 1 = .ok (.iload_n 1, 1) := by decide +kernel
theorem dL_islandByRounds_2 : decode cL_islandByRounds 2 = .ok (.invokevirtual 87, 3) := by decide +kernel
theorem dL_islandByRounds_5 : decode cL_islandByRounds 5 = .ok (.ireturn, 1) := by decide +kernel
theorem dL_islandByRounds_6 : decode cL_islandByRounds 6 = .ok (.astore_n 2, 1) := by decide +kernel
theorem dL_islandByRounds_7 : decode cL_islandByRounds 7 = .ok (.bipush (-75), 2) := by decide +kernel
theorem dL_islandByRounds_9 : decode cL_islandByRounds 9 = .ok (.ireturn, 1) := by decide +kernel
set_option maxRecDepth 20000 in
theorem ggL_isLive_X5_isLive : GoodIn wsL_isLive wsX5_isLive := goodIn_ca (goodIn_ca (goodIn_r _ [6, 7, 8, 9, 10, 5, 11, 12, 13, 14, 15, 16, 17, 18, 19, 20, 21, 22, 23, 24, 25, 26, 27, 28, 29, 30, 31, 32, 33, 34, 35, 36, 37, 38, 39, 40, 41, 42, 43, 44, 45, 46, 47, 48, 49, 50, 51, 52, 53, 54, 55, 56, 57, 58, 59, 60, 61, 62, 63, 64, 65, 66, 67, 68, 69, 70, 71, 72, 73, 74] (by decide +kernel) (by decide +kernel)) (goodIn_sub (fun _ h => List.mem_cons_of_mem _ (List.mem_append_left _ (List.mem_append_right _ h))) (by decide +kernel))) (goodIn_sub (fun _ h => List.mem_cons_of_mem _ (List.mem_append_right _ h)) (by decide +kernel))
set_option maxRecDepth 20000 in
theorem gL_isLive_X5_isLive : GoodIn wsL_isLive (wsV RL 90 RX5 yX5_isLive wsX5_isLive) := goodIn_app (goodIn_of _ (by decide +kernel)) ggL_isLive_X5_isLive
theorem dL_isLive_0 : decode cL_isLive 0 = .ok (.aload_n 0, 1) := by decide +kernel
theorem dL_isLive_1 : decode cL_isLive 1 = .ok (.iload_n 1, 1) := by decide +kernel
theorem dL_isLive_2 : decode cL_isLive 2 = .ok (.invokevirtual 90, 3) := by decide +kernel
theorem dL_isLive_5 : decode cL_isLive 5 = .ok (.ifCond .eq 7, 3) := by decide +kernel
theorem dL_isLive_8 : decode cL_isLive 8 = .ok (.iconst 1, 1) := by decide +kernel
theorem dL_isLive_9 : decode cL_isLive 9 = .ok (.goto 4, 3) := by decide +kernel
theorem dL_isLive_12 : decode cL_isLive 12 = .ok (.iconst 0, 1) := by decide +kernel
theorem dL_isLive_13 : decode cL_isLive 13 = .ok (.ireturn, 1) := by decide +kernel
theorem dL_isLive_14 : decode cL_isLive 14 = .ok (.astore_n 2, 1) := by decide +kernel
theorem dL_isLive_15 : decode cL_isLive 15 = .ok (.bipush (-75), 2) := by decide +kernel
theorem dL_isLive_17 : decode cL_isLive 17 = .ok (.ireturn, 1) := by decide +kernel
set_option maxRecDepth 20000 in
theorem ggL_sourceOf_X5_sourceOf : GoodIn wsL_sourceOf wsX5_sourceOf := goodIn_ca (goodIn_ca (goodIn_ca (goodIn_r _ [7, 8, 9, 10, 11, 12, 13, 6, 14, 15, 16, 17, 18, 19, 20, 21, 22, 23, 24, 25, 26, 27, 28, 29, 30, 31, 32, 33, 34, 35, 36, 37, 38, 39, 40, 41, 42, 43, 44, 45, 46, 47, 48, 49, 50, 51, 52, 53, 54, 55, 56, 57, 58, 59, 60, 61, 62, 63, 64, 65, 66, 67, 68, 69, 70, 71, 72, 73, 74, 75, 76, 77] (by decide +kernel) (by decide +kernel)) (goodIn_sub (fun _ h => List.mem_cons_of_mem _ (List.mem_append_left _ (List.mem_append_left _ (List.mem_append_right _ h)))) (by decide +kernel))) (goodIn_sub (fun _ h => List.mem_cons_of_mem _ (List.mem_append_left _ (List.mem_append_right _ h))) (by decide +kernel))) (goodIn_sub (fun _ h => List.mem_cons_of_mem _ (List.mem_append_right _ h)) (by decide +kernel))
set_option maxRecDepth 20000 in
theorem gL_sourceOf_X5_sourceOf : GoodIn wsL_sourceOf (wsV RL 93 RX5 yX5_sourceOf wsX5_sourceOf) := goodIn_app (goodIn_of _ (by decide +kernel)) ggL_sourceOf_X5_sourceOf
theorem dL_sourceOf_0 : decode cL_sourceOf 0 = .ok (.aload_n 0, 1) := by decide +kernel
theorem dL_sourceOf_1 : decode cL_sourceOf 1 = .ok (.iload_n 1, 1) := by decide +kernel
theorem dL_sourceOf_2 : decode cL_sourceOf 2 = .ok (.invokevirtual 93, 3) := by decide +kernel
theorem dL_sourceOf_5 : decode cL_sourceOf 5 = .ok (.ireturn, 1) := by decide +kernel
theorem dL_sourceOf_6 : decode cL_sourceOf 6 = .ok (.astore_n 2, 1) := by decide +kernel
theorem dL_sourceOf_7 : decode cL_sourceOf 7 = .ok (.bipush (-75), 2) := by decide +kernel
theorem dL_sourceOf_9 : decode cL_sourceOf 9 = .ok (.ireturn, 1) := by decide +kernel
theorem dL_sourceOf_10 : decode cL_sourceOf 10 = .ok (.astore_n 2, 1) := by decide +kernel
theorem dL_sourceOf_11 : decode cL_sourceOf 11 = .ok (.bipush (-79), 2) := by decide +kernel
theorem dL_sourceOf_13 : decode cL_sourceOf 13 = .ok (.ireturn, 1) := by decide +kernel
set_option maxRecDepth 20000 in
theorem ggL_islandLoad_X5_islandLoad : GoodIn wsL_islandLoad wsX5_islandLoad := goodIn_ca (goodIn_ca (goodIn_r _ [6, 7, 8, 9, 10, 5, 11, 12, 13, 14, 15, 16, 17, 18, 19, 20, 21, 22, 23, 24, 25, 26, 27, 28, 29, 30, 31, 32, 33, 34, 35, 36, 37, 38, 39, 40, 41, 42, 43, 44, 45, 46, 47, 48, 49, 50, 51, 52, 53, 54, 55, 56, 57, 58, 59, 60, 61, 62, 63, 64, 65, 66, 67, 68, 69, 70, 71, 72, 73, 74] (by decide +kernel) (by decide +kernel)) (goodIn_sub (fun _ h => List.mem_cons_of_mem _ (List.mem_append_left _ (List.mem_append_right _ h))) (by decide +kernel))) (goodIn_sub (fun _ h => List.mem_cons_of_mem _ (List.mem_append_right _ h)) (by decide +kernel))
set_option maxRecDepth 20000 in
theorem gL_islandLoad_X5_islandLoad : GoodIn wsL_islandLoad (wsV RL 96 RX5 yX5_islandLoad wsX5_islandLoad) := goodIn_app (goodIn_of _ (by decide +kernel)) ggL_islandLoad_X5_islandLoad
theorem dL_islandLoad_0 : decode cL_islandLoad 0 = .ok (.aload_n 0, 1) := by decide +kernel
theorem dL_islandLoad_1 : decode cL_islandLoad 1 = .ok (.iload_n 1, 1) := by decide +kernel
theorem dL_islandLoad_2 : decode cL_islandLoad 2 = .ok (.invokevirtual 96, 3) := by decide +kernel
theorem dL_islandLoad_5 : decode cL_islandLoad 5 = .ok (.ireturn, 1) := by decide +kernel
theorem dL_islandLoad_6 : decode cL_islandLoad 6 = .ok (.astore_n 2, 1) := by decide +kernel
theorem dL_islandLoad_7 : decode cL_islandLoad 7 = .ok (.bipush (-75), 2) := by decide +kernel
theorem dL_islandLoad_9 : decode cL_islandLoad 9 = .ok (.ireturn, 1) := by decide +kernel
set_option maxRecDepth 20000 in
theorem ggL_current_X5_current : GoodIn wsL_current wsX5_current := goodIn_ca (goodIn_ca (goodIn_r _ [6, 7, 8, 9, 10, 11, 5, 12, 13, 14, 15, 16, 17, 18, 19, 20, 21, 22, 23, 24, 25, 26, 27, 28, 29, 30, 31, 32, 33, 34, 35, 36, 37, 38, 39, 40, 41, 42, 43, 44, 45, 46, 47, 48, 49, 50, 51, 52, 53, 54, 55, 56, 57, 58, 59, 60, 61, 62, 63, 64, 65, 66, 67, 68, 69, 70, 71, 72, 73, 74, 75] (by decide +kernel) (by decide +kernel)) (goodIn_sub (fun _ h => List.mem_cons_of_mem _ (List.mem_append_left _ (List.mem_append_right _ h))) (by decide +kernel))) (goodIn_sub (fun _ h => List.mem_cons_of_mem _ (List.mem_append_right _ h)) (by decide +kernel))
set_option maxRecDepth 20000 in
theorem gL_current_X5_current : GoodIn wsL_current (wsV RL 99 RX5 yX5_current wsX5_current) := goodIn_app (goodIn_of _ (by decide +kernel)) ggL_current_X5_current
theorem dL_current_0 : decode cL_current 0 = .ok (.aload_n 0, 1) := by decide +kernel
theorem dL_current_1 : decode cL_current 1 = .ok (.iload_n 1, 1) := by decide +kernel
theorem dL_current_2 : decode cL_current 2 = .ok (.invokevirtual 99, 3) := by decide +kernel
theorem dL_current_5 : decode cL_current 5 = .ok (.ireturn, 1) := by decide +kernel
theorem dL_current_6 : decode cL_current 6 = .ok (.astore_n 2, 1) := by decide +kernel
theorem dL_current_7 : decode cL_current 7 = .ok (.bipush (-75), 2) := by decide +kernel
theorem dL_current_9 : decode cL_current 9 = .ok (.ireturn, 1) := by decide +kernel
set_option maxRecDepth 20000 in
theorem ggL_currentByCutting_X5_currentByCutting : GoodIn wsL_currentByCutting wsX5_currentByCutting := goodIn_ca (goodIn_ca (goodIn_r _ [6, 7, 8, 9, 10, 11, 5, 12, 13, 14, 15, 16, 17, 18, 19, 20, 21, 22, 23, 24, 25, 26, 27, 28, 29, 30, 31, 32, 33, 34, 35, 36, 37, 38, 39, 40, 41, 42, 43, 44, 45, 46, 47, 48, 49, 50, 51, 52, 53, 54, 55, 56, 57, 58, 59, 60, 61, 62, 63, 64, 65, 66, 67, 68, 69, 70, 71, 72, 73, 74, 75, 76, 77, 78, 79, 80, 81, 82, 83, 84, 85, 86, 87, 88] (by decide +kernel) (by decide +kernel)) (goodIn_sub (fun _ h => List.mem_cons_of_mem _ (List.mem_append_left _ (List.mem_append_right _ h))) (by decide +kernel))) (goodIn_sub (fun _ h => List.mem_cons_of_mem _ (List.mem_append_right _ h)) (by decide +kernel))
set_option maxRecDepth 20000 in
theorem gL_currentByCutting_X5_currentByCutting : GoodIn wsL_currentByCutting (wsV RL 102 RX5 yX5_currentByCutting wsX5_currentByCutting) := goodIn_app (goodIn_of _ (by decide +kernel)) ggL_currentByCutting_X5_currentByCutting
theorem dL_currentByCutting_0 : decode cL_currentByCutting 0 = .ok (.aload_n 0, 1) := by decide +kernel
theorem dL_currentByCutting_1 : decode cL_currentByCutting 1 = .ok (.iload_n 1, 1) := by decide +kernel
theorem dL_currentByCutting_2 : decode cL_currentByCutting 2 = .ok (.invokevirtual 102, 3) := by decide +kernel
theorem dL_currentByCutting_5 : decode cL_currentByCutting 5 = .ok (.ireturn, 1) := by decide +kernel
theorem dL_currentByCutting_6 : decode cL_currentByCutting 6 = .ok (.astore_n 2, 1) := by decide +kernel
theorem dL_currentByCutting_7 : decode cL_currentByCutting 7 = .ok (.bipush (-75), 2) := by decide +kernel
theorem dL_currentByCutting_9 : decode cL_currentByCutting 9 = .ok (.ireturn, 1) := by decide +kernel
set_option maxRecDepth 20000 in
theorem ggL_distance_X5_distance : GoodIn wsL_distance wsX5_distance := goodIn_ca (goodIn_ca (goodIn_ca (goodIn_r _ [7, 8, 9, 10, 6, 11, 12, 13, 14, 15, 16, 17, 18, 19, 20, 21, 22, 23, 24, 25, 26, 27, 28, 29, 30, 31, 32, 33, 34, 35, 36, 37, 38, 39, 40, 41, 42, 43, 44, 45, 46, 47, 48, 49, 50, 51, 52, 53, 54, 55, 56, 57, 58, 59, 60, 61, 62, 63, 64, 65, 66, 67, 68, 69, 70, 71] (by decide +kernel) (by decide +kernel)) (goodIn_sub (fun _ h => List.mem_cons_of_mem _ (List.mem_append_left _ (List.mem_append_left _ (List.mem_append_right _ h)))) (by decide +kernel))) (goodIn_sub (fun _ h => List.mem_cons_of_mem _ (List.mem_append_left _ (List.mem_append_right _ h))) (by decide +kernel))) (goodIn_sub (fun _ h => List.mem_cons_of_mem _ (List.mem_append_right _ h)) (by decide +kernel))
set_option maxRecDepth 20000 in
theorem gL_distance_X5_distance : GoodIn wsL_distance (wsV RL 105 RX5 yX5_distance wsX5_distance) := goodIn_app (goodIn_of _ (by decide +kernel)) ggL_distance_X5_distance
theorem dL_distance_0 : decode cL_distance 0 = .ok (.aload_n 0, 1) := by decide +kernel
theorem dL_distance_1 : decode cL_distance 1 = .ok (.iload_n 1, 1) := by decide +kernel
theorem dL_distance_2 : decode cL_distance 2 = .ok (.invokevirtual 105, 3) := by decide +kernel
theorem dL_distance_5 : decode cL_distance 5 = .ok (.ireturn, 1) := by decide +kernel
theorem dL_distance_6 : decode cL_distance 6 = .ok (.astore_n 2, 1) := by decide +kernel
theorem dL_distance_7 : decode cL_distance 7 = .ok (.bipush (-75), 2) := by decide +kernel
theorem dL_distance_9 : decode cL_distance 9 = .ok (.ireturn, 1) := by decide +kernel
theorem dL_distance_10 : decode cL_distance 10 = .ok (.astore_n 2, 1) := by decide +kernel
theorem dL_distance_11 : decode cL_distance 11 = .ok (.bipush (-79), 2) := by decide +kernel
theorem dL_distance_13 : decode cL_distance 13 = .ok (.ireturn, 1) := by decide +kernel
set_option maxRecDepth 20000 in
theorem ggL_pathAt_X5_pathAt : GoodIn wsL_pathAt wsX5_pathAt := goodIn_ca (goodIn_ca (goodIn_ca (goodIn_ca (goodIn_r _ [8, 9, 10, 11, 12, 13, 14, 7, 15, 16, 17, 18, 19, 20, 21, 22, 23, 24, 25, 26, 27, 28, 29, 30, 31, 32, 33, 34, 35, 36, 37, 38, 39, 40, 41, 42, 43, 44, 45, 46, 47, 48, 49, 50, 51, 52, 53, 54, 55, 56, 57, 58, 59, 60, 61, 62, 63, 64, 65, 66, 67, 68, 69, 70, 71, 72, 73, 74, 75, 76, 77, 78] (by decide +kernel) (by decide +kernel)) (goodIn_sub (fun _ h => List.mem_cons_of_mem _ (List.mem_append_left _ (List.mem_append_left _ (List.mem_append_left _ (List.mem_append_right _ h))))) (by decide +kernel))) (goodIn_sub (fun _ h => List.mem_cons_of_mem _ (List.mem_append_left _ (List.mem_append_left _ (List.mem_append_right _ h)))) (by decide +kernel))) (goodIn_sub (fun _ h => List.mem_cons_of_mem _ (List.mem_append_left _ (List.mem_append_right _ h))) (by decide +kernel))) (goodIn_sub (fun _ h => List.mem_cons_of_mem _ (List.mem_append_right _ h)) (by decide +kernel))
set_option maxRecDepth 20000 in
theorem gL_pathAt_X5_pathAt : GoodIn wsL_pathAt (wsV RL 108 RX5 yX5_pathAt wsX5_pathAt) := goodIn_app (goodIn_of _ (by decide +kernel)) ggL_pathAt_X5_pathAt
theorem dL_pathAt_0 : decode cL_pathAt 0 = .ok (.aload_n 0, 1) := by decide +kernel
theorem dL_pathAt_1 : decode cL_pathAt 1 = .ok (.iload_n 1, 1) := by decide +kernel
theorem dL_pathAt_2 : decode cL_pathAt 2 = .ok (.iload_n 2, 1) := by decide +kernel
theorem dL_pathAt_3 : decode cL_pathAt 3 = .ok (.invokevirtual 108, 3) := by decide +kernel
theorem dL_pathAt_6 : decode cL_pathAt 6 = .ok (.ireturn, 1) := by decide +kernel
theorem dL_pathAt_7 : decode cL_pathAt 7 = .ok (.astore_n 3, 1) := by decide +kernel
theorem dL_pathAt_8 : decode cL_pathAt 8 = .ok (.bipush (-75), 2) := by decide +kernel
theorem dL_pathAt_10 : decode cL_pathAt 10 = .ok (.ireturn, 1) := by decide +kernel
theorem dL_pathAt_11 : decode cL_pathAt 11 = .ok (.astore_n 3, 1) := by decide +kernel
theorem dL_pathAt_12 : decode cL_pathAt 12 = .ok (.bipush (-79), 2) := by decide +kernel
theorem dL_pathAt_14 : decode cL_pathAt 14 = .ok (.ireturn, 1) := by decide +kernel
theorem dL_pathAt_15 : decode cL_pathAt 15 = .ok (.astore_n 3, 1) := by decide +kernel
theorem dL_pathAt_16 : decode cL_pathAt 16 = .ok (.bipush (-77), 2) := by decide +kernel
theorem dL_pathAt_18 : decode cL_pathAt 18 = .ok (.ireturn, 1) := by decide +kernel
set_option maxRecDepth 20000 in
theorem ggL_faultCurrent_X5_faultCurrent : GoodIn wsL_faultCurrent wsX5_faultCurrent := goodIn_ca (goodIn_ca (goodIn_ca (goodIn_ca (goodIn_r _ [7, 8, 9, 10, 11, 12, 6, 13, 14, 15, 16, 17, 18, 19, 20, 21, 22, 23, 24, 25, 26, 27, 28, 29, 30, 31, 32, 33, 34, 35, 36, 37, 38, 39, 40, 41, 42, 43, 44, 45, 46, 47, 48, 49, 50, 51, 52, 53, 54, 55, 56, 57, 58, 59, 60, 61, 62, 63, 64, 65, 66, 67, 68, 69, 70, 71, 72, 73, 74, 75, 76, 77, 78, 79, 80, 81, 82, 83, 84, 85, 86, 87, 88, 89, 90, 91, 92, 93, 94, 95, 96, 97, 98, 99, 100, 101, 102, 103, 104, 105, 106, 107, 108, 109, 110, 111, 112, 113, 114, 115, 116, 117, 118, 119, 120, 121, 122, 123] (by decide +kernel) (by decide +kernel)) (goodIn_sub (fun _ h => List.mem_cons_of_mem _ (List.mem_append_left _ (List.mem_append_left _ (List.mem_append_left _ (List.mem_append_right _ h))))) (by decide +kernel))) (goodIn_sub (fun _ h => List.mem_cons_of_mem _ (List.mem_append_left _ (List.mem_append_left _ (List.mem_append_right _ h)))) (by decide +kernel))) (goodIn_sub (fun _ h => List.mem_cons_of_mem _ (List.mem_append_left _ (List.mem_append_right _ h))) (by decide +kernel))) (goodIn_sub (fun _ h => List.mem_cons_of_mem _ (List.mem_append_right _ h)) (by decide +kernel))
set_option maxRecDepth 20000 in
theorem gL_faultCurrent_X5_faultCurrent : GoodIn wsL_faultCurrent (wsV RL 113 RX5 yX5_faultCurrent wsX5_faultCurrent) := goodIn_app (goodIn_of _ (by decide +kernel)) ggL_faultCurrent_X5_faultCurrent
theorem dL_faultCurrent_0 : decode cL_faultCurrent 0 = .ok (.aload_n 0, 1) := by decide +kernel
theorem dL_faultCurrent_1 : decode cL_faultCurrent 1 = .ok (.iload_n 1, 1) := by decide +kernel
theorem dL_faultCurrent_2 : decode cL_faultCurrent 2 = .ok (.invokevirtual 113, 3) := by decide +kernel
theorem dL_faultCurrent_5 : decode cL_faultCurrent 5 = .ok (.ireturn, 1) := by decide +kernel
theorem dL_faultCurrent_6 : decode cL_faultCurrent 6 = .ok (.astore_n 2, 1) := by decide +kernel
theorem dL_faultCurrent_7 : decode cL_faultCurrent 7 = .ok (.bipush (-75), 2) := by decide +kernel
theorem dL_faultCurrent_9 : decode cL_faultCurrent 9 = .ok (.ireturn, 1) := by decide +kernel
theorem dL_faultCurrent_10 : decode cL_faultCurrent 10 = .ok (.astore_n 2, 1) := by decide +kernel
theorem dL_faultCurrent_11 : decode cL_faultCurrent 11 = .ok (.bipush (-79), 2) := by decide +kernel
theorem dL_faultCurrent_13 : decode cL_faultCurrent 13 = .ok (.ireturn, 1) := by decide +kernel
set_option maxRecDepth 20000 in
theorem ggL_tripTime_X5_tripTime : GoodIn wsL_tripTime wsX5_tripTime := goodIn_ca (goodIn_ca (goodIn_ca (goodIn_ca (goodIn_ca (goodIn_r _ [8, 9, 10, 11, 12, 13, 14, 15, 7, 16, 17, 18, 19, 20, 21, 22, 23, 24, 25, 26, 27, 28, 29, 30, 31, 32, 33, 34, 35, 36, 37, 38, 39, 40, 41, 42, 43, 44, 45, 46, 47, 48, 49, 50, 51, 52, 53, 54, 55, 56, 57, 58, 59, 60, 61, 62, 63, 64, 65] (by decide +kernel) (by decide +kernel)) (goodIn_sub (fun _ h => List.mem_cons_of_mem _ (List.mem_append_left _ (List.mem_append_left _ (List.mem_append_left _ (List.mem_append_left _ (List.mem_append_right _ h)))))) (by decide +kernel))) (goodIn_sub (fun _ h => List.mem_cons_of_mem _ (List.mem_append_left _ (List.mem_append_left _ (List.mem_append_left _ (List.mem_append_right _ h))))) (by decide +kernel))) (goodIn_sub (fun _ h => List.mem_cons_of_mem _ (List.mem_append_left _ (List.mem_append_left _ (List.mem_append_right _ h)))) (by decide +kernel))) (goodIn_sub (fun _ h => List.mem_cons_of_mem _ (List.mem_append_left _ (List.mem_append_right _ h))) (by decide +kernel))) (goodIn_sub (fun _ h => List.mem_cons_of_mem _ (List.mem_append_right _ h)) (by decide +kernel))
set_option maxRecDepth 20000 in
theorem gL_tripTime_X5_tripTime : GoodIn wsL_tripTime (wsV RL 116 RX5 yX5_tripTime wsX5_tripTime) := goodIn_app (goodIn_of _ (by decide +kernel)) ggL_tripTime_X5_tripTime
theorem dL_tripTime_0 : decode cL_tripTime 0 = .ok (.aload_n 0, 1) := by decide +kernel
theorem dL_tripTime_1 : decode cL_tripTime 1 = .ok (.iload_n 1, 1) := by decide +kernel
theorem dL_tripTime_2 : decode cL_tripTime 2 = .ok (.iload_n 2, 1) := by decide +kernel
theorem dL_tripTime_3 : decode cL_tripTime 3 = .ok (.invokevirtual 116, 3) := by decide +kernel
theorem dL_tripTime_6 : decode cL_tripTime 6 = .ok (.ireturn, 1) := by decide +kernel
theorem dL_tripTime_7 : decode cL_tripTime 7 = .ok (.astore_n 3, 1) := by decide +kernel
theorem dL_tripTime_8 : decode cL_tripTime 8 = .ok (.bipush (-75), 2) := by decide +kernel
theorem dL_tripTime_10 : decode cL_tripTime 10 = .ok (.ireturn, 1) := by decide +kernel
theorem dL_tripTime_11 : decode cL_tripTime 11 = .ok (.astore_n 3, 1) := by decide +kernel
theorem dL_tripTime_12 : decode cL_tripTime 12 = .ok (.bipush (-78), 2) := by decide +kernel
theorem dL_tripTime_14 : decode cL_tripTime 14 = .ok (.ireturn, 1) := by decide +kernel
theorem dL_tripTime_15 : decode cL_tripTime 15 = .ok (.astore_n 3, 1) := by decide +kernel
theorem dL_tripTime_16 : decode cL_tripTime 16 = .ok (.bipush (-76), 2) := by decide +kernel
theorem dL_tripTime_18 : decode cL_tripTime 18 = .ok (.ireturn, 1) := by decide +kernel
set_option maxRecDepth 20000 in
theorem ggL_wouldTrip_X5_wouldTrip : GoodIn wsL_wouldTrip wsX5_wouldTrip := goodIn_ca (goodIn_ca (goodIn_ca (goodIn_r _ [6, 7, 8, 9, 10, 11, 5, 12, 13, 14, 15, 16, 17, 18, 19, 20, 21, 22, 23, 24, 25, 26, 27, 28, 29, 30, 31, 32, 33, 34, 35, 36, 37, 38, 39, 40, 41, 42, 43, 44, 45, 46, 47, 48, 49, 50, 51, 52, 53, 54, 55, 56, 57, 58, 59, 60, 61, 62, 63, 64, 65, 66, 67, 68, 69, 70, 71, 72, 73, 74, 75, 76, 77, 78, 79, 80, 81, 82, 83, 84, 85, 86, 87, 88, 89, 90, 91, 92, 93, 94, 95, 96, 97, 98, 99, 100, 101, 102, 103, 104, 105, 106, 107, 108, 109, 110, 111, 112, 113, 114, 115, 116, 117, 118, 119, 120, 121, 122, 123, 124, 125, 126, 127, 128, 129, 130, 131, 132, 133, 134, 135, 136] (by decide +kernel) (by decide +kernel)) (goodIn_sub (fun _ h => List.mem_cons_of_mem _ (List.mem_append_left _ (List.mem_append_left _ (List.mem_append_right _ h)))) (by decide +kernel))) (goodIn_sub (fun _ h => List.mem_cons_of_mem _ (List.mem_append_left _ (List.mem_append_right _ h))) (by decide +kernel))) (goodIn_sub (fun _ h => List.mem_cons_of_mem _ (List.mem_append_right _ h)) (by decide +kernel))
set_option maxRecDepth 20000 in
theorem gL_wouldTrip_X5_wouldTrip : GoodIn wsL_wouldTrip (wsV RL 119 RX5 yX5_wouldTrip wsX5_wouldTrip) := goodIn_app (goodIn_of _ (by decide +kernel)) ggL_wouldTrip_X5_wouldTrip
theorem dL_wouldTrip_0 : decode cL_wouldTrip 0 = .ok (.aload_n 0, 1) := by decide +kernel
theorem dL_wouldTrip_1 : decode cL_wouldTrip 1 = .ok (.iload_n 1, 1) := by decide +kernel
theorem dL_wouldTrip_2 : decode cL_wouldTrip 2 = .ok (.invokevirtual 119, 3) := by decide +kernel
theorem dL_wouldTrip_5 : decode cL_wouldTrip 5 = .ok (.ireturn, 1) := by decide +kernel
theorem dL_wouldTrip_6 : decode cL_wouldTrip 6 = .ok (.astore_n 2, 1) := by decide +kernel
theorem dL_wouldTrip_7 : decode cL_wouldTrip 7 = .ok (.bipush (-75), 2) := by decide +kernel
theorem dL_wouldTrip_9 : decode cL_wouldTrip 9 = .ok (.ireturn, 1) := by decide +kernel
set_option maxRecDepth 20000 in
theorem ggL_isSelective_X5_isSelective : GoodIn wsL_isSelective wsX5_isSelective := goodIn_ca (goodIn_ca (goodIn_ca (goodIn_r _ [6, 7, 8, 9, 10, 11, 5, 12, 13, 14, 15, 16, 17, 18, 19, 20, 21, 22, 23, 24, 25, 26, 27, 28, 29, 30, 31, 32, 33, 34, 35, 36, 37, 38, 39, 40, 41, 42, 43, 44, 45, 46, 47, 48, 49, 50, 51, 52, 53, 54, 55, 56, 57, 58, 59, 60, 61, 62, 63, 64, 65, 66, 67, 68, 69, 70, 71, 72, 73, 74, 75, 76, 77, 78, 79, 80, 81, 82, 83, 84, 85, 86, 87, 88, 89, 90, 91, 92, 93, 94, 95, 96, 97, 98, 99, 100, 101, 102, 103, 104, 105, 106, 107, 108, 109, 110, 111, 112, 113, 114, 115, 116, 117, 118, 119, 120, 121, 122, 123, 124, 125, 126, 127, 128, 129, 130, 131, 132, 133, 134, 135, 136] (by decide +kernel) (by decide +kernel)) (goodIn_sub (fun _ h => List.mem_cons_of_mem _ (List.mem_append_left _ (List.mem_append_left _ (List.mem_append_right _ h)))) (by decide +kernel))) (goodIn_sub (fun _ h => List.mem_cons_of_mem _ (List.mem_append_left _ (List.mem_append_right _ h))) (by decide +kernel))) (goodIn_sub (fun _ h => List.mem_cons_of_mem _ (List.mem_append_right _ h)) (by decide +kernel))
set_option maxRecDepth 20000 in
theorem gL_isSelective_X5_isSelective : GoodIn wsL_isSelective (wsV RL 122 RX5 yX5_isSelective wsX5_isSelective) := goodIn_app (goodIn_of _ (by decide +kernel)) ggL_isSelective_X5_isSelective
theorem dL_isSelective_0 : decode cL_isSelective 0 = .ok (.aload_n 0, 1) := by decide +kernel
theorem dL_isSelective_1 : decode cL_isSelective 1 = .ok (.iload_n 1, 1) := by decide +kernel
theorem dL_isSelective_2 : decode cL_isSelective 2 = .ok (.invokevirtual 122, 3) := by decide +kernel
theorem dL_isSelective_5 : decode cL_isSelective 5 = .ok (.ifCond .eq 7, 3) := by decide +kernel
theorem dL_isSelective_8 : decode cL_isSelective 8 = .ok (.iconst 1, 1) := by decide +kernel
theorem dL_isSelective_9 : decode cL_isSelective 9 = .ok (.goto 4, 3) := by decide +kernel
theorem dL_isSelective_12 : decode cL_isSelective 12 = .ok (.iconst 0, 1) := by decide +kernel
theorem dL_isSelective_13 : decode cL_isSelective 13 = .ok (.ireturn, 1) := by decide +kernel
theorem dL_isSelective_14 : decode cL_isSelective 14 = .ok (.astore_n 2, 1) := by decide +kernel
theorem dL_isSelective_15 : decode cL_isSelective 15 = .ok (.bipush (-75), 2) := by decide +kernel
theorem dL_isSelective_17 : decode cL_isSelective 17 = .ok (.ireturn, 1) := by decide +kernel
set_option maxRecDepth 20000 in
theorem ggL_margin_X5_margin : GoodIn wsL_margin wsX5_margin := goodIn_ca (goodIn_ca (goodIn_ca (goodIn_ca (goodIn_ca (goodIn_r _ [8, 9, 10, 11, 12, 13, 14, 15, 16, 17, 7, 18, 19, 20, 21, 22, 23, 24, 25, 26, 27, 28, 29, 30, 31, 32, 33, 34, 35, 36, 37, 38, 39, 40, 41, 42, 43, 44, 45, 46, 47, 48, 49, 50, 51, 52, 53, 54, 55, 56, 57, 58, 59, 60, 61, 62, 63, 64, 65, 66, 67, 68, 69, 70, 71, 72, 73, 74, 75, 76, 77, 78, 79, 80, 81, 82, 83, 84, 85, 86, 87, 88, 89, 90, 91, 92, 93, 94, 95, 96, 97, 98, 99, 100, 101, 102, 103, 104, 105, 106, 107, 108, 109, 110, 111, 112, 113, 114, 115, 116, 117, 118, 119, 120, 121, 122, 123, 124, 125, 126, 127, 128, 129, 130, 131, 132, 133, 134, 135, 136, 137, 138, 139, 140, 141, 142, 143, 144, 145, 146] (by decide +kernel) (by decide +kernel)) (goodIn_sub (fun _ h => List.mem_cons_of_mem _ (List.mem_append_left _ (List.mem_append_left _ (List.mem_append_left _ (List.mem_append_left _ (List.mem_append_right _ h)))))) (by decide +kernel))) (goodIn_sub (fun _ h => List.mem_cons_of_mem _ (List.mem_append_left _ (List.mem_append_left _ (List.mem_append_left _ (List.mem_append_right _ h))))) (by decide +kernel))) (goodIn_sub (fun _ h => List.mem_cons_of_mem _ (List.mem_append_left _ (List.mem_append_left _ (List.mem_append_right _ h)))) (by decide +kernel))) (goodIn_sub (fun _ h => List.mem_cons_of_mem _ (List.mem_append_left _ (List.mem_append_right _ h))) (by decide +kernel))) (goodIn_sub (fun _ h => List.mem_cons_of_mem _ (List.mem_append_right _ h)) (by decide +kernel))
set_option maxRecDepth 20000 in
theorem gL_margin_X5_margin : GoodIn wsL_margin (wsV RL 125 RX5 yX5_margin wsX5_margin) := goodIn_app (goodIn_of _ (by decide +kernel)) ggL_margin_X5_margin
theorem dL_margin_0 : decode cL_margin 0 = .ok (.aload_n 0, 1) := by decide +kernel
theorem dL_margin_1 : decode cL_margin 1 = .ok (.iload_n 1, 1) := by decide +kernel
theorem dL_margin_2 : decode cL_margin 2 = .ok (.invokevirtual 125, 3) := by decide +kernel
theorem dL_margin_5 : decode cL_margin 5 = .ok (.ireturn, 1) := by decide +kernel
theorem dL_margin_6 : decode cL_margin 6 = .ok (.astore_n 2, 1) := by decide +kernel
theorem dL_margin_7 : decode cL_margin 7 = .ok (.bipush (-75), 2) := by decide +kernel
theorem dL_margin_9 : decode cL_margin 9 = .ok (.ireturn, 1) := by decide +kernel
theorem dL_margin_10 : decode cL_margin 10 = .ok (.astore_n 2, 1) := by decide +kernel
theorem dL_margin_11 : decode cL_margin 11 = .ok (.bipush (-79), 2) := by decide +kernel
theorem dL_margin_13 : decode cL_margin 13 = .ok (.ireturn, 1) := by decide +kernel
theorem dL_margin_14 : decode cL_margin 14 = .ok (.astore_n 2, 1) := by decide +kernel
theorem dL_margin_15 : decode cL_margin 15 = .ok (.bipush (-76), 2) := by decide +kernel
theorem dL_margin_17 : decode cL_margin 17 = .ok (.ireturn, 1) := by decide +kernel
set_option maxRecDepth 20000 in
theorem ggL_bestAt_X5_bestAt : GoodIn wsL_bestAt wsX5_bestAt := goodIn_ca (goodIn_ca (goodIn_r _ [6, 7, 8, 9, 10, 11, 12, 13, 14, 15, 16, 17, 18, 19, 20, 21, 22, 23, 24, 25, 26, 27, 28, 29, 30, 31, 32, 33, 34, 35, 36, 37, 38, 39, 40, 41, 42, 43, 44, 5, 45, 46, 47, 48, 49, 50, 51, 52, 53, 54, 55, 56, 57, 58, 59, 60, 61, 62, 63, 64, 65, 66, 67, 68, 69, 70, 71, 72, 73, 74, 75, 76, 77, 78, 79, 80, 81, 82, 83, 84, 85, 86, 87, 88, 89, 90, 91, 92, 93, 94, 95, 96, 97, 98, 99, 100, 101, 102, 103, 104, 105, 106, 107, 108, 109, 110, 111, 112, 113, 114, 115, 116, 117, 118, 119, 120, 121, 122, 123, 124, 125, 126, 127, 128, 129, 130, 131, 132, 133, 134, 135, 136, 137, 138, 139, 140, 141, 142, 143, 144, 145, 146, 147, 148, 149, 150, 151, 152, 153, 154, 155, 156, 157, 158, 159, 160, 161, 162, 163, 164, 165, 166, 167, 168, 169, 170, 171, 172, 173, 174, 175, 176, 177, 178, 179, 180, 181, 182, 183, 184, 185, 186, 187, 188, 189] (by decide +kernel) (by decide +kernel)) (goodIn_sub (fun _ h => List.mem_cons_of_mem _ (List.mem_append_left _ (List.mem_append_right _ h))) (by decide +kernel))) (goodIn_sub (fun _ h => List.mem_cons_of_mem _ (List.mem_append_right _ h)) (by decide +kernel))
set_option maxRecDepth 20000 in
theorem gL_bestAt_X5_bestAt : GoodIn wsL_bestAt (wsV RL 128 RX5 yX5_bestAt wsX5_bestAt) := goodIn_app (goodIn_of _ (by decide +kernel)) ggL_bestAt_X5_bestAt
theorem dL_bestAt_0 : decode cL_bestAt 0 = .ok (.aload_n 0, 1) := by decide +kernel
theorem dL_bestAt_1 : decode cL_bestAt 1 = .ok (.iload_n 1, 1) := by decide +kernel
theorem dL_bestAt_2 : decode cL_bestAt 2 = .ok (.invokevirtual 128, 3) := by decide +kernel
theorem dL_bestAt_5 : decode cL_bestAt 5 = .ok (.ireturn, 1) := by decide +kernel
theorem dL_bestAt_6 : decode cL_bestAt 6 = .ok (.astore_n 2, 1) := by decide +kernel
theorem dL_bestAt_7 : decode cL_bestAt 7 = .ok (.bipush (-77), 2) := by decide +kernel
theorem dL_bestAt_9 : decode cL_bestAt 9 = .ok (.ireturn, 1) := by decide +kernel
set_option maxRecDepth 20000 in
theorem ggL_valueByTrying_X5_valueByTrying : GoodIn wsL_valueByTrying wsX5_valueByTrying := goodIn_ca (goodIn_ca (goodIn_r _ [6, 7, 8, 9, 10, 5, 11, 12, 13, 14, 15, 16, 17, 18, 19, 20, 21, 22, 23, 24, 25, 26, 27, 28, 29, 30, 31, 32, 33, 34, 35, 36, 37, 38, 39, 40, 41, 42, 43, 44, 45, 46, 47, 48, 49, 50, 51, 52, 53, 54, 55, 56, 57, 58, 59, 60, 61, 62, 63, 64, 65, 66, 67, 68, 69, 70, 71, 72, 73, 74, 75, 76, 77, 78, 79, 80, 81, 82, 83, 84, 85, 86, 87, 88, 89, 90, 91, 92, 93, 94, 95, 96, 97, 98, 99, 100, 101, 102, 103, 104, 105, 106, 107, 108, 109, 110, 111, 112, 113, 114, 115, 116, 117, 118, 119, 120, 121, 122, 123, 124, 125, 126, 127, 128, 129, 130, 131, 132, 133, 134, 135, 136, 137, 138, 139, 140, 141, 142, 143, 144, 145, 146, 147, 148, 149, 150, 151, 152, 153, 154, 155, 156, 157, 158, 159, 160, 161, 162, 163, 164, 165, 166, 167, 168, 169, 170, 171, 172, 173, 174, 175, 176, 177, 178, 179, 180, 181, 182, 183, 184, 185, 186, 187, 188, 189, 190, 191, 192, 193, 194, 195] (by decide +kernel) (by decide +kernel)) (goodIn_sub (fun _ h => List.mem_cons_of_mem _ (List.mem_append_left _ (List.mem_append_right _ h))) (by decide +kernel))) (goodIn_sub (fun _ h => List.mem_cons_of_mem _ (List.mem_append_right _ h)) (by decide +kernel))
set_option maxRecDepth 20000 in
theorem gL_valueByTrying_X5_valueByTrying : GoodIn wsL_valueByTrying (wsV RL 131 RX5 yX5_valueByTrying wsX5_valueByTrying) := goodIn_app (goodIn_of _ (by decide +kernel)) ggL_valueByTrying_X5_valueByTrying
theorem dL_valueByTrying_0 : decode cL_valueByTrying 0 = .ok (.aload_n 0, 1) := by decide +kernel
theorem dL_valueByTrying_1 : decode cL_valueByTrying 1 = .ok (.invokevirtual 131, 3) := by decide +kernel
theorem dL_valueByTrying_4 : decode cL_valueByTrying 4 = .ok (.ireturn, 1) := by decide +kernel
theorem dL_valueByTrying_5 : decode cL_valueByTrying 5 = .ok (.astore_n 1, 1) := by decide +kernel
theorem dL_valueByTrying_6 : decode cL_valueByTrying 6 = .ok (.bipush (-76), 2) := by decide +kernel
theorem dL_valueByTrying_8 : decode cL_valueByTrying 8 = .ok (.ireturn, 1) := by decide +kernel
set_option maxRecDepth 20000 in
theorem ggL_sizeByTrying_X5_sizeByTrying : GoodIn wsL_sizeByTrying wsX5_sizeByTrying := goodIn_ca (goodIn_ca (goodIn_r _ [6, 7, 8, 9, 10, 5, 11, 12, 13, 14, 15, 16, 17, 18, 19, 20, 21, 22, 23, 24, 25, 26, 27, 28, 29, 30, 31, 32, 33, 34, 35, 36, 37, 38, 39, 40, 41, 42, 43, 44, 45, 46, 47, 48, 49, 50, 51, 52, 53, 54, 55, 56, 57, 58, 59, 60, 61, 62, 63, 64, 65, 66, 67, 68, 69, 70, 71, 72, 73, 74, 75, 76, 77, 78, 79, 80, 81, 82, 83, 84, 85, 86, 87, 88, 89, 90, 91, 92, 93, 94, 95, 96, 97, 98, 99, 100, 101, 102, 103, 104, 105, 106, 107, 108, 109, 110, 111, 112, 113, 114, 115, 116, 117, 118, 119, 120, 121, 122, 123, 124, 125, 126, 127, 128, 129, 130, 131, 132, 133, 134, 135, 136, 137, 138, 139, 140, 141, 142, 143, 144, 145, 146, 147, 148, 149, 150, 151, 152, 153, 154, 155, 156, 157, 158, 159, 160, 161, 162, 163, 164, 165, 166, 167, 168, 169, 170, 171, 172, 173, 174, 175, 176, 177, 178, 179, 180, 181, 182, 183, 184, 185, 186, 187, 188, 189, 190, 191, 192, 193, 194, 195] (by decide +kernel) (by decide +kernel)) (goodIn_sub (fun _ h => List.mem_cons_of_mem _ (List.mem_append_left _ (List.mem_append_right _ h))) (by decide +kernel))) (goodIn_sub (fun _ h => List.mem_cons_of_mem _ (List.mem_append_right _ h)) (by decide +kernel))
set_option maxRecDepth 20000 in
theorem gL_sizeByTrying_X5_sizeByTrying : GoodIn wsL_sizeByTrying (wsV RL 135 RX5 yX5_sizeByTrying wsX5_sizeByTrying) := goodIn_app (goodIn_of _ (by decide +kernel)) ggL_sizeByTrying_X5_sizeByTrying
theorem dL_sizeByTrying_0 : decode cL_sizeByTrying 0 = .ok (.aload_n 0, 1) := by decide +kernel
theorem dL_sizeByTrying_1 : decode cL_sizeByTrying 1 = .ok (.invokevirtual 135, 3) := by decide +kernel
theorem dL_sizeByTrying_4 : decode cL_sizeByTrying 4 = .ok (.ireturn, 1) := by decide +kernel
theorem dL_sizeByTrying_5 : decode cL_sizeByTrying 5 = .ok (.astore_n 1, 1) := by decide +kernel
theorem dL_sizeByTrying_6 : decode cL_sizeByTrying 6 = .ok (.bipush (-76), 2) := by decide +kernel
theorem dL_sizeByTrying_8 : decode cL_sizeByTrying 8 = .ok (.ireturn, 1) := by decide +kernel
set_option maxRecDepth 20000 in
theorem ggL_liveShare_X5_liveShare : GoodIn wsL_liveShare wsX5_liveShare := goodIn_ca (goodIn_ca (goodIn_r _ [7, 8, 9, 10, 11, 12, 13, 14, 15, 16, 17, 6, 18, 19, 20, 21, 22, 23, 24, 25, 26, 27, 28, 29, 30, 31, 32, 33, 34, 35, 36, 37, 38, 39, 40, 41, 42, 43, 44, 45, 46, 47, 48, 49, 50, 51, 52, 53, 54, 55, 56, 57, 58, 59, 60, 61, 62, 63, 64, 65, 66, 67, 68, 69, 70, 71, 72, 73, 74, 75, 76] (by decide +kernel) (by decide +kernel)) (goodIn_sub (fun _ h => List.mem_cons_of_mem _ (List.mem_append_left _ (List.mem_append_right _ h))) (by decide +kernel))) (goodIn_sub (fun _ h => List.mem_cons_of_mem _ (List.mem_append_right _ h)) (by decide +kernel))
set_option maxRecDepth 20000 in
theorem gL_liveShare_X5_liveShare : GoodIn wsL_liveShare (wsV RL 138 RX5 yX5_liveShare wsX5_liveShare) := goodIn_app (goodIn_of _ (by decide +kernel)) ggL_liveShare_X5_liveShare
theorem dL_liveShare_0 : decode cL_liveShare 0 = .ok (.aload_n 0, 1) := by decide +kernel
theorem dL_liveShare_1 : decode cL_liveShare 1 = .ok (.invokevirtual 138, 3) := by decide +kernel
theorem dL_liveShare_4 : decode cL_liveShare 4 = .ok (.freturn, 1) := by decide +kernel
theorem dL_liveShare_5 : decode cL_liveShare 5 = .ok (.astore_n 1, 1) := by decide +kernel
theorem dL_liveShare_6 : decode cL_liveShare 6 = .ok (.ldc 144, 2) := by decide +kernel
theorem dL_liveShare_8 : decode cL_liveShare 8 = .ok (.freturn, 1) := by decide +kernel
set_option maxRecDepth 20000 in
theorem ggL_law_X5_init : GoodIn wsL_law wsX5_init := goodIn_r _ [6, 7, 8, 9, 10, 11, 12, 13, 14, 15, 16, 17, 18, 19, 20, 21, 22, 23, 24, 25, 26, 27, 28, 29, 30, 31, 32, 3, 33, 34, 35, 36, 37, 38, 39, 40, 41, 42, 43, 44, 45, 46, 47, 48, 49, 50, 51, 52, 53, 54, 55, 56, 57, 58, 59, 60, 61, 62, 63, 64, 65, 66, 697, 698, 699, 700, 701, 702, 703, 704, 705, 706, 691, 692, 693, 694, 695, 696, 707, 708, 709, 710, 711, 712, 713, 714, 715, 716, 717, 718, 719, 720, 721, 722, 723, 724] (by decide +kernel) (by decide +kernel)
set_option maxRecDepth 20000 in
theorem gL_law_X5_init : GoodIn wsL_law (wsX5_init) := ggL_law_X5_init
set_option maxRecDepth 20000 in
theorem ggL_law_L_pick : GoodIn wsL_law wsL_pick := goodIn_ca (goodIn_ca (goodIn_r _ [70, 71, 72, 69, 73, 74] (by decide +kernel) (by decide +kernel)) (goodIn_sub (fun _ h => List.mem_append_left _ (List.mem_append_left _ (List.mem_append_left _ (List.mem_append_left _ (List.mem_append_left _ (List.mem_append_left _ (List.mem_append_left _ (List.mem_append_right _ h)))))))) (by decide +kernel))) (goodIn_sub (fun _ h => List.mem_append_left _ (List.mem_append_left _ (List.mem_append_left _ (List.mem_append_left _ (List.mem_append_left _ (List.mem_append_left _ (List.mem_append_right _ h))))))) (by decide +kernel))
set_option maxRecDepth 20000 in
theorem gL_law_L_pick : GoodIn wsL_law (va_wsS RL 146 yL_pick wsL_pick) := goodIn_app (goodIn_of _ (by decide +kernel)) ggL_law_L_pick
set_option maxRecDepth 20000 in
theorem ggL_law_L_addSource : GoodIn wsL_law wsL_addSource := goodIn_ca (goodIn_ca (goodIn_ca (goodIn_r _ [77, 78, 79, 80, 81, 82, 2, 83, 84, 85, 13, 86, 87, 88, 12, 89, 90, 33, 34, 35, 91, 92, 93, 94, 95, 96, 97, 98, 691, 692, 693, 694, 695, 696, 697, 698, 699, 700, 701, 702, 703, 704, 705, 706] (by decide +kernel) (by decide +kernel)) (goodIn_sub (fun _ h => List.mem_append_left _ (List.mem_append_left _ (List.mem_append_left _ (List.mem_append_left _ (List.mem_append_left _ (List.mem_append_right _ h)))))) (by decide +kernel))) (goodIn_sub (fun _ h => List.mem_append_left _ (List.mem_append_left _ (List.mem_append_left _ (List.mem_append_left _ (List.mem_append_left _ (List.mem_append_left _ (List.mem_append_right _ h))))))) (by decide +kernel))) (goodIn_sub (fun _ h => List.mem_append_left _ (List.mem_append_left _ (List.mem_append_left _ (List.mem_append_left _ (List.mem_append_right _ h))))) (by decide +kernel))
set_option maxRecDepth 20000 in
theorem gL_law_L_addSource : GoodIn wsL_law (va_wsS RL 150 yL_addSource wsL_addSource) := goodIn_app (goodIn_of _ (by decide +kernel)) ggL_law_L_addSource
set_option maxRecDepth 20000 in
theorem ggL_law_L_addBus : GoodIn wsL_law wsL_addBus := goodIn_ca (goodIn_ca (goodIn_ca (goodIn_r _ [101, 78, 79, 102, 103, 104, 2, 105, 84, 85, 13, 106, 107, 108, 86, 87, 88, 12, 89, 90, 33, 34, 35, 91, 92, 93, 94, 95, 96, 97, 98, 691, 692, 693, 694, 695, 696, 697, 698, 699, 700, 701, 702, 703, 704, 705, 706] (by decide +kernel) (by decide +kernel)) (goodIn_sub (fun _ h => List.mem_append_left _ (List.mem_append_left _ (List.mem_append_left _ (List.mem_append_left _ (List.mem_append_left _ (List.mem_append_right _ h)))))) (by decide +kernel))) (goodIn_sub (fun _ h => List.mem_append_left _ (List.mem_append_left _ (List.mem_append_left _ (List.mem_append_left _ (List.mem_append_left _ (List.mem_append_left _ (List.mem_append_right _ h))))))) (by decide +kernel))) (goodIn_sub (fun _ h => List.mem_append_left _ (List.mem_append_left _ (List.mem_append_left _ (List.mem_append_left _ (List.mem_append_right _ h))))) (by decide +kernel))
set_option maxRecDepth 20000 in
theorem gL_law_L_addBus : GoodIn wsL_law (va_wsS RL 153 yL_addBus wsL_addBus) := goodIn_app (goodIn_of _ (by decide +kernel)) ggL_law_L_addBus
set_option maxRecDepth 20000 in
theorem ggL_law_L_addLine : GoodIn wsL_law wsL_addLine := goodIn_ca (goodIn_ca (goodIn_ca (goodIn_ca (goodIn_r _ [111, 112, 78, 79, 113, 114, 115, 2, 116, 84, 85, 13, 25, 117, 118, 119, 120, 121, 122, 123, 124, 125, 12, 126, 90, 127, 128, 129, 130, 131, 36, 37, 38, 132, 92, 93, 94, 95, 96, 97, 98, 133, 134, 135, 24, 136, 59, 56, 57, 58, 137, 138, 139, 140, 691, 692, 693, 694, 695, 696, 697, 698, 699, 700, 701, 702, 703, 704, 705, 706, 715, 716, 717, 718, 719] (by decide +kernel) (by decide +kernel)) (goodIn_sub (fun _ h => List.mem_append_left _ (List.mem_append_left _ (List.mem_append_left _ (List.mem_append_left _ (List.mem_append_left _ (List.mem_append_right _ h)))))) (by decide +kernel))) (goodIn_sub (fun _ h => List.mem_append_left _ (List.mem_append_left _ (List.mem_append_left _ (List.mem_append_right _ h)))) (by decide +kernel))) (goodIn_sub (fun _ h => List.mem_append_left _ (List.mem_append_left _ (List.mem_append_left _ (List.mem_append_left _ (List.mem_append_left _ (List.mem_append_left _ (List.mem_append_right _ h))))))) (by decide +kernel))) (goodIn_sub (fun _ h => List.mem_append_left _ (List.mem_append_left _ (List.mem_append_left _ (List.mem_append_left _ (List.mem_append_right _ h))))) (by decide +kernel))
set_option maxRecDepth 20000 in
theorem gL_law_L_addLine : GoodIn wsL_law (va_wsS RL 156 yL_addLine wsL_addLine) := goodIn_app (goodIn_of _ (by decide +kernel)) ggL_law_L_addLine
set_option maxRecDepth 20000 in
theorem ggL_law_L_sum : GoodIn wsL_law wsL_sum := goodIn_ca (goodIn_ca (goodIn_r _ [143, 144, 145, 146, 147, 148, 149, 2, 150, 151, 152, 153, 154, 155, 13, 156, 157, 69, 158, 112, 159, 160, 161, 162, 21, 163, 164, 165, 166, 121, 122, 167, 138, 139, 12, 140, 131, 168, 169, 170, 171, 172, 173, 174, 175, 176, 177, 178, 179, 180, 181, 182, 183, 184, 185, 186, 187, 188, 117, 118, 119, 120, 123, 124, 125, 126, 90, 189, 190, 191, 192, 34, 691, 692, 693, 694, 695, 696, 697, 698, 699, 700, 701, 702, 703, 704, 705, 706, 710, 711, 712, 713, 714] (by decide +kernel) (by decide +kernel)) (goodIn_sub (fun _ h => List.mem_append_left _ (List.mem_append_left _ (List.mem_append_left _ (List.mem_append_right _ h)))) (by decide +kernel))) (goodIn_sub (fun _ h => List.mem_append_left _ (List.mem_append_left _ (List.mem_append_left _ (List.mem_append_left _ (List.mem_append_left _ (List.mem_append_left _ (List.mem_append_right _ h))))))) (by decide +kernel))
set_option maxRecDepth 20000 in
theorem gL_law_L_sum : GoodIn wsL_law (va_wsS RL 159 yL_sum wsL_sum) := goodIn_app (goodIn_of _ (by decide +kernel)) ggL_law_L_sum
set_option maxRecDepth 20000 in
theorem ggL_law_L_canClose : GoodIn wsL_law wsL_canClose := goodIn_ca (goodIn_ca (goodIn_r _ [195, 112, 196, 197, 198, 2, 199, 21, 163, 164, 165, 166, 121, 122, 13, 167, 138, 139, 12, 140, 131, 200, 201, 202, 20, 203, 204, 50, 205, 51, 169, 170, 206, 207, 208, 209, 36, 210, 211, 212, 213, 214, 92, 93, 215, 216, 217, 218, 219, 220, 221, 222, 223, 224, 225, 226, 227, 37, 228, 229, 230, 231, 232, 91, 233, 234, 235, 236, 237, 238, 239, 240, 90, 34, 241, 242, 243, 244, 245, 246, 247, 248, 249, 250, 33, 251, 124, 125, 126, 252, 253, 254, 16, 255, 43, 45, 256, 257, 258, 259, 260, 261, 262, 263, 264, 190, 191, 192, 265, 266, 267, 268, 269, 38, 691, 692, 693, 694, 695, 696, 710, 711, 712, 713, 714, 697, 698, 699, 700, 701, 702, 703, 704, 705, 706, 707, 708, 709] (by decide +kernel) (by decide +kernel)) (goodIn_sub (fun _ h => List.mem_append_left _ (List.mem_append_left _ (List.mem_append_left _ (List.mem_append_right _ h)))) (by decide +kernel))) (goodIn_sub (fun _ h => List.mem_append_left _ (List.mem_append_left _ (List.mem_append_left _ (List.mem_append_left _ (List.mem_append_left _ (List.mem_append_left _ (List.mem_append_right _ h))))))) (by decide +kernel))
set_option maxRecDepth 20000 in
theorem gL_law_L_canClose : GoodIn wsL_law (va_wsS RL 163 yL_canClose wsL_canClose) := goodIn_app (goodIn_of _ (by decide +kernel)) ggL_law_L_canClose
set_option maxRecDepth 20000 in
theorem ggL_law_L_close : GoodIn wsL_law wsL_close := goodIn_ca (goodIn_ca (goodIn_r _ [272, 112, 273, 274, 275, 2, 276, 21, 163, 164, 165, 166, 121, 122, 13, 167, 138, 139, 12, 140, 131, 200, 201, 202, 20, 203, 204, 50, 205, 51, 169, 170, 206, 207, 208, 209, 36, 210, 211, 212, 213, 214, 92, 93, 215, 216, 217, 218, 219, 220, 221, 222, 223, 224, 225, 226, 227, 37, 228, 229, 230, 231, 232, 91, 233, 234, 235, 236, 237, 238, 239, 240, 90, 34, 241, 242, 243, 244, 245, 246, 247, 248, 249, 250, 33, 251, 124, 125, 126, 252, 253, 254, 16, 255, 43, 45, 256, 257, 258, 259, 260, 261, 262, 263, 264, 190, 191, 192, 265, 266, 267, 268, 269, 38, 277, 278, 279, 280, 281, 282, 691, 692, 693, 694, 695, 696, 710, 711, 712, 713, 714, 697, 698, 699, 700, 701, 702, 703, 704, 705, 706, 707, 708, 709] (by decide +kernel) (by decide +kernel)) (goodIn_sub (fun _ h => List.mem_append_left _ (List.mem_append_left _ (List.mem_append_left _ (List.mem_append_right _ h)))) (by decide +kernel))) (goodIn_sub (fun _ h => List.mem_append_left _ (List.mem_append_left _ (List.mem_append_left _ (List.mem_append_left _ (List.mem_append_left _ (List.mem_append_left _ (List.mem_append_right _ h))))))) (by decide +kernel))
set_option maxRecDepth 20000 in
theorem gL_law_L_close : GoodIn wsL_law (va_wsS RL 165 yL_close wsL_close) := goodIn_app (goodIn_of _ (by decide +kernel)) ggL_law_L_close
set_option maxRecDepth 20000 in
theorem ggL_law_L_isClosed : GoodIn wsL_law wsL_isClosed := goodIn_ca (goodIn_r _ [158, 112, 159, 160, 161, 2, 162, 21, 163, 164, 165, 166, 121, 122, 13, 167, 138, 139, 12, 140, 131, 168, 169, 170, 691, 692, 693, 694, 695, 696, 710, 711, 712, 713, 714, 697, 698, 699, 700, 701, 702, 703, 704, 705, 706] (by decide +kernel) (by decide +kernel)) (goodIn_sub (fun _ h => List.mem_append_left _ (List.mem_append_left _ (List.mem_append_left _ (List.mem_append_right _ h)))) (by decide +kernel))
set_option maxRecDepth 20000 in
theorem gL_law_L_isClosed : GoodIn wsL_law (va_wsS RL 167 yL_isClosed wsL_isClosed) := goodIn_app (goodIn_of _ (by decide +kernel)) ggL_law_L_isClosed
set_option maxRecDepth 20000 in
theorem ggL_law_L_canOpen : GoodIn wsL_law wsL_canOpen := goodIn_ca (goodIn_ca (goodIn_r _ [285, 112, 286, 287, 288, 2, 289, 21, 163, 164, 165, 166, 121, 122, 13, 167, 138, 139, 12, 140, 131, 290, 291, 292, 20, 293, 282, 50, 51, 169, 170, 294, 295, 296, 16, 297, 45, 43, 256, 257, 258, 259, 260, 261, 262, 263, 264, 190, 191, 192, 90, 34, 265, 225, 226, 227, 36, 37, 298, 691, 692, 693, 694, 695, 696, 697, 698, 699, 700, 701, 702, 703, 704, 705, 706, 710, 711, 712, 713, 714, 707, 708, 709] (by decide +kernel) (by decide +kernel)) (goodIn_sub (fun _ h => List.mem_append_left _ (List.mem_append_left _ (List.mem_append_left _ (List.mem_append_right _ h)))) (by decide +kernel))) (goodIn_sub (fun _ h => List.mem_append_left _ (List.mem_append_left _ (List.mem_append_left _ (List.mem_append_left _ (List.mem_append_left _ (List.mem_append_left _ (List.mem_append_right _ h))))))) (by decide +kernel))
set_option maxRecDepth 20000 in
theorem gL_law_L_canOpen : GoodIn wsL_law (va_wsS RL 169 yL_canOpen wsL_canOpen) := goodIn_app (goodIn_of _ (by decide +kernel)) ggL_law_L_canOpen
set_option maxRecDepth 20000 in
theorem ggL_law_L_open : GoodIn wsL_law wsL_open := goodIn_ca (goodIn_ca (goodIn_r _ [301, 112, 302, 303, 304, 2, 305, 21, 163, 164, 165, 166, 121, 122, 13, 167, 138, 139, 12, 140, 131, 290, 291, 292, 20, 293, 282, 50, 51, 169, 170, 294, 295, 296, 16, 297, 45, 43, 256, 257, 258, 259, 260, 261, 262, 263, 264, 190, 191, 192, 90, 34, 265, 225, 226, 227, 36, 37, 298, 277, 92, 93, 306, 307, 308, 309, 691, 692, 693, 694, 695, 696, 697, 698, 699, 700, 701, 702, 703, 704, 705, 706, 710, 711, 712, 713, 714, 707, 708, 709] (by decide +kernel) (by decide +kernel)) (goodIn_sub (fun _ h => List.mem_append_left _ (List.mem_append_left _ (List.mem_append_left _ (List.mem_append_right _ h)))) (by decide +kernel))) (goodIn_sub (fun _ h => List.mem_append_left _ (List.mem_append_left _ (List.mem_append_left _ (List.mem_append_left _ (List.mem_append_left _ (List.mem_append_left _ (List.mem_append_right _ h))))))) (by decide +kernel))
set_option maxRecDepth 20000 in
theorem gL_law_L_open : GoodIn wsL_law (va_wsS RL 171 yL_open wsL_open) := goodIn_app (goodIn_of _ (by decide +kernel)) ggL_law_L_open
set_option maxRecDepth 20000 in
theorem ggL_law_L_loadOf : GoodIn wsL_law wsL_loadOf := goodIn_ca (goodIn_ca (goodIn_r _ [184, 112, 185, 186, 187, 2, 188, 13, 117, 118, 119, 120, 121, 122, 123, 124, 125, 12, 126, 90, 189, 190, 191, 192, 34, 691, 692, 693, 694, 695, 696, 697, 698, 699, 700, 701, 702, 703, 704, 705, 706] (by decide +kernel) (by decide +kernel)) (goodIn_sub (fun _ h => List.mem_append_left _ (List.mem_append_left _ (List.mem_append_left _ (List.mem_append_right _ h)))) (by decide +kernel))) (goodIn_sub (fun _ h => List.mem_append_left _ (List.mem_append_left _ (List.mem_append_left _ (List.mem_append_left _ (List.mem_append_left _ (List.mem_append_left _ (List.mem_append_right _ h))))))) (by decide +kernel))
set_option maxRecDepth 20000 in
theorem gL_law_L_loadOf : GoodIn wsL_law (va_wsS RL 173 yL_loadOf wsL_loadOf) := goodIn_app (goodIn_of _ (by decide +kernel)) ggL_law_L_loadOf
set_option maxRecDepth 20000 in
theorem ggL_law_L_setLoad : GoodIn wsL_law wsL_setLoad := goodIn_ca (goodIn_ca (goodIn_ca (goodIn_ca (goodIn_ca (goodIn_r _ [312, 112, 78, 313, 79, 314, 315, 316, 2, 317, 97, 98, 13, 21, 117, 118, 119, 120, 121, 122, 123, 124, 125, 12, 126, 90, 106, 107, 108, 84, 85, 318, 319, 320, 321, 322, 323, 168, 169, 170, 189, 190, 191, 192, 34, 324, 325, 326, 327, 251, 328, 329, 330, 20, 331, 50, 282, 51, 211, 212, 213, 214, 92, 93, 215, 216, 217, 218, 219, 220, 221, 222, 223, 131, 224, 225, 226, 227, 36, 37, 241, 242, 243, 244, 245, 238, 239, 240, 246, 230, 231, 232, 91, 247, 248, 249, 250, 33, 252, 253, 254, 16, 255, 43, 45, 256, 257, 258, 259, 260, 261, 262, 263, 264, 265, 266, 267, 268, 269, 38, 210, 138, 139, 140, 691, 692, 693, 694, 695, 696, 697, 698, 699, 700, 701, 702, 703, 704, 705, 706, 710, 711, 712, 713, 714, 707, 708, 709] (by decide +kernel) (by decide +kernel)) (goodIn_sub (fun _ h => List.mem_append_left _ (List.mem_append_left _ (List.mem_append_left _ (List.mem_append_left _ (List.mem_append_right _ h))))) (by decide +kernel))) (goodIn_sub (fun _ h => List.mem_append_left _ (List.mem_append_left _ (List.mem_append_left _ (List.mem_append_right _ h)))) (by decide +kernel))) (goodIn_sub (fun _ h => List.mem_append_left _ (List.mem_append_left _ (List.mem_append_left _ (List.mem_append_left _ (List.mem_append_left _ (List.mem_append_right _ h)))))) (by decide +kernel))) (goodIn_sub (fun _ h => List.mem_append_left _ (List.mem_append_left _ (List.mem_append_right _ h))) (by decide +kernel))) (goodIn_sub (fun _ h => List.mem_append_left _ (List.mem_append_left _ (List.mem_append_left _ (List.mem_append_left _ (List.mem_append_left _ (List.mem_append_left _ (List.mem_append_right _ h))))))) (by decide +kernel))
set_option maxRecDepth 20000 in
theorem gL_law_L_setLoad : GoodIn wsL_law (va_wsS RL 175 yL_setLoad wsL_setLoad) := goodIn_app (goodIn_of _ (by decide +kernel)) ggL_law_L_setLoad
set_option maxRecDepth 20000 in
theorem ggL_law_L_setRelay : GoodIn wsL_law wsL_setRelay := goodIn_ca (goodIn_ca (goodIn_ca (goodIn_ca (goodIn_r _ [334, 112, 78, 313, 335, 336, 337, 2, 338, 84, 85, 25, 163, 164, 165, 166, 121, 122, 13, 167, 138, 139, 12, 140, 131, 339, 340, 341, 342, 322, 323, 168, 169, 170, 343, 344, 345, 24, 346, 59, 56, 137, 133, 134, 135, 136, 57, 58, 691, 692, 693, 694, 695, 696, 697, 698, 699, 700, 701, 702, 703, 704, 705, 706, 715, 716, 717, 718, 719] (by decide +kernel) (by decide +kernel)) (goodIn_sub (fun _ h => List.mem_append_left _ (List.mem_append_left _ (List.mem_append_left _ (List.mem_append_left _ (List.mem_append_left _ (List.mem_append_right _ h)))))) (by decide +kernel))) (goodIn_sub (fun _ h => List.mem_append_left _ (List.mem_append_left _ (List.mem_append_left _ (List.mem_append_right _ h)))) (by decide +kernel))) (goodIn_sub (fun _ h => List.mem_append_left _ (List.mem_append_left _ (List.mem_append_right _ h))) (by decide +kernel))) (goodIn_sub (fun _ h => List.mem_append_left _ (List.mem_append_left _ (List.mem_append_left _ (List.mem_append_left _ (List.mem_append_left _ (List.mem_append_left _ (List.mem_append_right _ h))))))) (by decide +kernel))
set_option maxRecDepth 20000 in
theorem gL_law_L_setRelay : GoodIn wsL_law (va_wsS RL 177 yL_setRelay wsL_setRelay) := goodIn_app (goodIn_of _ (by decide +kernel)) ggL_law_L_setRelay
set_option maxRecDepth 20000 in
theorem ggL_law_L_tripTime : GoodIn wsL_law wsL_tripTime := goodIn_ca (goodIn_ca (goodIn_ca (goodIn_ca (goodIn_ca (goodIn_r _ [349, 112, 78, 313, 350, 351, 352, 2, 353, 84, 85, 354, 25, 163, 164, 165, 166, 121, 122, 13, 167, 138, 139, 12, 140, 131, 339, 340, 341, 342, 322, 323, 168, 169, 170, 355, 356, 357, 24, 358, 59, 56, 58, 57, 137, 691, 692, 693, 694, 695, 696, 697, 698, 699, 700, 701, 702, 703, 704, 705, 706, 715, 716, 717, 718, 719] (by decide +kernel) (by decide +kernel)) (goodIn_sub (fun _ h => List.mem_append_left _ (List.mem_append_left _ (List.mem_append_left _ (List.mem_append_left _ (List.mem_append_left _ (List.mem_append_right _ h)))))) (by decide +kernel))) (goodIn_sub (fun _ h => List.mem_append_left _ (List.mem_append_left _ (List.mem_append_left _ (List.mem_append_right _ h)))) (by decide +kernel))) (goodIn_sub (fun _ h => List.mem_append_left _ (List.mem_append_left _ (List.mem_append_right _ h))) (by decide +kernel))) (goodIn_sub (fun _ h => List.mem_append_left _ (List.mem_append_left _ (List.mem_append_left _ (List.mem_append_left _ (List.mem_append_left _ (List.mem_append_left _ (List.mem_append_right _ h))))))) (by decide +kernel))) (goodIn_sub (fun _ h => List.mem_append_left _ (List.mem_append_left _ (List.mem_append_left _ (List.mem_append_left _ (List.mem_append_left _ (List.mem_append_left _ (List.mem_append_left _ (List.mem_append_right _ h)))))))) (by decide +kernel))
set_option maxRecDepth 20000 in
theorem gL_law_L_tripTime : GoodIn wsL_law (va_wsS RL 180 yL_tripTime wsL_tripTime) := goodIn_app (goodIn_of _ (by decide +kernel)) ggL_law_L_tripTime
set_option maxRecDepth 20000 in
theorem ggL_law_L_wouldTrip : GoodIn wsL_law wsL_wouldTrip := goodIn_ca (goodIn_ca (goodIn_ca (goodIn_r _ [361, 112, 362, 363, 364, 2, 365, 25, 21, 163, 164, 165, 166, 121, 122, 13, 167, 138, 139, 12, 140, 131, 366, 367, 368, 24, 369, 60, 370, 371, 372, 16, 373, 45, 169, 170, 374, 375, 376, 377, 44, 265, 225, 226, 227, 36, 37, 378, 379, 380, 381, 59, 382, 383, 384, 385, 386, 207, 208, 209, 210, 387, 212, 213, 214, 92, 93, 215, 216, 217, 218, 219, 220, 221, 222, 223, 224, 246, 230, 231, 232, 91, 388, 248, 249, 250, 33, 251, 124, 125, 126, 90, 389, 390, 391, 392, 393, 394, 395, 396, 397, 356, 357, 358, 56, 58, 57, 137, 691, 692, 693, 694, 695, 696, 710, 711, 712, 713, 714, 697, 698, 699, 700, 701, 702, 703, 704, 705, 706, 715, 716, 717, 718, 719, 707, 708, 709] (by decide +kernel) (by decide +kernel)) (goodIn_sub (fun _ h => List.mem_append_left _ (List.mem_append_left _ (List.mem_append_left _ (List.mem_append_right _ h)))) (by decide +kernel))) (goodIn_sub (fun _ h => List.mem_append_left _ (List.mem_append_left _ (List.mem_append_left _ (List.mem_append_left _ (List.mem_append_left _ (List.mem_append_left _ (List.mem_append_right _ h))))))) (by decide +kernel))) (goodIn_sub (fun _ h => List.mem_append_left _ (List.mem_append_left _ (List.mem_append_left _ (List.mem_append_left _ (List.mem_append_left _ (List.mem_append_left _ (List.mem_append_left _ (List.mem_append_right _ h)))))))) (by decide +kernel))
set_option maxRecDepth 20000 in
theorem gL_law_L_wouldTrip : GoodIn wsL_law (va_wsS RL 182 yL_wouldTrip wsL_wouldTrip) := goodIn_app (goodIn_of _ (by decide +kernel)) ggL_law_L_wouldTrip
set_option maxRecDepth 20000 in
theorem ggL_law_L_hasFault : GoodIn wsL_law wsL_hasFault := goodIn_ca (goodIn_r _ [400, 112, 401, 402, 403, 2, 404, 21, 163, 164, 165, 166, 121, 122, 13, 167, 138, 139, 12, 140, 131, 168, 169, 170, 691, 692, 693, 694, 695, 696, 710, 711, 712, 713, 714, 697, 698, 699, 700, 701, 702, 703, 704, 705, 706] (by decide +kernel) (by decide +kernel)) (goodIn_sub (fun _ h => List.mem_append_left _ (List.mem_append_left _ (List.mem_append_left _ (List.mem_append_right _ h)))) (by decide +kernel))
set_option maxRecDepth 20000 in
theorem gL_law_L_hasFault : GoodIn wsL_law (va_wsS RL 184 yL_hasFault wsL_hasFault) := goodIn_app (goodIn_of _ (by decide +kernel)) ggL_law_L_hasFault
set_option maxRecDepth 20000 in
theorem ggL_law_X5_trips : GoodIn wsL_law wsX5_trips := goodIn_r _ [150, 151, 691, 692, 693, 694, 695, 696] (by decide +kernel) (by decide +kernel)
set_option maxRecDepth 20000 in
theorem gL_law_X5_trips : GoodIn wsL_law (wsV RL 186 RX5 yX5_trips wsX5_trips) := goodIn_app (goodIn_of _ (by decide +kernel)) ggL_law_X5_trips
set_option maxRecDepth 20000 in
theorem ggL_law_L_fault : GoodIn wsL_law wsL_fault := goodIn_ca (goodIn_ca (goodIn_ca (goodIn_ca (goodIn_r _ [407, 112, 79, 408, 409, 410, 2, 411, 97, 98, 21, 25, 13, 151, 163, 164, 165, 166, 121, 122, 167, 138, 139, 12, 140, 131, 168, 169, 170, 366, 367, 368, 24, 369, 60, 370, 371, 372, 16, 373, 45, 374, 375, 376, 377, 44, 265, 225, 226, 227, 36, 37, 378, 379, 380, 381, 59, 382, 383, 384, 385, 386, 207, 208, 209, 210, 387, 212, 213, 214, 92, 93, 215, 216, 217, 218, 219, 220, 221, 222, 223, 224, 246, 230, 231, 232, 91, 388, 248, 249, 250, 33, 251, 124, 125, 126, 90, 389, 390, 391, 392, 393, 394, 395, 396, 397, 356, 357, 358, 56, 58, 57, 137, 277, 412, 413, 234, 235, 236, 414, 415, 416, 20, 417, 282, 204, 691, 692, 693, 694, 695, 696, 710, 711, 712, 713, 714, 697, 698, 699, 700, 701, 702, 703, 704, 705, 706, 715, 716, 717, 718, 719, 707, 708, 709] (by decide +kernel) (by decide +kernel)) (goodIn_sub (fun _ h => List.mem_append_left _ (List.mem_append_left _ (List.mem_append_left _ (List.mem_append_left _ (List.mem_append_right _ h))))) (by decide +kernel))) (goodIn_sub (fun _ h => List.mem_append_left _ (List.mem_append_left _ (List.mem_append_left _ (List.mem_append_right _ h)))) (by decide +kernel))) (goodIn_sub (fun _ h => List.mem_append_left _ (List.mem_append_left _ (List.mem_append_left _ (List.mem_append_left _ (List.mem_append_left _ (List.mem_append_left _ (List.mem_append_right _ h))))))) (by decide +kernel))) (goodIn_sub (fun _ h => List.mem_append_left _ (List.mem_append_left _ (List.mem_append_left _ (List.mem_append_left _ (List.mem_append_left _ (List.mem_append_left _ (List.mem_append_left _ (List.mem_append_right _ h)))))))) (by decide +kernel))
set_option maxRecDepth 20000 in
theorem gL_law_L_fault : GoodIn wsL_law (va_wsS RL 189 yL_fault wsL_fault) := goodIn_app (goodIn_of _ (by decide +kernel)) ggL_law_L_fault
set_option maxRecDepth 20000 in
theorem ggL_law_L_isLocked : GoodIn wsL_law wsL_isLocked := goodIn_ca (goodIn_r _ [173, 112, 174, 175, 176, 2, 177, 21, 163, 164, 165, 166, 121, 122, 13, 167, 138, 139, 12, 140, 131, 168, 169, 170, 691, 692, 693, 694, 695, 696, 710, 711, 712, 713, 714, 697, 698, 699, 700, 701, 702, 703, 704, 705, 706] (by decide +kernel) (by decide +kernel)) (goodIn_sub (fun _ h => List.mem_append_left _ (List.mem_append_left _ (List.mem_append_left _ (List.mem_append_right _ h)))) (by decide +kernel))
set_option maxRecDepth 20000 in
theorem gL_law_L_isLocked : GoodIn wsL_law (va_wsS RL 191 yL_isLocked wsL_isLocked) := goodIn_app (goodIn_of _ (by decide +kernel)) ggL_law_L_isLocked
set_option maxRecDepth 20000 in
theorem ggL_law_L_repair : GoodIn wsL_law wsL_repair := goodIn_ca (goodIn_ca (goodIn_r _ [420, 112, 79, 421, 422, 423, 2, 424, 97, 98, 21, 163, 164, 165, 166, 121, 122, 13, 167, 138, 139, 12, 140, 131, 168, 169, 170, 277, 92, 93, 691, 692, 693, 694, 695, 696, 710, 711, 712, 713, 714, 697, 698, 699, 700, 701, 702, 703, 704, 705, 706] (by decide +kernel) (by decide +kernel)) (goodIn_sub (fun _ h => List.mem_append_left _ (List.mem_append_left _ (List.mem_append_left _ (List.mem_append_left _ (List.mem_append_right _ h))))) (by decide +kernel))) (goodIn_sub (fun _ h => List.mem_append_left _ (List.mem_append_left _ (List.mem_append_left _ (List.mem_append_right _ h)))) (by decide +kernel))
set_option maxRecDepth 20000 in
theorem gL_law_L_repair : GoodIn wsL_law (va_wsS RL 193 yL_repair wsL_repair) := goodIn_app (goodIn_of _ (by decide +kernel)) ggL_law_L_repair
set_option maxRecDepth 20000 in
theorem ggL_law_L_reset : GoodIn wsL_law wsL_reset := goodIn_ca (goodIn_ca (goodIn_ca (goodIn_r _ [427, 112, 313, 79, 428, 429, 430, 2, 431, 322, 323, 97, 98, 21, 163, 164, 165, 166, 121, 122, 13, 167, 138, 139, 12, 140, 131, 168, 169, 170, 277, 92, 93, 432, 433, 434, 435, 436, 437, 438, 691, 692, 693, 694, 695, 696, 710, 711, 712, 713, 714, 697, 698, 699, 700, 701, 702, 703, 704, 705, 706] (by decide +kernel) (by decide +kernel)) (goodIn_sub (fun _ h => List.mem_append_left _ (List.mem_append_left _ (List.mem_append_right _ h))) (by decide +kernel))) (goodIn_sub (fun _ h => List.mem_append_left _ (List.mem_append_left _ (List.mem_append_left _ (List.mem_append_left _ (List.mem_append_right _ h))))) (by decide +kernel))) (goodIn_sub (fun _ h => List.mem_append_left _ (List.mem_append_left _ (List.mem_append_left _ (List.mem_append_right _ h)))) (by decide +kernel))
set_option maxRecDepth 20000 in
theorem gL_law_L_reset : GoodIn wsL_law (va_wsS RL 195 yL_reset wsL_reset) := goodIn_app (goodIn_of _ (by decide +kernel)) ggL_law_L_reset
set_option maxRecDepth 20000 in
theorem ggL_law_X5_bestValue : GoodIn wsL_law wsX5_bestValue := goodIn_ca (goodIn_r _ [442, 29, 443, 444, 445, 28, 446, 447, 448, 449, 450, 66, 451, 452, 453, 454, 455, 456, 20, 457, 50, 282, 204, 205, 458, 459, 460, 461, 65, 462, 463, 464, 12, 465, 90, 91, 169, 2, 170, 387, 212, 213, 214, 92, 93, 215, 216, 217, 218, 219, 220, 221, 222, 223, 131, 224, 225, 226, 227, 36, 37, 466, 467, 468, 469, 34, 35, 470, 471, 472, 473, 474, 433, 434, 435, 436, 437, 438, 475, 476, 477, 478, 479, 201, 202, 203, 51, 206, 207, 208, 209, 210, 138, 139, 140, 211, 228, 229, 230, 231, 232, 233, 234, 235, 236, 237, 238, 239, 240, 241, 242, 243, 244, 245, 246, 247, 248, 249, 250, 33, 251, 124, 125, 126, 252, 253, 254, 16, 255, 43, 45, 256, 257, 258, 259, 260, 261, 262, 263, 264, 190, 191, 192, 265, 266, 267, 268, 269, 38, 480, 481, 482, 483, 691, 692, 693, 694, 695, 696, 720, 721, 722, 723, 724, 710, 711, 712, 713, 714, 697, 698, 699, 700, 701, 702, 703, 704, 705, 706, 707, 708, 709] (by decide +kernel) (by decide +kernel)) (goodIn_sub (fun _ h => List.mem_append_left _ (List.mem_append_left _ (List.mem_append_left _ (List.mem_append_left _ (List.mem_append_left _ (List.mem_append_left _ (List.mem_append_right _ h))))))) (by decide +kernel))
set_option maxRecDepth 20000 in
theorem gL_law_X5_bestValue : GoodIn wsL_law (wsV RL 197 RX5 yX5_bestValue wsX5_bestValue) := goodIn_app (goodIn_of _ (by decide +kernel)) ggL_law_X5_bestValue
set_option maxRecDepth 20000 in
theorem ggL_law_X5_bestSize : GoodIn wsL_law wsX5_bestSize := goodIn_ca (goodIn_r _ [487, 29, 443, 444, 445, 28, 446, 447, 448, 449, 450, 66, 451, 452, 453, 454, 455, 456, 20, 457, 50, 282, 204, 205, 458, 459, 460, 461, 65, 462, 463, 464, 12, 465, 90, 91, 169, 2, 170, 387, 212, 213, 214, 92, 93, 215, 216, 217, 218, 219, 220, 221, 222, 223, 131, 224, 225, 226, 227, 36, 37, 466, 467, 468, 469, 34, 35, 470, 471, 472, 473, 474, 433, 434, 435, 436, 437, 438, 475, 476, 477, 478, 479, 201, 202, 203, 51, 206, 207, 208, 209, 210, 138, 139, 140, 211, 228, 229, 230, 231, 232, 233, 234, 235, 236, 237, 238, 239, 240, 241, 242, 243, 244, 245, 246, 247, 248, 249, 250, 33, 251, 124, 125, 126, 252, 253, 254, 16, 255, 43, 45, 256, 257, 258, 259, 260, 261, 262, 263, 264, 190, 191, 192, 265, 266, 267, 268, 269, 38, 480, 481, 482, 483, 432, 691, 692, 693, 694, 695, 696, 720, 721, 722, 723, 724, 710, 711, 712, 713, 714, 697, 698, 699, 700, 701, 702, 703, 704, 705, 706, 707, 708, 709] (by decide +kernel) (by decide +kernel)) (goodIn_sub (fun _ h => List.mem_append_left _ (List.mem_append_left _ (List.mem_append_left _ (List.mem_append_left _ (List.mem_append_left _ (List.mem_append_left _ (List.mem_append_right _ h))))))) (by decide +kernel))
set_option maxRecDepth 20000 in
theorem gL_law_X5_bestSize : GoodIn wsL_law (wsV RL 200 RX5 yX5_bestSize wsX5_bestSize) := goodIn_app (goodIn_of _ (by decide +kernel)) ggL_law_X5_bestSize
set_option maxRecDepth 20000 in
theorem ggL_law_L_valueByTrying : GoodIn wsL_law wsL_valueByTrying := goodIn_ca (goodIn_ca (goodIn_r _ [490, 313, 491, 492, 493, 2, 494, 29, 495, 496, 497, 498, 322, 323, 21, 499, 455, 456, 20, 457, 50, 282, 204, 205, 432, 433, 434, 435, 436, 437, 438, 500, 501, 502, 28, 503, 451, 447, 448, 449, 450, 66, 452, 453, 454, 458, 459, 460, 461, 65, 462, 463, 464, 12, 465, 90, 91, 169, 170, 387, 212, 213, 214, 92, 93, 215, 216, 217, 218, 219, 220, 221, 222, 223, 131, 224, 225, 226, 227, 36, 37, 466, 467, 468, 469, 34, 35, 504, 505, 506, 507, 479, 201, 202, 203, 51, 206, 207, 208, 209, 210, 138, 139, 140, 211, 228, 229, 230, 231, 232, 233, 234, 235, 236, 237, 238, 239, 240, 241, 242, 243, 244, 245, 246, 247, 248, 249, 250, 33, 251, 124, 125, 126, 252, 253, 254, 16, 255, 43, 45, 256, 257, 258, 259, 260, 261, 262, 263, 264, 190, 191, 192, 265, 266, 267, 268, 269, 38, 480, 481, 482, 483, 474, 475, 476, 477, 478, 691, 692, 693, 694, 695, 696, 720, 721, 722, 723, 724, 710, 711, 712, 713, 714, 697, 698, 699, 700, 701, 702, 703, 704, 705, 706, 707, 708, 709] (by decide +kernel) (by decide +kernel)) (goodIn_sub (fun _ h => List.mem_append_left _ (List.mem_append_left _ (List.mem_append_right _ h))) (by decide +kernel))) (goodIn_sub (fun _ h => List.mem_append_left _ (List.mem_append_left _ (List.mem_append_left _ (List.mem_append_left _ (List.mem_append_left _ (List.mem_append_left _ (List.mem_append_right _ h))))))) (by decide +kernel))
set_option maxRecDepth 20000 in
theorem gL_law_L_valueByTrying : GoodIn wsL_law (va_wsS RL 203 yL_valueByTrying wsL_valueByTrying) := goodIn_app (goodIn_of _ (by decide +kernel)) ggL_law_L_valueByTrying
set_option maxRecDepth 20000 in
theorem ggL_law_L_bestAt : GoodIn wsL_law wsL_bestAt := goodIn_ca (goodIn_ca (goodIn_r _ [510, 511, 512, 513, 514, 2, 515, 516, 517, 29, 443, 444, 445, 28, 446, 447, 448, 449, 450, 66, 451, 452, 453, 454, 455, 456, 20, 457, 50, 282, 204, 205, 458, 459, 460, 461, 65, 462, 463, 464, 12, 465, 90, 91, 169, 170, 387, 212, 213, 214, 92, 93, 215, 216, 217, 218, 219, 220, 221, 222, 223, 131, 224, 225, 226, 227, 36, 37, 466, 467, 468, 469, 34, 35, 470, 471, 472, 473, 474, 433, 434, 435, 436, 437, 438, 475, 476, 477, 478, 479, 201, 202, 203, 51, 206, 207, 208, 209, 210, 138, 139, 140, 211, 228, 229, 230, 231, 232, 233, 234, 235, 236, 237, 238, 239, 240, 241, 242, 243, 244, 245, 246, 247, 248, 249, 250, 33, 251, 124, 125, 126, 252, 253, 254, 16, 255, 43, 45, 256, 257, 258, 259, 260, 261, 262, 263, 264, 190, 191, 192, 265, 266, 267, 268, 269, 38, 480, 481, 482, 483, 432, 691, 692, 693, 694, 695, 696, 720, 721, 722, 723, 724, 710, 711, 712, 713, 714, 697, 698, 699, 700, 701, 702, 703, 704, 705, 706, 707, 708, 709] (by decide +kernel) (by decide +kernel)) (goodIn_sub (fun _ h => List.mem_append_left _ (List.mem_append_right _ h)) (by decide +kernel))) (goodIn_sub (fun _ h => List.mem_append_left _ (List.mem_append_left _ (List.mem_append_left _ (List.mem_append_left _ (List.mem_append_left _ (List.mem_append_left _ (List.mem_append_right _ h))))))) (by decide +kernel))
set_option maxRecDepth 20000 in
theorem gL_law_L_bestAt : GoodIn wsL_law (va_wsS RL 206 yL_bestAt wsL_bestAt) := goodIn_app (goodIn_of _ (by decide +kernel)) ggL_law_L_bestAt
set_option maxRecDepth 20000 in
theorem ggL_law_L_sizeByTrying : GoodIn wsL_law wsL_sizeByTrying := goodIn_ca (goodIn_ca (goodIn_r _ [520, 313, 521, 522, 523, 2, 524, 29, 495, 496, 497, 498, 322, 323, 21, 499, 455, 456, 20, 457, 50, 282, 204, 205, 432, 433, 434, 435, 436, 437, 438, 500, 501, 502, 28, 503, 451, 447, 448, 449, 450, 66, 452, 453, 454, 458, 459, 460, 461, 65, 462, 463, 464, 12, 465, 90, 91, 169, 170, 387, 212, 213, 214, 92, 93, 215, 216, 217, 218, 219, 220, 221, 222, 223, 131, 224, 225, 226, 227, 36, 37, 466, 467, 468, 469, 34, 35, 504, 505, 506, 507, 479, 201, 202, 203, 51, 206, 207, 208, 209, 210, 138, 139, 140, 211, 228, 229, 230, 231, 232, 233, 234, 235, 236, 237, 238, 239, 240, 241, 242, 243, 244, 245, 246, 247, 248, 249, 250, 33, 251, 124, 125, 126, 252, 253, 254, 16, 255, 43, 45, 256, 257, 258, 259, 260, 261, 262, 263, 264, 190, 191, 192, 265, 266, 267, 268, 269, 38, 480, 481, 482, 483, 474, 475, 476, 477, 478, 691, 692, 693, 694, 695, 696, 720, 721, 722, 723, 724, 710, 711, 712, 713, 714, 697, 698, 699, 700, 701, 702, 703, 704, 705, 706, 707, 708, 709] (by decide +kernel) (by decide +kernel)) (goodIn_sub (fun _ h => List.mem_append_left _ (List.mem_append_left _ (List.mem_append_right _ h))) (by decide +kernel))) (goodIn_sub (fun _ h => List.mem_append_left _ (List.mem_append_left _ (List.mem_append_left _ (List.mem_append_left _ (List.mem_append_left _ (List.mem_append_left _ (List.mem_append_right _ h))))))) (by decide +kernel))
set_option maxRecDepth 20000 in
theorem gL_law_L_sizeByTrying : GoodIn wsL_law (va_wsS RL 208 yL_sizeByTrying wsL_sizeByTrying) := goodIn_app (goodIn_of _ (by decide +kernel)) ggL_law_L_sizeByTrying
set_option maxRecDepth 20000 in
theorem ggL_law_X5_restore : GoodIn wsL_law wsX5_restore := goodIn_ca (goodIn_r _ [528, 29, 21, 443, 444, 445, 28, 446, 447, 448, 449, 450, 66, 451, 452, 453, 454, 455, 456, 20, 457, 50, 282, 204, 205, 458, 459, 460, 461, 65, 462, 463, 464, 12, 465, 90, 91, 169, 2, 170, 387, 212, 213, 214, 92, 93, 215, 216, 217, 218, 219, 220, 221, 222, 223, 131, 224, 225, 226, 227, 36, 37, 466, 467, 468, 469, 34, 35, 470, 471, 472, 473, 474, 433, 434, 435, 436, 437, 438, 475, 476, 477, 478, 479, 201, 202, 203, 51, 206, 207, 208, 209, 210, 138, 139, 140, 211, 228, 229, 230, 231, 232, 233, 234, 235, 236, 237, 238, 239, 240, 241, 242, 243, 244, 245, 246, 247, 248, 249, 250, 33, 251, 124, 125, 126, 252, 253, 254, 16, 255, 43, 45, 256, 257, 258, 259, 260, 261, 262, 263, 264, 190, 191, 192, 265, 266, 267, 268, 269, 38, 480, 481, 482, 483, 278, 279, 280, 281, 432, 691, 692, 693, 694, 695, 696, 720, 721, 722, 723, 724, 710, 711, 712, 713, 714, 697, 698, 699, 700, 701, 702, 703, 704, 705, 706, 707, 708, 709] (by decide +kernel) (by decide +kernel)) (goodIn_sub (fun _ h => List.mem_append_left _ (List.mem_append_left _ (List.mem_append_left _ (List.mem_append_left _ (List.mem_append_left _ (List.mem_append_left _ (List.mem_append_right _ h))))))) (by decide +kernel))
set_option maxRecDepth 20000 in
theorem gL_law_X5_restore : GoodIn wsL_law (wsV RL 210 RX5 yX5_restore wsX5_restore) := goodIn_app (goodIn_of _ (by decide +kernel)) ggL_law_X5_restore
set_option maxRecDepth 20000 in
theorem ggL_law_L_value : GoodIn wsL_law wsL_value := goodIn_ca (goodIn_ca (goodIn_ca (goodIn_r _ [531, 178, 179, 180, 2, 181, 13, 532, 533, 69, 534, 112, 535, 536, 537, 538, 117, 118, 119, 120, 121, 122, 123, 124, 125, 12, 126, 90, 168, 169, 170, 539, 540, 541, 542, 543, 544, 545, 546, 547, 548, 549, 21, 550, 212, 213, 214, 92, 93, 215, 216, 217, 218, 219, 220, 221, 222, 223, 131, 224, 225, 226, 227, 36, 37, 551, 230, 231, 232, 91, 552, 553, 554, 313, 555, 556, 557, 558, 318, 319, 320, 321, 322, 323, 277, 559, 467, 468, 469, 34, 35, 691, 692, 693, 694, 695, 696, 697, 698, 699, 700, 701, 702, 703, 704, 705, 706, 710, 711, 712, 713, 714] (by decide +kernel) (by decide +kernel)) (goodIn_sub (fun _ h => List.mem_append_left _ (List.mem_append_left _ (List.mem_append_left _ (List.mem_append_right _ h)))) (by decide +kernel))) (goodIn_sub (fun _ h => List.mem_append_left _ (List.mem_append_left _ (List.mem_append_left _ (List.mem_append_left _ (List.mem_append_left _ (List.mem_append_left _ (List.mem_append_right _ h))))))) (by decide +kernel))) (goodIn_sub (fun _ h => List.mem_append_left _ (List.mem_append_left _ (List.mem_append_right _ h))) (by decide +kernel))
set_option maxRecDepth 20000 in
theorem gL_law_L_value : GoodIn wsL_law (va_wsS RL 213 yL_value wsL_value) := goodIn_app (goodIn_of _ (by decide +kernel)) ggL_law_L_value
set_option maxRecDepth 20000 in
theorem ggL_law_L_isRight : GoodIn wsL_law wsL_isRight := goodIn_ca (goodIn_ca (goodIn_ca (goodIn_ca (goodIn_ca (goodIn_ca (goodIn_ca (goodIn_r _ [562, 3, 563, 178, 179, 180, 2, 181, 13, 564, 565, 69, 566, 112, 567, 568, 569, 570, 117, 118, 119, 120, 121, 122, 123, 124, 125, 12, 126, 90, 546, 547, 548, 549, 21, 550, 212, 213, 214, 92, 93, 215, 216, 217, 218, 219, 220, 221, 222, 223, 131, 169, 170, 224, 225, 226, 227, 36, 37, 571, 572, 573, 574, 79, 575, 576, 577, 578, 97, 98, 551, 230, 231, 232, 91, 182, 183, 184, 185, 186, 187, 188, 189, 190, 191, 192, 34, 539, 540, 541, 542, 543, 544, 545, 532, 533, 534, 535, 536, 537, 538, 168, 579, 580, 581, 582, 583, 584, 585, 586, 587, 588, 589, 590, 591, 592, 593, 594, 595, 596, 597, 238, 239, 240, 598, 599, 600, 601, 602, 603, 604, 17, 163, 164, 165, 166, 167, 138, 139, 140, 605, 295, 296, 16, 297, 45, 43, 256, 257, 258, 259, 260, 261, 262, 263, 264, 265, 298, 156, 157, 158, 159, 160, 161, 162, 606, 607, 608, 609, 610, 611, 612, 613, 614, 615, 616, 617, 383, 384, 385, 386, 207, 208, 209, 210, 387, 246, 245, 398, 399, 400, 401, 402, 403, 404, 171, 172, 173, 174, 175, 176, 177, 618, 619, 620, 621, 622, 623, 624, 625, 626, 627, 628, 629, 371, 372, 373, 374, 375, 376, 377, 44, 630, 631, 632, 511, 633, 634, 635, 636, 516, 517, 637, 394, 395, 396, 638, 639, 640, 641, 642, 643, 644, 25, 645, 379, 380, 24, 381, 59, 382, 388, 248, 249, 250, 33, 251, 646, 647, 648, 649, 650, 651, 652, 366, 367, 368, 369, 60, 370, 378, 389, 390, 391, 392, 393, 397, 356, 357, 358, 56, 58, 57, 137, 359, 360, 361, 362, 363, 364, 365, 653, 654, 655, 313, 656, 657, 658, 659, 322, 323, 660, 661, 662, 663, 664, 665, 666, 667, 668, 669, 670, 671, 672, 673, 674, 675, 676, 677, 678, 679, 680, 463, 464, 465, 681, 682, 683, 684, 685, 686, 687, 688, 689, 690, 691, 692, 693, 694, 695, 696, 697, 698, 699, 700, 701, 702, 703, 704, 705, 706, 710, 711, 712, 713, 714, 707, 708, 709, 715, 716, 717, 718, 719] (by decide +kernel) (by decide +kernel)) (goodIn_sub (fun _ h => List.mem_append_left _ (List.mem_append_left _ (List.mem_append_left _ (List.mem_append_left _ (List.mem_append_left _ (List.mem_append_left _ (List.mem_append_right _ h))))))) (by decide +kernel))) (goodIn_sub (fun _ h => List.mem_append_left _ (List.mem_append_left _ (List.mem_append_left _ (List.mem_append_left _ (List.mem_append_left _ (List.mem_append_left _ (List.mem_append_left _ (List.mem_append_right _ h)))))))) (by decide +kernel))) (goodIn_sub (fun _ h => List.mem_append_left _ (List.mem_append_left _ (List.mem_append_left _ (List.mem_append_right _ h)))) (by decide +kernel))) (goodIn_sub (fun _ h => List.mem_append_left _ (List.mem_append_left _ (List.mem_append_left _ (List.mem_append_left _ (List.mem_append_right _ h))))) (by decide +kernel))) (goodIn_sub (fun _ h => List.mem_append_left _ (List.mem_append_right _ h)) (by decide +kernel))) (goodIn_sub (fun _ h => List.mem_append_left _ (List.mem_append_left _ (List.mem_append_right _ h))) (by decide +kernel))) (goodIn_sub (fun _ h => List.mem_append_right _ h) (by decide +kernel))
set_option maxRecDepth 20000 in
theorem gL_law_L_isRight : GoodIn wsL_law (va_wsS RL 216 yL_isRight wsL_isRight) := goodIn_app (goodIn_of _ (by decide +kernel)) ggL_law_L_isRight
theorem dL_law_0 : decode cL_law 0 = .ok (.new 15, 3) := by decide +kernel
theorem dL_law_3 : decode cL_law 3 = .ok (.dup, 1) := by decide +kernel
theorem dL_law_4 : decode cL_law 4 = .ok (.invokespecial 145, 3) := by decide +kernel
theorem dL_law_7 : decode cL_law 7 = .ok (.astore_n 1, 1) := by decide +kernel
theorem dL_law_8 : decode cL_law 8 = .ok (.iconst 1, 1) := by decide +kernel
theorem dL_law_9 : decode cL_law 9 = .ok (.aload_n 0, 1) := by decide +kernel
theorem dL_law_10 : decode cL_law 10 = .ok (.iconst 0, 1) := by decide +kernel
theorem dL_law_11 : decode cL_law 11 = .ok (.iconst 2, 1) := by decide +kernel
theorem dL_law_12 : decode cL_law 12 = .ok (.invokestatic 146, 3) := by decide +kernel
theorem dL_law_15 : decode cL_law 15 = .ok (.iadd, 1) := by decide +kernel
theorem dL_law_16 : decode cL_law 16 = .ok (.istore_n 2, 1) := by decide +kernel
theorem dL_law_17 : decode cL_law 17 = .ok (.iconst 2, 1) := by decide +kernel
theorem dL_law_18 : decode cL_law 18 = .ok (.aload_n 0, 1) := by decide +kernel
theorem dL_law_19 : decode cL_law 19 = .ok (.iconst 1, 1) := by decide +kernel
theorem dL_law_20 : decode cL_law 20 = .ok (.bipush 6, 2) := by decide +kernel
theorem dL_law_22 : decode cL_law 22 = .ok (.invokestatic 146, 3) := by decide +kernel
theorem dL_law_25 : decode cL_law 25 = .ok (.iadd, 1) := by decide +kernel
theorem dL_law_26 : decode cL_law 26 = .ok (.istore_n 3, 1) := by decide +kernel
theorem dL_law_27 : decode cL_law 27 = .ok (.iconst 0, 1) := by decide +kernel
theorem dL_law_28 : decode cL_law 28 = .ok (.istore 4, 2) := by decide +kernel
theorem dL_law_30 : decode cL_law 30 = .ok (.iconst 1, 1) := by decide +kernel
theorem dL_law_31 : decode cL_law 31 = .ok (.istore 5, 2) := by decide +kernel
theorem dL_law_33 : decode cL_law 33 = .ok (.bipush 10, 2) := by decide +kernel
theorem dL_law_35 : decode cL_law 35 = .ok (.newarray .int, 2) := by decide +kernel
theorem dL_law_37 : decode cL_law 37 = .ok (.astore 6, 2) := by decide +kernel
theorem dL_law_39 : decode cL_law 39 = .ok (.bipush 24, 2) := by decide +kernel
theorem dL_law_41 : decode cL_law 41 = .ok (.newarray .int, 2) := by decide +kernel
theorem dL_law_43 : decode cL_law 43 = .ok (.astore 7, 2) := by decide +kernel
theorem dL_law_45 : decode cL_law 45 = .ok (.bipush 12, 2) := by decide +kernel
theorem dL_law_47 : decode cL_law 47 = .ok (.newarray .int, 2) := by decide +kernel
theorem dL_law_49 : decode cL_law 49 = .ok (.astore 8, 2) := by decide +kernel
theorem dL_law_51 : decode cL_law 51 = .ok (.iconst 2, 1) := by decide +kernel
theorem dL_law_52 : decode cL_law 52 = .ok (.istore 9, 2) := by decide +kernel
theorem dL_law_54 : decode cL_law 54 = .ok (.iconst 0, 1) := by decide +kernel
theorem dL_law_55 : decode cL_law 55 = .ok (.istore 10, 2) := by decide +kernel
theorem dL_law_57 : decode cL_law 57 = .ok (.iload 10, 2) := by decide +kernel
theorem dL_law_59 : decode cL_law 59 = .ok (.iload_n 2, 1) := by decide +kernel
theorem dL_law_60 : decode cL_law 60 = .ok (.if_icmp .ge 53, 3) := by decide +kernel
theorem dL_law_63 : decode cL_law 63 = .ok (.aload 6, 2) := by decide +kernel
theorem dL_law_65 : decode cL_law 65 = .ok (.iload 10, 2) := by decide +kernel
theorem dL_law_67 : decode cL_law 67 = .ok (.bipush 40, 2) := by decide +kernel
theorem dL_law_69 : decode cL_law 69 = .ok (.aload_n 0, 1) := by decide +kernel
theorem dL_law_70 : decode cL_law 70 = .ok (.iload 9, 2) := by decide +kernel
theorem dL_law_72 : decode cL_law 72 = .ok (.sipush 200, 3) := by decide +kernel
theorem dL_law_75 : decode cL_law 75 = .ok (.invokestatic 146, 3) := by decide +kernel
theorem dL_law_78 : decode cL_law 78 = .ok (.iadd, 1) := by decide +kernel
theorem dL_law_79 : decode cL_law 79 = .ok (.iastore, 1) := by decide +kernel
theorem dL_law_80 : decode cL_law 80 = .ok (.iload 5, 2) := by decide +kernel
theorem dL_law_82 : decode cL_law 82 = .ok (.aload_n 1, 1) := by decide +kernel
theorem dL_law_83 : decode cL_law 83 = .ok (.aload 6, 2) := by decide +kernel
theorem dL_law_85 : decode cL_law 85 = .ok (.iload 10, 2) := by decide +kernel
theorem dL_law_87 : decode cL_law 87 = .ok (.iaload, 1) := by decide +kernel
theorem dL_law_88 : decode cL_law 88 = .ok (.invokestatic 150, 3) := by decide +kernel
theorem dL_law_91 : decode cL_law 91 = .ok (.iload 10, 2) := by decide +kernel
theorem dL_law_93 : decode cL_law 93 = .ok (.if_icmp .ne 7, 3) := by decide +kernel
theorem dL_law_96 : decode cL_law 96 = .ok (.iconst 1, 1) := by decide +kernel
theorem dL_law_97 : decode cL_law 97 = .ok (.goto 4, 3) := by decide +kernel
theorem dL_law_100 : decode cL_law 100 = .ok (.iconst 0, 1) := by decide +kernel
theorem dL_law_101 : decode cL_law 101 = .ok (.iand, 1) := by decide +kernel
theorem dL_law_102 : decode cL_law 102 = .ok (.istore 5, 2) := by decide +kernel
theorem dL_law_104 : decode cL_law 104 = .ok (.iinc 9 1, 3) := by decide +kernel
theorem dL_law_107 : decode cL_law 107 = .ok (.iinc 10 1, 3) := by decide +kernel
theorem dL_law_110 : decode cL_law 110 = .ok (.goto (-53), 3) := by decide +kernel
theorem dL_law_113 : decode cL_law 113 = .ok (.iconst 0, 1) := by decide +kernel
theorem dL_law_114 : decode cL_law 114 = .ok (.istore 10, 2) := by decide +kernel
theorem dL_law_116 : decode cL_law 116 = .ok (.iload 10, 2) := by decide +kernel
theorem dL_law_118 : decode cL_law 118 = .ok (.iload_n 3, 1) := by decide +kernel
theorem dL_law_119 : decode cL_law 119 = .ok (.if_icmp .ge 51, 3) := by decide +kernel
theorem dL_law_122 : decode cL_law 122 = .ok (.iload 5, 2) := by decide +kernel
theorem dL_law_124 : decode cL_law 124 = .ok (.aload_n 1, 1) := by decide +kernel
theorem dL_law_125 : decode cL_law 125 = .ok (.aload_n 0, 1) := by decide +kernel
theorem dL_law_126 : decode cL_law 126 = .ok (.iload 9, 2) := by decide +kernel
theorem dL_law_128 : decode cL_law 128 = .ok (.bipush 30, 2) := by decide +kernel
theorem dL_law_130 : decode cL_law 130 = .ok (.invokestatic 146, 3) := by decide +kernel
theorem dL_law_133 : decode cL_law 133 = .ok (.aload_n 0, 1) := by decide +kernel
theorem dL_law_134 : decode cL_law 134 = .ok (.iload 9, 2) := by decide +kernel
theorem dL_law_136 : decode cL_law 136 = .ok (.iconst 1, 1) := by decide +kernel
theorem dL_law_137 : decode cL_law 137 = .ok (.iadd, 1) := by decide +kernel
theorem dL_law_138 : decode cL_law 138 = .ok (.bipush 10, 2) := by decide +kernel
theorem dL_law_140 : decode cL_law 140 = .ok (.invokestatic 146, 3) := by decide +kernel
theorem dL_law_143 : decode cL_law 143 = .ok (.invokestatic 153, 3) := by decide +kernel
theorem dL_law_146 : decode cL_law 146 = .ok (.iload_n 2, 1) := by decide +kernel
theorem dL_law_147 : decode cL_law 147 = .ok (.iload 10, 2) := by decide +kernel
theorem dL_law_149 : decode cL_law 149 = .ok (.iadd, 1) := by decide +kernel
theorem dL_law_150 : decode cL_law 150 = .ok (.if_icmp .ne 7, 3) := by decide +kernel
theorem dL_law_153 : decode cL_law 153 = .ok (.iconst 1, 1) := by decide +kernel
theorem dL_law_154 : decode cL_law 154 = .ok (.goto 4, 3) := by decide +kernel
theorem dL_law_157 : decode cL_law 157 = .ok (.iconst 0, 1) := by decide +kernel
theorem dL_law_158 : decode cL_law 158 = .ok (.iand, 1) := by decide +kernel
theorem dL_law_159 : decode cL_law 159 = .ok (.istore 5, 2) := by decide +kernel
theorem dL_law_161 : decode cL_law 161 = .ok (.iinc 9 2, 3) := by decide +kernel
theorem dL_law_164 : decode cL_law 164 = .ok (.iinc 10 1, 3) := by decide +kernel
theorem dL_law_167 : decode cL_law 167 = .ok (.goto (-51), 3) := by decide +kernel
theorem dL_law_170 : decode cL_law 170 = .ok (.iconst 0, 1) := by decide +kernel
theorem dL_law_171 : decode cL_law 171 = .ok (.istore 10, 2) := by decide +kernel
theorem dL_law_173 : decode cL_law 173 = .ok (.iload 10, 2) := by decide +kernel
theorem dL_law_175 : decode cL_law 175 = .ok (.bipush 10, 2) := by decide +kernel
theorem dL_law_177 : decode cL_law 177 = .ok (.if_icmp .ge 176, 3) := by decide +kernel
theorem dL_law_180 : decode cL_law 180 = .ok (.aload_n 0, 1) := by decide +kernel
theorem dL_law_181 : decode cL_law 181 = .ok (.iload 9, 2) := by decide +kernel
theorem dL_law_183 : decode cL_law 183 = .ok (.iload_n 2, 1) := by decide +kernel
theorem dL_law_184 : decode cL_law 184 = .ok (.iload_n 3, 1) := by decide +kernel
theorem dL_law_185 : decode cL_law 185 = .ok (.iadd, 1) := by decide +kernel
theorem dL_law_186 : decode cL_law 186 = .ok (.invokestatic 146, 3) := by decide +kernel
theorem dL_law_189 : decode cL_law 189 = .ok (.istore 11, 2) := by decide +kernel
theorem dL_law_191 : decode cL_law 191 = .ok (.aload_n 0, 1) := by decide +kernel
theorem dL_law_192 : decode cL_law 192 = .ok (.iload 9, 2) := by decide +kernel
theorem dL_law_194 : decode cL_law 194 = .ok (.iconst 2, 1) := by decide +kernel
theorem dL_law_195 : decode cL_law 195 = .ok (.invokestatic 146, 3) := by decide +kernel
theorem dL_law_198 : decode cL_law 198 = .ok (.ifCond .ne 14, 3) := by decide +kernel
theorem dL_law_201 : decode cL_law 201 = .ok (.iload 11, 2) := by decide +kernel
theorem dL_law_203 : decode cL_law 203 = .ok (.iconst 1, 1) := by decide +kernel
theorem dL_law_204 : decode cL_law 204 = .ok (.iadd, 1) := by decide +kernel
theorem dL_law_205 : decode cL_law 205 = .ok (.iload_n 2, 1) := by decide +kernel
theorem dL_law_206 : decode cL_law 206 = .ok (.iload_n 3, 1) := by decide +kernel
theorem dL_law_207 : decode cL_law 207 = .ok (.iadd, 1) := by decide +kernel
theorem dL_law_208 : decode cL_law 208 = .ok (.irem, 1) := by decide +kernel
theorem dL_law_209 : decode cL_law 209 = .ok (.goto 14, 3) := by decide +kernel
theorem dL_law_212 : decode cL_law 212 = .ok (.aload_n 0, 1) := by decide +kernel
theorem dL_law_213 : decode cL_law 213 = .ok (.iload 9, 2) := by decide +kernel
theorem dL_law_215 : decode cL_law 215 = .ok (.iconst 1, 1) := by decide +kernel
theorem dL_law_216 : decode cL_law 216 = .ok (.iadd, 1) := by decide +kernel
theorem dL_law_217 : decode cL_law 217 = .ok (.iload_n 2, 1) := by decide +kernel
theorem dL_law_218 : decode cL_law 218 = .ok (.iload_n 3, 1) := by decide +kernel
theorem dL_law_219 : decode cL_law 219 = .ok (.iadd, 1) := by decide +kernel
theorem dL_law_220 : decode cL_law 220 = .ok (.invokestatic 146, 3) := by decide +kernel
theorem dL_law_223 : decode cL_law 223 = .ok (.istore 12, 2) := by decide +kernel
theorem dL_law_225 : decode cL_law 225 = .ok (.bipush 20, 2) := by decide +kernel
theorem dL_law_227 : decode cL_law 227 = .ok (.aload_n 0, 1) := by decide +kernel
theorem dL_law_228 : decode cL_law 228 = .ok (.iload 9, 2) := by decide +kernel
theorem dL_law_230 : decode cL_law 230 = .ok (.iconst 2, 1) := by decide +kernel
theorem dL_law_231 : decode cL_law 231 = .ok (.iadd, 1) := by decide +kernel
theorem dL_law_232 : decode cL_law 232 = .ok (.sipush 150, 3) := by decide +kernel
theorem dL_law_235 : decode cL_law 235 = .ok (.invokestatic 146, 3) := by decide +kernel
theorem dL_law_238 : decode cL_law 238 = .ok (.iadd, 1) := by decide +kernel
theorem dL_law_239 : decode cL_law 239 = .ok (.istore 13, 2) := by decide +kernel
theorem dL_law_241 : decode cL_law 241 = .ok (.aload_n 1, 1) := by decide +kernel
theorem dL_law_242 : decode cL_law 242 = .ok (.iload 11, 2) := by decide +kernel
theorem dL_law_244 : decode cL_law 244 = .ok (.iload 12, 2) := by decide +kernel
theorem dL_law_246 : decode cL_law 246 = .ok (.iload 13, 2) := by decide +kernel
theorem dL_law_248 : decode cL_law 248 = .ok (.aload_n 0, 1) := by decide +kernel
theorem dL_law_249 : decode cL_law 249 = .ok (.iload 9, 2) := by decide +kernel
theorem dL_law_251 : decode cL_law 251 = .ok (.iconst 3, 1) := by decide +kernel
theorem dL_law_252 : decode cL_law 252 = .ok (.iadd, 1) := by decide +kernel
theorem dL_law_253 : decode cL_law 253 = .ok (.iconst 5, 1) := by decide +kernel
theorem dL_law_254 : decode cL_law 254 = .ok (.invokestatic 146, 3) := by decide +kernel
theorem dL_law_257 : decode cL_law 257 = .ok (.ifCond .le 7, 3) := by decide +kernel
theorem dL_law_260 : decode cL_law 260 = .ok (.iconst 1, 1) := by decide +kernel
theorem dL_law_261 : decode cL_law 261 = .ok (.goto 4, 3) := by decide +kernel
theorem dL_law_264 : decode cL_law 264 = .ok (.iconst 0, 1) := by decide +kernel
theorem dL_law_265 : decode cL_law 265 = .ok (.invokestatic 156, 3) := by decide +kernel
theorem dL_law_268 : decode cL_law 268 = .ok (.istore 14, 2) := by decide +kernel
theorem dL_law_270 : decode cL_law 270 = .ok (.iload 5, 2) := by decide +kernel
theorem dL_law_272 : decode cL_law 272 = .ok (.iload 11, 2) := by decide +kernel
theorem dL_law_274 : decode cL_law 274 = .ok (.iload 12, 2) := by decide +kernel
theorem dL_law_276 : decode cL_law 276 = .ok (.if_icmp .ne 18, 3) := by decide +kernel
theorem dL_law_279 : decode cL_law 279 = .ok (.iload 14, 2) := by decide +kernel
theorem dL_law_281 : decode cL_law 281 = .ok (.bipush (-78), 2) := by decide +kernel
theorem dL_law_283 : decode cL_law 283 = .ok (.if_icmp .ne 7, 3) := by decide +kernel
theorem dL_law_286 : decode cL_law 286 = .ok (.iconst 1, 1) := by decide +kernel
theorem dL_law_287 : decode cL_law 287 = .ok (.goto 19, 3) := by decide +kernel
theorem dL_law_290 : decode cL_law 290 = .ok (.iconst 0, 1) := by decide +kernel
theorem dL_law_291 : decode cL_law 291 = .ok (.goto 15, 3) := by decide +kernel
theorem dL_law_294 : decode cL_law 294 = .ok (.iload 14, 2) := by decide +kernel
theorem dL_law_296 : decode cL_law 296 = .ok (.iload 4, 2) := by decide +kernel
theorem dL_law_298 : decode cL_law 298 = .ok (.if_icmp .ne 7, 3) := by decide +kernel
theorem dL_law_301 : decode cL_law 301 = .ok (.iconst 1, 1) := by decide +kernel
theorem dL_law_302 : decode cL_law 302 = .ok (.goto 4, 3) := by decide +kernel
theorem dL_law_305 : decode cL_law 305 = .ok (.iconst 0, 1) := by decide +kernel
theorem dL_law_306 : decode cL_law 306 = .ok (.iand, 1) := by decide +kernel
theorem dL_law_307 : decode cL_law 307 = .ok (.istore 5, 2) := by decide +kernel
theorem dL_law_309 : decode cL_law 309 = .ok (.iload 14, 2) := by decide +kernel
theorem dL_law_311 : decode cL_law 311 = .ok (.ifCond .lt 33, 3) := by decide +kernel
theorem dL_law_314 : decode cL_law 314 = .ok (.aload 7, 2) := by decide +kernel
theorem dL_law_316 : decode cL_law 316 = .ok (.iconst 2, 1) := by decide +kernel
theorem dL_law_317 : decode cL_law 317 = .ok (.iload 4, 2) := by decide +kernel
theorem dL_law_319 : decode cL_law 319 = .ok (.imul, 1) := by decide +kernel
theorem dL_law_320 : decode cL_law 320 = .ok (.iload 11, 2) := by decide +kernel
theorem dL_law_322 : decode cL_law 322 = .ok (.iastore, 1) := by decide +kernel
theorem dL_law_323 : decode cL_law 323 = .ok (.aload 7, 2) := by decide +kernel
theorem dL_law_325 : decode cL_law 325 = .ok (.iconst 2, 1) := by decide +kernel
theorem dL_law_326 : decode cL_law 326 = .ok (.iload 4, 2) := by decide +kernel
theorem dL_law_328 : decode cL_law 328 = .ok (.imul, 1) := by decide +kernel
theorem dL_law_329 : decode cL_law 329 = .ok (.iconst 1, 1) := by decide +kernel
theorem dL_law_330 : decode cL_law 330 = .ok (.iadd, 1) := by decide +kernel
theorem dL_law_331 : decode cL_law 331 = .ok (.iload 12, 2) := by decide +kernel
theorem dL_law_333 : decode cL_law 333 = .ok (.iastore, 1) := by decide +kernel
theorem dL_law_334 : decode cL_law 334 = .ok (.aload 8, 2) := by decide +kernel
theorem dL_law_336 : decode cL_law 336 = .ok (.iload 4, 2) := by decide +kernel
theorem dL_law_338 : decode cL_law 338 = .ok (.iload 13, 2) := by decide +kernel
theorem dL_law_340 : decode cL_law 340 = .ok (.iastore, 1) := by decide +kernel
theorem dL_law_341 : decode cL_law 341 = .ok (.iinc 4 1, 3) := by decide +kernel
theorem dL_law_344 : decode cL_law 344 = .ok (.iinc 9 4, 3) := by decide +kernel
theorem dL_law_347 : decode cL_law 347 = .ok (.iinc 10 1, 3) := by decide +kernel
theorem dL_law_350 : decode cL_law 350 = .ok (.goto (-177), 3) := by decide +kernel
theorem dL_law_353 : decode cL_law 353 = .ok (.iconst 0, 1) := by decide +kernel
theorem dL_law_354 : decode cL_law 354 = .ok (.istore 10, 2) := by decide +kernel
theorem dL_law_356 : decode cL_law 356 = .ok (.iload 10, 2) := by decide +kernel
theorem dL_law_358 : decode cL_law 358 = .ok (.bipush 80, 2) := by decide +kernel
theorem dL_law_360 : decode cL_law 360 = .ok (.if_icmp .ge 810, 3) := by decide +kernel
theorem dL_law_363 : decode cL_law 363 = .ok (.iload 5, 2) := by decide +kernel
theorem dL_law_365 : decode cL_law 365 = .ok (.ifCond .eq 805, 3) := by decide +kernel
theorem dL_law_368 : decode cL_law 368 = .ok (.aload_n 1, 1) := by decide +kernel
theorem dL_law_369 : decode cL_law 369 = .ok (.invokestatic 159, 3) := by decide +kernel
theorem dL_law_372 : decode cL_law 372 = .ok (.lstore 11, 2) := by decide +kernel
theorem dL_law_374 : decode cL_law 374 = .ok (.iload 4, 2) := by decide +kernel
theorem dL_law_376 : decode cL_law 376 = .ok (.ifCond .eq 16, 3) := by decide +kernel
theorem dL_law_379 : decode cL_law 379 = .ok (.aload_n 0, 1) := by decide +kernel
theorem dL_law_380 : decode cL_law 380 = .ok (.iload 9, 2) := by decide +kernel
theorem dL_law_382 : decode cL_law 382 = .ok (.iconst 1, 1) := by decide +kernel
theorem dL_law_383 : decode cL_law 383 = .ok (.iadd, 1) := by decide +kernel
theorem dL_law_384 : decode cL_law 384 = .ok (.bipush 40, 2) := by decide +kernel
theorem dL_law_386 : decode cL_law 386 = .ok (.invokestatic 146, 3) := by decide +kernel
theorem dL_law_389 : decode cL_law 389 = .ok (.ifCond .ne 8, 3) := by decide +kernel
theorem dL_law_392 : decode cL_law 392 = .ok (.iload 4, 2) := by decide +kernel
theorem dL_law_394 : decode cL_law 394 = .ok (.goto 13, 3) := by decide +kernel
theorem dL_law_397 : decode cL_law 397 = .ok (.aload_n 0, 1) := by decide +kernel
theorem dL_law_398 : decode cL_law 398 = .ok (.iload 9, 2) := by decide +kernel
theorem dL_law_400 : decode cL_law 400 = .ok (.iconst 1, 1) := by decide +kernel
theorem dL_law_401 : decode cL_law 401 = .ok (.iadd, 1) := by decide +kernel
theorem dL_law_402 : decode cL_law 402 = .ok (.iload 4, 2) := by decide +kernel
theorem dL_law_404 : decode cL_law 404 = .ok (.invokestatic 146, 3) := by decide +kernel
theorem dL_law_407 : decode cL_law 407 = .ok (.istore 13, 2) := by decide +kernel
theorem dL_law_409 : decode cL_law 409 = .ok (.aload_n 0, 1) := by decide +kernel
theorem dL_law_410 : decode cL_law 410 = .ok (.iload 9, 2) := by decide +kernel
theorem dL_law_412 : decode cL_law 412 = .ok (.iconst 2, 1) := by decide +kernel
theorem dL_law_413 : decode cL_law 413 = .ok (.iadd, 1) := by decide +kernel
theorem dL_law_414 : decode cL_law 414 = .ok (.sipush 1000, 3) := by decide +kernel
theorem dL_law_417 : decode cL_law 417 = .ok (.invokestatic 146, 3) := by decide +kernel
theorem dL_law_420 : decode cL_law 420 = .ok (.istore 14, 2) := by decide +kernel
theorem dL_law_422 : decode cL_law 422 = .ok (.aload_n 0, 1) := by decide +kernel
theorem dL_law_423 : decode cL_law 423 = .ok (.iload 9, 2) := by decide +kernel
theorem dL_law_425 : decode cL_law 425 = .ok (.bipush 20, 2) := by decide +kernel
theorem dL_law_427 : decode cL_law 427 = .ok (.invokestatic 146, 3) := by decide +kernel
theorem dL_law_430 : decode cL_law 430 = .ok (.istore 15, 2) := by decide +kernel
theorem dL_law_432 : decode cL_law 432 = .ok (.iconst 0, 1) := by decide +kernel
theorem dL_law_433 : decode cL_law 433 = .ok (.istore 16, 2) := by decide +kernel
theorem dL_law_435 : decode cL_law 435 = .ok (.iload 15, 2) := by decide +kernel
theorem dL_law_437 : decode cL_law 437 = .ok (.bipush 8, 2) := by decide +kernel
theorem dL_law_439 : decode cL_law 439 = .ok (.if_icmp .ge 72, 3) := by decide +kernel
theorem dL_law_442 : decode cL_law 442 = .ok (.aload_n 1, 1) := by decide +kernel
theorem dL_law_443 : decode cL_law 443 = .ok (.iload 13, 2) := by decide +kernel
theorem dL_law_445 : decode cL_law 445 = .ok (.invokestatic 163, 3) := by decide +kernel
theorem dL_law_448 : decode cL_law 448 = .ok (.istore 17, 2) := by decide +kernel
theorem dL_law_450 : decode cL_law 450 = .ok (.iload 17, 2) := by decide +kernel
theorem dL_law_452 : decode cL_law 452 = .ok (.bipush 110, 2) := by decide +kernel
theorem dL_law_454 : decode cL_law 454 = .ok (.if_icmp .eq 7, 3) := by decide +kernel
theorem dL_law_457 : decode cL_law 457 = .ok (.iconst 1, 1) := by decide +kernel
theorem dL_law_458 : decode cL_law 458 = .ok (.goto 4, 3) := by decide +kernel
theorem dL_law_461 : decode cL_law 461 = .ok (.iconst 0, 1) := by decide +kernel
theorem dL_law_462 : decode cL_law 462 = .ok (.istore 16, 2) := by decide +kernel
theorem dL_law_464 : decode cL_law 464 = .ok (.aload_n 1, 1) := by decide +kernel
theorem dL_law_465 : decode cL_law 465 = .ok (.iload 13, 2) := by decide +kernel
theorem dL_law_467 : decode cL_law 467 = .ok (.invokestatic 165, 3) := by decide +kernel
theorem dL_law_470 : decode cL_law 470 = .ok (.iload 17, 2) := by decide +kernel
theorem dL_law_472 : decode cL_law 472 = .ok (.if_icmp .ne 33, 3) := by decide +kernel
theorem dL_law_475 : decode cL_law 475 = .ok (.iload 16, 2) := by decide +kernel
theorem dL_law_477 : decode cL_law 477 = .ok (.ifCond .ne 24, 3) := by decide +kernel
theorem dL_law_480 : decode cL_law 480 = .ok (.aload_n 1, 1) := by decide +kernel
theorem dL_law_481 : decode cL_law 481 = .ok (.iload 13, 2) := by decide +kernel
theorem dL_law_483 : decode cL_law 483 = .ok (.invokestatic 167, 3) := by decide +kernel
theorem dL_law_486 : decode cL_law 486 = .ok (.iconst 1, 1) := by decide +kernel
theorem dL_law_487 : decode cL_law 487 = .ok (.if_icmp .ne 18, 3) := by decide +kernel
theorem dL_law_490 : decode cL_law 490 = .ok (.aload_n 1, 1) := by decide +kernel
theorem dL_law_491 : decode cL_law 491 = .ok (.iload 13, 2) := by decide +kernel
theorem dL_law_493 : decode cL_law 493 = .ok (.invokestatic 163, 3) := by decide +kernel
theorem dL_law_496 : decode cL_law 496 = .ok (.bipush 99, 2) := by decide +kernel
theorem dL_law_498 : decode cL_law 498 = .ok (.if_icmp .ne 7, 3) := by decide +kernel
theorem dL_law_501 : decode cL_law 501 = .ok (.iconst 1, 1) := by decide +kernel
theorem dL_law_502 : decode cL_law 502 = .ok (.goto 4, 3) := by decide +kernel
theorem dL_law_505 : decode cL_law 505 = .ok (.iconst 0, 1) := by decide +kernel
theorem dL_law_506 : decode cL_law 506 = .ok (.istore 5, 2) := by decide +kernel
theorem dL_law_508 : decode cL_law 508 = .ok (.goto 613, 3) := by decide +kernel
theorem dL_law_511 : decode cL_law 511 = .ok (.iload 15, 2) := by decide +kernel
theorem dL_law_513 : decode cL_law 513 = .ok (.bipush 10, 2) := by decide +kernel
theorem dL_law_515 : decode cL_law 515 = .ok (.if_icmp .ge 71, 3) := by decide +kernel
theorem dL_law_518 : decode cL_law 518 = .ok (.aload_n 1, 1) := by decide +kernel
theorem dL_law_519 : decode cL_law 519 = .ok (.iload 13, 2) := by decide +kernel
theorem dL_law_521 : decode cL_law 521 = .ok (.invokestatic 169, 3) := by decide +kernel
theorem dL_law_524 : decode cL_law 524 = .ok (.istore 17, 2) := by decide +kernel
theorem dL_law_526 : decode cL_law 526 = .ok (.iload 17, 2) := by decide +kernel
theorem dL_law_528 : decode cL_law 528 = .ok (.bipush 110, 2) := by decide +kernel
theorem dL_law_530 : decode cL_law 530 = .ok (.if_icmp .eq 7, 3) := by decide +kernel
theorem dL_law_533 : decode cL_law 533 = .ok (.iconst 1, 1) := by decide +kernel
theorem dL_law_534 : decode cL_law 534 = .ok (.goto 4, 3) := by decide +kernel
theorem dL_law_537 : decode cL_law 537 = .ok (.iconst 0, 1) := by decide +kernel
