theorem dJx00060_init_a7421_0 : decode cJx00060_init_a7421 0 = .ok (.aload_n 0, 1) := by decide +kernel
theorem dJx00060_init_a7421_1 : decode cJx00060_init_a7421 1 = .ok (.aload_n 1, 1) := by decide +kernel
theorem dJx00060_init_a7421_2 : decode cJx00060_init_a7421 2 = .ok (.invokespecial 7, 3) := by decide +kernel
theorem dJx00060_init_a7421_5 : decode cJx00060_init_a7421 5 = .ok (.return_, 1) := by decide +kernel
set_option maxRecDepth 20000 in
theorem ggL_addSource_X5_addSource : GoodIn wsL_addSource wsX5_addSource := goodIn_ca (goodIn_ca (goodIn_ca (goodIn_r _ [7, 8, 9, 10, 11, 12, 13, 14, 15, 16, 17, 18, 19, 20, 21, 6, 22, 23, 24, 25, 26, 27, 28, 29, 30, 31, 32, 33, 34, 35, 36, 37, 38, 39, 40, 41, 42, 43] (by decide +kernel) (by decide +kernel)) (goodIn_sub (fun _ h => List.mem_cons_of_mem _ (List.mem_append_left _ (List.mem_append_right _ h))) (by decide +kernel))) (goodIn_sub (fun _ h => List.mem_cons_of_mem _ (List.mem_append_left _ (List.mem_append_left _ (List.mem_append_right _ h)))) (by decide +kernel))) (goodIn_sub (fun _ h => List.mem_cons_of_mem _ (List.mem_append_right _ h)) (by decide +kernel))
set_option maxRecDepth 20000 in
theorem gL_addSource_X5_addSource : GoodIn wsL_addSource (wsV RL 7 RX5 yX5_addSource wsX5_addSource) := goodIn_app (goodIn_of _ (by decide +kernel)) ggL_addSource_X5_addSource
theorem dL_addSource_0 : decode cL_addSource 0 = .ok (.aload_n 2, 1) := by decide +kernel
theorem dL_addSource_1 : decode cL_addSource 1 = .ok (.iconst 0, 1) := by decide +kernel
theorem dL_addSource_2 : decode cL_addSource 2 = .ok (.aload_n 0, 1) := by decide +kernel
theorem dL_addSource_3 : decode cL_addSource 3 = .ok (.iload_n 1, 1) := by decide +kernel
theorem dL_addSource_4 : decode cL_addSource 4 = .ok (.invokevirtual 7, 3) := by decide +kernel
theorem dL_addSource_7 : decode cL_addSource 7 = .ok (.i2l, 1) := by decide +kernel
theorem dL_addSource_8 : decode cL_addSource 8 = .ok (.lastore, 1) := by decide +kernel
theorem dL_addSource_9 : decode cL_addSource 9 = .ok (.goto 9, 3) := by decide +kernel
theorem dL_addSource_12 : decode cL_addSource 12 = .ok (.astore_n 3, 1) := by decide +kernel
theorem dL_addSource_13 : decode cL_addSource 13 = .ok (.iconst 1, 1) := by decide +kernel
theorem dL_addSource_14 : decode cL_addSource 14 = .ok (.ireturn, 1) := by decide +kernel
theorem dL_addSource_15 : decode cL_addSource 15 = .ok (.astore_n 3, 1) := by decide +kernel
theorem dL_addSource_16 : decode cL_addSource 16 = .ok (.iconst 2, 1) := by decide +kernel
theorem dL_addSource_17 : decode cL_addSource 17 = .ok (.ireturn, 1) := by decide +kernel
theorem dL_addSource_18 : decode cL_addSource 18 = .ok (.iconst 0, 1) := by decide +kernel
theorem dL_addSource_19 : decode cL_addSource 19 = .ok (.ireturn, 1) := by decide +kernel
set_option maxRecDepth 20000 in
theorem ggL_addBus_X5_addBus : GoodIn wsL_addBus wsX5_addBus := goodIn_ca (goodIn_ca (goodIn_ca (goodIn_r _ [7, 8, 9, 10, 11, 12, 6, 13, 14, 15, 16, 17, 18, 19, 20, 21, 22, 23, 24, 25, 26, 27, 28, 29, 30, 31, 32, 33, 34, 35, 36, 37, 38, 39, 40, 41, 42, 43, 44, 45, 46] (by decide +kernel) (by decide +kernel)) (goodIn_sub (fun _ h => List.mem_cons_of_mem _ (List.mem_append_left _ (List.mem_append_right _ h))) (by decide +kernel))) (goodIn_sub (fun _ h => List.mem_cons_of_mem _ (List.mem_append_left _ (List.mem_append_left _ (List.mem_append_right _ h)))) (by decide +kernel))) (goodIn_sub (fun _ h => List.mem_cons_of_mem _ (List.mem_append_right _ h)) (by decide +kernel))
set_option maxRecDepth 20000 in
theorem gL_addBus_X5_addBus : GoodIn wsL_addBus (wsV RL 17 RX5 yX5_addBus wsX5_addBus) := goodIn_app (goodIn_of _ (by decide +kernel)) ggL_addBus_X5_addBus
theorem dL_addBus_0 : decode cL_addBus 0 = .ok (.aload_n 3, 1) := by decide +kernel
theorem dL_addBus_1 : decode cL_addBus 1 = .ok (.iconst 0, 1) := by decide +kernel
theorem dL_addBus_2 : decode cL_addBus 2 = .ok (.aload_n 0, 1) := by decide +kernel
theorem dL_addBus_3 : decode cL_addBus 3 = .ok (.iload_n 1, 1) := by decide +kernel
theorem dL_addBus_4 : decode cL_addBus 4 = .ok (.iload_n 2, 1) := by decide +kernel
theorem dL_addBus_5 : decode cL_addBus 5 = .ok (.invokevirtual 17, 3) := by decide +kernel
theorem dL_addBus_8 : decode cL_addBus 8 = .ok (.i2l, 1) := by decide +kernel
theorem dL_addBus_9 : decode cL_addBus 9 = .ok (.lastore, 1) := by decide +kernel
theorem dL_addBus_10 : decode cL_addBus 10 = .ok (.goto 11, 3) := by decide +kernel
theorem dL_addBus_13 : decode cL_addBus 13 = .ok (.astore 4, 2) := by decide +kernel
theorem dL_addBus_15 : decode cL_addBus 15 = .ok (.iconst 1, 1) := by decide +kernel
theorem dL_addBus_16 : decode cL_addBus 16 = .ok (.ireturn, 1) := by decide +kernel
theorem dL_addBus_17 : decode cL_addBus 17 = .ok (.astore 4, 2) := by decide +kernel
theorem dL_addBus_19 : decode cL_addBus 19 = .ok (.iconst 2, 1) := by decide +kernel
theorem dL_addBus_20 : decode cL_addBus 20 = .ok (.ireturn, 1) := by decide +kernel
theorem dL_addBus_21 : decode cL_addBus 21 = .ok (.iconst 0, 1) := by decide +kernel
theorem dL_addBus_22 : decode cL_addBus 22 = .ok (.ireturn, 1) := by decide +kernel
set_option maxRecDepth 20000 in
theorem ggL_addLine_X5_addLine : GoodIn wsL_addLine wsX5_addLine := goodIn_ca (goodIn_ca (goodIn_ca (goodIn_ca (goodIn_r _ [8, 9, 10, 11, 12, 13, 14, 15, 7, 16, 17, 18, 19, 20, 21, 22, 23, 24, 25, 26, 27, 28, 29, 30, 31, 32, 33, 34, 35, 36, 37, 38, 39, 40, 41, 42, 43, 44, 45, 46, 47, 48, 49, 50, 51, 52, 53, 54, 55, 56, 57, 58, 59, 60, 61, 62, 63, 64, 65, 66, 67, 68, 69, 70, 71, 72, 73, 74] (by decide +kernel) (by decide +kernel)) (goodIn_sub (fun _ h => List.mem_cons_of_mem _ (List.mem_append_left _ (List.mem_append_left _ (List.mem_append_right _ h)))) (by decide +kernel))) (goodIn_sub (fun _ h => List.mem_cons_of_mem _ (List.mem_append_left _ (List.mem_append_right _ h))) (by decide +kernel))) (goodIn_sub (fun _ h => List.mem_cons_of_mem _ (List.mem_append_left _ (List.mem_append_left _ (List.mem_append_left _ (List.mem_append_right _ h))))) (by decide +kernel))) (goodIn_sub (fun _ h => List.mem_cons_of_mem _ (List.mem_append_right _ h)) (by decide +kernel))
set_option maxRecDepth 20000 in
theorem gL_addLine_X5_addLine : GoodIn wsL_addLine (wsV RL 21 RX5 yX5_addLine wsX5_addLine) := goodIn_app (goodIn_of _ (by decide +kernel)) ggL_addLine_X5_addLine
theorem dL_addLine_0 : decode cL_addLine 0 = .ok (.aload 5, 2) := by decide +kernel
theorem dL_addLine_2 : decode cL_addLine 2 = .ok (.iconst 0, 1) := by decide +kernel
theorem dL_addLine_3 : decode cL_addLine 3 = .ok (.aload_n 0, 1) := by decide +kernel
theorem dL_addLine_4 : decode cL_addLine 4 = .ok (.iload_n 1, 1) := by decide +kernel
theorem dL_addLine_5 : decode cL_addLine 5 = .ok (.iload_n 2, 1) := by decide +kernel
theorem dL_addLine_6 : decode cL_addLine 6 = .ok (.iload_n 3, 1) := by decide +kernel
theorem dL_addLine_7 : decode cL_addLine 7 = .ok (.iload 4, 2) := by decide +kernel
theorem dL_addLine_9 : decode cL_addLine 9 = .ok (.invokevirtual 21, 3) := by decide +kernel
theorem dL_addLine_12 : decode cL_addLine 12 = .ok (.i2l, 1) := by decide +kernel
theorem dL_addLine_13 : decode cL_addLine 13 = .ok (.lastore, 1) := by decide +kernel
theorem dL_addLine_14 : decode cL_addLine 14 = .ok (.goto 15, 3) := by decide +kernel
theorem dL_addLine_17 : decode cL_addLine 17 = .ok (.astore 6, 2) := by decide +kernel
theorem dL_addLine_19 : decode cL_addLine 19 = .ok (.iconst 1, 1) := by decide +kernel
theorem dL_addLine_20 : decode cL_addLine 20 = .ok (.ireturn, 1) := by decide +kernel
theorem dL_addLine_21 : decode cL_addLine 21 = .ok (.astore 6, 2) := by decide +kernel
theorem dL_addLine_23 : decode cL_addLine 23 = .ok (.iconst 2, 1) := by decide +kernel
theorem dL_addLine_24 : decode cL_addLine 24 = .ok (.ireturn, 1) := by decide +kernel
theorem dL_addLine_25 : decode cL_addLine 25 = .ok (.astore 6, 2) := by decide +kernel
theorem dL_addLine_27 : decode cL_addLine 27 = .ok (.iconst 3, 1) := by decide +kernel
theorem dL_addLine_28 : decode cL_addLine 28 = .ok (.ireturn, 1) := by decide +kernel
theorem dL_addLine_29 : decode cL_addLine 29 = .ok (.iconst 0, 1) := by decide +kernel
theorem dL_addLine_30 : decode cL_addLine 30 = .ok (.ireturn, 1) := by decide +kernel
set_option maxRecDepth 20000 in
theorem ggL_setLoad_X5_setLoad : GoodIn wsL_setLoad wsX5_setLoad := goodIn_ca (goodIn_ca (goodIn_ca (goodIn_ca (goodIn_ca (goodIn_r _ [9, 10, 11, 12, 13, 14, 15, 16, 8, 17, 18, 19, 20, 21, 22, 23, 24, 25, 26, 27, 28, 29, 30, 31, 32, 33, 34, 35, 36, 37, 38, 39, 40, 41, 42, 43, 44, 45, 46, 47, 48, 49, 50, 51, 52, 53, 54, 55, 56, 57, 58, 59, 60, 61, 62, 63, 64, 65, 66, 67, 68, 69, 70, 71, 72, 73, 74, 75, 76, 77, 78, 79, 80, 81, 82, 83, 84, 85, 86, 87, 88, 89, 90, 91, 92, 93, 94, 95, 96, 97, 98, 99, 100, 101, 102, 103, 104, 105, 106, 107, 108, 109, 110, 111, 112, 113, 114, 115, 116, 117, 118, 119, 120, 121, 122, 123, 124, 125, 126, 127, 128, 129, 130, 131, 132, 133, 134, 135, 136, 137, 138, 139, 140, 141, 142, 143, 144, 145, 146, 147] (by decide +kernel) (by decide +kernel)) (goodIn_sub (fun _ h => List.mem_cons_of_mem _ (List.mem_append_left _ (List.mem_append_left _ (List.mem_append_left _ (List.mem_append_right _ h))))) (by decide +kernel))) (goodIn_sub (fun _ h => List.mem_cons_of_mem _ (List.mem_append_left _ (List.mem_append_left _ (List.mem_append_right _ h)))) (by decide +kernel))) (goodIn_sub (fun _ h => List.mem_cons_of_mem _ (List.mem_append_left _ (List.mem_append_right _ h))) (by decide +kernel))) (goodIn_sub (fun _ h => List.mem_cons_of_mem _ (List.mem_append_right _ h)) (by decide +kernel))) (goodIn_sub (fun _ h => List.mem_cons_of_mem _ (List.mem_append_left _ (List.mem_append_left _ (List.mem_append_left _ (List.mem_append_left _ (List.mem_append_right _ h)))))) (by decide +kernel))
set_option maxRecDepth 20000 in
theorem gL_setLoad_X5_setLoad : GoodIn wsL_setLoad (wsV RL 27 RX5 yX5_setLoad wsX5_setLoad) := goodIn_app (goodIn_of _ (by decide +kernel)) ggL_setLoad_X5_setLoad
theorem dL_setLoad_0 : decode cL_setLoad 0 = .ok (.aload_n 3, 1) := by decide +kernel
theorem dL_setLoad_1 : decode cL_setLoad 1 = .ok (.iconst 0, 1) := by decide +kernel
theorem dL_setLoad_2 : decode cL_setLoad 2 = .ok (.aload_n 0, 1) := by decide +kernel
theorem dL_setLoad_3 : decode cL_setLoad 3 = .ok (.iload_n 1, 1) := by decide +kernel
theorem dL_setLoad_4 : decode cL_setLoad 4 = .ok (.iload_n 2, 1) := by decide +kernel
theorem dL_setLoad_5 : decode cL_setLoad 5 = .ok (.invokevirtual 27, 3) := by decide +kernel
theorem dL_setLoad_8 : decode cL_setLoad 8 = .ok (.i2l, 1) := by decide +kernel
theorem dL_setLoad_9 : decode cL_setLoad 9 = .ok (.lastore, 1) := by decide +kernel
theorem dL_setLoad_10 : decode cL_setLoad 10 = .ok (.goto 19, 3) := by decide +kernel
theorem dL_setLoad_13 : decode cL_setLoad 13 = .ok (.astore 4, 2) := by decide +kernel
theorem dL_setLoad_15 : decode cL_setLoad 15 = .ok (.iconst 1, 1) := by decide +kernel
theorem dL_setLoad_16 : decode cL_setLoad 16 = .ok (.ireturn, 1) := by decide +kernel
theorem dL_setLoad_17 : decode cL_setLoad 17 = .ok (.astore 4, 2) := by decide +kernel
theorem dL_setLoad_19 : decode cL_setLoad 19 = .ok (.iconst 2, 1) := by decide +kernel
theorem dL_setLoad_20 : decode cL_setLoad 20 = .ok (.ireturn, 1) := by decide +kernel
theorem dL_setLoad_21 : decode cL_setLoad 21 = .ok (.astore 4, 2) := by decide +kernel
theorem dL_setLoad_23 : decode cL_setLoad 23 = .ok (.iconst 3, 1) := by decide +kernel
theorem dL_setLoad_24 : decode cL_setLoad 24 = .ok (.ireturn, 1) := by decide +kernel
theorem dL_setLoad_25 : decode cL_setLoad 25 = .ok (.astore 4, 2) := by decide +kernel
theorem dL_setLoad_27 : decode cL_setLoad 27 = .ok (.iconst 4, 1) := by decide +kernel
theorem dL_setLoad_28 : decode cL_setLoad 28 = .ok (.ireturn, 1) := by decide +kernel
theorem dL_setLoad_29 : decode cL_setLoad 29 = .ok (.iconst 0, 1) := by decide +kernel
theorem dL_setLoad_30 : decode cL_setLoad 30 = .ok (.ireturn, 1) := by decide +kernel
set_option maxRecDepth 20000 in
theorem ggL_setRelay_X5_setRelay : GoodIn wsL_setRelay wsX5_setRelay := goodIn_ca (goodIn_ca (goodIn_ca (goodIn_ca (goodIn_r _ [8, 9, 10, 11, 12, 13, 14, 7, 15, 16, 17, 18, 19, 20, 21, 22, 23, 24, 25, 26, 27, 28, 29, 30, 31, 32, 33, 34, 35, 36, 37, 38, 39, 40, 41, 42, 43, 44, 45, 46, 47, 48, 49, 50, 51, 52, 53, 54, 55, 56, 57, 58, 59, 60, 61, 62, 63, 64, 65, 66, 67, 68] (by decide +kernel) (by decide +kernel)) (goodIn_sub (fun _ h => List.mem_cons_of_mem _ (List.mem_append_left _ (List.mem_append_left _ (List.mem_append_right _ h)))) (by decide +kernel))) (goodIn_sub (fun _ h => List.mem_cons_of_mem _ (List.mem_append_left _ (List.mem_append_right _ h))) (by decide +kernel))) (goodIn_sub (fun _ h => List.mem_cons_of_mem _ (List.mem_append_right _ h)) (by decide +kernel))) (goodIn_sub (fun _ h => List.mem_cons_of_mem _ (List.mem_append_left _ (List.mem_append_left _ (List.mem_append_left _ (List.mem_append_right _ h))))) (by decide +kernel))
set_option maxRecDepth 20000 in
theorem gL_setRelay_X5_setRelay : GoodIn wsL_setRelay (wsV RL 32 RX5 yX5_setRelay wsX5_setRelay) := goodIn_app (goodIn_of _ (by decide +kernel)) ggL_setRelay_X5_setRelay
theorem dL_setRelay_0 : decode cL_setRelay 0 = .ok (.aload 5, 2) := by decide +kernel
theorem dL_setRelay_2 : decode cL_setRelay 2 = .ok (.iconst 0, 1) := by decide +kernel
theorem dL_setRelay_3 : decode cL_setRelay 3 = .ok (.aload_n 0, 1) := by decide +kernel
theorem dL_setRelay_4 : decode cL_setRelay 4 = .ok (.iload_n 1, 1) := by decide +kernel
theorem dL_setRelay_5 : decode cL_setRelay 5 = .ok (.iload_n 2, 1) := by decide +kernel
theorem dL_setRelay_6 : decode cL_setRelay 6 = .ok (.iload_n 3, 1) := by decide +kernel
theorem dL_setRelay_7 : decode cL_setRelay 7 = .ok (.iload 4, 2) := by decide +kernel
theorem dL_setRelay_9 : decode cL_setRelay 9 = .ok (.invokevirtual 32, 3) := by decide +kernel
theorem dL_setRelay_12 : decode cL_setRelay 12 = .ok (.i2l, 1) := by decide +kernel
theorem dL_setRelay_13 : decode cL_setRelay 13 = .ok (.lastore, 1) := by decide +kernel
theorem dL_setRelay_14 : decode cL_setRelay 14 = .ok (.goto 15, 3) := by decide +kernel
theorem dL_setRelay_17 : decode cL_setRelay 17 = .ok (.astore 6, 2) := by decide +kernel
theorem dL_setRelay_19 : decode cL_setRelay 19 = .ok (.iconst 1, 1) := by decide +kernel
theorem dL_setRelay_20 : decode cL_setRelay 20 = .ok (.ireturn, 1) := by decide +kernel
theorem dL_setRelay_21 : decode cL_setRelay 21 = .ok (.astore 6, 2) := by decide +kernel
theorem dL_setRelay_23 : decode cL_setRelay 23 = .ok (.iconst 2, 1) := by decide +kernel
theorem dL_setRelay_24 : decode cL_setRelay 24 = .ok (.ireturn, 1) := by decide +kernel
theorem dL_setRelay_25 : decode cL_setRelay 25 = .ok (.astore 6, 2) := by decide +kernel
theorem dL_setRelay_27 : decode cL_setRelay 27 = .ok (.iconst 3, 1) := by decide +kernel
theorem dL_setRelay_28 : decode cL_setRelay 28 = .ok (.ireturn, 1) := by decide +kernel
theorem dL_setRelay_29 : decode cL_setRelay 29 = .ok (.iconst 0, 1) := by decide +kernel
theorem dL_setRelay_30 : decode cL_setRelay 30 = .ok (.ireturn, 1) := by decide +kernel
set_option maxRecDepth 20000 in
theorem ggL_close_X5_close : GoodIn wsL_close wsX5_close := goodIn_ca (goodIn_ca (goodIn_r _ [6, 7, 8, 9, 10, 5, 11, 12, 13, 14, 15, 16, 17, 18, 19, 20, 21, 22, 23, 24, 25, 26, 27, 28, 29, 30, 31, 32, 33, 34, 35, 36, 37, 38, 39, 40, 41, 42, 43, 44, 45, 46, 47, 48, 49, 50, 51, 52, 53, 54, 55, 56, 57, 58, 59, 60, 61, 62, 63, 64, 65, 66, 67, 68, 69, 70, 71, 72, 73, 74, 75, 76, 77, 78, 79, 80, 81, 82, 83, 84, 85, 86, 87, 88, 89, 90, 91, 92, 93, 94, 95, 96, 97, 98, 99, 100, 101, 102, 103, 104, 105, 106, 107, 108, 109, 110, 111, 112, 113, 114, 115, 116, 117, 118, 119, 120, 121, 122, 123, 124, 125, 126, 127, 128, 129, 130, 131, 132, 133, 134, 135, 136, 137, 138, 139, 140, 141, 142, 143] (by decide +kernel) (by decide +kernel)) (goodIn_sub (fun _ h => List.mem_cons_of_mem _ (List.mem_append_right _ h)) (by decide +kernel))) (goodIn_sub (fun _ h => List.mem_cons_of_mem _ (List.mem_append_left _ (List.mem_append_right _ h))) (by decide +kernel))
set_option maxRecDepth 20000 in
theorem gL_close_X5_close : GoodIn wsL_close (wsV RL 36 RX5 yX5_close wsX5_close) := goodIn_app (goodIn_of _ (by decide +kernel)) ggL_close_X5_close
theorem dL_close_0 : decode cL_close 0 = .ok (.aload_n 2, 1) := by decide +kernel
theorem dL_close_1 : decode cL_close 1 = .ok (.iconst 0, 1) := by decide +kernel
theorem dL_close_2 : decode cL_close 2 = .ok (.aload_n 0, 1) := by decide +kernel
theorem dL_close_3 : decode cL_close 3 = .ok (.iload_n 1, 1) := by decide +kernel
theorem dL_close_4 : decode cL_close 4 = .ok (.invokevirtual 36, 3) := by decide +kernel
theorem dL_close_7 : decode cL_close 7 = .ok (.i2l, 1) := by decide +kernel
theorem dL_close_8 : decode cL_close 8 = .ok (.lastore, 1) := by decide +kernel
theorem dL_close_9 : decode cL_close 9 = .ok (.goto 6, 3) := by decide +kernel
theorem dL_close_12 : decode cL_close 12 = .ok (.astore_n 3, 1) := by decide +kernel
theorem dL_close_13 : decode cL_close 13 = .ok (.iconst 1, 1) := by decide +kernel
theorem dL_close_14 : decode cL_close 14 = .ok (.ireturn, 1) := by decide +kernel
theorem dL_close_15 : decode cL_close 15 = .ok (.iconst 0, 1) := by decide +kernel
theorem dL_close_16 : decode cL_close 16 = .ok (.ireturn, 1) := by decide +kernel
set_option maxRecDepth 20000 in
theorem ggL_open_X5_open : GoodIn wsL_open wsX5_open := goodIn_ca (goodIn_ca (goodIn_r _ [6, 7, 8, 9, 10, 5, 11, 12, 13, 14, 15, 16, 17, 18, 19, 20, 21, 22, 23, 24, 25, 26, 27, 28, 29, 30, 31, 32, 33, 34, 35, 36, 37, 38, 39, 40, 41, 42, 43, 44, 45, 46, 47, 48, 49, 50, 51, 52, 53, 54, 55, 56, 57, 58, 59, 60, 61, 62, 63, 64, 65, 66, 67, 68, 69, 70, 71, 72, 73, 74, 75, 76, 77, 78, 79, 80, 81, 82, 83, 84, 85, 86, 87, 88, 89] (by decide +kernel) (by decide +kernel)) (goodIn_sub (fun _ h => List.mem_cons_of_mem _ (List.mem_append_right _ h)) (by decide +kernel))) (goodIn_sub (fun _ h => List.mem_cons_of_mem _ (List.mem_append_left _ (List.mem_append_right _ h))) (by decide +kernel))
set_option maxRecDepth 20000 in
theorem gL_open_X5_open : GoodIn wsL_open (wsV RL 40 RX5 yX5_open wsX5_open) := goodIn_app (goodIn_of _ (by decide +kernel)) ggL_open_X5_open
theorem dL_open_0 : decode cL_open 0 = .ok (.aload_n 2, 1) := by decide +kernel
theorem dL_open_1 : decode cL_open 1 = .ok (.iconst 0, 1) := by decide +kernel
theorem dL_open_2 : decode cL_open 2 = .ok (.aload_n 0, 1) := by decide +kernel
theorem dL_open_3 : decode cL_open 3 = .ok (.iload_n 1, 1) := by decide +kernel
theorem dL_open_4 : decode cL_open 4 = .ok (.invokevirtual 40, 3) := by decide +kernel
theorem dL_open_7 : decode cL_open 7 = .ok (.i2l, 1) := by decide +kernel
theorem dL_open_8 : decode cL_open 8 = .ok (.lastore, 1) := by decide +kernel
theorem dL_open_9 : decode cL_open 9 = .ok (.goto 6, 3) := by decide +kernel
theorem dL_open_12 : decode cL_open 12 = .ok (.astore_n 3, 1) := by decide +kernel
theorem dL_open_13 : decode cL_open 13 = .ok (.iconst 1, 1) := by decide +kernel
theorem dL_open_14 : decode cL_open 14 = .ok (.ireturn, 1) := by decide +kernel
theorem dL_open_15 : decode cL_open 15 = .ok (.iconst 0, 1) := by decide +kernel
theorem dL_open_16 : decode cL_open 16 = .ok (.ireturn, 1) := by decide +kernel
set_option maxRecDepth 20000 in
theorem ggL_canClose_X5_canClose : GoodIn wsL_canClose wsX5_canClose := goodIn_ca (goodIn_ca (goodIn_r _ [6, 7, 8, 9, 10, 5, 11, 12, 13, 14, 15, 16, 17, 18, 19, 20, 21, 22, 23, 24, 25, 26, 27, 28, 29, 30, 31, 32, 33, 34, 35, 36, 37, 38, 39, 40, 41, 42, 43, 44, 45, 46, 47, 48, 49, 50, 51, 52, 53, 54, 55, 56, 57, 58, 59, 60, 61, 62, 63, 64, 65, 66, 67, 68, 69, 70, 71, 72, 73, 74, 75, 76, 77, 78, 79, 80, 81, 82, 83, 84, 85, 86, 87, 88, 89, 90, 91, 92, 93, 94, 95, 96, 97, 98, 99, 100, 101, 102, 103, 104, 105, 106, 107, 108, 109, 110, 111, 112, 113, 114, 115, 116, 117, 118, 119, 120, 121, 122, 123, 124, 125, 126, 127, 128, 129, 130, 131, 132, 133, 134, 135, 136, 137] (by decide +kernel) (by decide +kernel)) (goodIn_sub (fun _ h => List.mem_cons_of_mem _ (List.mem_append_right _ h)) (by decide +kernel))) (goodIn_sub (fun _ h => List.mem_cons_of_mem _ (List.mem_append_left _ (List.mem_append_right _ h))) (by decide +kernel))
set_option maxRecDepth 20000 in
theorem gL_canClose_X5_canClose : GoodIn wsL_canClose (wsV RL 43 RX5 yX5_canClose wsX5_canClose) := goodIn_app (goodIn_of _ (by decide +kernel)) ggL_canClose_X5_canClose
theorem dL_canClose_0 : decode cL_canClose 0 = .ok (.aload_n 2, 1) := by decide +kernel
theorem dL_canClose_1 : decode cL_canClose 1 = .ok (.iconst 0, 1) := by decide +kernel
theorem dL_canClose_2 : decode cL_canClose 2 = .ok (.aload_n 0, 1) := by decide +kernel
theorem dL_canClose_3 : decode cL_canClose 3 = .ok (.iload_n 1, 1) := by decide +kernel
theorem dL_canClose_4 : decode cL_canClose 4 = .ok (.invokevirtual 43, 3) := by decide +kernel
theorem dL_canClose_7 : decode cL_canClose 7 = .ok (.i2l, 1) := by decide +kernel
theorem dL_canClose_8 : decode cL_canClose 8 = .ok (.lastore, 1) := by decide +kernel
theorem dL_canClose_9 : decode cL_canClose 9 = .ok (.goto 6, 3) := by decide +kernel
theorem dL_canClose_12 : decode cL_canClose 12 = .ok (.astore_n 3, 1) := by decide +kernel
theorem dL_canClose_13 : decode cL_canClose 13 = .ok (.iconst 1, 1) := by decide +kernel
theorem dL_canClose_14 : decode cL_canClose 14 = .ok (.ireturn, 1) := by decide +kernel
theorem dL_canClose_15 : decode cL_canClose 15 = .ok (.iconst 0, 1) := by decide +kernel
theorem dL_canClose_16 : decode cL_canClose 16 = .ok (.ireturn, 1) := by decide +kernel
set_option maxRecDepth 20000 in
theorem ggL_canOpen_X5_canOpen : GoodIn wsL_canOpen wsX5_canOpen := goodIn_ca (goodIn_ca (goodIn_r _ [6, 7, 8, 9, 10, 5, 11, 12, 13, 14, 15, 16, 17, 18, 19, 20, 21, 22, 23, 24, 25, 26, 27, 28, 29, 30, 31, 32, 33, 34, 35, 36, 37, 38, 39, 40, 41, 42, 43, 44, 45, 46, 47, 48, 49, 50, 51, 52, 53, 54, 55, 56, 57, 58, 59, 60, 61, 62, 63, 64, 65, 66, 67, 68, 69, 70, 71, 72, 73, 74, 75, 76, 77, 78, 79, 80, 81, 82] (by decide +kernel) (by decide +kernel)) (goodIn_sub (fun _ h => List.mem_cons_of_mem _ (List.mem_append_right _ h)) (by decide +kernel))) (goodIn_sub (fun _ h => List.mem_cons_of_mem _ (List.mem_append_left _ (List.mem_append_right _ h))) (by decide +kernel))
set_option maxRecDepth 20000 in
theorem gL_canOpen_X5_canOpen : GoodIn wsL_canOpen (wsV RL 46 RX5 yX5_canOpen wsX5_canOpen) := goodIn_app (goodIn_of _ (by decide +kernel)) ggL_canOpen_X5_canOpen
theorem dL_canOpen_0 : decode cL_canOpen 0 = .ok (.aload_n 2, 1) := by decide +kernel
theorem dL_canOpen_1 : decode cL_canOpen 1 = .ok (.iconst 0, 1) := by decide +kernel
theorem dL_canOpen_2 : decode cL_canOpen 2 = .ok (.aload_n 0, 1) := by decide +kernel
theorem dL_canOpen_3 : decode cL_canOpen 3 = .ok (.iload_n 1, 1) := by decide +kernel
theorem dL_canOpen_4 : decode cL_canOpen 4 = .ok (.invokevirtual 46, 3) := by decide +kernel
theorem dL_canOpen_7 : decode cL_canOpen 7 = .ok (.i2l, 1) := by decide +kernel
theorem dL_canOpen_8 : decode cL_canOpen 8 = .ok (.lastore, 1) := by decide +kernel
theorem dL_canOpen_9 : decode cL_canOpen 9 = .ok (.goto 6, 3) := by decide +kernel
theorem dL_canOpen_12 : decode cL_canOpen 12 = .ok (.astore_n 3, 1) := by decide +kernel
theorem dL_canOpen_13 : decode cL_canOpen 13 = .ok (.iconst 1, 1) := by decide +kernel
theorem dL_canOpen_14 : decode cL_canOpen 14 = .ok (.ireturn, 1) := by decide +kernel
theorem dL_canOpen_15 : decode cL_canOpen 15 = .ok (.iconst 0, 1) := by decide +kernel
theorem dL_canOpen_16 : decode cL_canOpen 16 = .ok (.ireturn, 1) := by decide +kernel
set_option maxRecDepth 20000 in
theorem ggL_overloaded_X5_overloaded : GoodIn wsL_overloaded wsX5_overloaded := goodIn_ca (goodIn_ca (goodIn_ca (goodIn_r _ [7, 8, 9, 10, 11, 12, 13, 14, 6, 15, 16, 17, 18, 19, 20, 21, 22, 23, 24, 25, 26, 27, 28, 29, 30, 31, 32, 33, 34, 35, 36, 37, 38, 39, 40, 41, 42, 43, 44, 45, 46, 47, 48, 49, 50, 51, 52, 53, 54, 55, 56, 57, 58, 59, 60, 61, 62, 63, 64, 65, 66, 67, 68, 69, 70, 71, 72, 73, 74, 75, 76, 77, 78, 79, 80, 81, 82, 83, 84, 85, 86, 87, 88, 89, 90, 91, 92, 93, 94, 95, 96, 97, 98, 99, 100, 101, 102, 103, 104, 105, 106, 107, 108, 109, 110, 111, 112, 113, 114, 115, 116, 117, 118, 119, 120, 121, 122, 123, 124, 125, 126, 127, 128, 129, 130, 131, 132, 133, 134, 135, 136, 137, 138, 139, 140, 141, 142, 143] (by decide +kernel) (by decide +kernel)) (goodIn_sub (fun _ h => List.mem_cons_of_mem _ (List.mem_append_left _ (List.mem_append_right _ h))) (by decide +kernel))) (goodIn_sub (fun _ h => List.mem_cons_of_mem _ (List.mem_append_right _ h)) (by decide +kernel))) (goodIn_sub (fun _ h => List.mem_cons_of_mem _ (List.mem_append_left _ (List.mem_append_left _ (List.mem_append_right _ h)))) (by decide +kernel))
set_option maxRecDepth 20000 in
theorem gL_overloaded_X5_overloaded : GoodIn wsL_overloaded (wsV RL 49 RX5 yX5_overloaded wsX5_overloaded) := goodIn_app (goodIn_of _ (by decide +kernel)) ggL_overloaded_X5_overloaded
theorem dL_overloaded_0 : decode cL_overloaded 0 = .ok (.aload_n 2, 1) := by decide +kernel
theorem dL_overloaded_1 : decode cL_overloaded 1 = .ok (.iconst 0, 1) := by decide +kernel
theorem dL_overloaded_2 : decode cL_overloaded 2 = .ok (.aload_n 0, 1) := by decide +kernel
theorem dL_overloaded_3 : decode cL_overloaded 3 = .ok (.iload_n 1, 1) := by decide +kernel
theorem dL_overloaded_4 : decode cL_overloaded 4 = .ok (.invokevirtual 49, 3) := by decide +kernel
theorem dL_overloaded_7 : decode cL_overloaded 7 = .ok (.i2l, 1) := by decide +kernel
theorem dL_overloaded_8 : decode cL_overloaded 8 = .ok (.lastore, 1) := by decide +kernel
theorem dL_overloaded_9 : decode cL_overloaded 9 = .ok (.goto 9, 3) := by decide +kernel
theorem dL_overloaded_12 : decode cL_overloaded 12 = .ok (.astore_n 3, 1) := by decide +kernel
theorem dL_overloaded_13 : decode cL_overloaded 13 = .ok (.iconst 1, 1) := by decide +kernel
theorem dL_overloaded_14 : decode cL_overloaded 14 = .ok (.ireturn, 1) := by decide +kernel
theorem dL_overloaded_15 : decode cL_overloaded 15 = .ok (.astore_n 3, 1) := by decide +kernel
theorem dL_overloaded_16 : decode cL_overloaded 16 = .ok (.iconst 2, 1) := by decide +kernel
theorem dL_overloaded_17 : decode cL_overloaded 17 = .ok (.ireturn, 1) := by decide +kernel
theorem dL_overloaded_18 : decode cL_overloaded 18 = .ok (.iconst 0, 1) := by decide +kernel
theorem dL_overloaded_19 : decode cL_overloaded 19 = .ok (.ireturn, 1) := by decide +kernel
set_option maxRecDepth 20000 in
theorem ggL_fault_X5_fault : GoodIn wsL_fault wsX5_fault := goodIn_ca (goodIn_ca (goodIn_ca (goodIn_ca (goodIn_r _ [7, 8, 9, 10, 11, 12, 13, 14, 15, 16, 6, 17, 18, 19, 20, 21, 22, 23, 24, 25, 26, 27, 28, 29, 30, 31, 32, 33, 34, 35, 36, 37, 38, 39, 40, 41, 42, 43, 44, 45, 46, 47, 48, 49, 50, 51, 52, 53, 54, 55, 56, 57, 58, 59, 60, 61, 62, 63, 64, 65, 66, 67, 68, 69, 70, 71, 72, 73, 74, 75, 76, 77, 78, 79, 80, 81, 82, 83, 84, 85, 86, 87, 88, 89, 90, 91, 92, 93, 94, 95, 96, 97, 98, 99, 100, 101, 102, 103, 104, 105, 106, 107, 108, 109, 110, 111, 112, 113, 114, 115, 116, 117, 118, 119, 120, 121, 122, 123, 124, 125, 126, 127, 128, 129, 130, 131, 132, 133, 134, 135, 136, 137, 138, 139, 140, 141, 142, 143, 144, 145, 146, 147, 148, 149, 150, 151, 152, 153, 154] (by decide +kernel) (by decide +kernel)) (goodIn_sub (fun _ h => List.mem_cons_of_mem _ (List.mem_append_left _ (List.mem_append_left _ (List.mem_append_right _ h)))) (by decide +kernel))) (goodIn_sub (fun _ h => List.mem_cons_of_mem _ (List.mem_append_left _ (List.mem_append_right _ h))) (by decide +kernel))) (goodIn_sub (fun _ h => List.mem_cons_of_mem _ (List.mem_append_left _ (List.mem_append_left _ (List.mem_append_left _ (List.mem_append_right _ h))))) (by decide +kernel))) (goodIn_sub (fun _ h => List.mem_cons_of_mem _ (List.mem_append_right _ h)) (by decide +kernel))
set_option maxRecDepth 20000 in
theorem gL_fault_X5_fault : GoodIn wsL_fault (wsV RL 52 RX5 yX5_fault wsX5_fault) := goodIn_app (goodIn_of _ (by decide +kernel)) ggL_fault_X5_fault
theorem dL_fault_0 : decode cL_fault 0 = .ok (.aload_n 2, 1) := by decide +kernel
theorem dL_fault_1 : decode cL_fault 1 = .ok (.iconst 0, 1) := by decide +kernel
theorem dL_fault_2 : decode cL_fault 2 = .ok (.aload_n 0, 1) := by decide +kernel
theorem dL_fault_3 : decode cL_fault 3 = .ok (.iload_n 1, 1) := by decide +kernel
theorem dL_fault_4 : decode cL_fault 4 = .ok (.invokevirtual 52, 3) := by decide +kernel
theorem dL_fault_7 : decode cL_fault 7 = .ok (.i2l, 1) := by decide +kernel
theorem dL_fault_8 : decode cL_fault 8 = .ok (.lastore, 1) := by decide +kernel
theorem dL_fault_9 : decode cL_fault 9 = .ok (.goto 9, 3) := by decide +kernel
theorem dL_fault_12 : decode cL_fault 12 = .ok (.astore_n 3, 1) := by decide +kernel
theorem dL_fault_13 : decode cL_fault 13 = .ok (.iconst 1, 1) := by decide +kernel
theorem dL_fault_14 : decode cL_fault 14 = .ok (.ireturn, 1) := by decide +kernel
theorem dL_fault_15 : decode cL_fault 15 = .ok (.astore_n 3, 1) := by decide +kernel
theorem dL_fault_16 : decode cL_fault 16 = .ok (.iconst 2, 1) := by decide +kernel
theorem dL_fault_17 : decode cL_fault 17 = .ok (.ireturn, 1) := by decide +kernel
theorem dL_fault_18 : decode cL_fault 18 = .ok (.iconst 0, 1) := by decide +kernel
theorem dL_fault_19 : decode cL_fault 19 = .ok (.ireturn, 1) := by decide +kernel
set_option maxRecDepth 20000 in
theorem ggL_repair_X5_repair : GoodIn wsL_repair wsX5_repair := goodIn_ca (goodIn_ca (goodIn_r _ [7, 8, 9, 10, 11, 12, 13, 6, 14, 15, 16, 17, 18, 19, 20, 21, 22, 23, 24, 25, 26, 27, 28, 29, 30, 31, 32, 33, 34, 35, 36, 37, 38, 39, 40, 41, 42, 43, 44, 45, 46, 47, 48, 49, 50] (by decide +kernel) (by decide +kernel)) (goodIn_sub (fun _ h => List.mem_cons_of_mem _ (List.mem_append_left _ (List.mem_append_right _ h))) (by decide +kernel))) (goodIn_sub (fun _ h => List.mem_cons_of_mem _ (List.mem_append_right _ h)) (by decide +kernel))
set_option maxRecDepth 20000 in
theorem gL_repair_X5_repair : GoodIn wsL_repair (wsV RL 55 RX5 yX5_repair wsX5_repair) := goodIn_app (goodIn_of _ (by decide +kernel)) ggL_repair_X5_repair
theorem dL_repair_0 : decode cL_repair 0 = .ok (.aload_n 2, 1) := by decide +kernel
theorem dL_repair_1 : decode cL_repair 1 = .ok (.iconst 0, 1) := by decide +kernel
theorem dL_repair_2 : decode cL_repair 2 = .ok (.aload_n 0, 1) := by decide +kernel
theorem dL_repair_3 : decode cL_repair 3 = .ok (.iload_n 1, 1) := by decide +kernel
theorem dL_repair_4 : decode cL_repair 4 = .ok (.invokevirtual 55, 3) := by decide +kernel
theorem dL_repair_7 : decode cL_repair 7 = .ok (.ifCond .eq 7, 3) := by decide +kernel
theorem dL_repair_10 : decode cL_repair 10 = .ok (.lconst 1, 1) := by decide +kernel
theorem dL_repair_11 : decode cL_repair 11 = .ok (.goto 4, 3) := by decide +kernel
theorem dL_repair_14 : decode cL_repair 14 = .ok (.lconst 0, 1) := by decide +kernel
theorem dL_repair_15 : decode cL_repair 15 = .ok (.lastore, 1) := by decide +kernel
theorem dL_repair_16 : decode cL_repair 16 = .ok (.goto 9, 3) := by decide +kernel
theorem dL_repair_19 : decode cL_repair 19 = .ok (.astore_n 3, 1) := by decide +kernel
theorem dL_repair_20 : decode cL_repair 20 = .ok (.iconst 1, 1) := by decide +kernel
theorem dL_repair_21 : decode cL_repair 21 = .ok (.ireturn, 1) := by decide +kernel
theorem dL_repair_22 : decode cL_repair 22 = .ok (.astore_n 3, 1) := by decide +kernel
theorem dL_repair_23 : decode cL_repair 23 = .ok (.iconst 2, 1) := by decide +kernel
theorem dL_repair_24 : decode cL_repair 24 = .ok (.ireturn, 1) := by decide +kernel
theorem dL_repair_25 : decode cL_repair 25 = .ok (.iconst 0, 1) := by decide +kernel
theorem dL_repair_26 : decode cL_repair 26 = .ok (.ireturn, 1) := by decide +kernel
set_option maxRecDepth 20000 in
theorem ggL_reset_X5_reset : GoodIn wsL_reset wsX5_reset := goodIn_ca (goodIn_ca (goodIn_ca (goodIn_r _ [8, 9, 10, 11, 12, 13, 14, 15, 16, 7, 17, 18, 19, 20, 21, 22, 23, 24, 25, 26, 27, 28, 29, 30, 31, 32, 33, 34, 35, 36, 37, 38, 39, 40, 41, 42, 43, 44, 45, 46, 47, 48, 49, 50, 51, 52, 53, 54, 55, 56, 57, 58, 59, 60] (by decide +kernel) (by decide +kernel)) (goodIn_sub (fun _ h => List.mem_cons_of_mem _ (List.mem_append_left _ (List.mem_append_left _ (List.mem_append_right _ h)))) (by decide +kernel))) (goodIn_sub (fun _ h => List.mem_cons_of_mem _ (List.mem_append_left _ (List.mem_append_right _ h))) (by decide +kernel))) (goodIn_sub (fun _ h => List.mem_cons_of_mem _ (List.mem_append_right _ h)) (by decide +kernel))
set_option maxRecDepth 20000 in
theorem gL_reset_X5_reset : GoodIn wsL_reset (wsV RL 59 RX5 yX5_reset wsX5_reset) := goodIn_app (goodIn_of _ (by decide +kernel)) ggL_reset_X5_reset
theorem dL_reset_0 : decode cL_reset 0 = .ok (.aload_n 2, 1) := by decide +kernel
theorem dL_reset_1 : decode cL_reset 1 = .ok (.iconst 0, 1) := by decide +kernel
theorem dL_reset_2 : decode cL_reset 2 = .ok (.aload_n 0, 1) := by decide +kernel
theorem dL_reset_3 : decode cL_reset 3 = .ok (.iload_n 1, 1) := by decide +kernel
theorem dL_reset_4 : decode cL_reset 4 = .ok (.invokevirtual 59, 3) := by decide +kernel
theorem dL_reset_7 : decode cL_reset 7 = .ok (.i2l, 1) := by decide +kernel
theorem dL_reset_8 : decode cL_reset 8 = .ok (.lastore, 1) := by decide +kernel
theorem dL_reset_9 : decode cL_reset 9 = .ok (.goto 12, 3) := by decide +kernel
theorem dL_reset_12 : decode cL_reset 12 = .ok (.astore_n 3, 1) := by decide +kernel
theorem dL_reset_13 : decode cL_reset 13 = .ok (.iconst 1, 1) := by decide +kernel
theorem dL_reset_14 : decode cL_reset 14 = .ok (.ireturn, 1) := by decide +kernel
theorem dL_reset_15 : decode cL_reset 15 = .ok (.astore_n 3, 1) := by decide +kernel
theorem dL_reset_16 : decode cL_reset 16 = .ok (.iconst 2, 1) := by decide +kernel
theorem dL_reset_17 : decode cL_reset 17 = .ok (.ireturn, 1) := by decide +kernel
theorem dL_reset_18 : decode cL_reset 18 = .ok (.astore_n 3, 1) := by decide +kernel
theorem dL_reset_19 : decode cL_reset 19 = .ok (.iconst 3, 1) := by decide +kernel
theorem dL_reset_20 : decode cL_reset 20 = .ok (.ireturn, 1) := by decide +kernel
theorem dL_reset_21 : decode cL_reset 21 = .ok (.iconst 0, 1) := by decide +kernel
theorem dL_reset_22 : decode cL_reset 22 = .ok (.ireturn, 1) := by decide +kernel
set_option maxRecDepth 20000 in
theorem ggL_isSource_X5_isSource : GoodIn wsL_isSource wsX5_isSource := goodIn_ca (goodIn_r _ [6, 7, 8, 9, 10, 5, 11, 12, 13, 14, 15, 16, 17, 18, 19, 20, 21, 22, 23, 24, 25, 26, 27, 28, 29, 30, 31, 32, 33, 34, 35, 36, 37, 38] (by decide +kernel) (by decide +kernel)) (goodIn_sub (fun _ h => List.mem_cons_of_mem _ (List.mem_append_right _ h)) (by decide +kernel))
set_option maxRecDepth 20000 in
theorem gL_isSource_X5_isSource : GoodIn wsL_isSource (wsV RL 62 RX5 yX5_isSource wsX5_isSource) := goodIn_app (goodIn_of _ (by decide +kernel)) ggL_isSource_X5_isSource
theorem dL_isSource_0 : decode cL_isSource 0 = .ok (.aload_n 2, 1) := by decide +kernel
theorem dL_isSource_1 : decode cL_isSource 1 = .ok (.iconst 0, 1) := by decide +kernel
theorem dL_isSource_2 : decode cL_isSource 2 = .ok (.aload_n 0, 1) := by decide +kernel
theorem dL_isSource_3 : decode cL_isSource 3 = .ok (.iload_n 1, 1) := by decide +kernel
theorem dL_isSource_4 : decode cL_isSource 4 = .ok (.invokevirtual 62, 3) := by decide +kernel
theorem dL_isSource_7 : decode cL_isSource 7 = .ok (.ifCond .eq 7, 3) := by decide +kernel
theorem dL_isSource_10 : decode cL_isSource 10 = .ok (.lconst 1, 1) := by decide +kernel
theorem dL_isSource_11 : decode cL_isSource 11 = .ok (.goto 4, 3) := by decide +kernel
theorem dL_isSource_14 : decode cL_isSource 14 = .ok (.lconst 0, 1) := by decide +kernel
theorem dL_isSource_15 : decode cL_isSource 15 = .ok (.lastore, 1) := by decide +kernel
theorem dL_isSource_16 : decode cL_isSource 16 = .ok (.goto 6, 3) := by decide +kernel
theorem dL_isSource_19 : decode cL_isSource 19 = .ok (.astore_n 3, 1) := by decide +kernel
theorem dL_isSource_20 : decode cL_isSource 20 = .ok (.iconst 1, 1) := by decide +kernel
theorem dL_isSource_21 : decode cL_isSource 21 = .ok (.ireturn, 1) := by decide +kernel
theorem dL_isSource_22 : decode cL_isSource 22 = .ok (.iconst 0, 1) := by decide +kernel
theorem dL_isSource_23 : decode cL_isSource 23 = .ok (.ireturn, 1) := by decide +kernel
set_option maxRecDepth 20000 in
theorem ggL_loadOf_X5_loadOf : GoodIn wsL_loadOf wsX5_loadOf := goodIn_ca (goodIn_ca (goodIn_r _ [6, 7, 8, 9, 10, 5, 11, 12, 13, 14, 15, 16, 17, 18, 19, 20, 21, 22, 23, 24, 25, 26, 27, 28, 29, 30, 31, 32, 33, 34, 35, 36, 37, 38, 39, 40] (by decide +kernel) (by decide +kernel)) (goodIn_sub (fun _ h => List.mem_cons_of_mem _ (List.mem_append_right _ h)) (by decide +kernel))) (goodIn_sub (fun _ h => List.mem_cons_of_mem _ (List.mem_append_left _ (List.mem_append_right _ h))) (by decide +kernel))
set_option maxRecDepth 20000 in
theorem gL_loadOf_X5_loadOf : GoodIn wsL_loadOf (wsV RL 65 RX5 yX5_loadOf wsX5_loadOf) := goodIn_app (goodIn_of _ (by decide +kernel)) ggL_loadOf_X5_loadOf
theorem dL_loadOf_0 : decode cL_loadOf 0 = .ok (.aload_n 2, 1) := by decide +kernel
theorem dL_loadOf_1 : decode cL_loadOf 1 = .ok (.iconst 0, 1) := by decide +kernel
theorem dL_loadOf_2 : decode cL_loadOf 2 = .ok (.aload_n 0, 1) := by decide +kernel
theorem dL_loadOf_3 : decode cL_loadOf 3 = .ok (.iload_n 1, 1) := by decide +kernel
theorem dL_loadOf_4 : decode cL_loadOf 4 = .ok (.invokevirtual 65, 3) := by decide +kernel
theorem dL_loadOf_7 : decode cL_loadOf 7 = .ok (.i2l, 1) := by decide +kernel
theorem dL_loadOf_8 : decode cL_loadOf 8 = .ok (.lastore, 1) := by decide +kernel
theorem dL_loadOf_9 : decode cL_loadOf 9 = .ok (.goto 6, 3) := by decide +kernel
theorem dL_loadOf_12 : decode cL_loadOf 12 = .ok (.astore_n 3, 1) := by decide +kernel
theorem dL_loadOf_13 : decode cL_loadOf 13 = .ok (.iconst 1, 1) := by decide +kernel
theorem dL_loadOf_14 : decode cL_loadOf 14 = .ok (.ireturn, 1) := by decide +kernel
theorem dL_loadOf_15 : decode cL_loadOf 15 = .ok (.iconst 0, 1) := by decide +kernel
theorem dL_loadOf_16 : decode cL_loadOf 16 = .ok (.ireturn, 1) := by decide +kernel
set_option maxRecDepth 20000 in
theorem ggL_weight_X5_weight : GoodIn wsL_weight wsX5_weight := goodIn_ca (goodIn_ca (goodIn_ca (goodIn_r _ [7, 8, 9, 10, 11, 6, 12, 13, 14, 15, 16, 17, 18, 19, 20, 21, 22, 23, 24, 25, 26, 27, 28, 29, 30, 31, 32, 33, 34, 35, 36, 37, 38, 39, 40, 41, 42, 43, 44, 45, 46, 47, 48, 49, 50, 51, 52, 53, 54] (by decide +kernel) (by decide +kernel)) (goodIn_sub (fun _ h => List.mem_cons_of_mem _ (List.mem_append_left _ (List.mem_append_right _ h))) (by decide +kernel))) (goodIn_sub (fun _ h => List.mem_cons_of_mem _ (List.mem_append_right _ h)) (by decide +kernel))) (goodIn_sub (fun _ h => List.mem_cons_of_mem _ (List.mem_append_left _ (List.mem_append_left _ (List.mem_append_right _ h)))) (by decide +kernel))
set_option maxRecDepth 20000 in
theorem gL_weight_X5_weight : GoodIn wsL_weight (wsV RL 68 RX5 yX5_weight wsX5_weight) := goodIn_app (goodIn_of _ (by decide +kernel)) ggL_weight_X5_weight
theorem dL_weight_0 : decode cL_weight 0 = .ok (.aload_n 2, 1) := by decide +kernel
theorem dL_weight_1 : decode cL_weight 1 = .ok (.iconst 0, 1) := by decide +kernel
theorem dL_weight_2 : decode cL_weight 2 = .ok (.aload_n 0, 1) := by decide +kernel
theorem dL_weight_3 : decode cL_weight 3 = .ok (.iload_n 1, 1) := by decide +kernel
theorem dL_weight_4 : decode cL_weight 4 = .ok (.invokevirtual 68, 3) := by decide +kernel
theorem dL_weight_7 : decode cL_weight 7 = .ok (.i2l, 1) := by decide +kernel
theorem dL_weight_8 : decode cL_weight 8 = .ok (.lastore, 1) := by decide +kernel
theorem dL_weight_9 : decode cL_weight 9 = .ok (.goto 9, 3) := by decide +kernel
theorem dL_weight_12 : decode cL_weight 12 = .ok (.astore_n 3, 1) := by decide +kernel
theorem dL_weight_13 : decode cL_weight 13 = .ok (.iconst 1, 1) := by decide +kernel
theorem dL_weight_14 : decode cL_weight 14 = .ok (.ireturn, 1) := by decide +kernel
theorem dL_weight_15 : decode cL_weight 15 = .ok (.astore_n 3, 1) := by decide +kernel
theorem dL_weight_16 : decode cL_weight 16 = .ok (.iconst 2, 1) := by decide +kernel
theorem dL_weight_17 : decode cL_weight 17 = .ok (.ireturn, 1) := by decide +kernel
theorem dL_weight_18 : decode cL_weight 18 = .ok (.iconst 0, 1) := by decide +kernel
theorem dL_weight_19 : decode cL_weight 19 = .ok (.ireturn, 1) := by decide +kernel
set_option maxRecDepth 20000 in
theorem ggL_isClosed_X5_isClosed : GoodIn wsL_isClosed wsX5_isClosed := goodIn_ca (goodIn_r _ [6, 7, 8, 9, 10, 5, 11, 12, 13, 14, 15, 16, 17, 18, 19, 20, 21, 22, 23, 24, 25, 26, 27, 28, 29, 30, 31, 32, 33, 34, 35, 36, 37, 38, 39, 40, 41, 42, 43, 44] (by decide +kernel) (by decide +kernel)) (goodIn_sub (fun _ h => List.mem_cons_of_mem _ (List.mem_append_right _ h)) (by decide +kernel))
set_option maxRecDepth 20000 in
theorem gL_isClosed_X5_isClosed : GoodIn wsL_isClosed (wsV RL 71 RX5 yX5_isClosed wsX5_isClosed) := goodIn_app (goodIn_of _ (by decide +kernel)) ggL_isClosed_X5_isClosed
theorem dL_isClosed_0 : decode cL_isClosed 0 = .ok (.aload_n 2, 1) := by decide +kernel
theorem dL_isClosed_1 : decode cL_isClosed 1 = .ok (.iconst 0, 1) := by decide +kernel
theorem dL_isClosed_2 : decode cL_isClosed 2 = .ok (.aload_n 0, 1) := by decide +kernel
theorem dL_isClosed_3 : decode cL_isClosed 3 = .ok (.iload_n 1, 1) := by decide +kernel
theorem dL_isClosed_4 : decode cL_isClosed 4 = .ok (.invokevirtual 71, 3) := by decide +kernel
theorem dL_isClosed_7 : decode cL_isClosed 7 = .ok (.ifCond .eq 7, 3) := by decide +kernel
theorem dL_isClosed_10 : decode cL_isClosed 10 = .ok (.lconst 1, 1) := by decide +kernel
theorem dL_isClosed_11 : decode cL_isClosed 11 = .ok (.goto 4, 3) := by decide +kernel
theorem dL_isClosed_14 : decode cL_isClosed 14 = .ok (.lconst 0, 1) := by decide +kernel
theorem dL_isClosed_15 : decode cL_isClosed 15 = .ok (.lastore, 1) := by decide +kernel
theorem dL_isClosed_16 : decode cL_isClosed 16 = .ok (.goto 6, 3) := by decide +kernel
theorem dL_isClosed_19 : decode cL_isClosed 19 = .ok (.astore_n 3, 1) := by decide +kernel
theorem dL_isClosed_20 : decode cL_isClosed 20 = .ok (.iconst 1, 1) := by decide +kernel
theorem dL_isClosed_21 : decode cL_isClosed 21 = .ok (.ireturn, 1) := by decide +kernel
theorem dL_isClosed_22 : decode cL_isClosed 22 = .ok (.iconst 0, 1) := by decide +kernel
theorem dL_isClosed_23 : decode cL_isClosed 23 = .ok (.ireturn, 1) := by decide +kernel
set_option maxRecDepth 20000 in
theorem ggL_isLocked_X5_isLocked : GoodIn wsL_isLocked wsX5_isLocked := goodIn_ca (goodIn_r _ [6, 7, 8, 9, 10, 5, 11, 12, 13, 14, 15, 16, 17, 18, 19, 20, 21, 22, 23, 24, 25, 26, 27, 28, 29, 30, 31, 32, 33, 34, 35, 36, 37, 38, 39, 40, 41, 42, 43, 44] (by decide +kernel) (by decide +kernel)) (goodIn_sub (fun _ h => List.mem_cons_of_mem _ (List.mem_append_right _ h)) (by decide +kernel))
set_option maxRecDepth 20000 in
theorem gL_isLocked_X5_isLocked : GoodIn wsL_isLocked (wsV RL 74 RX5 yX5_isLocked wsX5_isLocked) := goodIn_app (goodIn_of _ (by decide +kernel)) ggL_isLocked_X5_isLocked
theorem dL_isLocked_0 : decode cL_isLocked 0 = .ok (.aload_n 2, 1) := by decide +kernel
theorem dL_isLocked_1 : decode cL_isLocked 1 = .ok (.iconst 0, 1) := by decide +kernel
theorem dL_isLocked_2 : decode cL_isLocked 2 = .ok (.aload_n 0, 1) := by decide +kernel
theorem dL_isLocked_3 : decode cL_isLocked 3 = .ok (.iload_n 1, 1) := by decide +kernel
theorem dL_isLocked_4 : decode cL_isLocked 4 = .ok (.invokevirtual 74, 3) := by decide +kernel
theorem dL_isLocked_7 : decode cL_isLocked 7 = .ok (.ifCond .eq 7, 3) := by decide +kernel
theorem dL_isLocked_10 : decode cL_isLocked 10 = .ok (.lconst 1, 1) := by decide +kernel
theorem dL_isLocked_11 : decode cL_isLocked 11 = .ok (.goto 4, 3) := by decide +kernel
theorem dL_isLocked_14 : decode cL_isLocked 14 = .ok (.lconst 0, 1) := by decide +kernel
theorem dL_isLocked_15 : decode cL_isLocked 15 = .ok (.lastore, 1) := by decide +kernel
theorem dL_isLocked_16 : decode cL_isLocked 16 = .ok (.goto 6, 3) := by decide +kernel
theorem dL_isLocked_19 : decode cL_isLocked 19 = .ok (.astore_n 3, 1) := by decide +kernel
theorem dL_isLocked_20 : decode cL_isLocked 20 = .ok (.iconst 1, 1) := by decide +kernel
theorem dL_isLocked_21 : decode cL_isLocked 21 = .ok (.ireturn, 1) := by decide +kernel
theorem dL_isLocked_22 : decode cL_isLocked 22 = .ok (.iconst 0, 1) := by decide +kernel
theorem dL_isLocked_23 : decode cL_isLocked 23 = .ok (.ireturn, 1) := by decide +kernel
set_option maxRecDepth 20000 in
theorem ggL_hasFault_X5_hasFault : GoodIn wsL_hasFault wsX5_hasFault := goodIn_ca (goodIn_r _ [6, 7, 8, 9, 10, 5, 11, 12, 13, 14, 15, 16, 17, 18, 19, 20, 21, 22, 23, 24, 25, 26, 27, 28, 29, 30, 31, 32, 33, 34, 35, 36, 37, 38, 39, 40, 41, 42, 43, 44] (by decide +kernel) (by decide +kernel)) (goodIn_sub (fun _ h => List.mem_cons_of_mem _ (List.mem_append_right _ h)) (by decide +kernel))
set_option maxRecDepth 20000 in
theorem gL_hasFault_X5_hasFault : GoodIn wsL_hasFault (wsV RL 77 RX5 yX5_hasFault wsX5_hasFault) := goodIn_app (goodIn_of _ (by decide +kernel)) ggL_hasFault_X5_hasFault
theorem dL_hasFault_0 : decode cL_hasFault 0 = .ok (.aload_n 2, 1) := by decide +kernel
theorem dL_hasFault_1 : decode cL_hasFault 1 = .ok (.iconst 0, 1) := by decide +kernel
theorem dL_hasFault_2 : decode cL_hasFault 2 = .ok (.aload_n 0, 1) := by decide +kernel
theorem dL_hasFault_3 : decode cL_hasFault 3 = .ok (.iload_n 1, 1) := by decide +kernel
theorem dL_hasFault_4 : decode cL_hasFault 4 = .ok (.invokevirtual 77, 3) := by decide +kernel
theorem dL_hasFault_7 : decode cL_hasFault 7 = .ok (.ifCond .eq 7, 3) := by decide +kernel
theorem dL_hasFault_10 : decode cL_hasFault 10 = .ok (.lconst 1, 1) := by decide +kernel
theorem dL_hasFault_11 : decode cL_hasFault 11 = .ok (.goto 4, 3) := by decide +kernel
theorem dL_hasFault_14 : decode cL_hasFault 14 = .ok (.lconst 0, 1) := by decide +kernel
theorem dL_hasFault_15 : decode cL_hasFault 15 = .ok (.lastore, 1) := by decide +kernel
theorem dL_hasFault_16 : decode cL_hasFault 16 = .ok (.goto 6, 3) := by decide +kernel
theorem dL_hasFault_19 : decode cL_hasFault 19 = .ok (.astore_n 3, 1) := by decide +kernel
theorem dL_hasFault_20 : decode cL_hasFault 20 = .ok (.iconst 1, 1) := by decide +kernel
theorem dL_hasFault_21 : decode cL_hasFault 21 = .ok (.ireturn, 1) := by decide +kernel
theorem dL_hasFault_22 : decode cL_hasFault 22 = .ok (.iconst 0, 1) := by decide +kernel
theorem dL_hasFault_23 : decode cL_hasFault 23 = .ok (.ireturn, 1) := by decide +kernel
set_option maxRecDepth 20000 in
theorem ggL_islandOf_X5_islandOf : GoodIn wsL_islandOf wsX5_islandOf := goodIn_ca (goodIn_ca (goodIn_r _ [6, 7, 8, 9, 5, 10, 11, 12, 13, 14, 15, 16, 17, 18, 19, 20, 21, 22, 23, 24, 25, 26, 27, 28, 29, 30, 31, 32, 33, 34, 35, 36, 37, 38, 39, 40, 41, 42, 43, 44, 45, 46, 47, 48, 49, 50, 51, 52, 53, 54, 55, 56, 57, 58, 59, 60, 61, 62, 63, 64, 65, 66, 67, 68, 69, 70] (by decide +kernel) (by decide +kernel)) (goodIn_sub (fun _ h => List.mem_cons_of_mem _ (List.mem_append_right _ h)) (by decide +kernel))) (goodIn_sub (fun _ h => List.mem_cons_of_mem _ (List.mem_append_left _ (List.mem_append_right _ h))) (by decide +kernel))
set_option maxRecDepth 20000 in
theorem gL_islandOf_X5_islandOf : GoodIn wsL_islandOf (wsV RL 80 RX5 yX5_islandOf wsX5_islandOf) := goodIn_app (goodIn_of _ (by decide +kernel)) ggL_islandOf_X5_islandOf
theorem dL_islandOf_0 : decode cL_islandOf 0 = .ok (.aload_n 2, 1) := by decide +kernel
theorem dL_islandOf_1 : decode cL_islandOf 1 = .ok (.iconst 0, 1) := by decide +kernel
theorem dL_islandOf_2 : decode cL_islandOf 2 = .ok (.aload_n 0, 1) := by decide +kernel
theorem dL_islandOf_3 : decode cL_islandOf 3 = .ok (.iload_n 1, 1) := by decide +kernel
theorem dL_islandOf_4 : decode cL_islandOf 4 = .ok (.invokevirtual 80, 3) := by decide +kernel
theorem dL_islandOf_7 : decode cL_islandOf 7 = .ok (.i2l, 1) := by decide +kernel
theorem dL_islandOf_8 : decode cL_islandOf 8 = .ok (.lastore, 1) := by decide +kernel
theorem dL_islandOf_9 : decode cL_islandOf 9 = .ok (.goto 6, 3) := by decide +kernel
theorem dL_islandOf_12 : decode cL_islandOf 12 = .ok (.astore_n 3, 1) := by decide +kernel
theorem dL_islandOf_13 : decode cL_islandOf 13 = .ok (.iconst 1, 1) := by decide +kernel
theorem dL_islandOf_14 : decode cL_islandOf 14 = .ok (.ireturn, 1) := by decide +kernel
theorem dL_islandOf_15 : decode cL_islandOf 15 = .ok (.iconst 0, 1) := by decide +kernel
theorem dL_islandOf_16 : decode cL_islandOf 16 = .ok (.ireturn, 1) := by decide +kernel
set_option maxRecDepth 20000 in
theorem ggL_islandByRounds_X5_islandByRounds : GoodIn wsL_islandByRounds wsX5_islandByRounds := goodIn_ca (goodIn_ca (goodIn_r _ [6, 7, 8, 9, 10, 11, 5, 12, 13, 14, 15, 16, 17, 18, 19, 20, 21, 22, 23, 24, 25, 26, 27, 28, 29, 30, 31, 32, 33, 34, 35, 36, 37, 38, 39, 40, 41, 42, 43, 44, 45, 46, 47, 48, 49, 50, 51, 52, 53, 54, 55, 56, 57, 58] (by decide +kernel) (by decide +kernel)) (goodIn_sub (fun _ h => List.mem_cons_of_mem _ (List.mem_append_right _ h)) (by decide +kernel))) (goodIn_sub (fun _ h => List.mem_cons_of_mem _ (List.mem_append_left _ (List.mem_append_right _ h))) (by decide +kernel))
set_option maxRecDepth 20000 in
theorem gL_islandByRounds_X5_islandByRounds : GoodIn wsL_islandByRounds (wsV RL 83 RX5 yX5_islandByRounds wsX5_islandByRounds) := goodIn_app (goodIn_of _ (by decide +kernel)) ggL_islandByRounds_X5_islandByRounds
theorem dL_islandByRounds_0 : decode cL_islandByRounds 0 = .ok (.aload_n 2, 1) := by decide +kernel
theorem dL_islandByRounds_1 : decode cL_islandByRounds 1 = .ok (.iconst 0, 1) := by decide +kernel
theorem dL_islandByRounds_2 : decode cL_islandByRounds 2 = .ok (.aload_n 0, 1) := by decide +kernel
theorem dL_islandByRounds_3 : decode cL_islandByRounds 3 = .ok (.iload_n 1, 1) := by decide +kernel
theorem dL_islandByRounds_4 : decode cL_islandByRounds 4 = .ok (.invokevirtual 83, 3) := by decide +kernel
theorem dL_islandByRounds_7 : decode cL_islandByRounds 7 = .ok (.i2l, 1) := by decide +kernel
theorem dL_islandByRounds_8 : decode cL_islandByRounds 8 = .ok (.lastore, 1) := by decide +kernel
theorem dL_islandByRounds_9 : decode cL_islandByRounds 9 = .ok (.goto 6, 3) := by decide +kernel
theorem dL_islandByRounds_12 : decode cL_islandByRounds 12 = .ok (.astore_n 3, 1) := by decide +kernel
theorem dL_islandByRounds_13 : decode cL_islandByRounds 13 = .ok (.iconst 1, 1) := by decide +kernel
theorem dL_islandByRounds_14 : decode cL_islandByRounds 14 = .ok (.ireturn, 1) := by decide +kernel
theorem dL_islandByRounds_15 : decode cL_islandByRounds 15 = .ok (.iconst 0, 1) := by decide +kernel
theorem dL_islandByRounds_16 : decode cL_islandByRounds 16 = .ok (.ireturn, 1) := by decide +kernel
set_option maxRecDepth 20000 in
theorem ggL_isLive_X5_isLive : GoodIn wsL_isLive wsX5_isLive := goodIn_ca (goodIn_ca (goodIn_r _ [6, 7, 8, 9, 10, 5, 11, 12, 13, 14, 15, 16, 17, 18, 19, 20, 21, 22, 23, 24, 25, 26, 27, 28, 29, 30, 31, 32, 33, 34, 35, 36, 37, 38, 39, 40, 41, 42, 43, 44, 45, 46, 47, 48, 49, 50, 51, 52, 53, 54, 55, 56, 57, 58, 59, 60, 61, 62, 63, 64, 65, 66, 67, 68, 69, 70, 71, 72, 73, 74] (by decide +kernel) (by decide +kernel)) (goodIn_sub (fun _ h => List.mem_cons_of_mem _ (List.mem_append_right _ h)) (by decide +kernel))) (goodIn_sub (fun _ h => List.mem_cons_of_mem _ (List.mem_append_left _ (List.mem_append_right _ h))) (by decide +kernel))
set_option maxRecDepth 20000 in
theorem gL_isLive_X5_isLive : GoodIn wsL_isLive (wsV RL 86 RX5 yX5_isLive wsX5_isLive) := goodIn_app (goodIn_of _ (by decide +kernel)) ggL_isLive_X5_isLive
theorem dL_isLive_0 : decode cL_isLive 0 = .ok (.aload_n 2, 1) := by decide +kernel
theorem dL_isLive_1 : decode cL_isLive 1 = .ok (.iconst 0, 1) := by decide +kernel
theorem dL_isLive_2 : decode cL_isLive 2 = .ok (.aload_n 0, 1) := by decide +kernel
theorem dL_isLive_3 : decode cL_isLive 3 = .ok (.iload_n 1, 1) := by decide +kernel
theorem dL_isLive_4 : decode cL_isLive 4 = .ok (.invokevirtual 86, 3) := by decide +kernel
theorem dL_isLive_7 : decode cL_isLive 7 = .ok (.ifCond .eq 7, 3) := by decide +kernel
theorem dL_isLive_10 : decode cL_isLive 10 = .ok (.lconst 1, 1) := by decide +kernel
theorem dL_isLive_11 : decode cL_isLive 11 = .ok (.goto 4, 3) := by decide +kernel
theorem dL_isLive_14 : decode cL_isLive 14 = .ok (.lconst 0, 1) := by decide +kernel
theorem dL_isLive_15 : decode cL_isLive 15 = .ok (.lastore, 1) := by decide +kernel
theorem dL_isLive_16 : decode cL_isLive 16 = .ok (.goto 6, 3) := by decide +kernel
theorem dL_isLive_19 : decode cL_isLive 19 = .ok (.astore_n 3, 1) := by decide +kernel
theorem dL_isLive_20 : decode cL_isLive 20 = .ok (.iconst 1, 1) := by decide +kernel
theorem dL_isLive_21 : decode cL_isLive 21 = .ok (.ireturn, 1) := by decide +kernel
theorem dL_isLive_22 : decode cL_isLive 22 = .ok (.iconst 0, 1) := by decide +kernel
theorem dL_isLive_23 : decode cL_isLive 23 = .ok (.ireturn, 1) := by decide +kernel
set_option maxRecDepth 20000 in
theorem ggL_sourceOf_X5_sourceOf : GoodIn wsL_sourceOf wsX5_sourceOf := goodIn_ca (goodIn_ca (goodIn_ca (goodIn_r _ [7, 8, 9, 10, 11, 12, 13, 6, 14, 15, 16, 17, 18, 19, 20, 21, 22, 23, 24, 25, 26, 27, 28, 29, 30, 31, 32, 33, 34, 35, 36, 37, 38, 39, 40, 41, 42, 43, 44, 45, 46, 47, 48, 49, 50, 51, 52, 53, 54, 55, 56, 57, 58, 59, 60, 61, 62, 63, 64, 65, 66, 67, 68, 69, 70, 71, 72, 73, 74, 75, 76, 77] (by decide +kernel) (by decide +kernel)) (goodIn_sub (fun _ h => List.mem_cons_of_mem _ (List.mem_append_left _ (List.mem_append_right _ h))) (by decide +kernel))) (goodIn_sub (fun _ h => List.mem_cons_of_mem _ (List.mem_append_right _ h)) (by decide +kernel))) (goodIn_sub (fun _ h => List.mem_cons_of_mem _ (List.mem_append_left _ (List.mem_append_left _ (List.mem_append_right _ h)))) (by decide +kernel))
set_option maxRecDepth 20000 in
theorem gL_sourceOf_X5_sourceOf : GoodIn wsL_sourceOf (wsV RL 89 RX5 yX5_sourceOf wsX5_sourceOf) := goodIn_app (goodIn_of _ (by decide +kernel)) ggL_sourceOf_X5_sourceOf
theorem dL_sourceOf_0 : decode cL_sourceOf 0 = .ok (.aload_n 2, 1) := by decide +kernel
theorem dL_sourceOf_1 : decode cL_sourceOf 1 = .ok (.iconst 0, 1) := by decide +kernel
theorem dL_sourceOf_2 : decode cL_sourceOf 2 = .ok (.aload_n 0, 1) := by decide +kernel
theorem dL_sourceOf_3 : decode cL_sourceOf 3 = .ok (.iload_n 1, 1) := by decide +kernel
theorem dL_sourceOf_4 : decode cL_sourceOf 4 = .ok (.invokevirtual 89, 3) := by decide +kernel
theorem dL_sourceOf_7 : decode cL_sourceOf 7 = .ok (.i2l, 1) := by decide +kernel
theorem dL_sourceOf_8 : decode cL_sourceOf 8 = .ok (.lastore, 1) := by decide +kernel
theorem dL_sourceOf_9 : decode cL_sourceOf 9 = .ok (.goto 9, 3) := by decide +kernel
theorem dL_sourceOf_12 : decode cL_sourceOf 12 = .ok (.astore_n 3, 1) := by decide +kernel
theorem dL_sourceOf_13 : decode cL_sourceOf 13 = .ok (.iconst 1, 1) := by decide +kernel
theorem dL_sourceOf_14 : decode cL_sourceOf 14 = .ok (.ireturn, 1) := by decide +kernel
theorem dL_sourceOf_15 : decode cL_sourceOf 15 = .ok (.astore_n 3, 1) := by decide +kernel
theorem dL_sourceOf_16 : decode cL_sourceOf 16 = .ok (.iconst 2, 1) := by decide +kernel
theorem dL_sourceOf_17 : decode cL_sourceOf 17 = .ok (.ireturn, 1) := by decide +kernel
theorem dL_sourceOf_18 : decode cL_sourceOf 18 = .ok (.iconst 0, 1) := by decide +kernel
theorem dL_sourceOf_19 : decode cL_sourceOf 19 = .ok (.ireturn, 1) := by decide +kernel
set_option maxRecDepth 20000 in
theorem ggL_islandLoad_X5_islandLoad : GoodIn wsL_islandLoad wsX5_islandLoad := goodIn_ca (goodIn_ca (goodIn_r _ [6, 7, 8, 9, 10, 5, 11, 12, 13, 14, 15, 16, 17, 18, 19, 20, 21, 22, 23, 24, 25, 26, 27, 28, 29, 30, 31, 32, 33, 34, 35, 36, 37, 38, 39, 40, 41, 42, 43, 44, 45, 46, 47, 48, 49, 50, 51, 52, 53, 54, 55, 56, 57, 58, 59, 60, 61, 62, 63, 64, 65, 66, 67, 68, 69, 70, 71, 72, 73, 74] (by decide +kernel) (by decide +kernel)) (goodIn_sub (fun _ h => List.mem_cons_of_mem _ (List.mem_append_right _ h)) (by decide +kernel))) (goodIn_sub (fun _ h => List.mem_cons_of_mem _ (List.mem_append_left _ (List.mem_append_right _ h))) (by decide +kernel))
set_option maxRecDepth 20000 in
theorem gL_islandLoad_X5_islandLoad : GoodIn wsL_islandLoad (wsV RL 92 RX5 yX5_islandLoad wsX5_islandLoad) := goodIn_app (goodIn_of _ (by decide +kernel)) ggL_islandLoad_X5_islandLoad
theorem dL_islandLoad_0 : decode cL_islandLoad 0 = .ok (.aload_n 2, 1) := by decide +kernel
theorem dL_islandLoad_1 : decode cL_islandLoad 1 = .ok (.iconst 0, 1) := by decide +kernel
theorem dL_islandLoad_2 : decode cL_islandLoad 2 = .ok (.aload_n 0, 1) := by decide +kernel
theorem dL_islandLoad_3 : decode cL_islandLoad 3 = .ok (.iload_n 1, 1) := by decide +kernel
theorem dL_islandLoad_4 : decode cL_islandLoad 4 = .ok (.invokevirtual 92, 3) := by decide +kernel
theorem dL_islandLoad_7 : decode cL_islandLoad 7 = .ok (.i2l, 1) := by decide +kernel
theorem dL_islandLoad_8 : decode cL_islandLoad 8 = .ok (.lastore, 1) := by decide +kernel
theorem dL_islandLoad_9 : decode cL_islandLoad 9 = .ok (.goto 6, 3) := by decide +kernel
theorem dL_islandLoad_12 : decode cL_islandLoad 12 = .ok (.astore_n 3, 1) := by decide +kernel
theorem dL_islandLoad_13 : decode cL_islandLoad 13 = .ok (.iconst 1, 1) := by decide +kernel
theorem dL_islandLoad_14 : decode cL_islandLoad 14 = .ok (.ireturn, 1) := by decide +kernel
theorem dL_islandLoad_15 : decode cL_islandLoad 15 = .ok (.iconst 0, 1) := by decide +kernel
theorem dL_islandLoad_16 : decode cL_islandLoad 16 = .ok (.ireturn, 1) := by decide +kernel
set_option maxRecDepth 20000 in
theorem ggL_current_X5_current : GoodIn wsL_current wsX5_current := goodIn_ca (goodIn_ca (goodIn_r _ [6, 7, 8, 9, 10, 11, 5, 12, 13, 14, 15, 16, 17, 18, 19, 20, 21, 22, 23, 24, 25, 26, 27, 28, 29, 30, 31, 32, 33, 34, 35, 36, 37, 38, 39, 40, 41, 42, 43, 44, 45, 46, 47, 48, 49, 50, 51, 52, 53, 54, 55, 56, 57, 58, 59, 60, 61, 62, 63, 64, 65, 66, 67, 68, 69, 70, 71, 72, 73, 74, 75] (by decide +kernel) (by decide +kernel)) (goodIn_sub (fun _ h => List.mem_cons_of_mem _ (List.mem_append_right _ h)) (by decide +kernel))) (goodIn_sub (fun _ h => List.mem_cons_of_mem _ (List.mem_append_left _ (List.mem_append_right _ h))) (by decide +kernel))
set_option maxRecDepth 20000 in
theorem gL_current_X5_current : GoodIn wsL_current (wsV RL 95 RX5 yX5_current wsX5_current) := goodIn_app (goodIn_of _ (by decide +kernel)) ggL_current_X5_current
theorem dL_current_0 : decode cL_current 0 = .ok (.aload_n 2, 1) := by decide +kernel
theorem dL_current_1 : decode cL_current 1 = .ok (.iconst 0, 1) := by decide +kernel
theorem dL_current_2 : decode cL_current 2 = .ok (.aload_n 0, 1) := by decide +kernel
theorem dL_current_3 : decode cL_current 3 = .ok (.iload_n 1, 1) := by decide +kernel
theorem dL_current_4 : decode cL_current 4 = .ok (.invokevirtual 95, 3) := by decide +kernel
theorem dL_current_7 : decode cL_current 7 = .ok (.i2l, 1) := by decide +kernel
theorem dL_current_8 : decode cL_current 8 = .ok (.lastore, 1) := by decide +kernel
theorem dL_current_9 : decode cL_current 9 = .ok (.goto 6, 3) := by decide +kernel
theorem dL_current_12 : decode cL_current 12 = .ok (.astore_n 3, 1) := by decide +kernel
theorem dL_current_13 : decode cL_current 13 = .ok (.iconst 1, 1) := by decide +kernel
theorem dL_current_14 : decode cL_current 14 = .ok (.ireturn, 1) := by decide +kernel
theorem dL_current_15 : decode cL_current 15 = .ok (.iconst 0, 1) := by decide +kernel
theorem dL_current_16 : decode cL_current 16 = .ok (.ireturn, 1) := by decide +kernel
set_option maxRecDepth 20000 in
theorem ggL_currentByCutting_X5_currentByCutting : GoodIn wsL_currentByCutting wsX5_currentByCutting := goodIn_ca (goodIn_ca (goodIn_r _ [6, 7, 8, 9, 10, 11, 5, 12, 13, 14, 15, 16, 17, 18, 19, 20, 21, 22, 23, 24, 25, 26, 27, 28, 29, 30, 31, 32, 33, 34, 35, 36, 37, 38, 39, 40, 41, 42, 43, 44, 45, 46, 47, 48, 49, 50, 51, 52, 53, 54, 55, 56, 57, 58, 59, 60, 61, 62, 63, 64, 65, 66, 67, 68, 69, 70, 71, 72, 73, 74, 75, 76, 77, 78, 79, 80, 81, 82, 83, 84, 85, 86, 87, 88] (by decide +kernel) (by decide +kernel)) (goodIn_sub (fun _ h => List.mem_cons_of_mem _ (List.mem_append_right _ h)) (by decide +kernel))) (goodIn_sub (fun _ h => List.mem_cons_of_mem _ (List.mem_append_left _ (List.mem_append_right _ h))) (by decide +kernel))
set_option maxRecDepth 20000 in
theorem gL_currentByCutting_X5_currentByCutting : GoodIn wsL_currentByCutting (wsV RL 98 RX5 yX5_currentByCutting wsX5_currentByCutting) := goodIn_app (goodIn_of _ (by decide +kernel)) ggL_currentByCutting_X5_currentByCutting
theorem dL_currentByCutting_0 : decode cL_currentByCutting 0 = .ok (.aload_n 2, 1) := by decide +kernel
theorem dL_currentByCutting_1 : decode cL_currentByCutting 1 = .ok (.iconst 0, 1) := by decide +kernel
theorem dL_currentByCutting_2 : decode cL_currentByCutting 2 = .ok (.aload_n 0, 1) := by decide +kernel
theorem dL_currentByCutting_3 : decode cL_currentByCutting 3 = .ok (.iload_n 1, 1) := by decide +kernel
theorem dL_currentByCutting_4 : decode cL_currentByCutting 4 = .ok (.invokevirtual 98, 3) := by decide +kernel
theorem dL_currentByCutting_7 : decode cL_currentByCutting 7 = .ok (.i2l, 1) := by decide +kernel
theorem dL_currentByCutting_8 : decode cL_currentByCutting 8 = .ok (.lastore, 1) := by decide +kernel
theorem dL_currentByCutting_9 : decode cL_currentByCutting 9 = .ok (.goto 6, 3) := by decide +kernel
theorem dL_currentByCutting_12 : decode cL_currentByCutting 12 = .ok (.astore_n 3, 1) := by decide +kernel
theorem dL_currentByCutting_13 : decode cL_currentByCutting 13 = .ok (.iconst 1, 1) := by decide +kernel
theorem dL_currentByCutting_14 : decode cL_currentByCutting 14 = .ok (.ireturn, 1) := by decide +kernel
theorem dL_currentByCutting_15 : decode cL_currentByCutting 15 = .ok (.iconst 0, 1) := by decide +kernel
theorem dL_currentByCutting_16 : decode cL_currentByCutting 16 = .ok (.ireturn, 1) := by decide +kernel
set_option maxRecDepth 20000 in
theorem ggL_distance_X5_distance : GoodIn wsL_distance wsX5_distance := goodIn_ca (goodIn_ca (goodIn_ca (goodIn_r _ [7, 8, 9, 10, 6, 11, 12, 13, 14, 15, 16, 17, 18, 19, 20, 21, 22, 23, 24, 25, 26, 27, 28, 29, 30, 31, 32, 33, 34, 35, 36, 37, 38, 39, 40, 41, 42, 43, 44, 45, 46, 47, 48, 49, 50, 51, 52, 53, 54, 55, 56, 57, 58, 59, 60, 61, 62, 63, 64, 65, 66, 67, 68, 69, 70, 71] (by decide +kernel) (by decide +kernel)) (goodIn_sub (fun _ h => List.mem_cons_of_mem _ (List.mem_append_left _ (List.mem_append_right _ h))) (by decide +kernel))) (goodIn_sub (fun _ h => List.mem_cons_of_mem _ (List.mem_append_right _ h)) (by decide +kernel))) (goodIn_sub (fun _ h => List.mem_cons_of_mem _ (List.mem_append_left _ (List.mem_append_left _ (List.mem_append_right _ h)))) (by decide +kernel))
set_option maxRecDepth 20000 in
theorem gL_distance_X5_distance : GoodIn wsL_distance (wsV RL 101 RX5 yX5_distance wsX5_distance) := goodIn_app (goodIn_of _ (by decide +kernel)) ggL_distance_X5_distance
theorem dL_distance_0 : decode cL_distance 0 = .ok (.aload_n 2, 1) := by decide +kernel
theorem dL_distance_1 : decode cL_distance 1 = .ok (.iconst 0, 1) := by decide +kernel
theorem dL_distance_2 : decode cL_distance 2 = .ok (.aload_n 0, 1) := by decide +kernel
theorem dL_distance_3 : decode cL_distance 3 = .ok (.iload_n 1, 1) := by decide +kernel
theorem dL_distance_4 : decode cL_distance 4 = .ok (.invokevirtual 101, 3) := by decide +kernel
theorem dL_distance_7 : decode cL_distance 7 = .ok (.i2l, 1) := by decide +kernel
theorem dL_distance_8 : decode cL_distance 8 = .ok (.lastore, 1) := by decide +kernel
theorem dL_distance_9 : decode cL_distance 9 = .ok (.goto 9, 3) := by decide +kernel
theorem dL_distance_12 : decode cL_distance 12 = .ok (.astore_n 3, 1) := by decide +kernel
theorem dL_distance_13 : decode cL_distance 13 = .ok (.iconst 1, 1) := by decide +kernel
theorem dL_distance_14 : decode cL_distance 14 = .ok (.ireturn, 1) := by decide +kernel
theorem dL_distance_15 : decode cL_distance 15 = .ok (.astore_n 3, 1) := by decide +kernel
theorem dL_distance_16 : decode cL_distance 16 = .ok (.iconst 2, 1) := by decide +kernel
theorem dL_distance_17 : decode cL_distance 17 = .ok (.ireturn, 1) := by decide +kernel
theorem dL_distance_18 : decode cL_distance 18 = .ok (.iconst 0, 1) := by decide +kernel
theorem dL_distance_19 : decode cL_distance 19 = .ok (.ireturn, 1) := by decide +kernel
set_option maxRecDepth 20000 in
theorem ggL_pathAt_X5_pathAt : GoodIn wsL_pathAt wsX5_pathAt := goodIn_ca (goodIn_ca (goodIn_ca (goodIn_ca (goodIn_r _ [8, 9, 10, 11, 12, 13, 14, 7, 15, 16, 17, 18, 19, 20, 21, 22, 23, 24, 25, 26, 27, 28, 29, 30, 31, 32, 33, 34, 35, 36, 37, 38, 39, 40, 41, 42, 43, 44, 45, 46, 47, 48, 49, 50, 51, 52, 53, 54, 55, 56, 57, 58, 59, 60, 61, 62, 63, 64, 65, 66, 67, 68, 69, 70, 71, 72, 73, 74, 75, 76, 77, 78] (by decide +kernel) (by decide +kernel)) (goodIn_sub (fun _ h => List.mem_cons_of_mem _ (List.mem_append_left _ (List.mem_append_left _ (List.mem_append_right _ h)))) (by decide +kernel))) (goodIn_sub (fun _ h => List.mem_cons_of_mem _ (List.mem_append_left _ (List.mem_append_right _ h))) (by decide +kernel))) (goodIn_sub (fun _ h => List.mem_cons_of_mem _ (List.mem_append_right _ h)) (by decide +kernel))) (goodIn_sub (fun _ h => List.mem_cons_of_mem _ (List.mem_append_left _ (List.mem_append_left _ (List.mem_append_left _ (List.mem_append_right _ h))))) (by decide +kernel))
set_option maxRecDepth 20000 in
theorem gL_pathAt_X5_pathAt : GoodIn wsL_pathAt (wsV RL 104 RX5 yX5_pathAt wsX5_pathAt) := goodIn_app (goodIn_of _ (by decide +kernel)) ggL_pathAt_X5_pathAt
theorem dL_pathAt_0 : decode cL_pathAt 0 = .ok (.aload_n 3, 1) := by decide +kernel
theorem dL_pathAt_1 : decode cL_pathAt 1 = .ok (.iconst 0, 1) := by decide +kernel
theorem dL_pathAt_2 : decode cL_pathAt 2 = .ok (.aload_n 0, 1) := by decide +kernel
theorem dL_pathAt_3 : decode cL_pathAt 3 = .ok (.iload_n 1, 1) := by decide +kernel
theorem dL_pathAt_4 : decode cL_pathAt 4 = .ok (.iload_n 2, 1) := by decide +kernel
theorem dL_pathAt_5 : decode cL_pathAt 5 = .ok (.invokevirtual 104, 3) := by decide +kernel
theorem dL_pathAt_8 : decode cL_pathAt 8 = .ok (.i2l, 1) := by decide +kernel
theorem dL_pathAt_9 : decode cL_pathAt 9 = .ok (.lastore, 1) := by decide +kernel
theorem dL_pathAt_10 : decode cL_pathAt 10 = .ok (.goto 15, 3) := by decide +kernel
theorem dL_pathAt_13 : decode cL_pathAt 13 = .ok (.astore 4, 2) := by decide +kernel
theorem dL_pathAt_15 : decode cL_pathAt 15 = .ok (.iconst 1, 1) := by decide +kernel
theorem dL_pathAt_16 : decode cL_pathAt 16 = .ok (.ireturn, 1) := by decide +kernel
theorem dL_pathAt_17 : decode cL_pathAt 17 = .ok (.astore 4, 2) := by decide +kernel
theorem dL_pathAt_19 : decode cL_pathAt 19 = .ok (.iconst 2, 1) := by decide +kernel
theorem dL_pathAt_20 : decode cL_pathAt 20 = .ok (.ireturn, 1) := by decide +kernel
theorem dL_pathAt_21 : decode cL_pathAt 21 = .ok (.astore 4, 2) := by decide +kernel
theorem dL_pathAt_23 : decode cL_pathAt 23 = .ok (.iconst 3, 1) := by decide +kernel
theorem dL_pathAt_24 : decode cL_pathAt 24 = .ok (.ireturn, 1) := by decide +kernel
theorem dL_pathAt_25 : decode cL_pathAt 25 = .ok (.iconst 0, 1) := by decide +kernel
theorem dL_pathAt_26 : decode cL_pathAt 26 = .ok (.ireturn, 1) := by decide +kernel
set_option maxRecDepth 20000 in
theorem ggL_faultCurrent_X5_faultCurrent : GoodIn wsL_faultCurrent wsX5_faultCurrent := goodIn_ca (goodIn_ca (goodIn_ca (goodIn_ca (goodIn_r _ [7, 8, 9, 10, 11, 12, 6, 13, 14, 15, 16, 17, 18, 19, 20, 21, 22, 23, 24, 25, 26, 27, 28, 29, 30, 31, 32, 33, 34, 35, 36, 37, 38, 39, 40, 41, 42, 43, 44, 45, 46, 47, 48, 49, 50, 51, 52, 53, 54, 55, 56, 57, 58, 59, 60, 61, 62, 63, 64, 65, 66, 67, 68, 69, 70, 71, 72, 73, 74, 75, 76, 77, 78, 79, 80, 81, 82, 83, 84, 85, 86, 87, 88, 89, 90, 91, 92, 93, 94, 95, 96, 97, 98, 99, 100, 101, 102, 103, 104, 105, 106, 107, 108, 109, 110, 111, 112, 113, 114, 115, 116, 117, 118, 119, 120, 121, 122, 123] (by decide +kernel) (by decide +kernel)) (goodIn_sub (fun _ h => List.mem_cons_of_mem _ (List.mem_append_left _ (List.mem_append_left _ (List.mem_append_right _ h)))) (by decide +kernel))) (goodIn_sub (fun _ h => List.mem_cons_of_mem _ (List.mem_append_left _ (List.mem_append_right _ h))) (by decide +kernel))) (goodIn_sub (fun _ h => List.mem_cons_of_mem _ (List.mem_append_left _ (List.mem_append_left _ (List.mem_append_left _ (List.mem_append_right _ h))))) (by decide +kernel))) (goodIn_sub (fun _ h => List.mem_cons_of_mem _ (List.mem_append_right _ h)) (by decide +kernel))
set_option maxRecDepth 20000 in
theorem gL_faultCurrent_X5_faultCurrent : GoodIn wsL_faultCurrent (wsV RL 109 RX5 yX5_faultCurrent wsX5_faultCurrent) := goodIn_app (goodIn_of _ (by decide +kernel)) ggL_faultCurrent_X5_faultCurrent
theorem dL_faultCurrent_0 : decode cL_faultCurrent 0 = .ok (.aload_n 2, 1) := by decide +kernel
theorem dL_faultCurrent_1 : decode cL_faultCurrent 1 = .ok (.iconst 0, 1) := by decide +kernel
theorem dL_faultCurrent_2 : decode cL_faultCurrent 2 = .ok (.aload_n 0, 1) := by decide +kernel
theorem dL_faultCurrent_3 : decode cL_faultCurrent 3 = .ok (.iload_n 1, 1) := by decide +kernel
theorem dL_faultCurrent_4 : decode cL_faultCurrent 4 = .ok (.invokevirtual 109, 3) := by decide +kernel
theorem dL_faultCurrent_7 : decode cL_faultCurrent 7 = .ok (.i2l, 1) := by decide +kernel
theorem dL_faultCurrent_8 : decode cL_faultCurrent 8 = .ok (.lastore, 1) := by decide +kernel
theorem dL_faultCurrent_9 : decode cL_faultCurrent 9 = .ok (.goto 9, 3) := by decide +kernel
theorem dL_faultCurrent_12 : decode cL_faultCurrent 12 = .ok (.astore_n 3, 1) := by decide +kernel
theorem dL_faultCurrent_13 : decode cL_faultCurrent 13 = .ok (.iconst 1, 1) := by decide +kernel
theorem dL_faultCurrent_14 : decode cL_faultCurrent 14 = .ok (.ireturn, 1) := by decide +kernel
theorem dL_faultCurrent_15 : decode cL_faultCurrent 15 = .ok (.astore_n 3, 1) := by decide +kernel
theorem dL_faultCurrent_16 : decode cL_faultCurrent 16 = .ok (.iconst 2, 1) := by decide +kernel
theorem dL_faultCurrent_17 : decode cL_faultCurrent 17 = .ok (.ireturn, 1) := by decide +kernel
theorem dL_faultCurrent_18 : decode cL_faultCurrent 18 = .ok (.iconst 0, 1) := by decide +kernel
theorem dL_faultCurrent_19 : decode cL_faultCurrent 19 = .ok (.ireturn, 1) := by decide +kernel
set_option maxRecDepth 20000 in
theorem ggL_tripTime_X5_tripTime : GoodIn wsL_tripTime wsX5_tripTime := goodIn_ca (goodIn_ca (goodIn_ca (goodIn_ca (goodIn_ca (goodIn_r _ [8, 9, 10, 11, 12, 13, 14, 15, 7, 16, 17, 18, 19, 20, 21, 22, 23, 24, 25, 26, 27, 28, 29, 30, 31, 32, 33, 34, 35, 36, 37, 38, 39, 40, 41, 42, 43, 44, 45, 46, 47, 48, 49, 50, 51, 52, 53, 54, 55, 56, 57, 58, 59, 60, 61, 62, 63, 64, 65] (by decide +kernel) (by decide +kernel)) (goodIn_sub (fun _ h => List.mem_cons_of_mem _ (List.mem_append_left _ (List.mem_append_left _ (List.mem_append_left _ (List.mem_append_right _ h))))) (by decide +kernel))) (goodIn_sub (fun _ h => List.mem_cons_of_mem _ (List.mem_append_left _ (List.mem_append_left _ (List.mem_append_right _ h)))) (by decide +kernel))) (goodIn_sub (fun _ h => List.mem_cons_of_mem _ (List.mem_append_left _ (List.mem_append_right _ h))) (by decide +kernel))) (goodIn_sub (fun _ h => List.mem_cons_of_mem _ (List.mem_append_left _ (List.mem_append_left _ (List.mem_append_left _ (List.mem_append_left _ (List.mem_append_right _ h)))))) (by decide +kernel))) (goodIn_sub (fun _ h => List.mem_cons_of_mem _ (List.mem_append_right _ h)) (by decide +kernel))
set_option maxRecDepth 20000 in
theorem gL_tripTime_X5_tripTime : GoodIn wsL_tripTime (wsV RL 112 RX5 yX5_tripTime wsX5_tripTime) := goodIn_app (goodIn_of _ (by decide +kernel)) ggL_tripTime_X5_tripTime
theorem dL_tripTime_0 : decode cL_tripTime 0 = .ok (.aload_n 3, 1) := by decide +kernel
theorem dL_tripTime_1 : decode cL_tripTime 1 = .ok (.iconst 0, 1) := by decide +kernel
theorem dL_tripTime_2 : decode cL_tripTime 2 = .ok (.aload_n 0, 1) := by decide +kernel
theorem dL_tripTime_3 : decode cL_tripTime 3 = .ok (.iload_n 1, 1) := by decide +kernel
theorem dL_tripTime_4 : decode cL_tripTime 4 = .ok (.iload_n 2, 1) := by decide +kernel
theorem dL_tripTime_5 : decode cL_tripTime 5 = .ok (.invokevirtual 112, 3) := by decide +kernel
theorem dL_tripTime_8 : decode cL_tripTime 8 = .ok (.i2l, 1) := by decide +kernel
theorem dL_tripTime_9 : decode cL_tripTime 9 = .ok (.lastore, 1) := by decide +kernel
theorem dL_tripTime_10 : decode cL_tripTime 10 = .ok (.goto 15, 3) := by decide +kernel
theorem dL_tripTime_13 : decode cL_tripTime 13 = .ok (.astore 4, 2) := by decide +kernel
theorem dL_tripTime_15 : decode cL_tripTime 15 = .ok (.iconst 1, 1) := by decide +kernel
theorem dL_tripTime_16 : decode cL_tripTime 16 = .ok (.ireturn, 1) := by decide +kernel
theorem dL_tripTime_17 : decode cL_tripTime 17 = .ok (.astore 4, 2) := by decide +kernel
theorem dL_tripTime_19 : decode cL_tripTime 19 = .ok (.iconst 2, 1) := by decide +kernel
theorem dL_tripTime_20 : decode cL_tripTime 20 = .ok (.ireturn, 1) := by decide +kernel
theorem dL_tripTime_21 : decode cL_tripTime 21 = .ok (.astore 4, 2) := by decide +kernel
theorem dL_tripTime_23 : decode cL_tripTime 23 = .ok (.iconst 3, 1) := by decide +kernel
theorem dL_tripTime_24 : decode cL_tripTime 24 = .ok (.ireturn, 1) := by decide +kernel
theorem dL_tripTime_25 : decode cL_tripTime 25 = .ok (.iconst 0, 1) := by decide +kernel
theorem dL_tripTime_26 : decode cL_tripTime 26 = .ok (.ireturn, 1) := by decide +kernel
set_option maxRecDepth 20000 in
theorem ggL_wouldTrip_X5_wouldTrip : GoodIn wsL_wouldTrip wsX5_wouldTrip := goodIn_ca (goodIn_ca (goodIn_ca (goodIn_r _ [6, 7, 8, 9, 10, 11, 5, 12, 13, 14, 15, 16, 17, 18, 19, 20, 21, 22, 23, 24, 25, 26, 27, 28, 29, 30, 31, 32, 33, 34, 35, 36, 37, 38, 39, 40, 41, 42, 43, 44, 45, 46, 47, 48, 49, 50, 51, 52, 53, 54, 55, 56, 57, 58, 59, 60, 61, 62, 63, 64, 65, 66, 67, 68, 69, 70, 71, 72, 73, 74, 75, 76, 77, 78, 79, 80, 81, 82, 83, 84, 85, 86, 87, 88, 89, 90, 91, 92, 93, 94, 95, 96, 97, 98, 99, 100, 101, 102, 103, 104, 105, 106, 107, 108, 109, 110, 111, 112, 113, 114, 115, 116, 117, 118, 119, 120, 121, 122, 123, 124, 125, 126, 127, 128, 129, 130, 131, 132, 133, 134, 135, 136] (by decide +kernel) (by decide +kernel)) (goodIn_sub (fun _ h => List.mem_cons_of_mem _ (List.mem_append_left _ (List.mem_append_right _ h))) (by decide +kernel))) (goodIn_sub (fun _ h => List.mem_cons_of_mem _ (List.mem_append_left _ (List.mem_append_left _ (List.mem_append_right _ h)))) (by decide +kernel))) (goodIn_sub (fun _ h => List.mem_cons_of_mem _ (List.mem_append_right _ h)) (by decide +kernel))
set_option maxRecDepth 20000 in
theorem gL_wouldTrip_X5_wouldTrip : GoodIn wsL_wouldTrip (wsV RL 115 RX5 yX5_wouldTrip wsX5_wouldTrip) := goodIn_app (goodIn_of _ (by decide +kernel)) ggL_wouldTrip_X5_wouldTrip
theorem dL_wouldTrip_0 : decode cL_wouldTrip 0 = .ok (.aload_n 2, 1) := by decide +kernel
theorem dL_wouldTrip_1 : decode cL_wouldTrip 1 = .ok (.iconst 0, 1) := by decide +kernel
theorem dL_wouldTrip_2 : decode cL_wouldTrip 2 = .ok (.aload_n 0, 1) := by decide +kernel
theorem dL_wouldTrip_3 : decode cL_wouldTrip 3 = .ok (.iload_n 1, 1) := by decide +kernel
theorem dL_wouldTrip_4 : decode cL_wouldTrip 4 = .ok (.invokevirtual 115, 3) := by decide +kernel
theorem dL_wouldTrip_7 : decode cL_wouldTrip 7 = .ok (.i2l, 1) := by decide +kernel
theorem dL_wouldTrip_8 : decode cL_wouldTrip 8 = .ok (.lastore, 1) := by decide +kernel
theorem dL_wouldTrip_9 : decode cL_wouldTrip 9 = .ok (.goto 6, 3) := by decide +kernel
theorem dL_wouldTrip_12 : decode cL_wouldTrip 12 = .ok (.astore_n 3, 1) := by decide +kernel
theorem dL_wouldTrip_13 : decode cL_wouldTrip 13 = .ok (.iconst 1, 1) := by decide +kernel
theorem dL_wouldTrip_14 : decode cL_wouldTrip 14 = .ok (.ireturn, 1) := by decide +kernel
theorem dL_wouldTrip_15 : decode cL_wouldTrip 15 = .ok (.iconst 0, 1) := by decide +kernel
theorem dL_wouldTrip_16 : decode cL_wouldTrip 16 = .ok (.ireturn, 1) := by decide +kernel
set_option maxRecDepth 20000 in
theorem ggL_isSelective_X5_isSelective : GoodIn wsL_isSelective wsX5_isSelective := goodIn_ca (goodIn_ca (goodIn_ca (goodIn_r _ [6, 7, 8, 9, 10, 11, 5, 12, 13, 14, 15, 16, 17, 18, 19, 20, 21, 22, 23, 24, 25, 26, 27, 28, 29, 30, 31, 32, 33, 34, 35, 36, 37, 38, 39, 40, 41, 42, 43, 44, 45, 46, 47, 48, 49, 50, 51, 52, 53, 54, 55, 56, 57, 58, 59, 60, 61, 62, 63, 64, 65, 66, 67, 68, 69, 70, 71, 72, 73, 74, 75, 76, 77, 78, 79, 80, 81, 82, 83, 84, 85, 86, 87, 88, 89, 90, 91, 92, 93, 94, 95, 96, 97, 98, 99, 100, 101, 102, 103, 104, 105, 106, 107, 108, 109, 110, 111, 112, 113, 114, 115, 116, 117, 118, 119, 120, 121, 122, 123, 124, 125, 126, 127, 128, 129, 130, 131, 132, 133, 134, 135, 136] (by decide +kernel) (by decide +kernel)) (goodIn_sub (fun _ h => List.mem_cons_of_mem _ (List.mem_append_left _ (List.mem_append_right _ h))) (by decide +kernel))) (goodIn_sub (fun _ h => List.mem_cons_of_mem _ (List.mem_append_left _ (List.mem_append_left _ (List.mem_append_right _ h)))) (by decide +kernel))) (goodIn_sub (fun _ h => List.mem_cons_of_mem _ (List.mem_append_right _ h)) (by decide +kernel))
set_option maxRecDepth 20000 in
theorem gL_isSelective_X5_isSelective : GoodIn wsL_isSelective (wsV RL 118 RX5 yX5_isSelective wsX5_isSelective) := goodIn_app (goodIn_of _ (by decide +kernel)) ggL_isSelective_X5_isSelective
theorem dL_isSelective_0 : decode cL_isSelective 0 = .ok (.aload_n 2, 1) := by decide +kernel
theorem dL_isSelective_1 : decode cL_isSelective 1 = .ok (.iconst 0, 1) := by decide +kernel
theorem dL_isSelective_2 : decode cL_isSelective 2 = .ok (.aload_n 0, 1) := by decide +kernel
theorem dL_isSelective_3 : decode cL_isSelective 3 = .ok (.iload_n 1, 1) := by decide +kernel
theorem dL_isSelective_4 : decode cL_isSelective 4 = .ok (.invokevirtual 118, 3) := by decide +kernel
theorem dL_isSelective_7 : decode cL_isSelective 7 = .ok (.ifCond .eq 7, 3) := by decide +kernel
theorem dL_isSelective_10 : decode cL_isSelective 10 = .ok (.lconst 1, 1) := by decide +kernel
theorem dL_isSelective_11 : decode cL_isSelective 11 = .ok (.goto 4, 3) := by decide +kernel
theorem dL_isSelective_14 : decode cL_isSelective 14 = .ok (.lconst 0, 1) := by decide +kernel
theorem dL_isSelective_15 : decode cL_isSelective 15 = .ok (.lastore, 1) := by decide +kernel
theorem dL_isSelective_16 : decode cL_isSelective 16 = .ok (.goto 6, 3) := by decide +kernel
theorem dL_isSelective_19 : decode cL_isSelective 19 = .ok (.astore_n 3, 1) := by decide +kernel
theorem dL_isSelective_20 : decode cL_isSelective 20 = .ok (.iconst 1, 1) := by decide +kernel
theorem dL_isSelective_21 : decode cL_isSelective 21 = .ok (.ireturn, 1) := by decide +kernel
theorem dL_isSelective_22 : decode cL_isSelective 22 = .ok (.iconst 0, 1) := by decide +kernel
theorem dL_isSelective_23 : decode cL_isSelective 23 = .ok (.ireturn, 1) := by decide +kernel
set_option maxRecDepth 20000 in
theorem ggL_margin_X5_margin : GoodIn wsL_margin wsX5_margin := goodIn_ca (goodIn_ca (goodIn_ca (goodIn_ca (goodIn_ca (goodIn_r _ [8, 9, 10, 11, 12, 13, 14, 15, 16, 17, 7, 18, 19, 20, 21, 22, 23, 24, 25, 26, 27, 28, 29, 30, 31, 32, 33, 34, 35, 36, 37, 38, 39, 40, 41, 42, 43, 44, 45, 46, 47, 48, 49, 50, 51, 52, 53, 54, 55, 56, 57, 58, 59, 60, 61, 62, 63, 64, 65, 66, 67, 68, 69, 70, 71, 72, 73, 74, 75, 76, 77, 78, 79, 80, 81, 82, 83, 84, 85, 86, 87, 88, 89, 90, 91, 92, 93, 94, 95, 96, 97, 98, 99, 100, 101, 102, 103, 104, 105, 106, 107, 108, 109, 110, 111, 112, 113, 114, 115, 116, 117, 118, 119, 120, 121, 122, 123, 124, 125, 126, 127, 128, 129, 130, 131, 132, 133, 134, 135, 136, 137, 138, 139, 140, 141, 142, 143, 144, 145, 146] (by decide +kernel) (by decide +kernel)) (goodIn_sub (fun _ h => List.mem_cons_of_mem _ (List.mem_append_left _ (List.mem_append_left _ (List.mem_append_left _ (List.mem_append_right _ h))))) (by decide +kernel))) (goodIn_sub (fun _ h => List.mem_cons_of_mem _ (List.mem_append_left _ (List.mem_append_left _ (List.mem_append_right _ h)))) (by decide +kernel))) (goodIn_sub (fun _ h => List.mem_cons_of_mem _ (List.mem_append_left _ (List.mem_append_right _ h))) (by decide +kernel))) (goodIn_sub (fun _ h => List.mem_cons_of_mem _ (List.mem_append_left _ (List.mem_append_left _ (List.mem_append_left _ (List.mem_append_left _ (List.mem_append_right _ h)))))) (by decide +kernel))) (goodIn_sub (fun _ h => List.mem_cons_of_mem _ (List.mem_append_right _ h)) (by decide +kernel))
set_option maxRecDepth 20000 in
theorem gL_margin_X5_margin : GoodIn wsL_margin (wsV RL 121 RX5 yX5_margin wsX5_margin) := goodIn_app (goodIn_of _ (by decide +kernel)) ggL_margin_X5_margin
theorem dL_margin_0 : decode cL_margin 0 = .ok (.aload_n 2, 1) := by decide +kernel
theorem dL_margin_1 : decode cL_margin 1 = .ok (.iconst 0, 1) := by decide +kernel
theorem dL_margin_2 : decode cL_margin 2 = .ok (.aload_n 0, 1) := by decide +kernel
theorem dL_margin_3 : decode cL_margin 3 = .ok (.iload_n 1, 1) := by decide +kernel
theorem dL_margin_4 : decode cL_margin 4 = .ok (.invokevirtual 121, 3) := by decide +kernel
theorem dL_margin_7 : decode cL_margin 7 = .ok (.i2l, 1) := by decide +kernel
theorem dL_margin_8 : decode cL_margin 8 = .ok (.lastore, 1) := by decide +kernel
theorem dL_margin_9 : decode cL_margin 9 = .ok (.goto 12, 3) := by decide +kernel
theorem dL_margin_12 : decode cL_margin 12 = .ok (.astore_n 3, 1) := by decide +kernel
theorem dL_margin_13 : decode cL_margin 13 = .ok (.iconst 1, 1) := by decide +kernel
theorem dL_margin_14 : decode cL_margin 14 = .ok (.ireturn, 1) := by decide +kernel
theorem dL_margin_15 : decode cL_margin 15 = .ok (.astore_n 3, 1) := by decide +kernel
theorem dL_margin_16 : decode cL_margin 16 = .ok (.iconst 2, 1) := by decide +kernel
theorem dL_margin_17 : decode cL_margin 17 = .ok (.ireturn, 1) := by decide +kernel
theorem dL_margin_18 : decode cL_margin 18 = .ok (.astore_n 3, 1) := by decide +kernel
theorem dL_margin_19 : decode cL_margin 19 = .ok (.iconst 3, 1) := by decide +kernel
theorem dL_margin_20 : decode cL_margin 20 = .ok (.ireturn, 1) := by decide +kernel
theorem dL_margin_21 : decode cL_margin 21 = .ok (.iconst 0, 1) := by decide +kernel
theorem dL_margin_22 : decode cL_margin 22 = .ok (.ireturn, 1) := by decide +kernel
set_option maxRecDepth 20000 in
theorem ggL_bestAt_X5_bestAt : GoodIn wsL_bestAt wsX5_bestAt := goodIn_ca (goodIn_ca (goodIn_r _ [6, 7, 8, 9, 10, 11, 12, 13, 14, 15, 16, 17, 18, 19, 20, 21, 22, 23, 24, 25, 26, 27, 28, 29, 30, 31, 32, 33, 34, 35, 36, 37, 38, 39, 40, 41, 42, 43, 44, 5, 45, 46, 47, 48, 49, 50, 51, 52, 53, 54, 55, 56, 57, 58, 59, 60, 61, 62, 63, 64, 65, 66, 67, 68, 69, 70, 71, 72, 73, 74, 75, 76, 77, 78, 79, 80, 81, 82, 83, 84, 85, 86, 87, 88, 89, 90, 91, 92, 93, 94, 95, 96, 97, 98, 99, 100, 101, 102, 103, 104, 105, 106, 107, 108, 109, 110, 111, 112, 113, 114, 115, 116, 117, 118, 119, 120, 121, 122, 123, 124, 125, 126, 127, 128, 129, 130, 131, 132, 133, 134, 135, 136, 137, 138, 139, 140, 141, 142, 143, 144, 145, 146, 147, 148, 149, 150, 151, 152, 153, 154, 155, 156, 157, 158, 159, 160, 161, 162, 163, 164, 165, 166, 167, 168, 169, 170, 171, 172, 173, 174, 175, 176, 177, 178, 179, 180, 181, 182, 183, 184, 185, 186, 187, 188, 189] (by decide +kernel) (by decide +kernel)) (goodIn_sub (fun _ h => List.mem_cons_of_mem _ (List.mem_append_right _ h)) (by decide +kernel))) (goodIn_sub (fun _ h => List.mem_cons_of_mem _ (List.mem_append_left _ (List.mem_append_right _ h))) (by decide +kernel))
set_option maxRecDepth 20000 in
theorem gL_bestAt_X5_bestAt : GoodIn wsL_bestAt (wsV RL 124 RX5 yX5_bestAt wsX5_bestAt) := goodIn_app (goodIn_of _ (by decide +kernel)) ggL_bestAt_X5_bestAt
theorem dL_bestAt_0 : decode cL_bestAt 0 = .ok (.aload_n 2, 1) := by decide +kernel
theorem dL_bestAt_1 : decode cL_bestAt 1 = .ok (.iconst 0, 1) := by decide +kernel
theorem dL_bestAt_2 : decode cL_bestAt 2 = .ok (.aload_n 0, 1) := by decide +kernel
theorem dL_bestAt_3 : decode cL_bestAt 3 = .ok (.iload_n 1, 1) := by decide +kernel
theorem dL_bestAt_4 : decode cL_bestAt 4 = .ok (.invokevirtual 124, 3) := by decide +kernel
theorem dL_bestAt_7 : decode cL_bestAt 7 = .ok (.i2l, 1) := by decide +kernel
theorem dL_bestAt_8 : decode cL_bestAt 8 = .ok (.lastore, 1) := by decide +kernel
theorem dL_bestAt_9 : decode cL_bestAt 9 = .ok (.goto 6, 3) := by decide +kernel
theorem dL_bestAt_12 : decode cL_bestAt 12 = .ok (.astore_n 3, 1) := by decide +kernel
theorem dL_bestAt_13 : decode cL_bestAt 13 = .ok (.iconst 1, 1) := by decide +kernel
theorem dL_bestAt_14 : decode cL_bestAt 14 = .ok (.ireturn, 1) := by decide +kernel
theorem dL_bestAt_15 : decode cL_bestAt 15 = .ok (.iconst 0, 1) := by decide +kernel
theorem dL_bestAt_16 : decode cL_bestAt 16 = .ok (.ireturn, 1) := by decide +kernel
set_option maxRecDepth 20000 in
theorem ggL_valueByTrying_X5_valueByTrying : GoodIn wsL_valueByTrying wsX5_valueByTrying := goodIn_ca (goodIn_ca (goodIn_r _ [6, 7, 8, 9, 10, 5, 11, 12, 13, 14, 15, 16, 17, 18, 19, 20, 21, 22, 23, 24, 25, 26, 27, 28, 29, 30, 31, 32, 33, 34, 35, 36, 37, 38, 39, 40, 41, 42, 43, 44, 45, 46, 47, 48, 49, 50, 51, 52, 53, 54, 55, 56, 57, 58, 59, 60, 61, 62, 63, 64, 65, 66, 67, 68, 69, 70, 71, 72, 73, 74, 75, 76, 77, 78, 79, 80, 81, 82, 83, 84, 85, 86, 87, 88, 89, 90, 91, 92, 93, 94, 95, 96, 97, 98, 99, 100, 101, 102, 103, 104, 105, 106, 107, 108, 109, 110, 111, 112, 113, 114, 115, 116, 117, 118, 119, 120, 121, 122, 123, 124, 125, 126, 127, 128, 129, 130, 131, 132, 133, 134, 135, 136, 137, 138, 139, 140, 141, 142, 143, 144, 145, 146, 147, 148, 149, 150, 151, 152, 153, 154, 155, 156, 157, 158, 159, 160, 161, 162, 163, 164, 165, 166, 167, 168, 169, 170, 171, 172, 173, 174, 175, 176, 177, 178, 179, 180, 181, 182, 183, 184, 185, 186, 187, 188, 189, 190, 191, 192, 193, 194, 195] (by decide +kernel) (by decide +kernel)) (goodIn_sub (fun _ h => List.mem_cons_of_mem _ (List.mem_append_right _ h)) (by decide +kernel))) (goodIn_sub (fun _ h => List.mem_cons_of_mem _ (List.mem_append_left _ (List.mem_append_right _ h))) (by decide +kernel))
set_option maxRecDepth 20000 in
theorem gL_valueByTrying_X5_valueByTrying : GoodIn wsL_valueByTrying (wsV RL 127 RX5 yX5_valueByTrying wsX5_valueByTrying) := goodIn_app (goodIn_of _ (by decide +kernel)) ggL_valueByTrying_X5_valueByTrying
theorem dL_valueByTrying_0 : decode cL_valueByTrying 0 = .ok (.aload_n 1, 1) := by decide +kernel
theorem dL_valueByTrying_1 : decode cL_valueByTrying 1 = .ok (.iconst 0, 1) := by decide +kernel
theorem dL_valueByTrying_2 : decode cL_valueByTrying 2 = .ok (.aload_n 0, 1) := by decide +kernel
theorem dL_valueByTrying_3 : decode cL_valueByTrying 3 = .ok (.invokevirtual 127, 3) := by decide +kernel
theorem dL_valueByTrying_6 : decode cL_valueByTrying 6 = .ok (.i2l, 1) := by decide +kernel
theorem dL_valueByTrying_7 : decode cL_valueByTrying 7 = .ok (.lastore, 1) := by decide +kernel
theorem dL_valueByTrying_8 : decode cL_valueByTrying 8 = .ok (.goto 6, 3) := by decide +kernel
theorem dL_valueByTrying_11 : decode cL_valueByTrying 11 = .ok (.astore_n 2, 1) := by decide +kernel
theorem dL_valueByTrying_12 : decode cL_valueByTrying 12 = .ok (.iconst 1, 1) := by decide +kernel
theorem dL_valueByTrying_13 : decode cL_valueByTrying 13 = .ok (.ireturn, 1) := by decide +kernel
theorem dL_valueByTrying_14 : decode cL_valueByTrying 14 = .ok (.iconst 0, 1) := by decide +kernel
theorem dL_valueByTrying_15 : decode cL_valueByTrying 15 = .ok (.ireturn, 1) := by decide +kernel
set_option maxRecDepth 20000 in
theorem ggL_sizeByTrying_X5_sizeByTrying : GoodIn wsL_sizeByTrying wsX5_sizeByTrying := goodIn_ca (goodIn_ca (goodIn_r _ [6, 7, 8, 9, 10, 5, 11, 12, 13, 14, 15, 16, 17, 18, 19, 20, 21, 22, 23, 24, 25, 26, 27, 28, 29, 30, 31, 32, 33, 34, 35, 36, 37, 38, 39, 40, 41, 42, 43, 44, 45, 46, 47, 48, 49, 50, 51, 52, 53, 54, 55, 56, 57, 58, 59, 60, 61, 62, 63, 64, 65, 66, 67, 68, 69, 70, 71, 72, 73, 74, 75, 76, 77, 78, 79, 80, 81, 82, 83, 84, 85, 86, 87, 88, 89, 90, 91, 92, 93, 94, 95, 96, 97, 98, 99, 100, 101, 102, 103, 104, 105, 106, 107, 108, 109, 110, 111, 112, 113, 114, 115, 116, 117, 118, 119, 120, 121, 122, 123, 124, 125, 126, 127, 128, 129, 130, 131, 132, 133, 134, 135, 136, 137, 138, 139, 140, 141, 142, 143, 144, 145, 146, 147, 148, 149, 150, 151, 152, 153, 154, 155, 156, 157, 158, 159, 160, 161, 162, 163, 164, 165, 166, 167, 168, 169, 170, 171, 172, 173, 174, 175, 176, 177, 178, 179, 180, 181, 182, 183, 184, 185, 186, 187, 188, 189, 190, 191, 192, 193, 194, 195] (by decide +kernel) (by decide +kernel)) (goodIn_sub (fun _ h => List.mem_cons_of_mem _ (List.mem_append_right _ h)) (by decide +kernel))) (goodIn_sub (fun _ h => List.mem_cons_of_mem _ (List.mem_append_left _ (List.mem_append_right _ h))) (by decide +kernel))
set_option maxRecDepth 20000 in
theorem gL_sizeByTrying_X5_sizeByTrying : GoodIn wsL_sizeByTrying (wsV RL 131 RX5 yX5_sizeByTrying wsX5_sizeByTrying) := goodIn_app (goodIn_of _ (by decide +kernel)) ggL_sizeByTrying_X5_sizeByTrying
theorem dL_sizeByTrying_0 : decode cL_sizeByTrying 0 = .ok (.aload_n 1, 1) := by decide +kernel
theorem dL_sizeByTrying_1 : decode cL_sizeByTrying 1 = .ok (.iconst 0, 1) := by decide +kernel
theorem dL_sizeByTrying_2 : decode cL_sizeByTrying 2 = .ok (.aload_n 0, 1) := by decide +kernel
theorem dL_sizeByTrying_3 : decode cL_sizeByTrying 3 = .ok (.invokevirtual 131, 3) := by decide +kernel
theorem dL_sizeByTrying_6 : decode cL_sizeByTrying 6 = .ok (.i2l, 1) := by decide +kernel
theorem dL_sizeByTrying_7 : decode cL_sizeByTrying 7 = .ok (.lastore, 1) := by decide +kernel
theorem dL_sizeByTrying_8 : decode cL_sizeByTrying 8 = .ok (.goto 6, 3) := by decide +kernel
theorem dL_sizeByTrying_11 : decode cL_sizeByTrying 11 = .ok (.astore_n 2, 1) := by decide +kernel
theorem dL_sizeByTrying_12 : decode cL_sizeByTrying 12 = .ok (.iconst 1, 1) := by decide +kernel
theorem dL_sizeByTrying_13 : decode cL_sizeByTrying 13 = .ok (.ireturn, 1) := by decide +kernel
theorem dL_sizeByTrying_14 : decode cL_sizeByTrying 14 = .ok (.iconst 0, 1) := by decide +kernel
theorem dL_sizeByTrying_15 : decode cL_sizeByTrying 15 = .ok (.ireturn, 1) := by decide +kernel
set_option maxRecDepth 20000 in
theorem ggL_liveShare_X5_liveShare : GoodIn wsL_liveShare wsX5_liveShare := goodIn_ca (goodIn_ca (goodIn_r _ [6, 7, 8, 9, 10, 11, 12, 13, 14, 15, 16, 5, 17, 18, 19, 20, 21, 22, 23, 24, 25, 26, 27, 28, 29, 30, 31, 32, 33, 34, 35, 36, 37, 38, 39, 40, 41, 42, 43, 44, 45, 46, 47, 48, 49, 50, 51, 52, 53, 54, 55, 56, 57, 58, 59, 60, 61, 62, 63, 64, 65, 66, 67, 68, 69, 70, 71, 72, 73, 74, 75] (by decide +kernel) (by decide +kernel)) (goodIn_sub (fun _ h => List.mem_cons_of_mem _ (List.mem_append_right _ h)) (by decide +kernel))) (goodIn_sub (fun _ h => List.mem_cons_of_mem _ (List.mem_append_left _ (List.mem_append_right _ h))) (by decide +kernel))
set_option maxRecDepth 20000 in
theorem gL_liveShare_X5_liveShare : GoodIn wsL_liveShare (wsV RL 134 RX5 yX5_liveShare wsX5_liveShare) := goodIn_app (goodIn_of _ (by decide +kernel)) ggL_liveShare_X5_liveShare
theorem dL_liveShare_0 : decode cL_liveShare 0 = .ok (.aload_n 1, 1) := by decide +kernel
theorem dL_liveShare_1 : decode cL_liveShare 1 = .ok (.iconst 0, 1) := by decide +kernel
theorem dL_liveShare_2 : decode cL_liveShare 2 = .ok (.aload_n 0, 1) := by decide +kernel
theorem dL_liveShare_3 : decode cL_liveShare 3 = .ok (.invokevirtual 134, 3) := by decide +kernel
theorem dL_liveShare_6 : decode cL_liveShare 6 = .ok (.f2d, 1) := by decide +kernel
theorem dL_liveShare_7 : decode cL_liveShare 7 = .ok (.dastore, 1) := by decide +kernel
theorem dL_liveShare_8 : decode cL_liveShare 8 = .ok (.goto 6, 3) := by decide +kernel
theorem dL_liveShare_11 : decode cL_liveShare 11 = .ok (.astore_n 2, 1) := by decide +kernel
theorem dL_liveShare_12 : decode cL_liveShare 12 = .ok (.iconst 1, 1) := by decide +kernel
theorem dL_liveShare_13 : decode cL_liveShare 13 = .ok (.ireturn, 1) := by decide +kernel
theorem dL_liveShare_14 : decode cL_liveShare 14 = .ok (.iconst 0, 1) := by decide +kernel
theorem dL_liveShare_15 : decode cL_liveShare 15 = .ok (.ireturn, 1) := by decide +kernel
set_option maxRecDepth 20000 in
theorem ggL_meanCurrent_X5_meanCurrent : GoodIn wsL_meanCurrent wsX5_meanCurrent := goodIn_ca (goodIn_ca (goodIn_r _ [6, 7, 8, 9, 10, 11, 12, 13, 14, 5, 15, 16, 17, 18, 19, 20, 21, 22, 23, 24, 25, 26, 27, 28, 29, 30, 31, 32, 33, 34, 35, 36, 37, 38, 39, 40, 41, 42, 43, 44, 45, 46, 47, 48, 49, 50, 51, 52, 53, 54, 55, 56, 57, 58, 59, 60, 61, 62, 63, 64, 65, 66, 67, 68, 69, 70, 71, 72, 73, 74, 75, 76, 77, 78, 79, 80, 81, 82, 83, 84, 85, 86, 87, 88, 89, 90, 91, 92, 93, 94, 95, 96, 97, 98, 99, 100, 101, 102] (by decide +kernel) (by decide +kernel)) (goodIn_sub (fun _ h => List.mem_cons_of_mem _ (List.mem_append_right _ h)) (by decide +kernel))) (goodIn_sub (fun _ h => List.mem_cons_of_mem _ (List.mem_append_left _ (List.mem_append_right _ h))) (by decide +kernel))
set_option maxRecDepth 20000 in
theorem gL_meanCurrent_X5_meanCurrent : GoodIn wsL_meanCurrent (wsV RL 140 RX5 yX5_meanCurrent wsX5_meanCurrent) := goodIn_app (goodIn_of _ (by decide +kernel)) ggL_meanCurrent_X5_meanCurrent
theorem dL_meanCurrent_0 : decode cL_meanCurrent 0 = .ok (.aload_n 1, 1) := by decide +kernel
theorem dL_meanCurrent_1 : decode cL_meanCurrent 1 = .ok (.iconst 0, 1) := by decide +kernel
theorem dL_meanCurrent_2 : decode cL_meanCurrent 2 = .ok (.aload_n 0, 1) := by decide +kernel
theorem dL_meanCurrent_3 : decode cL_meanCurrent 3 = .ok (.invokevirtual 140, 3) := by decide +kernel
theorem dL_meanCurrent_6 : decode cL_meanCurrent 6 = .ok (.dastore, 1) := by decide +kernel
theorem dL_meanCurrent_7 : decode cL_meanCurrent 7 = .ok (.goto 6, 3) := by decide +kernel
theorem dL_meanCurrent_10 : decode cL_meanCurrent 10 = .ok (.astore_n 2, 1) := by decide +kernel
theorem dL_meanCurrent_11 : decode cL_meanCurrent 11 = .ok (.iconst 1, 1) := by decide +kernel
theorem dL_meanCurrent_12 : decode cL_meanCurrent 12 = .ok (.ireturn, 1) := by decide +kernel
theorem dL_meanCurrent_13 : decode cL_meanCurrent 13 = .ok (.iconst 0, 1) := by decide +kernel
theorem dL_meanCurrent_14 : decode cL_meanCurrent 14 = .ok (.ireturn, 1) := by decide +kernel
set_option maxRecDepth 20000 in
theorem ggL_law_X5_init : GoodIn wsL_law wsX5_init := goodIn_r _ [10, 11, 12, 13, 14, 15, 16, 17, 18, 19, 20, 21, 22, 23, 24, 25, 26, 27, 28, 29, 30, 31, 32, 33, 34, 35, 36, 37, 38, 39, 40, 41, 42, 43, 44, 45, 46, 47, 48, 49, 50, 51, 52, 53, 54, 55, 56, 57, 58, 59, 60, 61, 62, 63, 64, 65, 66, 67, 68, 69, 70, 71, 1072, 1073, 1074, 1075, 1076, 1077, 1078, 1079, 1080, 1081, 1039, 1040, 1041, 1042, 1043, 1044, 1082, 1083, 1084, 1085, 1086, 1087, 1088, 1089, 1090, 1091, 1092, 1093, 1094, 1095, 1096, 1097, 1098, 1099] (by decide +kernel) (by decide +kernel)
set_option maxRecDepth 20000 in
theorem gL_law_X5_init : GoodIn wsL_law (wsX5_init) := ggL_law_X5_init
set_option maxRecDepth 20000 in
theorem ggL_law_X6_init : GoodIn wsL_law wsX6_init := goodIn_r _ [74, 75, 12, 13, 76, 77, 37, 78, 79, 80, 81, 82, 83, 84, 85, 86, 87, 88, 89, 90, 91, 92, 93, 94, 95, 1045, 1046, 1047, 1048, 1049, 1050, 1051, 1052, 1053, 1054, 1055, 1056, 1057, 1058, 1059, 1060, 1061, 1062, 1063, 1064, 1065, 1066, 1067, 1068, 1069, 1070, 1071] (by decide +kernel) (by decide +kernel)
set_option maxRecDepth 20000 in
theorem gL_law_X6_init : GoodIn wsL_law (wsX6_init) := ggL_law_X6_init
set_option maxRecDepth 20000 in
theorem ggL_law_L_addSource : GoodIn wsL_law wsL_addSource := goodIn_ca (goodIn_ca (goodIn_ca (goodIn_r _ [99, 100, 101, 102, 103, 104, 2, 105, 106, 107, 17, 108, 109, 110, 16, 111, 112, 38, 39, 40, 113, 114, 115, 116, 117, 118, 119, 120, 1039, 1040, 1041, 1042, 1043, 1044, 1072, 1073, 1074, 1075, 1076, 1077, 1078, 1079, 1080, 1081] (by decide +kernel) (by decide +kernel)) (goodIn_sub (fun _ h => List.mem_append_left _ (List.mem_append_left _ (List.mem_append_left _ (List.mem_append_left _ (List.mem_append_left _ (List.mem_append_left _ (List.mem_append_left _ (List.mem_append_right _ h)))))))) (by decide +kernel))) (goodIn_sub (fun _ h => List.mem_append_left _ (List.mem_append_left _ (List.mem_append_left _ (List.mem_append_left _ (List.mem_append_left _ (List.mem_append_left _ (List.mem_append_right _ h))))))) (by decide +kernel))) (goodIn_sub (fun _ h => List.mem_append_left _ (List.mem_append_left _ (List.mem_append_left _ (List.mem_append_left _ (List.mem_append_left _ (List.mem_append_right _ h)))))) (by decide +kernel))
set_option maxRecDepth 20000 in
theorem gL_law_L_addSource : GoodIn wsL_law (va_wsS RL 148 yL_addSource wsL_addSource) := goodIn_app (goodIn_of _ (by decide +kernel)) ggL_law_L_addSource
set_option maxRecDepth 20000 in
theorem ggL_law_X6_addSource : GoodIn wsL_law wsX6_addSource := goodIn_ca (goodIn_r _ [124, 125, 126, 77, 78, 127, 128, 5, 129, 130, 131, 132, 133, 1045, 1046, 1047, 1048, 1049, 1050, 1051, 1052, 1053, 1054, 1055, 1056, 1057, 1058, 1059, 1060, 1061, 1062, 1063, 1064, 1065, 1066, 1067, 1068, 1069, 1070, 1071] (by decide +kernel) (by decide +kernel)) (goodIn_sub (fun _ h => List.mem_append_left _ (List.mem_append_left _ (List.mem_append_left _ (List.mem_append_left _ (List.mem_append_left _ (List.mem_append_left _ (List.mem_append_left _ (List.mem_append_right _ h)))))))) (by decide +kernel))
set_option maxRecDepth 20000 in
theorem gL_law_X6_addSource : GoodIn wsL_law (wsV RL 153 RX6 yX6_addSource wsX6_addSource) := goodIn_app (goodIn_of _ (by decide +kernel)) ggL_law_X6_addSource
set_option maxRecDepth 20000 in
theorem ggL_law_X6_thrown : GoodIn wsL_law wsX6_thrown := goodIn_r _ [137, 126, 1045, 1046, 1047, 1048, 1049, 1050, 1051, 1052, 1053, 1054, 1055, 1056, 1057, 1058, 1059, 1060, 1061, 1062, 1063, 1064, 1065, 1066, 1067, 1068, 1069, 1070, 1071] (by decide +kernel) (by decide +kernel)
set_option maxRecDepth 20000 in
theorem gL_law_X6_thrown : GoodIn wsL_law (wsV RL 154 RX6 yX6_thrown wsX6_thrown) := goodIn_app (goodIn_of _ (by decide +kernel)) ggL_law_X6_thrown
set_option maxRecDepth 20000 in
theorem ggL_law_L_addBus : GoodIn wsL_law wsL_addBus := goodIn_ca (goodIn_ca (goodIn_ca (goodIn_r _ [140, 100, 101, 141, 142, 143, 2, 144, 106, 107, 17, 145, 146, 147, 108, 109, 110, 16, 111, 112, 38, 39, 40, 113, 114, 115, 116, 117, 118, 119, 120, 1039, 1040, 1041, 1042, 1043, 1044, 1072, 1073, 1074, 1075, 1076, 1077, 1078, 1079, 1080, 1081] (by decide +kernel) (by decide +kernel)) (goodIn_sub (fun _ h => List.mem_append_left _ (List.mem_append_left _ (List.mem_append_left _ (List.mem_append_left _ (List.mem_append_left _ (List.mem_append_left _ (List.mem_append_left _ (List.mem_append_right _ h)))))))) (by decide +kernel))) (goodIn_sub (fun _ h => List.mem_append_left _ (List.mem_append_left _ (List.mem_append_left _ (List.mem_append_left _ (List.mem_append_left _ (List.mem_append_left _ (List.mem_append_right _ h))))))) (by decide +kernel))) (goodIn_sub (fun _ h => List.mem_append_left _ (List.mem_append_left _ (List.mem_append_left _ (List.mem_append_left _ (List.mem_append_left _ (List.mem_append_right _ h)))))) (by decide +kernel))
set_option maxRecDepth 20000 in
theorem gL_law_L_addBus : GoodIn wsL_law (va_wsS RL 157 yL_addBus wsL_addBus) := goodIn_app (goodIn_of _ (by decide +kernel)) ggL_law_L_addBus
set_option maxRecDepth 20000 in
theorem ggL_law_X6_addBus : GoodIn wsL_law wsX6_addBus := goodIn_ca (goodIn_r _ [151, 125, 126, 79, 80, 127, 128, 5, 129, 130, 131, 132, 133, 1045, 1046, 1047, 1048, 1049, 1050, 1051, 1052, 1053, 1054, 1055, 1056, 1057, 1058, 1059, 1060, 1061, 1062, 1063, 1064, 1065, 1066, 1067, 1068, 1069, 1070, 1071] (by decide +kernel) (by decide +kernel)) (goodIn_sub (fun _ h => List.mem_append_left _ (List.mem_append_left _ (List.mem_append_left _ (List.mem_append_left _ (List.mem_append_left _ (List.mem_append_left _ (List.mem_append_left _ (List.mem_append_right _ h)))))))) (by decide +kernel))
set_option maxRecDepth 20000 in
theorem gL_law_X6_addBus : GoodIn wsL_law (wsV RL 160 RX6 yX6_addBus wsX6_addBus) := goodIn_app (goodIn_of _ (by decide +kernel)) ggL_law_X6_addBus
set_option maxRecDepth 20000 in
theorem ggL_law_L_addLine : GoodIn wsL_law wsL_addLine := goodIn_ca (goodIn_ca (goodIn_ca (goodIn_ca (goodIn_r _ [154, 155, 100, 101, 156, 157, 158, 2, 159, 106, 107, 17, 29, 160, 161, 162, 163, 164, 165, 166, 167, 168, 16, 169, 112, 170, 171, 172, 173, 174, 41, 42, 43, 175, 114, 115, 116, 117, 118, 119, 120, 176, 177, 178, 28, 179, 64, 61, 62, 63, 180, 181, 182, 183, 1039, 1040, 1041, 1042, 1043, 1044, 1072, 1073, 1074, 1075, 1076, 1077, 1078, 1079, 1080, 1081, 1090, 1091, 1092, 1093, 1094] (by decide +kernel) (by decide +kernel)) (goodIn_sub (fun _ h => List.mem_append_left _ (List.mem_append_left _ (List.mem_append_left _ (List.mem_append_left _ (List.mem_append_left _ (List.mem_append_left _ (List.mem_append_left _ (List.mem_append_right _ h)))))))) (by decide +kernel))) (goodIn_sub (fun _ h => List.mem_append_left _ (List.mem_append_left _ (List.mem_append_left _ (List.mem_append_left _ (List.mem_append_left _ (List.mem_append_left _ (List.mem_append_right _ h))))))) (by decide +kernel))) (goodIn_sub (fun _ h => List.mem_append_left _ (List.mem_append_left _ (List.mem_append_left _ (List.mem_append_left _ (List.mem_append_right _ h))))) (by decide +kernel))) (goodIn_sub (fun _ h => List.mem_append_left _ (List.mem_append_left _ (List.mem_append_left _ (List.mem_append_left _ (List.mem_append_left _ (List.mem_append_right _ h)))))) (by decide +kernel))
set_option maxRecDepth 20000 in
theorem gL_law_L_addLine : GoodIn wsL_law (va_wsS RL 161 yL_addLine wsL_addLine) := goodIn_app (goodIn_of _ (by decide +kernel)) ggL_law_L_addLine
set_option maxRecDepth 20000 in
theorem ggL_law_X6_addLine : GoodIn wsL_law wsX6_addLine := goodIn_ca (goodIn_r _ [187, 188, 126, 81, 82, 83, 87, 84, 85, 189, 190, 191, 5, 192, 125, 127, 128, 129, 130, 131, 132, 133, 1045, 1046, 1047, 1048, 1049, 1050, 1051, 1052, 1053, 1054, 1055, 1056, 1057, 1058, 1059, 1060, 1061, 1062, 1063, 1064, 1065, 1066, 1067, 1068, 1069, 1070, 1071] (by decide +kernel) (by decide +kernel)) (goodIn_sub (fun _ h => List.mem_append_left _ (List.mem_append_left _ (List.mem_append_left _ (List.mem_append_left _ (List.mem_append_left _ (List.mem_append_left _ (List.mem_append_left _ (List.mem_append_right _ h)))))))) (by decide +kernel))
set_option maxRecDepth 20000 in
theorem gL_law_X6_addLine : GoodIn wsL_law (wsV RL 164 RX6 yX6_addLine wsX6_addLine) := goodIn_app (goodIn_of _ (by decide +kernel)) ggL_law_X6_addLine
set_option maxRecDepth 20000 in
theorem ggL_law_L_setLoad : GoodIn wsL_law wsL_setLoad := goodIn_ca (goodIn_ca (goodIn_ca (goodIn_ca (goodIn_ca (goodIn_r _ [195, 155, 100, 196, 101, 197, 198, 199, 2, 200, 119, 120, 17, 25, 160, 161, 162, 163, 164, 165, 166, 167, 168, 16, 169, 112, 145, 146, 147, 106, 107, 201, 202, 203, 204, 205, 206, 207, 208, 209, 210, 211, 212, 213, 39, 214, 215, 216, 217, 218, 219, 220, 221, 24, 222, 55, 223, 56, 224, 225, 226, 227, 114, 115, 228, 229, 230, 231, 232, 233, 234, 235, 236, 174, 237, 238, 239, 240, 41, 42, 241, 242, 243, 244, 245, 246, 247, 248, 249, 250, 251, 252, 113, 253, 254, 255, 256, 38, 257, 258, 259, 20, 260, 48, 50, 261, 262, 263, 264, 265, 266, 267, 268, 269, 270, 271, 272, 273, 274, 43, 275, 181, 182, 183, 1039, 1040, 1041, 1042, 1043, 1044, 1072, 1073, 1074, 1075, 1076, 1077, 1078, 1079, 1080, 1081, 1085, 1086, 1087, 1088, 1089, 1082, 1083, 1084] (by decide +kernel) (by decide +kernel)) (goodIn_sub (fun _ h => List.mem_append_left _ (List.mem_append_left _ (List.mem_append_left _ (List.mem_append_left _ (List.mem_append_left _ (List.mem_append_left _ (List.mem_append_left _ (List.mem_append_right _ h)))))))) (by decide +kernel))) (goodIn_sub (fun _ h => List.mem_append_left _ (List.mem_append_left _ (List.mem_append_left _ (List.mem_append_left _ (List.mem_append_left _ (List.mem_append_right _ h)))))) (by decide +kernel))) (goodIn_sub (fun _ h => List.mem_append_left _ (List.mem_append_left _ (List.mem_append_left _ (List.mem_append_left _ (List.mem_append_right _ h))))) (by decide +kernel))) (goodIn_sub (fun _ h => List.mem_append_left _ (List.mem_append_left _ (List.mem_append_left _ (List.mem_append_left _ (List.mem_append_left _ (List.mem_append_left _ (List.mem_append_right _ h))))))) (by decide +kernel))) (goodIn_sub (fun _ h => List.mem_append_left _ (List.mem_append_left _ (List.mem_append_left _ (List.mem_append_right _ h)))) (by decide +kernel))
set_option maxRecDepth 20000 in
theorem gL_law_L_setLoad : GoodIn wsL_law (va_wsS RL 165 yL_setLoad wsL_setLoad) := goodIn_app (goodIn_of _ (by decide +kernel)) ggL_law_L_setLoad
set_option maxRecDepth 20000 in
theorem ggL_law_X6_setLoad : GoodIn wsL_law wsX6_setLoad := goodIn_ca (goodIn_r _ [279, 77, 79, 91, 78, 126, 189, 190, 191, 5, 192, 125, 127, 128, 129, 130, 131, 132, 133, 280, 281, 282, 283, 188, 88, 81, 82, 284, 285, 286, 287, 288, 289, 290, 291, 292, 293, 294, 295, 83, 296, 297, 298, 299, 1045, 1046, 1047, 1048, 1049, 1050, 1051, 1052, 1053, 1054, 1055, 1056, 1057, 1058, 1059, 1060, 1061, 1062, 1063, 1064, 1065, 1066, 1067, 1068, 1069, 1070, 1071] (by decide +kernel) (by decide +kernel)) (goodIn_sub (fun _ h => List.mem_append_left _ (List.mem_append_left _ (List.mem_append_left _ (List.mem_append_left _ (List.mem_append_left _ (List.mem_append_left _ (List.mem_append_left _ (List.mem_append_right _ h)))))))) (by decide +kernel))
set_option maxRecDepth 20000 in
theorem gL_law_X6_setLoad : GoodIn wsL_law (wsV RL 167 RX6 yX6_setLoad wsX6_setLoad) := goodIn_app (goodIn_of _ (by decide +kernel)) ggL_law_X6_setLoad
set_option maxRecDepth 20000 in
theorem ggL_law_L_setRelay : GoodIn wsL_law wsL_setRelay := goodIn_ca (goodIn_ca (goodIn_ca (goodIn_ca (goodIn_r _ [302, 155, 100, 196, 303, 304, 305, 2, 306, 106, 107, 29, 307, 308, 309, 310, 164, 165, 17, 311, 181, 182, 16, 183, 174, 312, 313, 314, 315, 205, 206, 207, 208, 209, 316, 317, 318, 28, 319, 64, 61, 180, 176, 177, 178, 179, 62, 63, 1039, 1040, 1041, 1042, 1043, 1044, 1072, 1073, 1074, 1075, 1076, 1077, 1078, 1079, 1080, 1081, 1090, 1091, 1092, 1093, 1094] (by decide +kernel) (by decide +kernel)) (goodIn_sub (fun _ h => List.mem_append_left _ (List.mem_append_left _ (List.mem_append_left _ (List.mem_append_left _ (List.mem_append_left _ (List.mem_append_left _ (List.mem_append_left _ (List.mem_append_right _ h)))))))) (by decide +kernel))) (goodIn_sub (fun _ h => List.mem_append_left _ (List.mem_append_left _ (List.mem_append_left _ (List.mem_append_left _ (List.mem_append_left _ (List.mem_append_left _ (List.mem_append_right _ h))))))) (by decide +kernel))) (goodIn_sub (fun _ h => List.mem_append_left _ (List.mem_append_left _ (List.mem_append_left _ (List.mem_append_left _ (List.mem_append_right _ h))))) (by decide +kernel))) (goodIn_sub (fun _ h => List.mem_append_left _ (List.mem_append_left _ (List.mem_append_left _ (List.mem_append_right _ h)))) (by decide +kernel))
set_option maxRecDepth 20000 in
theorem gL_law_L_setRelay : GoodIn wsL_law (va_wsS RL 168 yL_setRelay wsL_setRelay) := goodIn_app (goodIn_of _ (by decide +kernel)) ggL_law_L_setRelay
set_option maxRecDepth 20000 in
theorem ggL_law_X6_setRelay : GoodIn wsL_law wsX6_setRelay := goodIn_ca (goodIn_r _ [323, 87, 126, 84, 85, 86, 324, 325, 326, 5, 327, 188, 127, 128, 129, 130, 131, 132, 133, 1045, 1046, 1047, 1048, 1049, 1050, 1051, 1052, 1053, 1054, 1055, 1056, 1057, 1058, 1059, 1060, 1061, 1062, 1063, 1064, 1065, 1066, 1067, 1068, 1069, 1070, 1071] (by decide +kernel) (by decide +kernel)) (goodIn_sub (fun _ h => List.mem_append_left _ (List.mem_append_left _ (List.mem_append_left _ (List.mem_append_left _ (List.mem_append_left _ (List.mem_append_left _ (List.mem_append_left _ (List.mem_append_right _ h)))))))) (by decide +kernel))
set_option maxRecDepth 20000 in
theorem gL_law_X6_setRelay : GoodIn wsL_law (wsV RL 171 RX6 yX6_setRelay wsX6_setRelay) := goodIn_app (goodIn_of _ (by decide +kernel)) ggL_law_X6_setRelay
set_option maxRecDepth 20000 in
theorem ggL_law_L_close : GoodIn wsL_law wsL_close := goodIn_ca (goodIn_ca (goodIn_r _ [330, 155, 331, 332, 333, 2, 334, 25, 307, 308, 309, 310, 164, 165, 17, 311, 181, 182, 16, 183, 174, 335, 336, 337, 24, 338, 339, 55, 340, 56, 208, 209, 341, 342, 343, 344, 41, 275, 224, 225, 226, 227, 114, 115, 228, 229, 230, 231, 232, 233, 234, 235, 236, 237, 238, 239, 240, 42, 345, 346, 250, 251, 252, 113, 347, 348, 349, 350, 351, 246, 247, 248, 112, 39, 241, 242, 243, 244, 245, 249, 253, 254, 255, 256, 38, 218, 167, 168, 169, 257, 258, 259, 20, 260, 48, 50, 261, 262, 263, 264, 265, 266, 267, 268, 269, 211, 212, 213, 270, 271, 272, 273, 274, 43, 352, 353, 354, 355, 356, 223, 1039, 1040, 1041, 1042, 1043, 1044, 1085, 1086, 1087, 1088, 1089, 1072, 1073, 1074, 1075, 1076, 1077, 1078, 1079, 1080, 1081, 1082, 1083, 1084] (by decide +kernel) (by decide +kernel)) (goodIn_sub (fun _ h => List.mem_append_left _ (List.mem_append_left _ (List.mem_append_left _ (List.mem_append_left _ (List.mem_append_left _ (List.mem_append_left _ (List.mem_append_left _ (List.mem_append_right _ h)))))))) (by decide +kernel))) (goodIn_sub (fun _ h => List.mem_append_left _ (List.mem_append_left _ (List.mem_append_left _ (List.mem_append_left _ (List.mem_append_right _ h))))) (by decide +kernel))
set_option maxRecDepth 20000 in
theorem gL_law_L_close : GoodIn wsL_law (va_wsS RL 172 yL_close wsL_close) := goodIn_app (goodIn_of _ (by decide +kernel)) ggL_law_L_close
set_option maxRecDepth 20000 in
theorem ggL_law_X6_close : GoodIn wsL_law wsX6_close := goodIn_ca (goodIn_r _ [360, 88, 324, 325, 326, 5, 327, 188, 127, 128, 129, 361, 362, 363, 364, 126, 365, 366, 367, 368, 89, 90, 91, 81, 82, 87, 78, 280, 281, 282, 283, 125, 284, 285, 286, 287, 77, 369, 370, 371, 372, 288, 289, 290, 291, 79, 292, 293, 294, 295, 83, 296, 297, 298, 299, 1045, 1046, 1047, 1048, 1049, 1050, 1051, 1052, 1053, 1054, 1055, 1056, 1057, 1058, 1059, 1060, 1061, 1062, 1063, 1064, 1065, 1066, 1067, 1068, 1069, 1070, 1071] (by decide +kernel) (by decide +kernel)) (goodIn_sub (fun _ h => List.mem_append_left _ (List.mem_append_left _ (List.mem_append_left _ (List.mem_append_left _ (List.mem_append_left _ (List.mem_append_left _ (List.mem_append_left _ (List.mem_append_right _ h)))))))) (by decide +kernel))
set_option maxRecDepth 20000 in
theorem gL_law_X6_close : GoodIn wsL_law (wsV RL 174 RX6 yX6_close wsX6_close) := goodIn_app (goodIn_of _ (by decide +kernel)) ggL_law_X6_close
set_option maxRecDepth 20000 in
theorem ggL_law_L_open : GoodIn wsL_law wsL_open := goodIn_ca (goodIn_ca (goodIn_r _ [375, 155, 376, 377, 378, 2, 379, 25, 307, 308, 309, 310, 164, 165, 17, 311, 181, 182, 16, 183, 174, 380, 381, 382, 24, 383, 223, 55, 56, 208, 209, 384, 385, 386, 20, 387, 50, 48, 261, 262, 263, 264, 265, 266, 267, 268, 269, 211, 212, 213, 112, 39, 270, 238, 239, 240, 41, 42, 388, 352, 114, 115, 389, 390, 391, 392, 1039, 1040, 1041, 1042, 1043, 1044, 1072, 1073, 1074, 1075, 1076, 1077, 1078, 1079, 1080, 1081, 1085, 1086, 1087, 1088, 1089, 1082, 1083, 1084] (by decide +kernel) (by decide +kernel)) (goodIn_sub (fun _ h => List.mem_append_left _ (List.mem_append_left _ (List.mem_append_left _ (List.mem_append_left _ (List.mem_append_left _ (List.mem_append_left _ (List.mem_append_left _ (List.mem_append_right _ h)))))))) (by decide +kernel))) (goodIn_sub (fun _ h => List.mem_append_left _ (List.mem_append_left _ (List.mem_append_left _ (List.mem_append_left _ (List.mem_append_right _ h))))) (by decide +kernel))
set_option maxRecDepth 20000 in
theorem gL_law_L_open : GoodIn wsL_law (va_wsS RL 175 yL_open wsL_open) := goodIn_app (goodIn_of _ (by decide +kernel)) ggL_law_L_open
set_option maxRecDepth 20000 in
theorem ggL_law_X6_open : GoodIn wsL_law wsX6_open := goodIn_ca (goodIn_r _ [396, 88, 324, 325, 326, 5, 327, 188, 127, 128, 129, 361, 362, 363, 364, 126, 397, 398, 399, 400, 87, 401, 402, 403, 404, 296, 297, 298, 299, 91, 81, 82, 280, 281, 282, 283, 125, 284, 285, 286, 287, 77, 288, 289, 290, 291, 79, 1045, 1046, 1047, 1048, 1049, 1050, 1051, 1052, 1053, 1054, 1055, 1056, 1057, 1058, 1059, 1060, 1061, 1062, 1063, 1064, 1065, 1066, 1067, 1068, 1069, 1070, 1071] (by decide +kernel) (by decide +kernel)) (goodIn_sub (fun _ h => List.mem_append_left _ (List.mem_append_left _ (List.mem_append_left _ (List.mem_append_left _ (List.mem_append_left _ (List.mem_append_left _ (List.mem_append_left _ (List.mem_append_right _ h)))))))) (by decide +kernel))
set_option maxRecDepth 20000 in
theorem gL_law_X6_open : GoodIn wsL_law (wsV RL 177 RX6 yX6_open wsX6_open) := goodIn_app (goodIn_of _ (by decide +kernel)) ggL_law_X6_open
set_option maxRecDepth 20000 in
theorem ggL_law_L_canClose : GoodIn wsL_law wsL_canClose := goodIn_ca (goodIn_ca (goodIn_r _ [407, 155, 408, 409, 410, 2, 411, 25, 307, 308, 309, 310, 164, 165, 17, 311, 181, 182, 16, 183, 174, 335, 336, 337, 24, 338, 339, 55, 340, 56, 208, 209, 341, 342, 343, 344, 41, 275, 224, 225, 226, 227, 114, 115, 228, 229, 230, 231, 232, 233, 234, 235, 236, 237, 238, 239, 240, 42, 345, 346, 250, 251, 252, 113, 347, 348, 349, 350, 351, 246, 247, 248, 112, 39, 241, 242, 243, 244, 245, 249, 253, 254, 255, 256, 38, 218, 167, 168, 169, 257, 258, 259, 20, 260, 48, 50, 261, 262, 263, 264, 265, 266, 267, 268, 269, 211, 212, 213, 270, 271, 272, 273, 274, 43, 1039, 1040, 1041, 1042, 1043, 1044, 1085, 1086, 1087, 1088, 1089, 1072, 1073, 1074, 1075, 1076, 1077, 1078, 1079, 1080, 1081, 1082, 1083, 1084] (by decide +kernel) (by decide +kernel)) (goodIn_sub (fun _ h => List.mem_append_left _ (List.mem_append_left _ (List.mem_append_left _ (List.mem_append_left _ (List.mem_append_left _ (List.mem_append_left _ (List.mem_append_left _ (List.mem_append_right _ h)))))))) (by decide +kernel))) (goodIn_sub (fun _ h => List.mem_append_left _ (List.mem_append_left _ (List.mem_append_left _ (List.mem_append_left _ (List.mem_append_right _ h))))) (by decide +kernel))
set_option maxRecDepth 20000 in
theorem gL_law_L_canClose : GoodIn wsL_law (va_wsS RL 178 yL_canClose wsL_canClose) := goodIn_app (goodIn_of _ (by decide +kernel)) ggL_law_L_canClose
set_option maxRecDepth 20000 in
theorem ggL_law_X6_canClose : GoodIn wsL_law wsX6_canClose := goodIn_ca (goodIn_r _ [415, 324, 325, 326, 5, 327, 188, 127, 128, 129, 361, 362, 363, 364, 126, 365, 366, 367, 368, 88, 89, 90, 91, 81, 82, 87, 78, 280, 281, 282, 283, 125, 284, 285, 286, 287, 77, 369, 370, 371, 372, 288, 289, 290, 291, 79, 292, 293, 294, 295, 83, 296, 297, 298, 299, 1045, 1046, 1047, 1048, 1049, 1050, 1051, 1052, 1053, 1054, 1055, 1056, 1057, 1058, 1059, 1060, 1061, 1062, 1063, 1064, 1065, 1066, 1067, 1068, 1069, 1070, 1071] (by decide +kernel) (by decide +kernel)) (goodIn_sub (fun _ h => List.mem_append_left _ (List.mem_append_left _ (List.mem_append_left _ (List.mem_append_left _ (List.mem_append_left _ (List.mem_append_left _ (List.mem_append_left _ (List.mem_append_right _ h)))))))) (by decide +kernel))
set_option maxRecDepth 20000 in
theorem gL_law_X6_canClose : GoodIn wsL_law (wsV RL 180 RX6 yX6_canClose wsX6_canClose) := goodIn_app (goodIn_of _ (by decide +kernel)) ggL_law_X6_canClose
set_option maxRecDepth 20000 in
theorem ggL_law_L_canOpen : GoodIn wsL_law wsL_canOpen := goodIn_ca (goodIn_ca (goodIn_r _ [418, 155, 419, 420, 421, 2, 422, 25, 307, 308, 309, 310, 164, 165, 17, 311, 181, 182, 16, 183, 174, 380, 381, 382, 24, 383, 223, 55, 56, 208, 209, 384, 385, 386, 20, 387, 50, 48, 261, 262, 263, 264, 265, 266, 267, 268, 269, 211, 212, 213, 112, 39, 270, 238, 239, 240, 41, 42, 388, 1039, 1040, 1041, 1042, 1043, 1044, 1072, 1073, 1074, 1075, 1076, 1077, 1078, 1079, 1080, 1081, 1085, 1086, 1087, 1088, 1089, 1082, 1083, 1084] (by decide +kernel) (by decide +kernel)) (goodIn_sub (fun _ h => List.mem_append_left _ (List.mem_append_left _ (List.mem_append_left _ (List.mem_append_left _ (List.mem_append_left _ (List.mem_append_left _ (List.mem_append_left _ (List.mem_append_right _ h)))))))) (by decide +kernel))) (goodIn_sub (fun _ h => List.mem_append_left _ (List.mem_append_left _ (List.mem_append_left _ (List.mem_append_left _ (List.mem_append_right _ h))))) (by decide +kernel))
set_option maxRecDepth 20000 in
theorem gL_law_L_canOpen : GoodIn wsL_law (va_wsS RL 181 yL_canOpen wsL_canOpen) := goodIn_app (goodIn_of _ (by decide +kernel)) ggL_law_L_canOpen
set_option maxRecDepth 20000 in
theorem ggL_law_X6_canOpen : GoodIn wsL_law wsX6_canOpen := goodIn_ca (goodIn_r _ [426, 324, 325, 326, 5, 327, 188, 127, 128, 129, 361, 362, 363, 364, 126, 397, 398, 399, 400, 88, 87, 401, 402, 403, 404, 296, 297, 298, 299, 91, 81, 82, 280, 281, 282, 283, 125, 284, 285, 286, 287, 77, 288, 289, 290, 291, 79, 1045, 1046, 1047, 1048, 1049, 1050, 1051, 1052, 1053, 1054, 1055, 1056, 1057, 1058, 1059, 1060, 1061, 1062, 1063, 1064, 1065, 1066, 1067, 1068, 1069, 1070, 1071] (by decide +kernel) (by decide +kernel)) (goodIn_sub (fun _ h => List.mem_append_left _ (List.mem_append_left _ (List.mem_append_left _ (List.mem_append_left _ (List.mem_append_left _ (List.mem_append_left _ (List.mem_append_left _ (List.mem_append_right _ h)))))))) (by decide +kernel))
set_option maxRecDepth 20000 in
theorem gL_law_X6_canOpen : GoodIn wsL_law (wsV RL 183 RX6 yX6_canOpen wsX6_canOpen) := goodIn_app (goodIn_of _ (by decide +kernel)) ggL_law_X6_canOpen
set_option maxRecDepth 20000 in
theorem ggL_law_L_overloaded : GoodIn wsL_law wsL_overloaded := goodIn_ca (goodIn_ca (goodIn_ca (goodIn_r _ [429, 155, 101, 430, 431, 432, 2, 433, 119, 120, 25, 21, 307, 308, 309, 310, 164, 165, 17, 311, 181, 182, 16, 183, 174, 335, 336, 337, 24, 338, 339, 55, 340, 56, 208, 209, 341, 342, 343, 344, 41, 275, 224, 225, 226, 227, 114, 115, 228, 229, 230, 231, 232, 233, 234, 235, 236, 237, 238, 239, 240, 42, 345, 346, 250, 251, 252, 113, 347, 348, 349, 350, 351, 246, 247, 248, 112, 39, 241, 242, 243, 244, 245, 249, 253, 254, 255, 256, 38, 218, 167, 168, 169, 257, 258, 259, 20, 260, 48, 50, 261, 262, 263, 264, 265, 266, 267, 268, 269, 211, 212, 213, 270, 271, 272, 273, 274, 43, 352, 434, 1039, 1040, 1041, 1042, 1043, 1044, 1085, 1086, 1087, 1088, 1089, 1072, 1073, 1074, 1075, 1076, 1077, 1078, 1079, 1080, 1081, 1082, 1083, 1084] (by decide +kernel) (by decide +kernel)) (goodIn_sub (fun _ h => List.mem_append_left _ (List.mem_append_left _ (List.mem_append_left _ (List.mem_append_left _ (List.mem_append_left _ (List.mem_append_left _ (List.mem_append_left _ (List.mem_append_right _ h)))))))) (by decide +kernel))) (goodIn_sub (fun _ h => List.mem_append_left _ (List.mem_append_left _ (List.mem_append_left _ (List.mem_append_left _ (List.mem_append_left _ (List.mem_append_right _ h)))))) (by decide +kernel))) (goodIn_sub (fun _ h => List.mem_append_left _ (List.mem_append_left _ (List.mem_append_left _ (List.mem_append_left _ (List.mem_append_right _ h))))) (by decide +kernel))
set_option maxRecDepth 20000 in
theorem gL_law_L_overloaded : GoodIn wsL_law (va_wsS RL 184 yL_overloaded wsL_overloaded) := goodIn_app (goodIn_of _ (by decide +kernel)) ggL_law_L_overloaded
set_option maxRecDepth 20000 in
theorem ggL_law_X6_overloaded : GoodIn wsL_law wsX6_overloaded := goodIn_ca (goodIn_r _ [438, 324, 325, 326, 5, 327, 188, 127, 128, 129, 361, 362, 363, 364, 126, 365, 366, 367, 368, 88, 89, 90, 91, 81, 82, 87, 78, 280, 281, 282, 283, 125, 284, 285, 286, 287, 77, 369, 370, 371, 372, 288, 289, 290, 291, 79, 292, 293, 294, 295, 83, 296, 297, 298, 299, 130, 131, 132, 133, 1045, 1046, 1047, 1048, 1049, 1050, 1051, 1052, 1053, 1054, 1055, 1056, 1057, 1058, 1059, 1060, 1061, 1062, 1063, 1064, 1065, 1066, 1067, 1068, 1069, 1070, 1071] (by decide +kernel) (by decide +kernel)) (goodIn_sub (fun _ h => List.mem_append_left _ (List.mem_append_left _ (List.mem_append_left _ (List.mem_append_left _ (List.mem_append_left _ (List.mem_append_left _ (List.mem_append_left _ (List.mem_append_right _ h)))))))) (by decide +kernel))
set_option maxRecDepth 20000 in
theorem gL_law_X6_overloaded : GoodIn wsL_law (wsV RL 186 RX6 yX6_overloaded wsX6_overloaded) := goodIn_app (goodIn_of _ (by decide +kernel)) ggL_law_X6_overloaded
set_option maxRecDepth 20000 in
theorem ggL_law_L_fault : GoodIn wsL_law wsL_fault := goodIn_ca (goodIn_ca (goodIn_ca (goodIn_ca (goodIn_r _ [441, 155, 101, 442, 443, 444, 2, 445, 119, 120, 25, 29, 17, 446, 307, 308, 309, 310, 164, 165, 311, 181, 182, 16, 183, 174, 207, 208, 209, 447, 448, 449, 28, 450, 65, 451, 452, 453, 20, 454, 50, 455, 456, 457, 458, 49, 270, 238, 239, 240, 41, 42, 459, 460, 461, 462, 64, 463, 464, 465, 466, 467, 342, 343, 344, 275, 468, 225, 226, 227, 114, 115, 228, 229, 230, 231, 232, 233, 234, 235, 236, 237, 249, 250, 251, 252, 113, 469, 254, 255, 256, 38, 218, 167, 168, 169, 112, 470, 471, 472, 473, 474, 475, 476, 477, 478, 479, 480, 481, 61, 63, 62, 180, 352, 482, 483, 348, 349, 350, 484, 485, 486, 24, 487, 223, 339, 1039, 1040, 1041, 1042, 1043, 1044, 1085, 1086, 1087, 1088, 1089, 1072, 1073, 1074, 1075, 1076, 1077, 1078, 1079, 1080, 1081, 1090, 1091, 1092, 1093, 1094, 1082, 1083, 1084] (by decide +kernel) (by decide +kernel)) (goodIn_sub (fun _ h => List.mem_append_left _ (List.mem_append_left _ (List.mem_append_left _ (List.mem_append_left _ (List.mem_append_left _ (List.mem_append_left _ (List.mem_append_left _ (List.mem_append_right _ h)))))))) (by decide +kernel))) (goodIn_sub (fun _ h => List.mem_append_left _ (List.mem_append_left _ (List.mem_append_left _ (List.mem_append_left _ (List.mem_append_left _ (List.mem_append_right _ h)))))) (by decide +kernel))) (goodIn_sub (fun _ h => List.mem_append_left _ (List.mem_append_left _ (List.mem_append_left _ (List.mem_append_left _ (List.mem_append_right _ h))))) (by decide +kernel))) (goodIn_sub (fun _ h => List.mem_append_left _ (List.mem_append_left _ (List.mem_append_right _ h))) (by decide +kernel))
set_option maxRecDepth 20000 in
theorem gL_law_L_fault : GoodIn wsL_law (va_wsS RL 187 yL_fault wsL_fault) := goodIn_app (goodIn_of _ (by decide +kernel)) ggL_law_L_fault
set_option maxRecDepth 20000 in
theorem ggL_law_X6_fault : GoodIn wsL_law wsX6_fault := goodIn_ca (goodIn_ca (goodIn_r _ [491, 90, 188, 88, 81, 82, 492, 324, 325, 326, 5, 327, 127, 128, 129, 361, 362, 363, 364, 126, 130, 131, 132, 133, 493, 494, 495, 496, 497, 92, 87, 498, 499, 500, 501, 91, 125, 93, 280, 281, 282, 283, 284, 285, 286, 287, 77, 502, 503, 504, 505, 78, 506, 507, 508, 509, 510, 511, 512, 513, 84, 86, 85, 514, 515, 516, 517, 89, 1045, 1046, 1047, 1048, 1049, 1050, 1051, 1052, 1053, 1054, 1055, 1056, 1057, 1058, 1059, 1060, 1061, 1062, 1063, 1064, 1065, 1066, 1067, 1068, 1069, 1070, 1071] (by decide +kernel) (by decide +kernel)) (goodIn_sub (fun _ h => List.mem_append_left _ (List.mem_append_left _ (List.mem_append_left _ (List.mem_append_left _ (List.mem_append_left _ (List.mem_append_left _ (List.mem_append_left _ (List.mem_append_right _ h)))))))) (by decide +kernel))) (goodIn_sub (fun _ h => List.mem_append_left _ (List.mem_append_left _ (List.mem_append_right _ h))) (by decide +kernel))
set_option maxRecDepth 20000 in
theorem gL_law_X6_fault : GoodIn wsL_law (wsV RL 189 RX6 yX6_fault wsX6_fault) := goodIn_app (goodIn_of _ (by decide +kernel)) ggL_law_X6_fault
set_option maxRecDepth 20000 in
theorem ggL_law_L_repair : GoodIn wsL_law wsL_repair := goodIn_ca (goodIn_ca (goodIn_ca (goodIn_r _ [520, 155, 101, 521, 522, 523, 2, 524, 119, 120, 25, 307, 308, 309, 310, 164, 165, 17, 311, 181, 182, 16, 183, 174, 207, 208, 209, 352, 114, 115, 1039, 1040, 1041, 1042, 1043, 1044, 1085, 1086, 1087, 1088, 1089, 1072, 1073, 1074, 1075, 1076, 1077, 1078, 1079, 1080, 1081] (by decide +kernel) (by decide +kernel)) (goodIn_sub (fun _ h => List.mem_append_left _ (List.mem_append_left _ (List.mem_append_left _ (List.mem_append_left _ (List.mem_append_left _ (List.mem_append_left _ (List.mem_append_left _ (List.mem_append_right _ h)))))))) (by decide +kernel))) (goodIn_sub (fun _ h => List.mem_append_left _ (List.mem_append_left _ (List.mem_append_left _ (List.mem_append_left _ (List.mem_append_left _ (List.mem_append_right _ h)))))) (by decide +kernel))) (goodIn_sub (fun _ h => List.mem_append_left _ (List.mem_append_left _ (List.mem_append_left _ (List.mem_append_left _ (List.mem_append_right _ h))))) (by decide +kernel))
set_option maxRecDepth 20000 in
theorem gL_law_L_repair : GoodIn wsL_law (va_wsS RL 190 yL_repair wsL_repair) := goodIn_app (goodIn_of _ (by decide +kernel)) ggL_law_L_repair
set_option maxRecDepth 20000 in
theorem ggL_law_X6_repair : GoodIn wsL_law wsX6_repair := goodIn_ca (goodIn_r _ [528, 90, 126, 89, 324, 325, 326, 5, 327, 188, 127, 128, 129, 361, 362, 363, 364, 1045, 1046, 1047, 1048, 1049, 1050, 1051, 1052, 1053, 1054, 1055, 1056, 1057, 1058, 1059, 1060, 1061, 1062, 1063, 1064, 1065, 1066, 1067, 1068, 1069, 1070, 1071] (by decide +kernel) (by decide +kernel)) (goodIn_sub (fun _ h => List.mem_append_left _ (List.mem_append_left _ (List.mem_append_left _ (List.mem_append_left _ (List.mem_append_left _ (List.mem_append_left _ (List.mem_append_left _ (List.mem_append_right _ h)))))))) (by decide +kernel))
set_option maxRecDepth 20000 in
theorem gL_law_X6_repair : GoodIn wsL_law (wsV RL 192 RX6 yX6_repair wsX6_repair) := goodIn_app (goodIn_of _ (by decide +kernel)) ggL_law_X6_repair
set_option maxRecDepth 20000 in
theorem ggL_law_L_reset : GoodIn wsL_law wsL_reset := goodIn_ca (goodIn_ca (goodIn_ca (goodIn_ca (goodIn_r _ [531, 155, 196, 101, 532, 533, 534, 2, 535, 205, 206, 119, 120, 25, 307, 308, 309, 310, 164, 165, 17, 311, 181, 182, 16, 183, 174, 207, 208, 209, 352, 114, 115, 536, 537, 538, 539, 540, 541, 542, 1039, 1040, 1041, 1042, 1043, 1044, 1085, 1086, 1087, 1088, 1089, 1072, 1073, 1074, 1075, 1076, 1077, 1078, 1079, 1080, 1081] (by decide +kernel) (by decide +kernel)) (goodIn_sub (fun _ h => List.mem_append_left _ (List.mem_append_left _ (List.mem_append_left _ (List.mem_append_left _ (List.mem_append_left _ (List.mem_append_left _ (List.mem_append_left _ (List.mem_append_right _ h)))))))) (by decide +kernel))) (goodIn_sub (fun _ h => List.mem_append_left _ (List.mem_append_left _ (List.mem_append_left _ (List.mem_append_right _ h)))) (by decide +kernel))) (goodIn_sub (fun _ h => List.mem_append_left _ (List.mem_append_left _ (List.mem_append_left _ (List.mem_append_left _ (List.mem_append_left _ (List.mem_append_right _ h)))))) (by decide +kernel))) (goodIn_sub (fun _ h => List.mem_append_left _ (List.mem_append_left _ (List.mem_append_left _ (List.mem_append_left _ (List.mem_append_right _ h))))) (by decide +kernel))
set_option maxRecDepth 20000 in
theorem gL_law_L_reset : GoodIn wsL_law (va_wsS RL 193 yL_reset wsL_reset) := goodIn_app (goodIn_of _ (by decide +kernel)) ggL_law_L_reset
set_option maxRecDepth 20000 in
theorem ggL_law_X6_reset : GoodIn wsL_law wsX6_reset := goodIn_ca (goodIn_r _ [546, 90, 89, 188, 324, 325, 326, 5, 327, 127, 128, 129, 361, 362, 363, 364, 126, 130, 131, 132, 133, 1045, 1046, 1047, 1048, 1049, 1050, 1051, 1052, 1053, 1054, 1055, 1056, 1057, 1058, 1059, 1060, 1061, 1062, 1063, 1064, 1065, 1066, 1067, 1068, 1069, 1070, 1071] (by decide +kernel) (by decide +kernel)) (goodIn_sub (fun _ h => List.mem_append_left _ (List.mem_append_left _ (List.mem_append_left _ (List.mem_append_left _ (List.mem_append_left _ (List.mem_append_left _ (List.mem_append_left _ (List.mem_append_right _ h)))))))) (by decide +kernel))
set_option maxRecDepth 20000 in
theorem gL_law_X6_reset : GoodIn wsL_law (wsV RL 195 RX6 yX6_reset wsX6_reset) := goodIn_app (goodIn_of _ (by decide +kernel)) ggL_law_X6_reset
set_option maxRecDepth 20000 in
theorem ggL_law_X5_nodes : GoodIn wsL_law wsX5_nodes := goodIn_r _ [550, 17, 1039, 1040, 1041, 1042, 1043, 1044, 1072, 1073, 1074, 1075, 1076, 1077, 1078, 1079, 1080, 1081] (by decide +kernel) (by decide +kernel)
set_option maxRecDepth 20000 in
theorem gL_law_X5_nodes : GoodIn wsL_law (wsV RL 196 RX5 yX5_nodes wsX5_nodes) := goodIn_app (goodIn_of _ (by decide +kernel)) ggL_law_X5_nodes
set_option maxRecDepth 20000 in
theorem ggL_law_X6_nodes : GoodIn wsL_law wsX6_nodes := goodIn_r _ [554, 126, 125, 1045, 1046, 1047, 1048, 1049, 1050, 1051, 1052, 1053, 1054, 1055, 1056, 1057, 1058, 1059, 1060, 1061, 1062, 1063, 1064, 1065, 1066, 1067, 1068, 1069, 1070, 1071] (by decide +kernel) (by decide +kernel)
set_option maxRecDepth 20000 in
theorem gL_law_X6_nodes : GoodIn wsL_law (wsV RL 199 RX6 yX6_nodes wsX6_nodes) := goodIn_app (goodIn_of _ (by decide +kernel)) ggL_law_X6_nodes
set_option maxRecDepth 20000 in
theorem ggL_law_X5_lines : GoodIn wsL_law wsX5_lines := goodIn_r _ [558, 17, 1039, 1040, 1041, 1042, 1043, 1044, 1072, 1073, 1074, 1075, 1076, 1077, 1078, 1079, 1080, 1081] (by decide +kernel) (by decide +kernel)
set_option maxRecDepth 20000 in
theorem gL_law_X5_lines : GoodIn wsL_law (wsV RL 200 RX5 yX5_lines wsX5_lines) := goodIn_app (goodIn_of _ (by decide +kernel)) ggL_law_X5_lines
set_option maxRecDepth 20000 in
theorem ggL_law_X6_lines : GoodIn wsL_law wsX6_lines := goodIn_r _ [562, 126, 188, 1045, 1046, 1047, 1048, 1049, 1050, 1051, 1052, 1053, 1054, 1055, 1056, 1057, 1058, 1059, 1060, 1061, 1062, 1063, 1064, 1065, 1066, 1067, 1068, 1069, 1070, 1071] (by decide +kernel) (by decide +kernel)
set_option maxRecDepth 20000 in
theorem gL_law_X6_lines : GoodIn wsL_law (wsV RL 203 RX6 yX6_lines wsX6_lines) := goodIn_app (goodIn_of _ (by decide +kernel)) ggL_law_X6_lines
set_option maxRecDepth 20000 in
theorem ggL_law_L_isSource : GoodIn wsL_law wsL_isSource := goodIn_ca (goodIn_ca (goodIn_r _ [565, 155, 566, 567, 568, 2, 569, 17, 160, 161, 162, 163, 164, 165, 166, 167, 168, 16, 169, 112, 207, 208, 209, 1039, 1040, 1041, 1042, 1043, 1044, 1072, 1073, 1074, 1075, 1076, 1077, 1078, 1079, 1080, 1081] (by decide +kernel) (by decide +kernel)) (goodIn_sub (fun _ h => List.mem_append_left _ (List.mem_append_left _ (List.mem_append_left _ (List.mem_append_left _ (List.mem_append_left _ (List.mem_append_left _ (List.mem_append_left _ (List.mem_append_right _ h)))))))) (by decide +kernel))) (goodIn_sub (fun _ h => List.mem_append_left _ (List.mem_append_left _ (List.mem_append_left _ (List.mem_append_left _ (List.mem_append_right _ h))))) (by decide +kernel))
set_option maxRecDepth 20000 in
theorem gL_law_L_isSource : GoodIn wsL_law (va_wsS RL 204 yL_isSource wsL_isSource) := goodIn_app (goodIn_of _ (by decide +kernel)) ggL_law_L_isSource
set_option maxRecDepth 20000 in
theorem ggL_law_X6_isSource : GoodIn wsL_law wsX6_isSource := goodIn_ca (goodIn_r _ [573, 77, 189, 190, 191, 5, 192, 125, 127, 128, 129, 361, 362, 363, 364, 126, 1045, 1046, 1047, 1048, 1049, 1050, 1051, 1052, 1053, 1054, 1055, 1056, 1057, 1058, 1059, 1060, 1061, 1062, 1063, 1064, 1065, 1066, 1067, 1068, 1069, 1070, 1071] (by decide +kernel) (by decide +kernel)) (goodIn_sub (fun _ h => List.mem_append_left _ (List.mem_append_left _ (List.mem_append_left _ (List.mem_append_left _ (List.mem_append_left _ (List.mem_append_left _ (List.mem_append_left _ (List.mem_append_right _ h)))))))) (by decide +kernel))
set_option maxRecDepth 20000 in
theorem gL_law_X6_isSource : GoodIn wsL_law (wsV RL 206 RX6 yX6_isSource wsX6_isSource) := goodIn_app (goodIn_of _ (by decide +kernel)) ggL_law_X6_isSource
set_option maxRecDepth 20000 in
theorem ggL_law_L_loadOf : GoodIn wsL_law wsL_loadOf := goodIn_ca (goodIn_ca (goodIn_r _ [576, 155, 577, 578, 579, 2, 580, 17, 160, 161, 162, 163, 164, 165, 166, 167, 168, 16, 169, 112, 210, 211, 212, 213, 39, 1039, 1040, 1041, 1042, 1043, 1044, 1072, 1073, 1074, 1075, 1076, 1077, 1078, 1079, 1080, 1081] (by decide +kernel) (by decide +kernel)) (goodIn_sub (fun _ h => List.mem_append_left _ (List.mem_append_left _ (List.mem_append_left _ (List.mem_append_left _ (List.mem_append_left _ (List.mem_append_left _ (List.mem_append_left _ (List.mem_append_right _ h)))))))) (by decide +kernel))) (goodIn_sub (fun _ h => List.mem_append_left _ (List.mem_append_left _ (List.mem_append_left _ (List.mem_append_left _ (List.mem_append_right _ h))))) (by decide +kernel))
set_option maxRecDepth 20000 in
theorem gL_law_L_loadOf : GoodIn wsL_law (va_wsS RL 207 yL_loadOf wsL_loadOf) := goodIn_app (goodIn_of _ (by decide +kernel)) ggL_law_L_loadOf
set_option maxRecDepth 20000 in
theorem ggL_law_X6_loadOf : GoodIn wsL_law wsX6_loadOf := goodIn_ca (goodIn_r _ [584, 79, 189, 190, 191, 5, 192, 125, 127, 128, 129, 361, 362, 363, 364, 126, 1045, 1046, 1047, 1048, 1049, 1050, 1051, 1052, 1053, 1054, 1055, 1056, 1057, 1058, 1059, 1060, 1061, 1062, 1063, 1064, 1065, 1066, 1067, 1068, 1069, 1070, 1071] (by decide +kernel) (by decide +kernel)) (goodIn_sub (fun _ h => List.mem_append_left _ (List.mem_append_left _ (List.mem_append_left _ (List.mem_append_left _ (List.mem_append_left _ (List.mem_append_left _ (List.mem_append_left _ (List.mem_append_right _ h)))))))) (by decide +kernel))
set_option maxRecDepth 20000 in
theorem gL_law_X6_loadOf : GoodIn wsL_law (wsV RL 209 RX6 yX6_loadOf wsX6_loadOf) := goodIn_app (goodIn_of _ (by decide +kernel)) ggL_law_X6_loadOf
set_option maxRecDepth 20000 in
theorem ggL_law_L_weight : GoodIn wsL_law wsL_weight := goodIn_ca (goodIn_ca (goodIn_ca (goodIn_r _ [587, 155, 196, 588, 589, 590, 2, 591, 17, 160, 161, 162, 163, 164, 165, 166, 167, 168, 16, 169, 112, 201, 202, 203, 204, 205, 206, 207, 208, 209, 352, 114, 115, 592, 593, 594, 595, 39, 40, 1039, 1040, 1041, 1042, 1043, 1044, 1072, 1073, 1074, 1075, 1076, 1077, 1078, 1079, 1080, 1081] (by decide +kernel) (by decide +kernel)) (goodIn_sub (fun _ h => List.mem_append_left _ (List.mem_append_left _ (List.mem_append_left _ (List.mem_append_left _ (List.mem_append_left _ (List.mem_append_left _ (List.mem_append_left _ (List.mem_append_right _ h)))))))) (by decide +kernel))) (goodIn_sub (fun _ h => List.mem_append_left _ (List.mem_append_left _ (List.mem_append_left _ (List.mem_append_left _ (List.mem_append_right _ h))))) (by decide +kernel))) (goodIn_sub (fun _ h => List.mem_append_left _ (List.mem_append_left _ (List.mem_append_left _ (List.mem_append_right _ h)))) (by decide +kernel))
set_option maxRecDepth 20000 in
theorem gL_law_L_weight : GoodIn wsL_law (va_wsS RL 210 yL_weight wsL_weight) := goodIn_app (goodIn_of _ (by decide +kernel)) ggL_law_L_weight
set_option maxRecDepth 20000 in
theorem ggL_law_X6_weight : GoodIn wsL_law wsX6_weight := goodIn_ca (goodIn_r _ [599, 77, 79, 80, 189, 190, 191, 5, 192, 125, 127, 128, 129, 361, 362, 363, 364, 126, 130, 131, 132, 133, 1045, 1046, 1047, 1048, 1049, 1050, 1051, 1052, 1053, 1054, 1055, 1056, 1057, 1058, 1059, 1060, 1061, 1062, 1063, 1064, 1065, 1066, 1067, 1068, 1069, 1070, 1071] (by decide +kernel) (by decide +kernel)) (goodIn_sub (fun _ h => List.mem_append_left _ (List.mem_append_left _ (List.mem_append_left _ (List.mem_append_left _ (List.mem_append_left _ (List.mem_append_left _ (List.mem_append_left _ (List.mem_append_right _ h)))))))) (by decide +kernel))
set_option maxRecDepth 20000 in
theorem gL_law_X6_weight : GoodIn wsL_law (wsV RL 212 RX6 yX6_weight wsX6_weight) := goodIn_app (goodIn_of _ (by decide +kernel)) ggL_law_X6_weight
set_option maxRecDepth 20000 in
theorem ggL_law_L_isClosed : GoodIn wsL_law wsL_isClosed := goodIn_ca (goodIn_ca (goodIn_r _ [602, 155, 603, 604, 605, 2, 606, 25, 307, 308, 309, 310, 164, 165, 17, 311, 181, 182, 16, 183, 174, 207, 208, 209, 1039, 1040, 1041, 1042, 1043, 1044, 1085, 1086, 1087, 1088, 1089, 1072, 1073, 1074, 1075, 1076, 1077, 1078, 1079, 1080, 1081] (by decide +kernel) (by decide +kernel)) (goodIn_sub (fun _ h => List.mem_append_left _ (List.mem_append_left _ (List.mem_append_left _ (List.mem_append_left _ (List.mem_append_left _ (List.mem_append_left _ (List.mem_append_left _ (List.mem_append_right _ h)))))))) (by decide +kernel))) (goodIn_sub (fun _ h => List.mem_append_left _ (List.mem_append_left _ (List.mem_append_left _ (List.mem_append_left _ (List.mem_append_right _ h))))) (by decide +kernel))
set_option maxRecDepth 20000 in
theorem gL_law_L_isClosed : GoodIn wsL_law (va_wsS RL 213 yL_isClosed wsL_isClosed) := goodIn_app (goodIn_of _ (by decide +kernel)) ggL_law_L_isClosed
set_option maxRecDepth 20000 in
theorem ggL_law_X6_isClosed : GoodIn wsL_law wsX6_isClosed := goodIn_ca (goodIn_r _ [610, 88, 324, 325, 326, 5, 327, 188, 127, 128, 129, 361, 362, 363, 364, 126, 1045, 1046, 1047, 1048, 1049, 1050, 1051, 1052, 1053, 1054, 1055, 1056, 1057, 1058, 1059, 1060, 1061, 1062, 1063, 1064, 1065, 1066, 1067, 1068, 1069, 1070, 1071] (by decide +kernel) (by decide +kernel)) (goodIn_sub (fun _ h => List.mem_append_left _ (List.mem_append_left _ (List.mem_append_left _ (List.mem_append_left _ (List.mem_append_left _ (List.mem_append_left _ (List.mem_append_left _ (List.mem_append_right _ h)))))))) (by decide +kernel))
set_option maxRecDepth 20000 in
theorem gL_law_X6_isClosed : GoodIn wsL_law (wsV RL 215 RX6 yX6_isClosed wsX6_isClosed) := goodIn_app (goodIn_of _ (by decide +kernel)) ggL_law_X6_isClosed
set_option maxRecDepth 20000 in
theorem ggL_law_L_isLocked : GoodIn wsL_law wsL_isLocked := goodIn_ca (goodIn_ca (goodIn_r _ [613, 155, 614, 615, 616, 2, 617, 25, 307, 308, 309, 310, 164, 165, 17, 311, 181, 182, 16, 183, 174, 207, 208, 209, 1039, 1040, 1041, 1042, 1043, 1044, 1085, 1086, 1087, 1088, 1089, 1072, 1073, 1074, 1075, 1076, 1077, 1078, 1079, 1080, 1081] (by decide +kernel) (by decide +kernel)) (goodIn_sub (fun _ h => List.mem_append_left _ (List.mem_append_left _ (List.mem_append_left _ (List.mem_append_left _ (List.mem_append_left _ (List.mem_append_left _ (List.mem_append_left _ (List.mem_append_right _ h)))))))) (by decide +kernel))) (goodIn_sub (fun _ h => List.mem_append_left _ (List.mem_append_left _ (List.mem_append_left _ (List.mem_append_left _ (List.mem_append_right _ h))))) (by decide +kernel))
set_option maxRecDepth 20000 in
theorem gL_law_L_isLocked : GoodIn wsL_law (va_wsS RL 216 yL_isLocked wsL_isLocked) := goodIn_app (goodIn_of _ (by decide +kernel)) ggL_law_L_isLocked
set_option maxRecDepth 20000 in
theorem ggL_law_X6_isLocked : GoodIn wsL_law wsX6_isLocked := goodIn_ca (goodIn_r _ [621, 89, 324, 325, 326, 5, 327, 188, 127, 128, 129, 361, 362, 363, 364, 126, 1045, 1046, 1047, 1048, 1049, 1050, 1051, 1052, 1053, 1054, 1055, 1056, 1057, 1058, 1059, 1060, 1061, 1062, 1063, 1064, 1065, 1066, 1067, 1068, 1069, 1070, 1071] (by decide +kernel) (by decide +kernel)) (goodIn_sub (fun _ h => List.mem_append_left _ (List.mem_append_left _ (List.mem_append_left _ (List.mem_append_left _ (List.mem_append_left _ (List.mem_append_left _ (List.mem_append_left _ (List.mem_append_right _ h)))))))) (by decide +kernel))
set_option maxRecDepth 20000 in
theorem gL_law_X6_isLocked : GoodIn wsL_law (wsV RL 218 RX6 yX6_isLocked wsX6_isLocked) := goodIn_app (goodIn_of _ (by decide +kernel)) ggL_law_X6_isLocked
set_option maxRecDepth 20000 in
theorem ggL_law_L_hasFault : GoodIn wsL_law wsL_hasFault := goodIn_ca (goodIn_ca (goodIn_r _ [624, 155, 625, 626, 627, 2, 628, 25, 307, 308, 309, 310, 164, 165, 17, 311, 181, 182, 16, 183, 174, 207, 208, 209, 1039, 1040, 1041, 1042, 1043, 1044, 1085, 1086, 1087, 1088, 1089, 1072, 1073, 1074, 1075, 1076, 1077, 1078, 1079, 1080, 1081] (by decide +kernel) (by decide +kernel)) (goodIn_sub (fun _ h => List.mem_append_left _ (List.mem_append_left _ (List.mem_append_left _ (List.mem_append_left _ (List.mem_append_left _ (List.mem_append_left _ (List.mem_append_left _ (List.mem_append_right _ h)))))))) (by decide +kernel))) (goodIn_sub (fun _ h => List.mem_append_left _ (List.mem_append_left _ (List.mem_append_left _ (List.mem_append_left _ (List.mem_append_right _ h))))) (by decide +kernel))
set_option maxRecDepth 20000 in
theorem gL_law_L_hasFault : GoodIn wsL_law (va_wsS RL 219 yL_hasFault wsL_hasFault) := goodIn_app (goodIn_of _ (by decide +kernel)) ggL_law_L_hasFault
set_option maxRecDepth 20000 in
theorem ggL_law_X6_hasFault : GoodIn wsL_law wsX6_hasFault := goodIn_ca (goodIn_r _ [632, 90, 324, 325, 326, 5, 327, 188, 127, 128, 129, 361, 362, 363, 364, 126, 1045, 1046, 1047, 1048, 1049, 1050, 1051, 1052, 1053, 1054, 1055, 1056, 1057, 1058, 1059, 1060, 1061, 1062, 1063, 1064, 1065, 1066, 1067, 1068, 1069, 1070, 1071] (by decide +kernel) (by decide +kernel)) (goodIn_sub (fun _ h => List.mem_append_left _ (List.mem_append_left _ (List.mem_append_left _ (List.mem_append_left _ (List.mem_append_left _ (List.mem_append_left _ (List.mem_append_left _ (List.mem_append_right _ h)))))))) (by decide +kernel))
set_option maxRecDepth 20000 in
theorem gL_law_X6_hasFault : GoodIn wsL_law (wsV RL 221 RX6 yX6_hasFault wsX6_hasFault) := goodIn_app (goodIn_of _ (by decide +kernel)) ggL_law_X6_hasFault
set_option maxRecDepth 20000 in
theorem ggL_law_L_islandOf : GoodIn wsL_law wsL_islandOf := goodIn_ca (goodIn_ca (goodIn_r _ [635, 155, 636, 637, 638, 2, 639, 160, 161, 162, 163, 164, 165, 17, 166, 167, 168, 16, 169, 112, 640, 641, 642, 643, 25, 644, 225, 226, 227, 114, 115, 228, 229, 230, 231, 232, 233, 234, 235, 236, 174, 208, 209, 237, 238, 239, 240, 41, 42, 645, 1039, 1040, 1041, 1042, 1043, 1044, 1072, 1073, 1074, 1075, 1076, 1077, 1078, 1079, 1080, 1081, 1085, 1086, 1087, 1088, 1089] (by decide +kernel) (by decide +kernel)) (goodIn_sub (fun _ h => List.mem_append_left _ (List.mem_append_left _ (List.mem_append_left _ (List.mem_append_left _ (List.mem_append_left _ (List.mem_append_left _ (List.mem_append_left _ (List.mem_append_right _ h)))))))) (by decide +kernel))) (goodIn_sub (fun _ h => List.mem_append_left _ (List.mem_append_left _ (List.mem_append_left _ (List.mem_append_left _ (List.mem_append_right _ h))))) (by decide +kernel))
set_option maxRecDepth 20000 in
theorem gL_law_L_islandOf : GoodIn wsL_law (va_wsS RL 222 yL_islandOf wsL_islandOf) := goodIn_app (goodIn_of _ (by decide +kernel)) ggL_law_L_islandOf
set_option maxRecDepth 20000 in
theorem ggL_law_X6_islandOf : GoodIn wsL_law wsX6_islandOf := goodIn_ca (goodIn_r _ [649, 91, 650, 651, 652, 5, 653, 280, 281, 282, 283, 125, 188, 88, 81, 82, 189, 190, 191, 192, 127, 128, 129, 361, 362, 363, 364, 126, 1045, 1046, 1047, 1048, 1049, 1050, 1051, 1052, 1053, 1054, 1055, 1056, 1057, 1058, 1059, 1060, 1061, 1062, 1063, 1064, 1065, 1066, 1067, 1068, 1069, 1070, 1071] (by decide +kernel) (by decide +kernel)) (goodIn_sub (fun _ h => List.mem_append_left _ (List.mem_append_left _ (List.mem_append_left _ (List.mem_append_left _ (List.mem_append_left _ (List.mem_append_left _ (List.mem_append_left _ (List.mem_append_right _ h)))))))) (by decide +kernel))
set_option maxRecDepth 20000 in
theorem gL_law_X6_islandOf : GoodIn wsL_law (wsV RL 224 RX6 yX6_islandOf wsX6_islandOf) := goodIn_app (goodIn_of _ (by decide +kernel)) ggL_law_X6_islandOf
set_option maxRecDepth 20000 in
theorem ggL_law_L_islandByRounds : GoodIn wsL_law wsL_islandByRounds := goodIn_ca (goodIn_ca (goodIn_r _ [656, 155, 657, 658, 659, 2, 660, 17, 25, 160, 161, 162, 163, 164, 165, 166, 167, 168, 16, 169, 112, 661, 662, 663, 664, 174, 41, 42, 114, 115, 208, 209, 645, 228, 229, 230, 231, 232, 1039, 1040, 1041, 1042, 1043, 1044, 1085, 1086, 1087, 1088, 1089, 1072, 1073, 1074, 1075, 1076, 1077, 1078, 1079, 1080, 1081] (by decide +kernel) (by decide +kernel)) (goodIn_sub (fun _ h => List.mem_append_left _ (List.mem_append_left _ (List.mem_append_left _ (List.mem_append_left _ (List.mem_append_left _ (List.mem_append_left _ (List.mem_append_left _ (List.mem_append_right _ h)))))))) (by decide +kernel))) (goodIn_sub (fun _ h => List.mem_append_left _ (List.mem_append_left _ (List.mem_append_left _ (List.mem_append_left _ (List.mem_append_right _ h))))) (by decide +kernel))
set_option maxRecDepth 20000 in
theorem gL_law_L_islandByRounds : GoodIn wsL_law (va_wsS RL 225 yL_islandByRounds wsL_islandByRounds) := goodIn_app (goodIn_of _ (by decide +kernel)) ggL_law_L_islandByRounds
set_option maxRecDepth 20000 in
theorem ggL_law_X6_islandByRounds : GoodIn wsL_law wsX6_islandByRounds := goodIn_ca (goodIn_r _ [668, 669, 647, 648, 5, 649, 91, 650, 651, 652, 653, 280, 281, 282, 283, 125, 188, 88, 81, 82, 189, 190, 191, 192, 127, 128, 129, 361, 362, 363, 364, 126, 1045, 1046, 1047, 1048, 1049, 1050, 1051, 1052, 1053, 1054, 1055, 1056, 1057, 1058, 1059, 1060, 1061, 1062, 1063, 1064, 1065, 1066, 1067, 1068, 1069, 1070, 1071] (by decide +kernel) (by decide +kernel)) (goodIn_sub (fun _ h => List.mem_append_left _ (List.mem_append_left _ (List.mem_append_left _ (List.mem_append_left _ (List.mem_append_left _ (List.mem_append_left _ (List.mem_append_left _ (List.mem_append_right _ h)))))))) (by decide +kernel))
set_option maxRecDepth 20000 in
theorem gL_law_X6_islandByRounds : GoodIn wsL_law (wsV RL 227 RX6 yX6_islandByRounds wsX6_islandByRounds) := goodIn_app (goodIn_of _ (by decide +kernel)) ggL_law_X6_islandByRounds
set_option maxRecDepth 20000 in
theorem ggL_law_X5_islands : GoodIn wsL_law wsX5_islands := goodIn_ca (goodIn_r _ [673, 17, 640, 641, 642, 2, 643, 25, 644, 225, 226, 16, 227, 114, 115, 228, 229, 230, 231, 232, 233, 234, 235, 236, 174, 208, 209, 237, 238, 239, 240, 41, 42, 645, 1039, 1040, 1041, 1042, 1043, 1044, 1072, 1073, 1074, 1075, 1076, 1077, 1078, 1079, 1080, 1081, 1085, 1086, 1087, 1088, 1089] (by decide +kernel) (by decide +kernel)) (goodIn_sub (fun _ h => List.mem_append_left _ (List.mem_append_left _ (List.mem_append_left _ (List.mem_append_left _ (List.mem_append_left _ (List.mem_append_left _ (List.mem_append_left _ (List.mem_append_right _ h)))))))) (by decide +kernel))
set_option maxRecDepth 20000 in
theorem gL_law_X5_islands : GoodIn wsL_law (wsV RL 228 RX5 yX5_islands wsX5_islands) := goodIn_app (goodIn_of _ (by decide +kernel)) ggL_law_X5_islands
set_option maxRecDepth 20000 in
theorem ggL_law_X6_islands : GoodIn wsL_law wsX6_islands := goodIn_ca (goodIn_r _ [677, 126, 125, 91, 280, 281, 282, 5, 283, 188, 88, 81, 82, 1045, 1046, 1047, 1048, 1049, 1050, 1051, 1052, 1053, 1054, 1055, 1056, 1057, 1058, 1059, 1060, 1061, 1062, 1063, 1064, 1065, 1066, 1067, 1068, 1069, 1070, 1071] (by decide +kernel) (by decide +kernel)) (goodIn_sub (fun _ h => List.mem_append_left _ (List.mem_append_left _ (List.mem_append_left _ (List.mem_append_left _ (List.mem_append_left _ (List.mem_append_left _ (List.mem_append_left _ (List.mem_append_right _ h)))))))) (by decide +kernel))
set_option maxRecDepth 20000 in
theorem gL_law_X6_islands : GoodIn wsL_law (wsV RL 231 RX6 yX6_islands wsX6_islands) := goodIn_app (goodIn_of _ (by decide +kernel)) ggL_law_X6_islands
set_option maxRecDepth 20000 in
theorem ggL_law_L_isLive : GoodIn wsL_law wsL_isLive := goodIn_ca (goodIn_ca (goodIn_r _ [680, 155, 681, 682, 683, 2, 684, 17, 160, 161, 162, 163, 164, 165, 166, 167, 168, 16, 169, 112, 640, 641, 642, 643, 25, 644, 225, 226, 227, 114, 115, 228, 229, 230, 231, 232, 233, 234, 235, 236, 174, 208, 209, 237, 238, 239, 240, 41, 42, 685, 250, 251, 252, 113, 1039, 1040, 1041, 1042, 1043, 1044, 1072, 1073, 1074, 1075, 1076, 1077, 1078, 1079, 1080, 1081, 1085, 1086, 1087, 1088, 1089] (by decide +kernel) (by decide +kernel)) (goodIn_sub (fun _ h => List.mem_append_left _ (List.mem_append_left _ (List.mem_append_left _ (List.mem_append_left _ (List.mem_append_left _ (List.mem_append_left _ (List.mem_append_left _ (List.mem_append_right _ h)))))))) (by decide +kernel))) (goodIn_sub (fun _ h => List.mem_append_left _ (List.mem_append_left _ (List.mem_append_left _ (List.mem_append_left _ (List.mem_append_right _ h))))) (by decide +kernel))
set_option maxRecDepth 20000 in
theorem gL_law_L_isLive : GoodIn wsL_law (va_wsS RL 232 yL_isLive wsL_isLive) := goodIn_app (goodIn_of _ (by decide +kernel)) ggL_law_L_isLive
set_option maxRecDepth 20000 in
theorem ggL_law_X6_isLive : GoodIn wsL_law wsX6_isLive := goodIn_ca (goodIn_r _ [689, 91, 650, 651, 652, 5, 653, 280, 281, 282, 283, 125, 188, 88, 81, 82, 189, 190, 191, 192, 127, 128, 129, 361, 362, 363, 364, 126, 284, 285, 286, 287, 77, 1045, 1046, 1047, 1048, 1049, 1050, 1051, 1052, 1053, 1054, 1055, 1056, 1057, 1058, 1059, 1060, 1061, 1062, 1063, 1064, 1065, 1066, 1067, 1068, 1069, 1070, 1071] (by decide +kernel) (by decide +kernel)) (goodIn_sub (fun _ h => List.mem_append_left _ (List.mem_append_left _ (List.mem_append_left _ (List.mem_append_left _ (List.mem_append_left _ (List.mem_append_left _ (List.mem_append_left _ (List.mem_append_right _ h)))))))) (by decide +kernel))
set_option maxRecDepth 20000 in
theorem gL_law_X6_isLive : GoodIn wsL_law (wsV RL 234 RX6 yX6_isLive wsX6_isLive) := goodIn_app (goodIn_of _ (by decide +kernel)) ggL_law_X6_isLive
set_option maxRecDepth 20000 in
theorem ggL_law_L_sourceOf : GoodIn wsL_law wsL_sourceOf := goodIn_ca (goodIn_ca (goodIn_ca (goodIn_r _ [692, 155, 101, 693, 694, 695, 2, 696, 119, 120, 17, 160, 161, 162, 163, 164, 165, 166, 167, 168, 16, 169, 112, 640, 641, 642, 643, 25, 644, 225, 226, 227, 114, 115, 228, 229, 230, 231, 232, 233, 234, 235, 236, 174, 208, 209, 237, 238, 239, 240, 41, 42, 685, 250, 251, 252, 113, 1039, 1040, 1041, 1042, 1043, 1044, 1072, 1073, 1074, 1075, 1076, 1077, 1078, 1079, 1080, 1081, 1085, 1086, 1087, 1088, 1089] (by decide +kernel) (by decide +kernel)) (goodIn_sub (fun _ h => List.mem_append_left _ (List.mem_append_left _ (List.mem_append_left _ (List.mem_append_left _ (List.mem_append_left _ (List.mem_append_left _ (List.mem_append_left _ (List.mem_append_right _ h)))))))) (by decide +kernel))) (goodIn_sub (fun _ h => List.mem_append_left _ (List.mem_append_left _ (List.mem_append_left _ (List.mem_append_left _ (List.mem_append_left _ (List.mem_append_right _ h)))))) (by decide +kernel))) (goodIn_sub (fun _ h => List.mem_append_left _ (List.mem_append_left _ (List.mem_append_left _ (List.mem_append_left _ (List.mem_append_right _ h))))) (by decide +kernel))
set_option maxRecDepth 20000 in
theorem gL_law_L_sourceOf : GoodIn wsL_law (va_wsS RL 235 yL_sourceOf wsL_sourceOf) := goodIn_app (goodIn_of _ (by decide +kernel)) ggL_law_L_sourceOf
set_option maxRecDepth 20000 in
theorem ggL_law_X6_sourceOf : GoodIn wsL_law wsX6_sourceOf := goodIn_ca (goodIn_r _ [700, 91, 650, 651, 652, 5, 653, 280, 281, 282, 283, 125, 188, 88, 81, 82, 189, 190, 191, 192, 127, 128, 129, 361, 362, 363, 364, 126, 284, 285, 286, 287, 77, 130, 131, 132, 133, 1045, 1046, 1047, 1048, 1049, 1050, 1051, 1052, 1053, 1054, 1055, 1056, 1057, 1058, 1059, 1060, 1061, 1062, 1063, 1064, 1065, 1066, 1067, 1068, 1069, 1070, 1071] (by decide +kernel) (by decide +kernel)) (goodIn_sub (fun _ h => List.mem_append_left _ (List.mem_append_left _ (List.mem_append_left _ (List.mem_append_left _ (List.mem_append_left _ (List.mem_append_left _ (List.mem_append_left _ (List.mem_append_right _ h)))))))) (by decide +kernel))
set_option maxRecDepth 20000 in
theorem gL_law_X6_sourceOf : GoodIn wsL_law (wsV RL 237 RX6 yX6_sourceOf wsX6_sourceOf) := goodIn_app (goodIn_of _ (by decide +kernel)) ggL_law_X6_sourceOf
set_option maxRecDepth 20000 in
theorem ggL_law_L_islandLoad : GoodIn wsL_law wsL_islandLoad := goodIn_ca (goodIn_ca (goodIn_r _ [703, 155, 704, 705, 706, 2, 707, 17, 160, 161, 162, 163, 164, 165, 166, 167, 168, 16, 169, 112, 640, 641, 642, 643, 25, 644, 225, 226, 227, 114, 115, 228, 229, 230, 231, 232, 233, 234, 235, 236, 174, 208, 209, 237, 238, 239, 240, 41, 42, 708, 246, 247, 248, 39, 1039, 1040, 1041, 1042, 1043, 1044, 1072, 1073, 1074, 1075, 1076, 1077, 1078, 1079, 1080, 1081, 1085, 1086, 1087, 1088, 1089] (by decide +kernel) (by decide +kernel)) (goodIn_sub (fun _ h => List.mem_append_left _ (List.mem_append_left _ (List.mem_append_left _ (List.mem_append_left _ (List.mem_append_left _ (List.mem_append_left _ (List.mem_append_left _ (List.mem_append_right _ h)))))))) (by decide +kernel))) (goodIn_sub (fun _ h => List.mem_append_left _ (List.mem_append_left _ (List.mem_append_left _ (List.mem_append_left _ (List.mem_append_right _ h))))) (by decide +kernel))
set_option maxRecDepth 20000 in
theorem gL_law_L_islandLoad : GoodIn wsL_law (va_wsS RL 238 yL_islandLoad wsL_islandLoad) := goodIn_app (goodIn_of _ (by decide +kernel)) ggL_law_L_islandLoad
set_option maxRecDepth 20000 in
theorem ggL_law_X6_islandLoad : GoodIn wsL_law wsX6_islandLoad := goodIn_ca (goodIn_r _ [712, 91, 650, 651, 652, 5, 653, 280, 281, 282, 283, 125, 188, 88, 81, 82, 189, 190, 191, 192, 127, 128, 129, 361, 362, 363, 364, 126, 288, 289, 290, 291, 79, 1045, 1046, 1047, 1048, 1049, 1050, 1051, 1052, 1053, 1054, 1055, 1056, 1057, 1058, 1059, 1060, 1061, 1062, 1063, 1064, 1065, 1066, 1067, 1068, 1069, 1070, 1071] (by decide +kernel) (by decide +kernel)) (goodIn_sub (fun _ h => List.mem_append_left _ (List.mem_append_left _ (List.mem_append_left _ (List.mem_append_left _ (List.mem_append_left _ (List.mem_append_left _ (List.mem_append_left _ (List.mem_append_right _ h)))))))) (by decide +kernel))
set_option maxRecDepth 20000 in
theorem gL_law_X6_islandLoad : GoodIn wsL_law (wsV RL 240 RX6 yX6_islandLoad wsX6_islandLoad) := goodIn_app (goodIn_of _ (by decide +kernel)) ggL_law_X6_islandLoad
set_option maxRecDepth 20000 in
theorem ggL_law_L_current : GoodIn wsL_law wsL_current := goodIn_ca (goodIn_ca (goodIn_r _ [715, 155, 716, 717, 718, 2, 719, 21, 25, 307, 308, 309, 310, 164, 165, 17, 311, 181, 182, 16, 183, 174, 720, 385, 386, 20, 387, 50, 48, 261, 262, 263, 264, 208, 209, 265, 266, 267, 268, 269, 211, 212, 213, 112, 39, 270, 238, 239, 240, 41, 42, 388, 1039, 1040, 1041, 1042, 1043, 1044, 1085, 1086, 1087, 1088, 1089, 1072, 1073, 1074, 1075, 1076, 1077, 1078, 1079, 1080, 1081, 1082, 1083, 1084] (by decide +kernel) (by decide +kernel)) (goodIn_sub (fun _ h => List.mem_append_left _ (List.mem_append_left _ (List.mem_append_left _ (List.mem_append_left _ (List.mem_append_left _ (List.mem_append_left _ (List.mem_append_left _ (List.mem_append_right _ h)))))))) (by decide +kernel))) (goodIn_sub (fun _ h => List.mem_append_left _ (List.mem_append_left _ (List.mem_append_left _ (List.mem_append_left _ (List.mem_append_right _ h))))) (by decide +kernel))
set_option maxRecDepth 20000 in
theorem gL_law_L_current : GoodIn wsL_law (va_wsS RL 241 yL_current wsL_current) := goodIn_app (goodIn_of _ (by decide +kernel)) ggL_law_L_current
set_option maxRecDepth 20000 in
theorem ggL_law_X6_current : GoodIn wsL_law wsX6_current := goodIn_ca (goodIn_r _ [724, 324, 325, 326, 5, 327, 188, 127, 128, 129, 361, 362, 363, 364, 126, 401, 402, 403, 404, 88, 296, 297, 298, 299, 91, 81, 82, 280, 281, 282, 283, 125, 284, 285, 286, 287, 77, 288, 289, 290, 291, 79, 1045, 1046, 1047, 1048, 1049, 1050, 1051, 1052, 1053, 1054, 1055, 1056, 1057, 1058, 1059, 1060, 1061, 1062, 1063, 1064, 1065, 1066, 1067, 1068, 1069, 1070, 1071] (by decide +kernel) (by decide +kernel)) (goodIn_sub (fun _ h => List.mem_append_left _ (List.mem_append_left _ (List.mem_append_left _ (List.mem_append_left _ (List.mem_append_left _ (List.mem_append_left _ (List.mem_append_left _ (List.mem_append_right _ h)))))))) (by decide +kernel))
set_option maxRecDepth 20000 in
theorem gL_law_X6_current : GoodIn wsL_law (wsV RL 243 RX6 yX6_current wsX6_current) := goodIn_app (goodIn_of _ (by decide +kernel)) ggL_law_X6_current
set_option maxRecDepth 20000 in
theorem ggL_law_L_currentByCutting : GoodIn wsL_law wsL_currentByCutting := goodIn_ca (goodIn_ca (goodIn_r _ [727, 155, 728, 729, 730, 2, 731, 17, 25, 307, 308, 309, 310, 164, 165, 311, 181, 182, 16, 183, 174, 732, 733, 734, 735, 208, 209, 736, 464, 465, 466, 467, 342, 343, 344, 41, 275, 468, 225, 226, 227, 114, 115, 228, 229, 230, 231, 232, 233, 234, 235, 236, 237, 238, 239, 240, 42, 249, 250, 251, 252, 113, 245, 246, 247, 248, 112, 39, 1039, 1040, 1041, 1042, 1043, 1044, 1085, 1086, 1087, 1088, 1089, 1072, 1073, 1074, 1075, 1076, 1077, 1078, 1079, 1080, 1081] (by decide +kernel) (by decide +kernel)) (goodIn_sub (fun _ h => List.mem_append_left _ (List.mem_append_left _ (List.mem_append_left _ (List.mem_append_left _ (List.mem_append_left _ (List.mem_append_left _ (List.mem_append_left _ (List.mem_append_right _ h)))))))) (by decide +kernel))) (goodIn_sub (fun _ h => List.mem_append_left _ (List.mem_append_left _ (List.mem_append_left _ (List.mem_append_left _ (List.mem_append_right _ h))))) (by decide +kernel))
set_option maxRecDepth 20000 in
theorem gL_law_L_currentByCutting : GoodIn wsL_law (va_wsS RL 244 yL_currentByCutting wsL_currentByCutting) := goodIn_app (goodIn_of _ (by decide +kernel)) ggL_law_L_currentByCutting
set_option maxRecDepth 20000 in
theorem ggL_law_X6_currentByCutting : GoodIn wsL_law wsX6_currentByCutting := goodIn_ca (goodIn_r _ [740, 741, 722, 723, 5, 724, 324, 325, 326, 327, 188, 127, 128, 129, 361, 362, 363, 364, 126, 401, 402, 403, 404, 88, 296, 297, 298, 299, 91, 81, 82, 280, 281, 282, 283, 125, 284, 285, 286, 287, 77, 288, 289, 290, 291, 79, 1045, 1046, 1047, 1048, 1049, 1050, 1051, 1052, 1053, 1054, 1055, 1056, 1057, 1058, 1059, 1060, 1061, 1062, 1063, 1064, 1065, 1066, 1067, 1068, 1069, 1070, 1071] (by decide +kernel) (by decide +kernel)) (goodIn_sub (fun _ h => List.mem_append_left _ (List.mem_append_left _ (List.mem_append_left _ (List.mem_append_left _ (List.mem_append_left _ (List.mem_append_left _ (List.mem_append_left _ (List.mem_append_right _ h)))))))) (by decide +kernel))
set_option maxRecDepth 20000 in
theorem gL_law_X6_currentByCutting : GoodIn wsL_law (wsV RL 246 RX6 yX6_currentByCutting wsX6_currentByCutting) := goodIn_app (goodIn_of _ (by decide +kernel)) ggL_law_X6_currentByCutting
set_option maxRecDepth 20000 in
theorem ggL_law_L_distance : GoodIn wsL_law wsL_distance := goodIn_ca (goodIn_ca (goodIn_ca (goodIn_r _ [744, 155, 101, 745, 746, 747, 2, 748, 307, 308, 309, 310, 164, 165, 17, 311, 181, 182, 16, 183, 174, 749, 750, 751, 752, 119, 120, 21, 25, 753, 452, 453, 20, 454, 50, 208, 209, 455, 456, 457, 458, 49, 270, 238, 239, 240, 41, 42, 1039, 1040, 1041, 1042, 1043, 1044, 1072, 1073, 1074, 1075, 1076, 1077, 1078, 1079, 1080, 1081, 1085, 1086, 1087, 1088, 1089, 1082, 1083, 1084] (by decide +kernel) (by decide +kernel)) (goodIn_sub (fun _ h => List.mem_append_left _ (List.mem_append_left _ (List.mem_append_left _ (List.mem_append_left _ (List.mem_append_left _ (List.mem_append_left _ (List.mem_append_left _ (List.mem_append_right _ h)))))))) (by decide +kernel))) (goodIn_sub (fun _ h => List.mem_append_left _ (List.mem_append_left _ (List.mem_append_left _ (List.mem_append_left _ (List.mem_append_right _ h))))) (by decide +kernel))) (goodIn_sub (fun _ h => List.mem_append_left _ (List.mem_append_left _ (List.mem_append_left _ (List.mem_append_left _ (List.mem_append_left _ (List.mem_append_right _ h)))))) (by decide +kernel))
set_option maxRecDepth 20000 in
theorem gL_law_L_distance : GoodIn wsL_law (va_wsS RL 247 yL_distance wsL_distance) := goodIn_app (goodIn_of _ (by decide +kernel)) ggL_law_L_distance
set_option maxRecDepth 20000 in
theorem ggL_law_X6_distance : GoodIn wsL_law wsX6_distance := goodIn_ca (goodIn_r _ [757, 497, 758, 759, 760, 5, 761, 126, 324, 325, 326, 327, 188, 127, 128, 129, 361, 362, 363, 364, 498, 499, 500, 501, 88, 91, 81, 125, 93, 82, 92, 280, 281, 282, 283, 284, 285, 286, 287, 77, 1045, 1046, 1047, 1048, 1049, 1050, 1051, 1052, 1053, 1054, 1055, 1056, 1057, 1058, 1059, 1060, 1061, 1062, 1063, 1064, 1065, 1066, 1067, 1068, 1069, 1070, 1071] (by decide +kernel) (by decide +kernel)) (goodIn_sub (fun _ h => List.mem_append_left _ (List.mem_append_left _ (List.mem_append_left _ (List.mem_append_left _ (List.mem_append_left _ (List.mem_append_left _ (List.mem_append_left _ (List.mem_append_right _ h)))))))) (by decide +kernel))
set_option maxRecDepth 20000 in
theorem gL_law_X6_distance : GoodIn wsL_law (wsV RL 249 RX6 yX6_distance wsX6_distance) := goodIn_app (goodIn_of _ (by decide +kernel)) ggL_law_X6_distance
set_option maxRecDepth 20000 in
theorem ggL_law_L_pathAt : GoodIn wsL_law wsL_pathAt := goodIn_ca (goodIn_ca (goodIn_ca (goodIn_ca (goodIn_r _ [764, 155, 101, 765, 766, 767, 768, 2, 769, 770, 771, 21, 307, 308, 309, 310, 164, 165, 17, 311, 181, 182, 16, 183, 174, 749, 750, 751, 752, 119, 120, 25, 753, 452, 453, 20, 454, 50, 208, 209, 455, 456, 457, 458, 49, 270, 238, 239, 240, 41, 42, 772, 475, 476, 477, 1039, 1040, 1041, 1042, 1043, 1044, 1072, 1073, 1074, 1075, 1076, 1077, 1078, 1079, 1080, 1081, 1085, 1086, 1087, 1088, 1089, 1082, 1083, 1084] (by decide +kernel) (by decide +kernel)) (goodIn_sub (fun _ h => List.mem_append_left _ (List.mem_append_left _ (List.mem_append_left _ (List.mem_append_left _ (List.mem_append_left _ (List.mem_append_left _ (List.mem_append_left _ (List.mem_append_right _ h)))))))) (by decide +kernel))) (goodIn_sub (fun _ h => List.mem_append_left _ (List.mem_append_right _ h)) (by decide +kernel))) (goodIn_sub (fun _ h => List.mem_append_left _ (List.mem_append_left _ (List.mem_append_left _ (List.mem_append_left _ (List.mem_append_right _ h))))) (by decide +kernel))) (goodIn_sub (fun _ h => List.mem_append_left _ (List.mem_append_left _ (List.mem_append_left _ (List.mem_append_left _ (List.mem_append_left _ (List.mem_append_right _ h)))))) (by decide +kernel))
set_option maxRecDepth 20000 in
theorem gL_law_L_pathAt : GoodIn wsL_law (va_wsS RL 250 yL_pathAt wsL_pathAt) := goodIn_app (goodIn_of _ (by decide +kernel)) ggL_law_L_pathAt
