set_option maxRecDepth 20000 in
theorem gL_open_X5_open : GoodIn wsL_open (wsV RL 47 RX5 yX5_open wsX5_open) := goodIn_app (goodIn_of _ (by decide +kernel)) ggL_open_X5_open
theorem dL_open_0 : decode cL_open 0 = .ok (.aload_n 0, 1) := by decide +kernel
theorem dL_open_1 : decode cL_open 1 = .ok (.iload_n 1, 1) := by decide +kernel
theorem dL_open_2 : decode cL_open 2 = .ok (.invokevirtual 47, 3) := by decide +kernel
theorem dL_open_5 : decode cL_open 5 = .ok (.ireturn, 1) := by decide +kernel
theorem dL_open_6 : decode cL_open 6 = .ok (.astore_n 2, 1) := by decide +kernel
theorem dL_open_7 : decode cL_open 7 = .ok (.bipush (-75), 2) := by decide +kernel
theorem dL_open_9 : decode cL_open 9 = .ok (.ireturn, 1) := by decide +kernel
set_option maxRecDepth 20000 in
theorem ggL_canClose_X5_canClose : GoodIn wsL_canClose wsX5_canClose := goodIn_ca (goodIn_ca (goodIn_r _ [6, 7, 8, 9, 10, 5, 11, 12, 13, 14, 15, 16, 17, 18, 19, 20, 21, 22, 23, 24, 25, 26, 27, 28, 29, 30, 31, 32, 33, 34, 35, 36, 37, 38, 39, 40, 41, 42, 43, 44, 45, 46, 47, 48, 49, 50, 51, 52, 53, 54, 55, 56, 57, 58, 59, 60, 61, 62, 63, 64, 65, 66, 67, 68, 69, 70, 71, 72, 73, 74, 75, 76, 77, 78, 79, 80, 81, 82, 83, 84, 85, 86, 87, 88, 89, 90, 91, 92, 93, 94, 95, 96, 97, 98, 99, 100, 101, 102, 103, 104, 105, 106, 107, 108, 109, 110, 111, 112, 113, 114, 115, 116, 117, 118, 119, 120, 121, 122, 123, 124, 125, 126, 127, 128, 129, 130, 131, 132, 133, 134, 135, 136, 137] (by decide +kernel) (by decide +kernel)) (goodIn_sub (fun _ h => List.mem_cons_of_mem _ (List.mem_append_left _ (List.mem_append_right _ h))) (by decide +kernel))) (goodIn_sub (fun _ h => List.mem_cons_of_mem _ (List.mem_append_right _ h)) (by decide +kernel))
set_option maxRecDepth 20000 in
theorem gL_canClose_X5_canClose : GoodIn wsL_canClose (wsV RL 50 RX5 yX5_canClose wsX5_canClose) := goodIn_app (goodIn_of _ (by decide +kernel)) ggL_canClose_X5_canClose
theorem dL_canClose_0 : decode cL_canClose 0 = .ok (.aload_n 0, 1) := by decide +kernel
theorem dL_canClose_1 : decode cL_canClose 1 = .ok (.iload_n 1, 1) := by decide +kernel
theorem dL_canClose_2 : decode cL_canClose 2 = .ok (.invokevirtual 50, 3) := by decide +kernel
theorem dL_canClose_5 : decode cL_canClose 5 = .ok (.ireturn, 1) := by decide +kernel
theorem dL_canClose_6 : decode cL_canClose 6 = .ok (.astore_n 2, 1) := by decide +kernel
theorem dL_canClose_7 : decode cL_canClose 7 = .ok (.bipush (-75), 2) := by decide +kernel
theorem dL_canClose_9 : decode cL_canClose 9 = .ok (.ireturn, 1) := by decide +kernel
set_option maxRecDepth 20000 in
theorem ggL_canOpen_X5_canOpen : GoodIn wsL_canOpen wsX5_canOpen := goodIn_ca (goodIn_ca (goodIn_r _ [6, 7, 8, 9, 10, 5, 11, 12, 13, 14, 15, 16, 17, 18, 19, 20, 21, 22, 23, 24, 25, 26, 27, 28, 29, 30, 31, 32, 33, 34, 35, 36, 37, 38, 39, 40, 41, 42, 43, 44, 45, 46, 47, 48, 49, 50, 51, 52, 53, 54, 55, 56, 57, 58, 59, 60, 61, 62, 63, 64, 65, 66, 67, 68, 69, 70, 71, 72, 73, 74, 75, 76, 77, 78, 79, 80, 81, 82] (by decide +kernel) (by decide +kernel)) (goodIn_sub (fun _ h => List.mem_cons_of_mem _ (List.mem_append_left _ (List.mem_append_right _ h))) (by decide +kernel))) (goodIn_sub (fun _ h => List.mem_cons_of_mem _ (List.mem_append_right _ h)) (by decide +kernel))
set_option maxRecDepth 20000 in
theorem gL_canOpen_X5_canOpen : GoodIn wsL_canOpen (wsV RL 53 RX5 yX5_canOpen wsX5_canOpen) := goodIn_app (goodIn_of _ (by decide +kernel)) ggL_canOpen_X5_canOpen
theorem dL_canOpen_0 : decode cL_canOpen 0 = .ok (.aload_n 0, 1) := by decide +kernel
theorem dL_canOpen_1 : decode cL_canOpen 1 = .ok (.iload_n 1, 1) := by decide +kernel
theorem dL_canOpen_2 : decode cL_canOpen 2 = .ok (.invokevirtual 53, 3) := by decide +kernel
theorem dL_canOpen_5 : decode cL_canOpen 5 = .ok (.ireturn, 1) := by decide +kernel
theorem dL_canOpen_6 : decode cL_canOpen 6 = .ok (.astore_n 2, 1) := by decide +kernel
theorem dL_canOpen_7 : decode cL_canOpen 7 = .ok (.bipush (-75), 2) := by decide +kernel
theorem dL_canOpen_9 : decode cL_canOpen 9 = .ok (.ireturn, 1) := by decide +kernel
set_option maxRecDepth 20000 in
theorem ggL_fault_X5_fault : GoodIn wsL_fault wsX5_fault := goodIn_ca (goodIn_ca (goodIn_ca (goodIn_ca (goodIn_r _ [7, 8, 9, 10, 11, 12, 13, 14, 15, 16, 6, 17, 18, 19, 20, 21, 22, 23, 24, 25, 26, 27, 28, 29, 30, 31, 32, 33, 34, 35, 36, 37, 38, 39, 40, 41, 42, 43, 44, 45, 46, 47, 48, 49, 50, 51, 52, 53, 54, 55, 56, 57, 58, 59, 60, 61, 62, 63, 64, 65, 66, 67, 68, 69, 70, 71, 72, 73, 74, 75, 76, 77, 78, 79, 80, 81, 82, 83, 84, 85, 86, 87, 88, 89, 90, 91, 92, 93, 94, 95, 96, 97, 98, 99, 100, 101, 102, 103, 104, 105, 106, 107, 108, 109, 110, 111, 112, 113, 114, 115, 116, 117, 118, 119, 120, 121, 122, 123, 124, 125, 126, 127, 128, 129, 130, 131, 132, 133, 134, 135, 136, 137, 138, 139, 140, 141, 142, 143, 144, 145, 146, 147, 148, 149, 150, 151, 152, 153, 154] (by decide +kernel) (by decide +kernel)) (goodIn_sub (fun _ h => List.mem_cons_of_mem _ (List.mem_append_left _ (List.mem_append_left _ (List.mem_append_left _ (List.mem_append_right _ h))))) (by decide +kernel))) (goodIn_sub (fun _ h => List.mem_cons_of_mem _ (List.mem_append_left _ (List.mem_append_left _ (List.mem_append_right _ h)))) (by decide +kernel))) (goodIn_sub (fun _ h => List.mem_cons_of_mem _ (List.mem_append_left _ (List.mem_append_right _ h))) (by decide +kernel))) (goodIn_sub (fun _ h => List.mem_cons_of_mem _ (List.mem_append_right _ h)) (by decide +kernel))
set_option maxRecDepth 20000 in
theorem gL_fault_X5_fault : GoodIn wsL_fault (wsV RL 56 RX5 yX5_fault wsX5_fault) := goodIn_app (goodIn_of _ (by decide +kernel)) ggL_fault_X5_fault
theorem dL_fault_0 : decode cL_fault 0 = .ok (.aload_n 0, 1) := by decide +kernel
theorem dL_fault_1 : decode cL_fault 1 = .ok (.iload_n 1, 1) := by decide +kernel
theorem dL_fault_2 : decode cL_fault 2 = .ok (.invokevirtual 56, 3) := by decide +kernel
theorem dL_fault_5 : decode cL_fault 5 = .ok (.ireturn, 1) := by decide +kernel
theorem dL_fault_6 : decode cL_fault 6 = .ok (.astore_n 2, 1) := by decide +kernel
theorem dL_fault_7 : decode cL_fault 7 = .ok (.bipush (-75), 2) := by decide +kernel
theorem dL_fault_9 : decode cL_fault 9 = .ok (.ireturn, 1) := by decide +kernel
theorem dL_fault_10 : decode cL_fault 10 = .ok (.astore_n 2, 1) := by decide +kernel
theorem dL_fault_11 : decode cL_fault 11 = .ok (.bipush (-79), 2) := by decide +kernel
theorem dL_fault_13 : decode cL_fault 13 = .ok (.ireturn, 1) := by decide +kernel
set_option maxRecDepth 20000 in
theorem ggL_repair_X5_repair : GoodIn wsL_repair wsX5_repair := goodIn_ca (goodIn_ca (goodIn_r _ [7, 8, 9, 10, 11, 12, 13, 6, 14, 15, 16, 17, 18, 19, 20, 21, 22, 23, 24, 25, 26, 27, 28, 29, 30, 31, 32, 33, 34, 35, 36, 37, 38, 39, 40, 41, 42, 43, 44, 45, 46, 47, 48, 49, 50] (by decide +kernel) (by decide +kernel)) (goodIn_sub (fun _ h => List.mem_cons_of_mem _ (List.mem_append_left _ (List.mem_append_right _ h))) (by decide +kernel))) (goodIn_sub (fun _ h => List.mem_cons_of_mem _ (List.mem_append_right _ h)) (by decide +kernel))
set_option maxRecDepth 20000 in
theorem gL_repair_X5_repair : GoodIn wsL_repair (wsV RL 59 RX5 yX5_repair wsX5_repair) := goodIn_app (goodIn_of _ (by decide +kernel)) ggL_repair_X5_repair
theorem dL_repair_0 : decode cL_repair 0 = .ok (.aload_n 0, 1) := by decide +kernel
theorem dL_repair_1 : decode cL_repair 1 = .ok (.iload_n 1, 1) := by decide +kernel
theorem dL_repair_2 : decode cL_repair 2 = .ok (.invokevirtual 59, 3) := by decide +kernel
theorem dL_repair_5 : decode cL_repair 5 = .ok (.ifCond .eq 7, 3) := by decide +kernel
theorem dL_repair_8 : decode cL_repair 8 = .ok (.iconst 1, 1) := by decide +kernel
theorem dL_repair_9 : decode cL_repair 9 = .ok (.goto 4, 3) := by decide +kernel
theorem dL_repair_12 : decode cL_repair 12 = .ok (.iconst 0, 1) := by decide +kernel
theorem dL_repair_13 : decode cL_repair 13 = .ok (.ireturn, 1) := by decide +kernel
theorem dL_repair_14 : decode cL_repair 14 = .ok (.astore_n 2, 1) := by decide +kernel
theorem dL_repair_15 : decode cL_repair 15 = .ok (.bipush (-75), 2) := by decide +kernel
theorem dL_repair_17 : decode cL_repair 17 = .ok (.ireturn, 1) := by decide +kernel
theorem dL_repair_18 : decode cL_repair 18 = .ok (.astore_n 2, 1) := by decide +kernel
theorem dL_repair_19 : decode cL_repair 19 = .ok (.bipush (-79), 2) := by decide +kernel
theorem dL_repair_21 : decode cL_repair 21 = .ok (.ireturn, 1) := by decide +kernel
set_option maxRecDepth 20000 in
theorem ggL_reset_X5_reset : GoodIn wsL_reset wsX5_reset := goodIn_ca (goodIn_ca (goodIn_ca (goodIn_r _ [8, 9, 10, 11, 12, 13, 14, 15, 16, 7, 17, 18, 19, 20, 21, 22, 23, 24, 25, 26, 27, 28, 29, 30, 31, 32, 33, 34, 35, 36, 37, 38, 39, 40, 41, 42, 43, 44, 45, 46, 47, 48, 49, 50, 51, 52, 53, 54, 55, 56, 57, 58, 59, 60] (by decide +kernel) (by decide +kernel)) (goodIn_sub (fun _ h => List.mem_cons_of_mem _ (List.mem_append_left _ (List.mem_append_left _ (List.mem_append_right _ h)))) (by decide +kernel))) (goodIn_sub (fun _ h => List.mem_cons_of_mem _ (List.mem_append_left _ (List.mem_append_right _ h))) (by decide +kernel))) (goodIn_sub (fun _ h => List.mem_cons_of_mem _ (List.mem_append_right _ h)) (by decide +kernel))
set_option maxRecDepth 20000 in
theorem gL_reset_X5_reset : GoodIn wsL_reset (wsV RL 63 RX5 yX5_reset wsX5_reset) := goodIn_app (goodIn_of _ (by decide +kernel)) ggL_reset_X5_reset
theorem dL_reset_0 : decode cL_reset 0 = .ok (.aload_n 0, 1) := by decide +kernel
theorem dL_reset_1 : decode cL_reset 1 = .ok (.iload_n 1, 1) := by decide +kernel
theorem dL_reset_2 : decode cL_reset 2 = .ok (.invokevirtual 63, 3) := by decide +kernel
theorem dL_reset_5 : decode cL_reset 5 = .ok (.ireturn, 1) := by decide +kernel
theorem dL_reset_6 : decode cL_reset 6 = .ok (.astore_n 2, 1) := by decide +kernel
theorem dL_reset_7 : decode cL_reset 7 = .ok (.bipush (-75), 2) := by decide +kernel
theorem dL_reset_9 : decode cL_reset 9 = .ok (.ireturn, 1) := by decide +kernel
theorem dL_reset_10 : decode cL_reset 10 = .ok (.astore_n 2, 1) := by decide +kernel
theorem dL_reset_11 : decode cL_reset 11 = .ok (.bipush (-76), 2) := by decide +kernel
theorem dL_reset_13 : decode cL_reset 13 = .ok (.ireturn, 1) := by decide +kernel
theorem dL_reset_14 : decode cL_reset 14 = .ok (.astore_n 2, 1) := by decide +kernel
theorem dL_reset_15 : decode cL_reset 15 = .ok (.bipush (-79), 2) := by decide +kernel
theorem dL_reset_17 : decode cL_reset 17 = .ok (.ireturn, 1) := by decide +kernel
set_option maxRecDepth 20000 in
theorem ggL_isSource_X5_isSource : GoodIn wsL_isSource wsX5_isSource := goodIn_ca (goodIn_r _ [6, 7, 8, 9, 10, 5, 11, 12, 13, 14, 15, 16, 17, 18, 19, 20, 21, 22, 23, 24, 25, 26, 27, 28, 29, 30, 31, 32, 33, 34, 35, 36, 37, 38] (by decide +kernel) (by decide +kernel)) (goodIn_sub (fun _ h => List.mem_cons_of_mem _ (List.mem_append_right _ h)) (by decide +kernel))
set_option maxRecDepth 20000 in
theorem gL_isSource_X5_isSource : GoodIn wsL_isSource (wsV RL 66 RX5 yX5_isSource wsX5_isSource) := goodIn_app (goodIn_of _ (by decide +kernel)) ggL_isSource_X5_isSource
theorem dL_isSource_0 : decode cL_isSource 0 = .ok (.aload_n 0, 1) := by decide +kernel
theorem dL_isSource_1 : decode cL_isSource 1 = .ok (.iload_n 1, 1) := by decide +kernel
theorem dL_isSource_2 : decode cL_isSource 2 = .ok (.invokevirtual 66, 3) := by decide +kernel
theorem dL_isSource_5 : decode cL_isSource 5 = .ok (.ifCond .eq 7, 3) := by decide +kernel
theorem dL_isSource_8 : decode cL_isSource 8 = .ok (.iconst 1, 1) := by decide +kernel
theorem dL_isSource_9 : decode cL_isSource 9 = .ok (.goto 4, 3) := by decide +kernel
theorem dL_isSource_12 : decode cL_isSource 12 = .ok (.iconst 0, 1) := by decide +kernel
theorem dL_isSource_13 : decode cL_isSource 13 = .ok (.ireturn, 1) := by decide +kernel
theorem dL_isSource_14 : decode cL_isSource 14 = .ok (.astore_n 2, 1) := by decide +kernel
theorem dL_isSource_15 : decode cL_isSource 15 = .ok (.bipush (-75), 2) := by decide +kernel
theorem dL_isSource_17 : decode cL_isSource 17 = .ok (.ireturn, 1) := by decide +kernel
set_option maxRecDepth 20000 in
theorem ggL_loadOf_X5_loadOf : GoodIn wsL_loadOf wsX5_loadOf := goodIn_ca (goodIn_ca (goodIn_r _ [6, 7, 8, 9, 10, 5, 11, 12, 13, 14, 15, 16, 17, 18, 19, 20, 21, 22, 23, 24, 25, 26, 27, 28, 29, 30, 31, 32, 33, 34, 35, 36, 37, 38, 39, 40] (by decide +kernel) (by decide +kernel)) (goodIn_sub (fun _ h => List.mem_cons_of_mem _ (List.mem_append_left _ (List.mem_append_right _ h))) (by decide +kernel))) (goodIn_sub (fun _ h => List.mem_cons_of_mem _ (List.mem_append_right _ h)) (by decide +kernel))
set_option maxRecDepth 20000 in
theorem gL_loadOf_X5_loadOf : GoodIn wsL_loadOf (wsV RL 69 RX5 yX5_loadOf wsX5_loadOf) := goodIn_app (goodIn_of _ (by decide +kernel)) ggL_loadOf_X5_loadOf
theorem dL_loadOf_0 : decode cL_loadOf 0 = .ok (.aload_n 0, 1) := by decide +kernel
theorem dL_loadOf_1 : decode cL_loadOf 1 = .ok (.iload_n 1, 1) := by decide +kernel
theorem dL_loadOf_2 : decode cL_loadOf 2 = .ok (.invokevirtual 69, 3) := by decide +kernel
theorem dL_loadOf_5 : decode cL_loadOf 5 = .ok (.ireturn, 1) := by decide +kernel
theorem dL_loadOf_6 : decode cL_loadOf 6 = .ok (.astore_n 2, 1) := by decide +kernel
theorem dL_loadOf_7 : decode cL_loadOf 7 = .ok (.bipush (-75), 2) := by decide +kernel
theorem dL_loadOf_9 : decode cL_loadOf 9 = .ok (.ireturn, 1) := by decide +kernel
set_option maxRecDepth 20000 in
theorem ggL_weight_X5_weight : GoodIn wsL_weight wsX5_weight := goodIn_ca (goodIn_ca (goodIn_ca (goodIn_r _ [7, 8, 9, 10, 11, 6, 12, 13, 14, 15, 16, 17, 18, 19, 20, 21, 22, 23, 24, 25, 26, 27, 28, 29, 30, 31, 32, 33, 34, 35, 36, 37, 38, 39, 40, 41, 42, 43, 44, 45, 46, 47, 48, 49, 50, 51, 52, 53, 54] (by decide +kernel) (by decide +kernel)) (goodIn_sub (fun _ h => List.mem_cons_of_mem _ (List.mem_append_left _ (List.mem_append_left _ (List.mem_append_right _ h)))) (by decide +kernel))) (goodIn_sub (fun _ h => List.mem_cons_of_mem _ (List.mem_append_left _ (List.mem_append_right _ h))) (by decide +kernel))) (goodIn_sub (fun _ h => List.mem_cons_of_mem _ (List.mem_append_right _ h)) (by decide +kernel))
