set_option maxRecDepth 20000 in
theorem gL_currentByCutting_X5_currentByCutting : GoodIn wsL_currentByCutting (wsV RL 102 RX5 yX5_currentByCutting wsX5_currentByCutting) := goodIn_app (goodIn_of _ (by decide +kernel)) ggL_currentByCutting_X5_currentByCutting
theorem dL_currentByCutting_0 : decode cL_currentByCutting 0 = .ok (.aload_n 0, 1) := by decide +kernel
theorem dL_currentByCutting_1 : decode cL_currentByCutting 1 = .ok (.iload_n 1, 1) := by decide +kernel
theorem dL_currentByCutting_2 : decode cL_currentByCutting 2 = .ok (.invokevirtual 102, 3) := by decide +kernel
theorem dL_currentByCutting_5 : decode cL_currentByCutting 5 = .ok (.ireturn, 1) := by decide +kernel
theorem dL_currentByCutting_6 : decode cL_currentByCutting 6 = .ok (.astore_n 2, 1) := by decide +kernel
theorem dL_currentByCutting_7 : decode cL_currentByCutting 7 = .ok (.bipush (-75), 2) := by decide +kernel
theorem dL_currentByCutting_9 : decode cL_currentByCutting 9 = .ok (.ireturn, 1) := by decide +kernel
set_option maxRecDepth 20000 in
theorem ggL_distance_X5_distance : GoodIn wsL_distance wsX5_distance := goodIn_ca (goodIn_ca (goodIn_ca (goodIn_r _ [7, 8, 9, 10, 6, 11, 12, 13, 14, 15, 16, 17, 18, 19, 20, 21, 22, 23, 24, 25, 26, 27, 28, 29, 30, 31, 32, 33, 34, 35, 36, 37, 38, 39, 40, 41, 42, 43, 44, 45, 46, 47, 48, 49, 50, 51, 52, 53, 54, 55, 56, 57, 58, 59, 60, 61, 62, 63, 64, 65, 66, 67, 68, 69, 70, 71] (by decide +kernel) (by decide +kernel)) (goodIn_sub (fun _ h => List.mem_cons_of_mem _ (List.mem_append_left _ (List.mem_append_left _ (List.mem_append_right _ h)))) (by decide +kernel))) (goodIn_sub (fun _ h => List.mem_cons_of_mem _ (List.mem_append_left _ (List.mem_append_right _ h))) (by decide +kernel))) (goodIn_sub (fun _ h => List.mem_cons_of_mem _ (List.mem_append_right _ h)) (by decide +kernel))
set_option maxRecDepth 20000 in
theorem gL_distance_X5_distance : GoodIn wsL_distance (wsV RL 105 RX5 yX5_distance wsX5_distance) := goodIn_app (goodIn_of _ (by decide +kernel)) ggL_distance_X5_distance
theorem dL_distance_0 : decode cL_distance 0 = .ok (.aload_n 0, 1) := by decide +kernel
theorem dL_distance_1 : decode cL_distance 1 = .ok (.iload_n 1, 1) := by decide +kernel
theorem dL_distance_2 : decode cL_distance 2 = .ok (.invokevirtual 105, 3) := by decide +kernel
theorem dL_distance_5 : decode cL_distance 5 = .ok (.ireturn, 1) := by decide +kernel
theorem dL_distance_6 : decode cL_distance 6 = .ok (.astore_n 2, 1) := by decide +kernel
theorem dL_distance_7 : decode cL_distance 7 = .ok (.bipush (-75), 2) := by decide +kernel
theorem dL_distance_9 : decode cL_distance 9 = .ok (.ireturn, 1) := by decide +kernel
theorem dL_distance_10 : decode cL_distance 10 = .ok (.astore_n 2, 1) := by decide +kernel
theorem dL_distance_11 : decode cL_distance 11 = .ok (.bipush (-79), 2) := by decide +kernel
theorem dL_distance_13 : decode cL_distance 13 = .ok (.ireturn, 1) := by decide +kernel
set_option maxRecDepth 20000 in
theorem ggL_pathAt_X5_pathAt : GoodIn wsL_pathAt wsX5_pathAt := goodIn_ca (goodIn_ca (goodIn_ca (goodIn_ca (goodIn_r _ [8, 9, 10, 11, 12, 13, 14, 7, 15, 16, 17, 18, 19, 20, 21, 22, 23, 24, 25, 26, 27, 28, 29, 30, 31, 32, 33, 34, 35, 36, 37, 38, 39, 40, 41, 42, 43, 44, 45, 46, 47, 48, 49, 50, 51, 52, 53, 54, 55, 56, 57, 58, 59, 60, 61, 62, 63, 64, 65, 66, 67, 68, 69, 70, 71, 72, 73, 74, 75, 76, 77, 78] (by decide +kernel) (by decide +kernel)) (goodIn_sub (fun _ h => List.mem_cons_of_mem _ (List.mem_append_left _ (List.mem_append_left _ (List.mem_append_left _ (List.mem_append_right _ h))))) (by decide +kernel))) (goodIn_sub (fun _ h => List.mem_cons_of_mem _ (List.mem_append_left _ (List.mem_append_left _ (List.mem_append_right _ h)))) (by decide +kernel))) (goodIn_sub (fun _ h => List.mem_cons_of_mem _ (List.mem_append_left _ (List.mem_append_right _ h))) (by decide +kernel))) (goodIn_sub (fun _ h => List.mem_cons_of_mem _ (List.mem_append_right _ h)) (by decide +kernel))
set_option maxRecDepth 20000 in
theorem gL_pathAt_X5_pathAt : GoodIn wsL_pathAt (wsV RL 108 RX5 yX5_pathAt wsX5_pathAt) := goodIn_app (goodIn_of _ (by decide +kernel)) ggL_pathAt_X5_pathAt
theorem dL_pathAt_0 : decode cL_pathAt 0 = .ok (.aload_n 0, 1) := by decide +kernel
theorem dL_pathAt_1 : decode cL_pathAt 1 = .ok (.iload_n 1, 1) := by decide +kernel
theorem dL_pathAt_2 : decode cL_pathAt 2 = .ok (.iload_n 2, 1) := by decide +kernel
theorem dL_pathAt_3 : decode cL_pathAt 3 = .ok (.invokevirtual 108, 3) := by decide +kernel
theorem dL_pathAt_6 : decode cL_pathAt 6 = .ok (.ireturn, 1) := by decide +kernel
theorem dL_pathAt_7 : decode cL_pathAt 7 = .ok (.astore_n 3, 1) := by decide +kernel
theorem dL_pathAt_8 : decode cL_pathAt 8 = .ok (.bipush (-75), 2) := by decide +kernel
theorem dL_pathAt_10 : decode cL_pathAt 10 = .ok (.ireturn, 1) := by decide +kernel
theorem dL_pathAt_11 : decode cL_pathAt 11 = .ok (.astore_n 3, 1) := by decide +kernel
theorem dL_pathAt_12 : decode cL_pathAt 12 = .ok (.bipush (-79), 2) := by decide +kernel
theorem dL_pathAt_14 : decode cL_pathAt 14 = .ok (.ireturn, 1) := by decide +kernel
theorem dL_pathAt_15 : decode cL_pathAt 15 = .ok (.astore_n 3, 1) := by decide +kernel
theorem dL_pathAt_16 : decode cL_pathAt 16 = .ok (.bipush (-77), 2) := by decide +kernel
theorem dL_pathAt_18 : decode cL_pathAt 18 = .ok (.ireturn, 1) := by decide +kernel
set_option maxRecDepth 20000 in
theorem ggL_faultCurrent_X5_faultCurrent : GoodIn wsL_faultCurrent wsX5_faultCurrent := goodIn_ca (goodIn_ca (goodIn_ca (goodIn_ca (goodIn_r _ [7, 8, 9, 10, 11, 12, 6, 13, 14, 15, 16, 17, 18, 19, 20, 21, 22, 23, 24, 25, 26, 27, 28, 29, 30, 31, 32, 33, 34, 35, 36, 37, 38, 39, 40, 41, 42, 43, 44, 45, 46, 47, 48, 49, 50, 51, 52, 53, 54, 55, 56, 57, 58, 59, 60, 61, 62, 63, 64, 65, 66, 67, 68, 69, 70, 71, 72, 73, 74, 75, 76, 77, 78, 79, 80, 81, 82, 83, 84, 85, 86, 87, 88, 89, 90, 91, 92, 93, 94, 95, 96, 97, 98, 99, 100, 101, 102, 103, 104, 105, 106, 107, 108, 109, 110, 111, 112, 113, 114, 115, 116, 117, 118, 119, 120, 121, 122, 123] (by decide +kernel) (by decide +kernel)) (goodIn_sub (fun _ h => List.mem_cons_of_mem _ (List.mem_append_left _ (List.mem_append_left _ (List.mem_append_left _ (List.mem_append_right _ h))))) (by decide +kernel))) (goodIn_sub (fun _ h => List.mem_cons_of_mem _ (List.mem_append_left _ (List.mem_append_left _ (List.mem_append_right _ h)))) (by decide +kernel))) (goodIn_sub (fun _ h => List.mem_cons_of_mem _ (List.mem_append_left _ (List.mem_append_right _ h))) (by decide +kernel))) (goodIn_sub (fun _ h => List.mem_cons_of_mem _ (List.mem_append_right _ h)) (by decide +kernel))
set_option maxRecDepth 20000 in
theorem gL_faultCurrent_X5_faultCurrent : GoodIn wsL_faultCurrent (wsV RL 113 RX5 yX5_faultCurrent wsX5_faultCurrent) := goodIn_app (goodIn_of _ (by decide +kernel)) ggL_faultCurrent_X5_faultCurrent
theorem dL_faultCurrent_0 : decode cL_faultCurrent 0 = .ok (.aload_n 0, 1) := by decide +kernel
theorem dL_faultCurrent_1 : decode cL_faultCurrent 1 = .ok (.iload_n 1, 1) := by decide +kernel
theorem dL_faultCurrent_2 : decode cL_faultCurrent 2 = .ok (.invokevirtual 113, 3) := by decide +kernel
theorem dL_faultCurrent_5 : decode cL_faultCurrent 5 = .ok (.ireturn, 1) := by decide +kernel
theorem dL_faultCurrent_6 : decode cL_faultCurrent 6 = .ok (.astore_n 2, 1) := by decide +kernel
theorem dL_faultCurrent_7 : decode cL_faultCurrent 7 = .ok (.bipush (-75), 2) := by decide +kernel
theorem dL_faultCurrent_9 : decode cL_faultCurrent 9 = .ok (.ireturn, 1) := by decide +kernel
theorem dL_faultCurrent_10 : decode cL_faultCurrent 10 = .ok (.astore_n 2, 1) := by decide +kernel
theorem dL_faultCurrent_11 : decode cL_faultCurrent 11 = .ok (.bipush (-79), 2) := by decide +kernel
theorem dL_faultCurrent_13 : decode cL_faultCurrent 13 = .ok (.ireturn, 1) := by decide +kernel
set_option maxRecDepth 20000 in
theorem ggL_tripTime_X5_tripTime : GoodIn wsL_tripTime wsX5_tripTime := goodIn_ca (goodIn_ca (goodIn_ca (goodIn_ca (goodIn_ca (goodIn_r _ [8, 9, 10, 11, 12, 13, 14, 15, 7, 16, 17, 18, 19, 20, 21, 22, 23, 24, 25, 26, 27, 28, 29, 30, 31, 32, 33, 34, 35, 36, 37, 38, 39, 40, 41, 42, 43, 44, 45, 46, 47, 48, 49, 50, 51, 52, 53, 54, 55, 56, 57, 58, 59, 60, 61, 62, 63, 64, 65] (by decide +kernel) (by decide +kernel)) (goodIn_sub (fun _ h => List.mem_cons_of_mem _ (List.mem_append_left _ (List.mem_append_left _ (List.mem_append_left _ (List.mem_append_left _ (List.mem_append_right _ h)))))) (by decide +kernel))) (goodIn_sub (fun _ h => List.mem_cons_of_mem _ (List.mem_append_left _ (List.mem_append_left _ (List.mem_append_left _ (List.mem_append_right _ h))))) (by decide +kernel))) (goodIn_sub (fun _ h => List.mem_cons_of_mem _ (List.mem_append_left _ (List.mem_append_left _ (List.mem_append_right _ h)))) (by decide +kernel))) (goodIn_sub (fun _ h => List.mem_cons_of_mem _ (List.mem_append_left _ (List.mem_append_right _ h))) (by decide +kernel))) (goodIn_sub (fun _ h => List.mem_cons_of_mem _ (List.mem_append_right _ h)) (by decide +kernel))
set_option maxRecDepth 20000 in
theorem gL_tripTime_X5_tripTime : GoodIn wsL_tripTime (wsV RL 116 RX5 yX5_tripTime wsX5_tripTime) := goodIn_app (goodIn_of _ (by decide +kernel)) ggL_tripTime_X5_tripTime
theorem dL_tripTime_0 : decode cL_tripTime 0 = .ok (.aload_n 0, 1) := by decide +kernel
theorem dL_tripTime_1 : decode cL_tripTime 1 = .ok (.iload_n 1, 1) := by decide +kernel
theorem dL_tripTime_2 : decode cL_tripTime 2 = .ok (.iload_n 2, 1) := by decide +kernel
theorem dL_tripTime_3 : decode cL_tripTime 3 = .ok (.invokevirtual 116, 3) := by decide +kernel
theorem dL_tripTime_6 : decode cL_tripTime 6 = .ok (.ireturn, 1) := by decide +kernel
theorem dL_tripTime_7 : decode cL_tripTime 7 = .ok (.astore_n 3, 1) := by decide +kernel
theorem dL_tripTime_8 : decode cL_tripTime 8 = .ok (.bipush (-75), 2) := by decide +kernel
theorem dL_tripTime_10 : decode cL_tripTime 10 = .ok (.ireturn, 1) := by decide +kernel
theorem dL_tripTime_11 : decode cL_tripTime 11 = .ok (.astore_n 3, 1) := by decide +kernel
theorem dL_tripTime_12 : decode cL_tripTime 12 = .ok (.bipush (-78), 2) := by decide +kernel
theorem dL_tripTime_14 : decode cL_tripTime 14 = .ok (.ireturn, 1) := by decide +kernel
theorem dL_tripTime_15 : decode cL_tripTime 15 = .ok (.astore_n 3, 1) := by decide +kernel
theorem dL_tripTime_16 : decode cL_tripTime 16 = .ok (.bipush (-76), 2) := by decide +kernel
theorem dL_tripTime_18 : decode cL_tripTime 18 = .ok (.ireturn, 1) := by decide +kernel
set_option maxRecDepth 20000 in
theorem ggL_wouldTrip_X5_wouldTrip : GoodIn wsL_wouldTrip wsX5_wouldTrip := goodIn_ca (goodIn_ca (goodIn_ca (goodIn_r _ [6, 7, 8, 9, 10, 11, 5, 12, 13, 14, 15, 16, 17, 18, 19, 20, 21, 22, 23, 24, 25, 26, 27, 28, 29, 30, 31, 32, 33, 34, 35, 36, 37, 38, 39, 40, 41, 42, 43, 44, 45, 46, 47, 48, 49, 50, 51, 52, 53, 54, 55, 56, 57, 58, 59, 60, 61, 62, 63, 64, 65, 66, 67, 68, 69, 70, 71, 72, 73, 74, 75, 76, 77, 78, 79, 80, 81, 82, 83, 84, 85, 86, 87, 88, 89, 90, 91, 92, 93, 94, 95, 96, 97, 98, 99, 100, 101, 102, 103, 104, 105, 106, 107, 108, 109, 110, 111, 112, 113, 114, 115, 116, 117, 118, 119, 120, 121, 122, 123, 124, 125, 126, 127, 128, 129, 130, 131, 132, 133, 134, 135, 136] (by decide +kernel) (by decide +kernel)) (goodIn_sub (fun _ h => List.mem_cons_of_mem _ (List.mem_append_left _ (List.mem_append_left _ (List.mem_append_right _ h)))) (by decide +kernel))) (goodIn_sub (fun _ h => List.mem_cons_of_mem _ (List.mem_append_left _ (List.mem_append_right _ h))) (by decide +kernel))) (goodIn_sub (fun _ h => List.mem_cons_of_mem _ (List.mem_append_right _ h)) (by decide +kernel))
set_option maxRecDepth 20000 in
theorem gL_wouldTrip_X5_wouldTrip : GoodIn wsL_wouldTrip (wsV RL 119 RX5 yX5_wouldTrip wsX5_wouldTrip) := goodIn_app (goodIn_of _ (by decide +kernel)) ggL_wouldTrip_X5_wouldTrip
theorem dL_wouldTrip_0 : decode cL_wouldTrip 0 = .ok (.aload_n 0, 1) := by decide +kernel
theorem dL_wouldTrip_1 : decode cL_wouldTrip 1 = .ok (.iload_n 1, 1) := by decide +kernel
theorem dL_wouldTrip_2 : decode cL_wouldTrip 2 = .ok (.invokevirtual 119, 3) := by decide +kernel
theorem dL_wouldTrip_5 : decode cL_wouldTrip 5 = .ok (.ireturn, 1) := by decide +kernel
theorem dL_wouldTrip_6 : decode cL_wouldTrip 6 = .ok (.astore_n 2, 1) := by decide +kernel
theorem dL_wouldTrip_7 : decode cL_wouldTrip 7 = .ok (.bipush (-75), 2) := by decide +kernel
theorem dL_wouldTrip_9 : decode cL_wouldTrip 9 = .ok (.ireturn, 1) := by decide +kernel
set_option maxRecDepth 20000 in
theorem ggL_isSelective_X5_isSelective : GoodIn wsL_isSelective wsX5_isSelective := goodIn_ca (goodIn_ca (goodIn_ca (goodIn_r _ [6, 7, 8, 9, 10, 11, 5, 12, 13, 14, 15, 16, 17, 18, 19, 20, 21, 22, 23, 24, 25, 26, 27, 28, 29, 30, 31, 32, 33, 34, 35, 36, 37, 38, 39, 40, 41, 42, 43, 44, 45, 46, 47, 48, 49, 50, 51, 52, 53, 54, 55, 56, 57, 58, 59, 60, 61, 62, 63, 64, 65, 66, 67, 68, 69, 70, 71, 72, 73, 74, 75, 76, 77, 78, 79, 80, 81, 82, 83, 84, 85, 86, 87, 88, 89, 90, 91, 92, 93, 94, 95, 96, 97, 98, 99, 100, 101, 102, 103, 104, 105, 106, 107, 108, 109, 110, 111, 112, 113, 114, 115, 116, 117, 118, 119, 120, 121, 122, 123, 124, 125, 126, 127, 128, 129, 130, 131, 132, 133, 134, 135, 136] (by decide +kernel) (by decide +kernel)) (goodIn_sub (fun _ h => List.mem_cons_of_mem _ (List.mem_append_left _ (List.mem_append_left _ (List.mem_append_right _ h)))) (by decide +kernel))) (goodIn_sub (fun _ h => List.mem_cons_of_mem _ (List.mem_append_left _ (List.mem_append_right _ h))) (by decide +kernel))) (goodIn_sub (fun _ h => List.mem_cons_of_mem _ (List.mem_append_right _ h)) (by decide +kernel))
