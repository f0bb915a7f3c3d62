set_option maxRecDepth 20000 in
theorem gL_isSelective_X5_isSelective : GoodIn wsL_isSelective (wsV RL 122 RX5 yX5_isSelective wsX5_isSelective) := goodIn_app (goodIn_of _ (by decide +kernel)) ggL_isSelective_X5_isSelective
theorem dL_isSelective_0 : decode cL_isSelective 0 = .ok (.aload_n 0, 1) := by decide +kernel
theorem dL_isSelective_1 : decode cL_isSelective 1 = .ok (.iload_n 1, 1) := by decide +kernel
theorem dL_isSelective_2 : decode cL_isSelective 2 = .ok (.invokevirtual 122, 3) := by decide +kernel
theorem dL_isSelective_5 : decode cL_isSelective 5 = .ok (.ifCond .eq 7, 3) := by decide +kernel
theorem dL_isSelective_8 : decode cL_isSelective 8 = .ok (.iconst 1, 1) := by decide +kernel
theorem dL_isSelective_9 : decode cL_isSelective 9 = .ok (.goto 4, 3) := by decide +kernel
theorem dL_isSelective_12 : decode cL_isSelective 12 = .ok (.iconst 0, 1) := by decide +kernel
theorem dL_isSelective_13 : decode cL_isSelective 13 = .ok (.ireturn, 1) := by decide +kernel
theorem dL_isSelective_14 : decode cL_isSelective 14 = .ok (.astore_n 2, 1) := by decide +kernel
theorem dL_isSelective_15 : decode cL_isSelective 15 = .ok (.bipush (-75), 2) := by decide +kernel
theorem dL_isSelective_17 : decode cL_isSelective 17 = .ok (.ireturn, 1) := by decide +kernel
set_option maxRecDepth 20000 in
theorem ggL_margin_X5_margin : GoodIn wsL_margin wsX5_margin := goodIn_ca (goodIn_ca (goodIn_ca (goodIn_ca (goodIn_ca (goodIn_r _ [8, 9, 10, 11, 12, 13, 14, 15, 16, 17, 7, 18, 19, 20, 21, 22, 23, 24, 25, 26, 27, 28, 29, 30, 31, 32, 33, 34, 35, 36, 37, 38, 39, 40, 41, 42, 43, 44, 45, 46, 47, 48, 49, 50, 51, 52, 53, 54, 55, 56, 57, 58, 59, 60, 61, 62, 63, 64, 65, 66, 67, 68, 69, 70, 71, 72, 73, 74, 75, 76, 77, 78, 79, 80, 81, 82, 83, 84, 85, 86, 87, 88, 89, 90, 91, 92, 93, 94, 95, 96, 97, 98, 99, 100, 101, 102, 103, 104, 105, 106, 107, 108, 109, 110, 111, 112, 113, 114, 115, 116, 117, 118, 119, 120, 121, 122, 123, 124, 125, 126, 127, 128, 129, 130, 131, 132, 133, 134, 135, 136, 137, 138, 139, 140, 141, 142, 143, 144, 145, 146] (by decide +kernel) (by decide +kernel)) (goodIn_sub (fun _ h => List.mem_cons_of_mem _ (List.mem_append_left _ (List.mem_append_left _ (List.mem_append_left _ (List.mem_append_left _ (List.mem_append_right _ h)))))) (by decide +kernel))) (goodIn_sub (fun _ h => List.mem_cons_of_mem _ (List.mem_append_left _ (List.mem_append_left _ (List.mem_append_left _ (List.mem_append_right _ h))))) (by decide +kernel))) (goodIn_sub (fun _ h => List.mem_cons_of_mem _ (List.mem_append_left _ (List.mem_append_left _ (List.mem_append_right _ h)))) (by decide +kernel))) (goodIn_sub (fun _ h => List.mem_cons_of_mem _ (List.mem_append_left _ (List.mem_append_right _ h))) (by decide +kernel))) (goodIn_sub (fun _ h => List.mem_cons_of_mem _ (List.mem_append_right _ h)) (by decide +kernel))
set_option maxRecDepth 20000 in
theorem gL_margin_X5_margin : GoodIn wsL_margin (wsV RL 125 RX5 yX5_margin wsX5_margin) := goodIn_app (goodIn_of _ (by decide +kernel)) ggL_margin_X5_margin
theorem dL_margin_0 : decode cL_margin 0 = .ok (.aload_n 0, 1) := by decide +kernel
theorem dL_margin_1 : decode cL_margin 1 = .ok (.iload_n 1, 1) := by decide +kernel
theorem dL_margin_2 : decode cL_margin 2 = .ok (.invokevirtual 125, 3) := by decide +kernel
theorem dL_margin_5 : decode cL_margin 5 = .ok (.ireturn, 1) := by decide +kernel
theorem dL_margin_6 : decode cL_margin 6 = .ok (.astore_n 2, 1) := by decide +kernel
theorem dL_margin_7 : decode cL_margin 7 = .ok (.bipush (-75), 2) := by decide +kernel
theorem dL_margin_9 : decode cL_margin 9 = .ok (.ireturn, 1) := by decide +kernel
theorem dL_margin_10 : decode cL_margin 10 = .ok (.astore_n 2, 1) := by decide +kernel
theorem dL_margin_11 : decode cL_margin 11 = .ok (.bipush (-79), 2) := by decide +kernel
theorem dL_margin_13 : decode cL_margin 13 = .ok (.ireturn, 1) := by decide +kernel
theorem dL_margin_14 : decode cL_margin 14 = .ok (.astore_n 2, 1) := by decide +kernel
theorem dL_margin_15 : decode cL_margin 15 = .ok (.bipush (-76), 2) := by decide +kernel
theorem dL_margin_17 : decode cL_margin 17 = .ok (.ireturn, 1) := by decide +kernel
set_option maxRecDepth 20000 in
theorem ggL_bestAt_X5_bestAt : GoodIn wsL_bestAt wsX5_bestAt := goodIn_ca (goodIn_ca (goodIn_r _ [6, 7, 8, 9, 10, 11, 12, 13, 14, 15, 16, 17, 18, 19, 20, 21, 22, 23, 24, 25, 26, 27, 28, 29, 30, 31, 32, 33, 34, 35, 36, 37, 38, 39, 40, 41, 42, 43, 44, 5, 45, 46, 47, 48, 49, 50, 51, 52, 53, 54, 55, 56, 57, 58, 59, 60, 61, 62, 63, 64, 65, 66, 67, 68, 69, 70, 71, 72, 73, 74, 75, 76, 77, 78, 79, 80, 81, 82, 83, 84, 85, 86, 87, 88, 89, 90, 91, 92, 93, 94, 95, 96, 97, 98, 99, 100, 101, 102, 103, 104, 105, 106, 107, 108, 109, 110, 111, 112, 113, 114, 115, 116, 117, 118, 119, 120, 121, 122, 123, 124, 125, 126, 127, 128, 129, 130, 131, 132, 133, 134, 135, 136, 137, 138, 139, 140, 141, 142, 143, 144, 145, 146, 147, 148, 149, 150, 151, 152, 153, 154, 155, 156, 157, 158, 159, 160, 161, 162, 163, 164, 165, 166, 167, 168, 169, 170, 171, 172, 173, 174, 175, 176, 177, 178, 179, 180, 181, 182, 183, 184, 185, 186, 187, 188, 189] (by decide +kernel) (by decide +kernel)) (goodIn_sub (fun _ h => List.mem_cons_of_mem _ (List.mem_append_left _ (List.mem_append_right _ h))) (by decide +kernel))) (goodIn_sub (fun _ h => List.mem_cons_of_mem _ (List.mem_append_right _ h)) (by decide +kernel))
set_option maxRecDepth 20000 in
theorem gL_bestAt_X5_bestAt : GoodIn wsL_bestAt (wsV RL 128 RX5 yX5_bestAt wsX5_bestAt) := goodIn_app (goodIn_of _ (by decide +kernel)) ggL_bestAt_X5_bestAt
theorem dL_bestAt_0 : decode cL_bestAt 0 = .ok (.aload_n 0, 1) := by decide +kernel
theorem dL_bestAt_1 : decode cL_bestAt 1 = .ok (.iload_n 1, 1) := by decide +kernel
theorem dL_bestAt_2 : decode cL_bestAt 2 = .ok (.invokevirtual 128, 3) := by decide +kernel
theorem dL_bestAt_5 : decode cL_bestAt 5 = .ok (.ireturn, 1) := by decide +kernel
theorem dL_bestAt_6 : decode cL_bestAt 6 = .ok (.astore_n 2, 1) := by decide +kernel
theorem dL_bestAt_7 : decode cL_bestAt 7 = .ok (.bipush (-77), 2) := by decide +kernel
theorem dL_bestAt_9 : decode cL_bestAt 9 = .ok (.ireturn, 1) := by decide +kernel
set_option maxRecDepth 20000 in
theorem ggL_valueByTrying_X5_valueByTrying : GoodIn wsL_valueByTrying wsX5_valueByTrying := goodIn_ca (goodIn_ca (goodIn_r _ [6, 7, 8, 9, 10, 5, 11, 12, 13, 14, 15, 16, 17, 18, 19, 20, 21, 22, 23, 24, 25, 26, 27, 28, 29, 30, 31, 32, 33, 34, 35, 36, 37, 38, 39, 40, 41, 42, 43, 44, 45, 46, 47, 48, 49, 50, 51, 52, 53, 54, 55, 56, 57, 58, 59, 60, 61, 62, 63, 64, 65, 66, 67, 68, 69, 70, 71, 72, 73, 74, 75, 76, 77, 78, 79, 80, 81, 82, 83, 84, 85, 86, 87, 88, 89, 90, 91, 92, 93, 94, 95, 96, 97, 98, 99, 100, 101, 102, 103, 104, 105, 106, 107, 108, 109, 110, 111, 112, 113, 114, 115, 116, 117, 118, 119, 120, 121, 122, 123, 124, 125, 126, 127, 128, 129, 130, 131, 132, 133, 134, 135, 136, 137, 138, 139, 140, 141, 142, 143, 144, 145, 146, 147, 148, 149, 150, 151, 152, 153, 154, 155, 156, 157, 158, 159, 160, 161, 162, 163, 164, 165, 166, 167, 168, 169, 170, 171, 172, 173, 174, 175, 176, 177, 178, 179, 180, 181, 182, 183, 184, 185, 186, 187, 188, 189, 190, 191, 192, 193, 194, 195] (by decide +kernel) (by decide +kernel)) (goodIn_sub (fun _ h => List.mem_cons_of_mem _ (List.mem_append_left _ (List.mem_append_right _ h))) (by decide +kernel))) (goodIn_sub (fun _ h => List.mem_cons_of_mem _ (List.mem_append_right _ h)) (by decide +kernel))
set_option maxRecDepth 20000 in
theorem gL_valueByTrying_X5_valueByTrying : GoodIn wsL_valueByTrying (wsV RL 131 RX5 yX5_valueByTrying wsX5_valueByTrying) := goodIn_app (goodIn_of _ (by decide +kernel)) ggL_valueByTrying_X5_valueByTrying
theorem dL_valueByTrying_0 : decode cL_valueByTrying 0 = .ok (.aload_n 0, 1) := by decide +kernel
theorem dL_valueByTrying_1 : decode cL_valueByTrying 1 = .ok (.invokevirtual 131, 3) := by decide +kernel
theorem dL_valueByTrying_4 : decode cL_valueByTrying 4 = .ok (.ireturn, 1) := by decide +kernel
theorem dL_valueByTrying_5 : decode cL_valueByTrying 5 = .ok (.astore_n 1, 1) := by decide +kernel
theorem dL_valueByTrying_6 : decode cL_valueByTrying 6 = .ok (.bipush (-76), 2) := by decide +kernel
theorem dL_valueByTrying_8 : decode cL_valueByTrying 8 = .ok (.ireturn, 1) := by decide +kernel
set_option maxRecDepth 20000 in
theorem ggL_sizeByTrying_X5_sizeByTrying : GoodIn wsL_sizeByTrying wsX5_sizeByTrying := goodIn_ca (goodIn_ca (goodIn_r _ [6, 7, 8, 9, 10, 5, 11, 12, 13, 14, 15, 16, 17, 18, 19, 20, 21, 22, 23, 24, 25, 26, 27, 28, 29, 30, 31, 32, 33, 34, 35, 36, 37, 38, 39, 40, 41, 42, 43, 44, 45, 46, 47, 48, 49, 50, 51, 52, 53, 54, 55, 56, 57, 58, 59, 60, 61, 62, 63, 64, 65, 66, 67, 68, 69, 70, 71, 72, 73, 74, 75, 76, 77, 78, 79, 80, 81, 82, 83, 84, 85, 86, 87, 88, 89, 90, 91, 92, 93, 94, 95, 96, 97, 98, 99, 100, 101, 102, 103, 104, 105, 106, 107, 108, 109, 110, 111, 112, 113, 114, 115, 116, 117, 118, 119, 120, 121, 122, 123, 124, 125, 126, 127, 128, 129, 130, 131, 132, 133, 134, 135, 136, 137, 138, 139, 140, 141, 142, 143, 144, 145, 146, 147, 148, 149, 150, 151, 152, 153, 154, 155, 156, 157, 158, 159, 160, 161, 162, 163, 164, 165, 166, 167, 168, 169, 170, 171, 172, 173, 174, 175, 176, 177, 178, 179, 180, 181, 182, 183, 184, 185, 186, 187, 188, 189, 190, 191, 192, 193, 194, 195] (by decide +kernel) (by decide +kernel)) (goodIn_sub (fun _ h => List.mem_cons_of_mem _ (List.mem_append_left _ (List.mem_append_right _ h))) (by decide +kernel))) (goodIn_sub (fun _ h => List.mem_cons_of_mem _ (List.mem_append_right _ h)) (by decide +kernel))
set_option maxRecDepth 20000 in
theorem gL_sizeByTrying_X5_sizeByTrying : GoodIn wsL_sizeByTrying (wsV RL 135 RX5 yX5_sizeByTrying wsX5_sizeByTrying) := goodIn_app (goodIn_of _ (by decide +kernel)) ggL_sizeByTrying_X5_sizeByTrying
theorem dL_sizeByTrying_0 : decode cL_sizeByTrying 0 = .ok (.aload_n 0, 1) := by decide +kernel
theorem dL_sizeByTrying_1 : decode cL_sizeByTrying 1 = .ok (.invokevirtual 135, 3) := by decide +kernel
theorem dL_sizeByTrying_4 : decode cL_sizeByTrying 4 = .ok (.ireturn, 1) := by decide +kernel
theorem dL_sizeByTrying_5 : decode cL_sizeByTrying 5 = .ok (.astore_n 1, 1) := by decide +kernel
theorem dL_sizeByTrying_6 : decode cL_sizeByTrying 6 = .ok (.bipush (-76), 2) := by decide +kernel
theorem dL_sizeByTrying_8 : decode cL_sizeByTrying 8 = .ok (.ireturn, 1) := by decide +kernel
set_option maxRecDepth 20000 in
theorem ggL_liveShare_X5_liveShare : GoodIn wsL_liveShare wsX5_liveShare := goodIn_ca (goodIn_ca (goodIn_r _ [7, 8, 9, 10, 11, 12, 13, 14, 15, 16, 17, 6, 18, 19, 20, 21, 22, 23, 24, 25, 26, 27, 28, 29, 30, 31, 32, 33, 34, 35, 36, 37, 38, 39, 40, 41, 42, 43, 44, 45, 46, 47, 48, 49, 50, 51, 52, 53, 54, 55, 56, 57, 58, 59, 60, 61, 62, 63, 64, 65, 66, 67, 68, 69, 70, 71, 72, 73, 74, 75, 76] (by decide +kernel) (by decide +kernel)) (goodIn_sub (fun _ h => List.mem_cons_of_mem _ (List.mem_append_left _ (List.mem_append_right _ h))) (by decide +kernel))) (goodIn_sub (fun _ h => List.mem_cons_of_mem _ (List.mem_append_right _ h)) (by decide +kernel))
set_option maxRecDepth 20000 in
theorem gL_liveShare_X5_liveShare : GoodIn wsL_liveShare (wsV RL 138 RX5 yX5_liveShare wsX5_liveShare) := goodIn_app (goodIn_of _ (by decide +kernel)) ggL_liveShare_X5_liveShare
theorem dL_liveShare_0 : decode cL_liveShare 0 = .ok (.aload_n 0, 1) := by decide +kernel
theorem dL_liveShare_1 : decode cL_liveShare 1 = .ok (.invokevirtual 138, 3) := by decide +kernel
theorem dL_liveShare_4 : decode cL_liveShare 4 = .ok (.freturn, 1) := by decide +kernel
theorem dL_liveShare_5 : decode cL_liveShare 5 = .ok (.astore_n 1, 1) := by decide +kernel
theorem dL_liveShare_6 : decode cL_liveShare 6 = .ok (.ldc 144, 2) := by decide +kernel
theorem dL_liveShare_8 : decode cL_liveShare 8 = .ok (.freturn, 1) := by decide +kernel
