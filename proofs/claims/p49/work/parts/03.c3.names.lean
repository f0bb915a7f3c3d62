theorem dX5_margin_9 : decode cX5_margin 9 = .ok (.iload_n 1, 1) := by decide +kernel
theorem dX5_margin_10 : decode cX5_margin 10 = .ok (.aload_n 0, 1) := by decide +kernel
theorem dX5_margin_11 : decode cX5_margin 11 = .ok (.getfield 30, 3) := by decide +kernel
theorem dX5_margin_14 : decode cX5_margin 14 = .ok (.getfield 120, 3) := by decide +kernel
theorem dX5_margin_17 : decode cX5_margin 17 = .ok (.invokevirtual 155, 3) := by decide +kernel
theorem dX5_margin_20 : decode cX5_margin 20 = .ok (.iload_n 1, 1) := by decide +kernel
theorem dX5_margin_21 : decode cX5_margin 21 = .ok (.if_icmp .eq 13, 3) := by decide +kernel
theorem dX5_margin_24 : decode cX5_margin 24 = .ok (.new 100, 3) := by decide +kernel
theorem dX5_margin_27 : decode cX5_margin 27 = .ok (.dup, 1) := by decide +kernel
theorem dX5_margin_28 : decode cX5_margin 28 = .ok (.ldc 241, 2) := by decide +kernel
theorem dX5_margin_30 : decode cX5_margin 30 = .ok (.invokespecial 104, 3) := by decide +kernel
theorem dX5_margin_33 : decode cX5_margin 33 = .ok (.athrow, 1) := by decide +kernel
theorem dX5_margin_34 : decode cX5_margin 34 = .ok (.aload_n 0, 1) := by decide +kernel
theorem dX5_margin_35 : decode cX5_margin 35 = .ok (.getfield 37, 3) := by decide +kernel
theorem dX5_margin_38 : decode cX5_margin 38 = .ok (.iload_n 1, 1) := by decide +kernel
theorem dX5_margin_39 : decode cX5_margin 39 = .ok (.aload_n 0, 1) := by decide +kernel
theorem dX5_margin_40 : decode cX5_margin 40 = .ok (.getfield 30, 3) := by decide +kernel
theorem dX5_margin_43 : decode cX5_margin 43 = .ok (.getfield 120, 3) := by decide +kernel
theorem dX5_margin_46 : decode cX5_margin 46 = .ok (.invokevirtual 243, 3) := by decide +kernel
theorem dX5_margin_49 : decode cX5_margin 49 = .ok (.istore_n 2, 1) := by decide +kernel
theorem dX5_margin_50 : decode cX5_margin 50 = .ok (.iload_n 2, 1) := by decide +kernel
theorem dX5_margin_51 : decode cX5_margin 51 = .ok (.iconst (-1), 1) := by decide +kernel
theorem dX5_margin_52 : decode cX5_margin 52 = .ok (.if_icmp .ne 13, 3) := by decide +kernel
theorem dX5_margin_55 : decode cX5_margin 55 = .ok (.new 176, 3) := by decide +kernel
theorem dX5_margin_58 : decode cX5_margin 58 = .ok (.dup, 1) := by decide +kernel
theorem dX5_margin_59 : decode cX5_margin 59 = .ok (.ldc 246, 2) := by decide +kernel
theorem dX5_margin_61 : decode cX5_margin 61 = .ok (.invokespecial 178, 3) := by decide +kernel
theorem dX5_margin_64 : decode cX5_margin 64 = .ok (.athrow, 1) := by decide +kernel
theorem dX5_margin_65 : decode cX5_margin 65 = .ok (.iload_n 2, 1) := by decide +kernel
theorem dX5_margin_66 : decode cX5_margin 66 = .ok (.ireturn, 1) := by decide +kernel
theorem dX5_trips_0 : decode cX5_trips 0 = .ok (.aload_n 0, 1) := by decide +kernel
theorem dX5_trips_1 : decode cX5_trips 1 = .ok (.getfield 168, 3) := by decide +kernel
theorem dX5_trips_4 : decode cX5_trips 4 = .ok (.ireturn, 1) := by decide +kernel
set_option maxRecDepth 20000 in
theorem ggX5_darkLoad_X1_allNodes : GoodIn wsX5_darkLoad wsX1_allNodes := goodIn_r _ [6, 7, 8, 9, 10, 54, 55, 56, 57, 58, 59, 60, 61, 62, 63] (by decide +kernel) (by decide +kernel)
set_option maxRecDepth 20000 in
theorem gX5_darkLoad_X1_allNodes : GoodIn wsX5_darkLoad (wsV RX5 248 RX1 yX1_allNodes wsX1_allNodes) := goodIn_app (goodIn_of _ (by decide +kernel)) ggX5_darkLoad_X1_allNodes
set_option maxRecDepth 20000 in
theorem ggX5_darkLoad_X1_loadIn : GoodIn wsX5_darkLoad wsX1_loadIn := goodIn_ca (goodIn_r _ [14, 7, 15, 16, 9, 17, 54, 55, 56, 57, 58, 59, 60, 61, 62, 63] (by decide +kernel) (by decide +kernel)) (goodIn_sub (fun _ h => List.mem_cons_of_mem _ (List.mem_append_right _ h)) (by decide +kernel))
set_option maxRecDepth 20000 in
theorem gX5_darkLoad_X1_loadIn : GoodIn wsX5_darkLoad (wsV RX5 212 RX1 yX1_loadIn wsX1_loadIn) := goodIn_app (goodIn_of _ (by decide +kernel)) ggX5_darkLoad_X1_loadIn
set_option maxRecDepth 20000 in
theorem ggX5_darkLoad_X5_liveNodes : GoodIn wsX5_darkLoad wsX5_liveNodes := goodIn_ca (goodIn_r _ [21, 1, 22, 23, 24, 25, 5, 26, 7, 27, 16, 9, 17, 28, 29, 30, 31, 8, 10, 32, 33, 34, 35, 36, 37, 38, 39, 40, 41, 42, 43, 44, 45, 46, 47, 48, 49, 50, 51, 52, 53, 64, 65, 66, 67, 68, 54, 55, 56, 57, 58, 59, 60, 61, 62, 63] (by decide +kernel) (by decide +kernel)) (goodIn_sub (fun _ h => List.mem_cons_of_mem _ (List.mem_append_right _ h)) (by decide +kernel))
set_option maxRecDepth 20000 in
theorem gX5_darkLoad_X5_liveNodes : GoodIn wsX5_darkLoad (wsV RX5 252 RX5 yX5_liveNodes wsX5_liveNodes) := goodIn_app (goodIn_of _ (by decide +kernel)) ggX5_darkLoad_X5_liveNodes
theorem dX5_darkLoad_0 : decode cX5_darkLoad 0 = .ok (.aload_n 0, 1) := by decide +kernel
theorem dX5_darkLoad_1 : decode cX5_darkLoad 1 = .ok (.getfield 10, 3) := by decide +kernel
theorem dX5_darkLoad_4 : decode cX5_darkLoad 4 = .ok (.aload_n 0, 1) := by decide +kernel
theorem dX5_darkLoad_5 : decode cX5_darkLoad 5 = .ok (.getfield 10, 3) := by decide +kernel
theorem dX5_darkLoad_8 : decode cX5_darkLoad 8 = .ok (.invokevirtual 248, 3) := by decide +kernel
theorem dX5_darkLoad_11 : decode cX5_darkLoad 11 = .ok (.invokevirtual 212, 3) := by decide +kernel
theorem dX5_darkLoad_14 : decode cX5_darkLoad 14 = .ok (.aload_n 0, 1) := by decide +kernel
theorem dX5_darkLoad_15 : decode cX5_darkLoad 15 = .ok (.getfield 10, 3) := by decide +kernel
theorem dX5_darkLoad_18 : decode cX5_darkLoad 18 = .ok (.aload_n 0, 1) := by decide +kernel
theorem dX5_darkLoad_19 : decode cX5_darkLoad 19 = .ok (.invokevirtual 252, 3) := by decide +kernel
theorem dX5_darkLoad_22 : decode cX5_darkLoad 22 = .ok (.invokevirtual 212, 3) := by decide +kernel
theorem dX5_darkLoad_25 : decode cX5_darkLoad 25 = .ok (.isub, 1) := by decide +kernel
theorem dX5_darkLoad_26 : decode cX5_darkLoad 26 = .ok (.ireturn, 1) := by decide +kernel
set_option maxRecDepth 20000 in
theorem ggX5_bestValue_X2_findBest : GoodIn wsX5_bestValue wsX2_findBest := goodIn_ca (goodIn_r _ [6, 7, 8, 9, 5, 10, 11, 12, 13, 14, 15, 16, 17, 18, 19, 20, 21, 22, 23, 24, 25, 26, 27, 28, 29, 30, 31, 32, 33, 34, 35, 36, 37, 38, 39, 40, 41, 42, 43, 44, 45, 46, 47, 48, 49, 50, 51, 52, 53, 54, 55, 56, 57, 58, 59, 60, 61, 62, 63, 64, 65, 66, 67, 68, 69, 70, 71, 72, 73, 74, 75, 76, 77, 78, 79, 80, 81, 82, 83, 84, 85, 86, 87, 88, 89, 90, 91, 92, 93, 94, 95, 96, 97, 98, 99, 100, 101, 102, 103, 104, 105, 106, 107, 108, 109, 110, 111, 112, 113, 114, 115, 116, 117, 118, 119, 120, 121, 122, 123, 124, 125, 126, 127, 128, 129, 130, 131, 132, 133, 134, 135, 136, 137, 138, 139, 140, 141, 142, 143, 144, 145, 146, 147, 148, 149, 150, 151, 152, 159, 160, 161, 162, 163, 164, 165, 166, 167, 168, 169, 170, 171, 172, 173, 174, 175, 176, 177, 178, 179, 180, 181] (by decide +kernel) (by decide +kernel)) (goodIn_sub (fun _ h => List.mem_cons_of_mem _ (List.mem_append_right _ h)) (by decide +kernel))
set_option maxRecDepth 20000 in
theorem gX5_bestValue_X2_findBest : GoodIn wsX5_bestValue (wsV RX5 255 RX2 yX2_findBest wsX2_findBest) := goodIn_app (goodIn_of _ (by decide +kernel)) ggX5_bestValue_X2_findBest
theorem dX5_bestValue_0 : decode cX5_bestValue 0 = .ok (.aload_n 0, 1) := by decide +kernel
theorem dX5_bestValue_1 : decode cX5_bestValue 1 = .ok (.getfield 46, 3) := by decide +kernel
theorem dX5_bestValue_4 : decode cX5_bestValue 4 = .ok (.invokevirtual 255, 3) := by decide +kernel
theorem dX5_bestValue_7 : decode cX5_bestValue 7 = .ok (.aload_n 0, 1) := by decide +kernel
theorem dX5_bestValue_8 : decode cX5_bestValue 8 = .ok (.getfield 46, 3) := by decide +kernel
theorem dX5_bestValue_11 : decode cX5_bestValue 11 = .ok (.getfield 258, 3) := by decide +kernel
theorem dX5_bestValue_14 : decode cX5_bestValue 14 = .ok (.ireturn, 1) := by decide +kernel
set_option maxRecDepth 20000 in
theorem ggX5_bestSize_X2_findBest : GoodIn wsX5_bestSize wsX2_findBest := goodIn_ca (goodIn_r _ [6, 7, 8, 9, 5, 10, 11, 12, 13, 14, 15, 16, 17, 18, 19, 20, 21, 22, 23, 24, 25, 26, 27, 28, 29, 30, 31, 32, 33, 34, 35, 36, 37, 38, 39, 40, 41, 42, 43, 44, 45, 46, 47, 48, 49, 50, 51, 52, 53, 54, 55, 56, 57, 58, 59, 60, 61, 62, 63, 64, 65, 66, 67, 68, 69, 70, 71, 72, 73, 74, 75, 76, 77, 78, 79, 80, 81, 82, 83, 84, 85, 86, 87, 88, 89, 90, 91, 92, 93, 94, 95, 96, 97, 98, 99, 100, 101, 102, 103, 104, 105, 106, 107, 108, 109, 110, 111, 112, 113, 114, 115, 116, 117, 118, 119, 120, 121, 122, 123, 124, 125, 126, 127, 128, 129, 130, 131, 132, 133, 134, 135, 136, 137, 138, 139, 140, 141, 142, 143, 144, 145, 146, 147, 148, 149, 150, 151, 152, 160, 161, 162, 163, 164, 165, 166, 167, 168, 169, 170, 171, 172, 173, 174, 175, 176, 177, 178, 179, 180, 181, 182] (by decide +kernel) (by decide +kernel)) (goodIn_sub (fun _ h => List.mem_cons_of_mem _ (List.mem_append_right _ h)) (by decide +kernel))
set_option maxRecDepth 20000 in
theorem gX5_bestSize_X2_findBest : GoodIn wsX5_bestSize (wsV RX5 255 RX2 yX2_findBest wsX2_findBest) := goodIn_app (goodIn_of _ (by decide +kernel)) ggX5_bestSize_X2_findBest
set_option maxRecDepth 20000 in
theorem ggX5_bestSize_J6_bitCount_0f7a4 : GoodIn wsX5_bestSize wsJ6_bitCount_0f7a4 := goodIn_r _ [74, 75, 76, 77] (by decide +kernel) (by decide +kernel)
set_option maxRecDepth 20000 in
theorem gX5_bestSize_J6_bitCount_0f7a4 : GoodIn wsX5_bestSize (va_wsS RX5 181 yJ6_bitCount_0f7a4 wsJ6_bitCount_0f7a4) := goodIn_app (goodIn_of _ (by decide +kernel)) ggX5_bestSize_J6_bitCount_0f7a4
theorem dX5_bestSize_0 : decode cX5_bestSize 0 = .ok (.aload_n 0, 1) := by decide +kernel
theorem dX5_bestSize_1 : decode cX5_bestSize 1 = .ok (.getfield 46, 3) := by decide +kernel
theorem dX5_bestSize_4 : decode cX5_bestSize 4 = .ok (.invokevirtual 255, 3) := by decide +kernel
theorem dX5_bestSize_7 : decode cX5_bestSize 7 = .ok (.aload_n 0, 1) := by decide +kernel
theorem dX5_bestSize_8 : decode cX5_bestSize 8 = .ok (.getfield 46, 3) := by decide +kernel
theorem dX5_bestSize_11 : decode cX5_bestSize 11 = .ok (.getfield 261, 3) := by decide +kernel
theorem dX5_bestSize_14 : decode cX5_bestSize 14 = .ok (.invokestatic 181, 3) := by decide +kernel
theorem dX5_bestSize_17 : decode cX5_bestSize 17 = .ok (.ireturn, 1) := by decide +kernel
set_option maxRecDepth 20000 in
theorem ggX5_bestAt_X2_findBest : GoodIn wsX5_bestAt wsX2_findBest := goodIn_ca (goodIn_r _ [8, 9, 10, 11, 7, 12, 13, 14, 15, 16, 17, 18, 19, 20, 21, 22, 23, 24, 25, 26, 27, 28, 29, 30, 31, 32, 33, 34, 35, 36, 37, 38, 39, 40, 41, 42, 43, 44, 45, 46, 47, 48, 49, 50, 51, 52, 53, 54, 55, 56, 57, 58, 59, 60, 61, 62, 63, 64, 65, 66, 67, 68, 69, 70, 71, 72, 73, 74, 75, 76, 77, 78, 79, 80, 81, 82, 83, 84, 85, 86, 87, 88, 89, 90, 91, 92, 93, 94, 95, 96, 97, 98, 99, 100, 101, 102, 103, 104, 105, 106, 107, 108, 109, 110, 111, 112, 113, 114, 115, 116, 117, 118, 119, 120, 121, 122, 123, 124, 125, 126, 127, 128, 129, 130, 131, 132, 133, 134, 135, 136, 137, 138, 139, 140, 141, 142, 143, 144, 145, 146, 147, 148, 149, 150, 151, 152, 153, 154, 162, 163, 164, 165, 166, 167, 168, 169, 170, 171, 172, 173, 174, 175, 176, 177, 178, 179, 180, 181, 182, 183, 184] (by decide +kernel) (by decide +kernel)) (goodIn_sub (fun _ h => List.mem_cons_of_mem _ (List.mem_append_right _ h)) (by decide +kernel))
set_option maxRecDepth 20000 in
theorem gX5_bestAt_X2_findBest : GoodIn wsX5_bestAt (wsV RX5 255 RX2 yX2_findBest wsX2_findBest) := goodIn_app (goodIn_of _ (by decide +kernel)) ggX5_bestAt_X2_findBest
set_option maxRecDepth 20000 in
theorem ggX5_bestAt_J6_bitCount_0f7a4 : GoodIn wsX5_bestAt wsJ6_bitCount_0f7a4 := goodIn_r _ [76, 77, 78, 79] (by decide +kernel) (by decide +kernel)
set_option maxRecDepth 20000 in
theorem gX5_bestAt_J6_bitCount_0f7a4 : GoodIn wsX5_bestAt (va_wsS RX5 181 yJ6_bitCount_0f7a4 wsJ6_bitCount_0f7a4) := goodIn_app (goodIn_of _ (by decide +kernel)) ggX5_bestAt_J6_bitCount_0f7a4
set_option maxRecDepth 20000 in
theorem ggX5_bestAt_X5_memberAt : GoodIn wsX5_bestAt wsX5_memberAt := goodIn_r _ [51] (by decide +kernel) (by decide +kernel)
set_option maxRecDepth 20000 in
theorem gX5_bestAt_X5_memberAt : GoodIn wsX5_bestAt (va_wsS RX5 266 yX5_memberAt wsX5_memberAt) := goodIn_app (goodIn_of _ (by decide +kernel)) ggX5_bestAt_X5_memberAt
theorem dX5_bestAt_0 : decode cX5_bestAt 0 = .ok (.aload_n 0, 1) := by decide +kernel
theorem dX5_bestAt_1 : decode cX5_bestAt 1 = .ok (.getfield 46, 3) := by decide +kernel
theorem dX5_bestAt_4 : decode cX5_bestAt 4 = .ok (.invokevirtual 255, 3) := by decide +kernel
theorem dX5_bestAt_7 : decode cX5_bestAt 7 = .ok (.iload_n 1, 1) := by decide +kernel
theorem dX5_bestAt_8 : decode cX5_bestAt 8 = .ok (.ifCond .lt 17, 3) := by decide +kernel
theorem dX5_bestAt_11 : decode cX5_bestAt 11 = .ok (.iload_n 1, 1) := by decide +kernel
theorem dX5_bestAt_12 : decode cX5_bestAt 12 = .ok (.aload_n 0, 1) := by decide +kernel
theorem dX5_bestAt_13 : decode cX5_bestAt 13 = .ok (.getfield 46, 3) := by decide +kernel
theorem dX5_bestAt_16 : decode cX5_bestAt 16 = .ok (.getfield 261, 3) := by decide +kernel
theorem dX5_bestAt_19 : decode cX5_bestAt 19 = .ok (.invokestatic 181, 3) := by decide +kernel
theorem dX5_bestAt_22 : decode cX5_bestAt 22 = .ok (.if_icmp .lt 14, 3) := by decide +kernel
theorem dX5_bestAt_25 : decode cX5_bestAt 25 = .ok (.new 224, 3) := by decide +kernel
theorem dX5_bestAt_28 : decode cX5_bestAt 28 = .ok (.dup, 1) := by decide +kernel
theorem dX5_bestAt_29 : decode cX5_bestAt 29 = .ok (.ldc_w 264, 3) := by decide +kernel
theorem dX5_bestAt_32 : decode cX5_bestAt 32 = .ok (.invokespecial 228, 3) := by decide +kernel
theorem dX5_bestAt_35 : decode cX5_bestAt 35 = .ok (.athrow, 1) := by decide +kernel
theorem dX5_bestAt_36 : decode cX5_bestAt 36 = .ok (.aload_n 0, 1) := by decide +kernel
theorem dX5_bestAt_37 : decode cX5_bestAt 37 = .ok (.getfield 46, 3) := by decide +kernel
theorem dX5_bestAt_40 : decode cX5_bestAt 40 = .ok (.getfield 261, 3) := by decide +kernel
theorem dX5_bestAt_43 : decode cX5_bestAt 43 = .ok (.iload_n 1, 1) := by decide +kernel
theorem dX5_bestAt_44 : decode cX5_bestAt 44 = .ok (.invokestatic 266, 3) := by decide +kernel
theorem dX5_bestAt_47 : decode cX5_bestAt 47 = .ok (.ireturn, 1) := by decide +kernel
set_option maxRecDepth 20000 in
theorem ggX5_valueByTrying_X5_needFewLinesToTry : GoodIn wsX5_valueByTrying wsX5_needFewLinesToTry := goodIn_ca (goodIn_r _ [6, 7, 8, 9, 10, 11, 12, 13, 14, 15, 16, 17, 18, 19, 20, 21, 22, 23, 24, 25, 162, 163, 164, 165, 166, 167, 173, 174, 175, 176, 177, 178, 179, 180, 181, 182, 183, 184, 185, 186, 187] (by decide +kernel) (by decide +kernel)) (goodIn_sub (fun _ h => List.mem_cons_of_mem _ (List.mem_append_left _ (List.mem_append_right _ h))) (by decide +kernel))
set_option maxRecDepth 20000 in
theorem gX5_valueByTrying_X5_needFewLinesToTry : GoodIn wsX5_valueByTrying (wsV RX5 269 RX5 yX5_needFewLinesToTry wsX5_needFewLinesToTry) := goodIn_app (goodIn_of _ (by decide +kernel)) ggX5_valueByTrying_X5_needFewLinesToTry
set_option maxRecDepth 20000 in
theorem ggX5_valueByTrying_X2_tryAllSets : GoodIn wsX5_valueByTrying wsX2_tryAllSets := goodIn_ca (goodIn_r _ [30, 31, 32, 33, 34, 29, 35, 36, 37, 38, 39, 11, 12, 13, 14, 15, 16, 17, 18, 40, 41, 42, 43, 44, 45, 46, 47, 48, 49, 50, 51, 52, 5, 53, 54, 55, 56, 57, 58, 59, 60, 61, 62, 63, 64, 65, 66, 67, 68, 69, 70, 71, 72, 73, 74, 75, 76, 77, 78, 79, 80, 81, 82, 83, 84, 85, 86, 87, 88, 89, 90, 91, 92, 93, 94, 95, 96, 97, 98, 99, 100, 101, 102, 103, 104, 105, 106, 107, 108, 109, 110, 111, 112, 113, 114, 115, 116, 117, 118, 119, 120, 121, 122, 123, 124, 125, 126, 127, 128, 129, 130, 131, 132, 133, 134, 135, 136, 137, 138, 139, 140, 141, 142, 143, 144, 145, 146, 147, 148, 149, 150, 151, 152, 153, 154, 155, 156, 157, 20, 21, 22, 23, 24, 25, 158, 159, 160, 161, 168, 169, 170, 171, 172, 173, 174, 175, 176, 177, 178, 179, 180, 181, 182, 183, 184, 185, 186, 187, 188, 189, 190] (by decide +kernel) (by decide +kernel)) (goodIn_sub (fun _ h => List.mem_cons_of_mem _ (List.mem_append_right _ h)) (by decide +kernel))
set_option maxRecDepth 20000 in
theorem gX5_valueByTrying_X2_tryAllSets : GoodIn wsX5_valueByTrying (wsV RX5 272 RX2 yX2_tryAllSets wsX2_tryAllSets) := goodIn_app (goodIn_of _ (by decide +kernel)) ggX5_valueByTrying_X2_tryAllSets
theorem dX5_valueByTrying_0 : decode cX5_valueByTrying 0 = .ok (.aload_n 0, 1) := by decide +kernel
theorem dX5_valueByTrying_1 : decode cX5_valueByTrying 1 = .ok (.invokevirtual 269, 3) := by decide +kernel
theorem dX5_valueByTrying_4 : decode cX5_valueByTrying 4 = .ok (.aload_n 0, 1) := by decide +kernel
theorem dX5_valueByTrying_5 : decode cX5_valueByTrying 5 = .ok (.getfield 46, 3) := by decide +kernel
theorem dX5_valueByTrying_8 : decode cX5_valueByTrying 8 = .ok (.invokevirtual 272, 3) := by decide +kernel
theorem dX5_valueByTrying_11 : decode cX5_valueByTrying 11 = .ok (.aload_n 0, 1) := by decide +kernel
theorem dX5_valueByTrying_12 : decode cX5_valueByTrying 12 = .ok (.getfield 46, 3) := by decide +kernel
theorem dX5_valueByTrying_15 : decode cX5_valueByTrying 15 = .ok (.getfield 258, 3) := by decide +kernel
theorem dX5_valueByTrying_18 : decode cX5_valueByTrying 18 = .ok (.ireturn, 1) := by decide +kernel
set_option maxRecDepth 20000 in
theorem ggX5_sizeByTrying_X5_needFewLinesToTry : GoodIn wsX5_sizeByTrying wsX5_needFewLinesToTry := goodIn_ca (goodIn_r _ [6, 7, 8, 9, 10, 11, 12, 13, 14, 15, 16, 17, 18, 19, 20, 21, 22, 23, 24, 25, 162, 163, 164, 165, 166, 167, 173, 174, 175, 176, 177, 178, 179, 180, 181, 182, 183, 184, 185, 186, 187] (by decide +kernel) (by decide +kernel)) (goodIn_sub (fun _ h => List.mem_cons_of_mem _ (List.mem_append_left _ (List.mem_append_right _ h))) (by decide +kernel))
set_option maxRecDepth 20000 in
theorem gX5_sizeByTrying_X5_needFewLinesToTry : GoodIn wsX5_sizeByTrying (wsV RX5 269 RX5 yX5_needFewLinesToTry wsX5_needFewLinesToTry) := goodIn_app (goodIn_of _ (by decide +kernel)) ggX5_sizeByTrying_X5_needFewLinesToTry
set_option maxRecDepth 20000 in
theorem ggX5_sizeByTrying_X2_tryAllSets : GoodIn wsX5_sizeByTrying wsX2_tryAllSets := goodIn_ca (goodIn_r _ [30, 31, 32, 33, 34, 29, 35, 36, 37, 38, 39, 11, 12, 13, 14, 15, 16, 17, 18, 40, 41, 42, 43, 44, 45, 46, 47, 48, 49, 50, 51, 52, 5, 53, 54, 55, 56, 57, 58, 59, 60, 61, 62, 63, 64, 65, 66, 67, 68, 69, 70, 71, 72, 73, 74, 75, 76, 77, 78, 79, 80, 81, 82, 83, 84, 85, 86, 87, 88, 89, 90, 91, 92, 93, 94, 95, 96, 97, 98, 99, 100, 101, 102, 103, 104, 105, 106, 107, 108, 109, 110, 111, 112, 113, 114, 115, 116, 117, 118, 119, 120, 121, 122, 123, 124, 125, 126, 127, 128, 129, 130, 131, 132, 133, 134, 135, 136, 137, 138, 139, 140, 141, 142, 143, 144, 145, 146, 147, 148, 149, 150, 151, 152, 153, 154, 155, 156, 157, 20, 21, 22, 23, 24, 25, 158, 159, 160, 161, 168, 169, 170, 171, 172, 173, 174, 175, 176, 177, 178, 179, 180, 181, 182, 183, 184, 185, 186, 187, 188, 189, 190] (by decide +kernel) (by decide +kernel)) (goodIn_sub (fun _ h => List.mem_cons_of_mem _ (List.mem_append_right _ h)) (by decide +kernel))
set_option maxRecDepth 20000 in
theorem gX5_sizeByTrying_X2_tryAllSets : GoodIn wsX5_sizeByTrying (wsV RX5 272 RX2 yX2_tryAllSets wsX2_tryAllSets) := goodIn_app (goodIn_of _ (by decide +kernel)) ggX5_sizeByTrying_X2_tryAllSets
set_option maxRecDepth 20000 in
theorem ggX5_sizeByTrying_J6_bitCount_0f7a4 : GoodIn wsX5_sizeByTrying wsJ6_bitCount_0f7a4 := goodIn_r _ [22, 23, 24, 25] (by decide +kernel) (by decide +kernel)
set_option maxRecDepth 20000 in
theorem gX5_sizeByTrying_J6_bitCount_0f7a4 : GoodIn wsX5_sizeByTrying (va_wsS RX5 181 yJ6_bitCount_0f7a4 wsJ6_bitCount_0f7a4) := goodIn_app (goodIn_of _ (by decide +kernel)) ggX5_sizeByTrying_J6_bitCount_0f7a4
theorem dX5_sizeByTrying_0 : decode cX5_sizeByTrying 0 = .ok (.aload_n 0, 1) := by decide +kernel
theorem dX5_sizeByTrying_1 : decode cX5_sizeByTrying 1 = .ok (.invokevirtual 269, 3) := by decide +kernel
theorem dX5_sizeByTrying_4 : decode cX5_sizeByTrying 4 = .ok (.aload_n 0, 1) := by decide +kernel
theorem dX5_sizeByTrying_5 : decode cX5_sizeByTrying 5 = .ok (.getfield 46, 3) := by decide +kernel
theorem dX5_sizeByTrying_8 : decode cX5_sizeByTrying 8 = .ok (.invokevirtual 272, 3) := by decide +kernel
theorem dX5_sizeByTrying_11 : decode cX5_sizeByTrying 11 = .ok (.aload_n 0, 1) := by decide +kernel
theorem dX5_sizeByTrying_12 : decode cX5_sizeByTrying 12 = .ok (.getfield 46, 3) := by decide +kernel
theorem dX5_sizeByTrying_15 : decode cX5_sizeByTrying 15 = .ok (.getfield 261, 3) := by decide +kernel
theorem dX5_sizeByTrying_18 : decode cX5_sizeByTrying 18 = .ok (.invokestatic 181, 3) := by decide +kernel
theorem dX5_sizeByTrying_21 : decode cX5_sizeByTrying 21 = .ok (.ireturn, 1) := by decide +kernel
set_option maxRecDepth 20000 in
theorem ggX5_restore_X2_findBest : GoodIn wsX5_restore wsX2_findBest := goodIn_ca (goodIn_r _ [7, 8, 9, 10, 6, 11, 12, 13, 14, 15, 16, 17, 18, 19, 20, 21, 22, 23, 24, 25, 26, 27, 28, 29, 30, 31, 32, 33, 34, 35, 36, 37, 38, 39, 40, 41, 42, 43, 44, 45, 46, 47, 48, 49, 50, 51, 52, 53, 54, 55, 56, 57, 58, 59, 60, 61, 62, 63, 64, 65, 66, 67, 68, 69, 70, 71, 72, 73, 74, 75, 76, 77, 78, 79, 80, 81, 82, 83, 84, 85, 86, 87, 88, 89, 90, 91, 92, 93, 94, 95, 96, 97, 98, 99, 100, 101, 102, 103, 104, 105, 106, 107, 108, 109, 110, 111, 112, 113, 114, 115, 116, 117, 118, 119, 120, 121, 122, 123, 124, 125, 126, 127, 128, 129, 130, 131, 132, 133, 134, 135, 136, 137, 138, 139, 140, 141, 142, 143, 144, 145, 146, 147, 148, 149, 150, 151, 152, 153, 165, 166, 167, 168, 169, 170, 171, 172, 173, 174, 175, 176, 177, 178, 179, 180, 181, 182, 183, 184, 185, 186, 187] (by decide +kernel) (by decide +kernel)) (goodIn_sub (fun _ h => List.mem_cons_of_mem _ (List.mem_append_right _ h)) (by decide +kernel))
set_option maxRecDepth 20000 in
theorem gX5_restore_X2_findBest : GoodIn wsX5_restore (wsV RX5 255 RX2 yX2_findBest wsX2_findBest) := goodIn_app (goodIn_of _ (by decide +kernel)) ggX5_restore_X2_findBest
set_option maxRecDepth 20000 in
theorem ggX5_restore_X4_closeAll : GoodIn wsX5_restore wsX4_closeAll := goodIn_r _ [157, 22, 170, 171, 172, 173, 174] (by decide +kernel) (by decide +kernel)
set_option maxRecDepth 20000 in
theorem gX5_restore_X4_closeAll : GoodIn wsX5_restore (wsV RX5 131 RX4 yX4_closeAll wsX4_closeAll) := goodIn_app (goodIn_of _ (by decide +kernel)) ggX5_restore_X4_closeAll
set_option maxRecDepth 20000 in
theorem ggX5_restore_J6_bitCount_0f7a4 : GoodIn wsX5_restore wsJ6_bitCount_0f7a4 := goodIn_r _ [75, 76, 77, 78] (by decide +kernel) (by decide +kernel)
set_option maxRecDepth 20000 in
theorem gX5_restore_J6_bitCount_0f7a4 : GoodIn wsX5_restore (va_wsS RX5 181 yJ6_bitCount_0f7a4 wsJ6_bitCount_0f7a4) := goodIn_app (goodIn_of _ (by decide +kernel)) ggX5_restore_J6_bitCount_0f7a4
theorem dX5_restore_0 : decode cX5_restore 0 = .ok (.aload_n 0, 1) := by decide +kernel
theorem dX5_restore_1 : decode cX5_restore 1 = .ok (.getfield 46, 3) := by decide +kernel
theorem dX5_restore_4 : decode cX5_restore 4 = .ok (.invokevirtual 255, 3) := by decide +kernel
theorem dX5_restore_7 : decode cX5_restore 7 = .ok (.aload_n 0, 1) := by decide +kernel
theorem dX5_restore_8 : decode cX5_restore 8 = .ok (.getfield 30, 3) := by decide +kernel
theorem dX5_restore_11 : decode cX5_restore 11 = .ok (.aload_n 0, 1) := by decide +kernel
theorem dX5_restore_12 : decode cX5_restore 12 = .ok (.getfield 46, 3) := by decide +kernel
theorem dX5_restore_15 : decode cX5_restore 15 = .ok (.getfield 261, 3) := by decide +kernel
theorem dX5_restore_18 : decode cX5_restore 18 = .ok (.invokevirtual 131, 3) := by decide +kernel
theorem dX5_restore_21 : decode cX5_restore 21 = .ok (.aload_n 0, 1) := by decide +kernel
theorem dX5_restore_22 : decode cX5_restore 22 = .ok (.getfield 46, 3) := by decide +kernel
theorem dX5_restore_25 : decode cX5_restore 25 = .ok (.getfield 261, 3) := by decide +kernel
theorem dX5_restore_28 : decode cX5_restore 28 = .ok (.invokestatic 181, 3) := by decide +kernel
theorem dX5_restore_31 : decode cX5_restore 31 = .ok (.ireturn, 1) := by decide +kernel
set_option maxRecDepth 20000 in
theorem ggX5_liveShare_X1_allNodes : GoodIn wsX5_liveShare wsX1_allNodes := goodIn_r _ [8, 9, 10, 11, 12, 56, 57, 58, 59, 60, 61, 62, 63, 64, 65] (by decide +kernel) (by decide +kernel)
set_option maxRecDepth 20000 in
theorem gX5_liveShare_X1_allNodes : GoodIn wsX5_liveShare (wsV RX5 248 RX1 yX1_allNodes wsX1_allNodes) := goodIn_app (goodIn_of _ (by decide +kernel)) ggX5_liveShare_X1_allNodes
set_option maxRecDepth 20000 in
theorem ggX5_liveShare_X1_loadIn : GoodIn wsX5_liveShare wsX1_loadIn := goodIn_ca (goodIn_r _ [16, 9, 17, 18, 11, 19, 56, 57, 58, 59, 60, 61, 62, 63, 64, 65] (by decide +kernel) (by decide +kernel)) (goodIn_sub (fun _ h => List.mem_cons_of_mem _ (List.mem_append_right _ h)) (by decide +kernel))
set_option maxRecDepth 20000 in
theorem gX5_liveShare_X1_loadIn : GoodIn wsX5_liveShare (wsV RX5 212 RX1 yX1_loadIn wsX1_loadIn) := goodIn_app (goodIn_of _ (by decide +kernel)) ggX5_liveShare_X1_loadIn
set_option maxRecDepth 20000 in
theorem ggX5_liveShare_X5_liveNodes : GoodIn wsX5_liveShare wsX5_liveNodes := goodIn_ca (goodIn_r _ [23, 3, 24, 25, 26, 27, 7, 28, 9, 29, 18, 11, 19, 30, 31, 32, 33, 10, 12, 34, 35, 36, 37, 38, 39, 40, 41, 42, 43, 44, 45, 46, 47, 48, 49, 50, 51, 52, 53, 54, 55, 66, 67, 68, 69, 70, 56, 57, 58, 59, 60, 61, 62, 63, 64, 65] (by decide +kernel) (by decide +kernel)) (goodIn_sub (fun _ h => List.mem_cons_of_mem _ (List.mem_append_right _ h)) (by decide +kernel))
set_option maxRecDepth 20000 in
theorem gX5_liveShare_X5_liveNodes : GoodIn wsX5_liveShare (wsV RX5 252 RX5 yX5_liveNodes wsX5_liveNodes) := goodIn_app (goodIn_of _ (by decide +kernel)) ggX5_liveShare_X5_liveNodes
theorem dX5_liveShare_0 : decode cX5_liveShare 0 = .ok (.aload_n 0, 1) := by decide +kernel
theorem dX5_liveShare_1 : decode cX5_liveShare 1 = .ok (.getfield 10, 3) := by decide +kernel
theorem dX5_liveShare_4 : decode cX5_liveShare 4 = .ok (.aload_n 0, 1) := by decide +kernel
theorem dX5_liveShare_5 : decode cX5_liveShare 5 = .ok (.getfield 10, 3) := by decide +kernel
theorem dX5_liveShare_8 : decode cX5_liveShare 8 = .ok (.invokevirtual 248, 3) := by decide +kernel
theorem dX5_liveShare_11 : decode cX5_liveShare 11 = .ok (.invokevirtual 212, 3) := by decide +kernel
theorem dX5_liveShare_14 : decode cX5_liveShare 14 = .ok (.istore_n 1, 1) := by decide +kernel
theorem dX5_liveShare_15 : decode cX5_liveShare 15 = .ok (.iload_n 1, 1) := by decide +kernel
theorem dX5_liveShare_16 : decode cX5_liveShare 16 = .ok (.ifCond .ne 14, 3) := by decide +kernel
theorem dX5_liveShare_19 : decode cX5_liveShare 19 = .ok (.new 275, 3) := by decide +kernel
theorem dX5_liveShare_22 : decode cX5_liveShare 22 = .ok (.dup, 1) := by decide +kernel
theorem dX5_liveShare_23 : decode cX5_liveShare 23 = .ok (.ldc_w 277, 3) := by decide +kernel
theorem dX5_liveShare_26 : decode cX5_liveShare 26 = .ok (.invokespecial 279, 3) := by decide +kernel
theorem dX5_liveShare_29 : decode cX5_liveShare 29 = .ok (.athrow, 1) := by decide +kernel
theorem dX5_liveShare_30 : decode cX5_liveShare 30 = .ok (.aload_n 0, 1) := by decide +kernel
theorem dX5_liveShare_31 : decode cX5_liveShare 31 = .ok (.getfield 10, 3) := by decide +kernel
theorem dX5_liveShare_34 : decode cX5_liveShare 34 = .ok (.aload_n 0, 1) := by decide +kernel
theorem dX5_liveShare_35 : decode cX5_liveShare 35 = .ok (.invokevirtual 252, 3) := by decide +kernel
theorem dX5_liveShare_38 : decode cX5_liveShare 38 = .ok (.invokevirtual 212, 3) := by decide +kernel
theorem dX5_liveShare_41 : decode cX5_liveShare 41 = .ok (.i2f, 1) := by decide +kernel
theorem dX5_liveShare_42 : decode cX5_liveShare 42 = .ok (.iload_n 1, 1) := by decide +kernel
theorem dX5_liveShare_43 : decode cX5_liveShare 43 = .ok (.i2f, 1) := by decide +kernel
theorem dX5_liveShare_44 : decode cX5_liveShare 44 = .ok (.fdiv, 1) := by decide +kernel
theorem dX5_liveShare_45 : decode cX5_liveShare 45 = .ok (.freturn, 1) := by decide +kernel
set_option maxRecDepth 20000 in
theorem ggX5_needNode_X1_isNode : GoodIn wsX5_needNode wsX1_isNode := goodIn_r _ [8, 9, 16, 17, 18, 19, 20, 21, 22, 23, 24, 25] (by decide +kernel) (by decide +kernel)
set_option maxRecDepth 20000 in
theorem gX5_needNode_X1_isNode : GoodIn wsX5_needNode (wsV RX5 285 RX1 yX1_isNode wsX1_isNode) := goodIn_app (goodIn_of _ (by decide +kernel)) ggX5_needNode_X1_isNode
theorem dX5_needNode_0 : decode cX5_needNode 0 = .ok (.aload_n 0, 1) := by decide +kernel
theorem dX5_needNode_1 : decode cX5_needNode 1 = .ok (.getfield 10, 3) := by decide +kernel
theorem dX5_needNode_4 : decode cX5_needNode 4 = .ok (.iload_n 1, 1) := by decide +kernel
theorem dX5_needNode_5 : decode cX5_needNode 5 = .ok (.invokevirtual 285, 3) := by decide +kernel
theorem dX5_needNode_8 : decode cX5_needNode 8 = .ok (.ifCond .ne 14, 3) := by decide +kernel
theorem dX5_needNode_11 : decode cX5_needNode 11 = .ok (.new 289, 3) := by decide +kernel
theorem dX5_needNode_14 : decode cX5_needNode 14 = .ok (.dup, 1) := by decide +kernel
theorem dX5_needNode_15 : decode cX5_needNode 15 = .ok (.ldc_w 291, 3) := by decide +kernel
theorem dX5_needNode_18 : decode cX5_needNode 18 = .ok (.invokespecial 293, 3) := by decide +kernel
theorem dX5_needNode_21 : decode cX5_needNode 21 = .ok (.athrow, 1) := by decide +kernel
theorem dX5_needNode_22 : decode cX5_needNode 22 = .ok (.return_, 1) := by decide +kernel
set_option maxRecDepth 20000 in
theorem ggX5_needLine_X1_isLine : GoodIn wsX5_needLine wsX1_isLine := goodIn_r _ [8, 9, 16, 17, 18, 19, 20, 21, 22, 23, 24, 25] (by decide +kernel) (by decide +kernel)
set_option maxRecDepth 20000 in
theorem gX5_needLine_X1_isLine : GoodIn wsX5_needLine (wsV RX5 294 RX1 yX1_isLine wsX1_isLine) := goodIn_app (goodIn_of _ (by decide +kernel)) ggX5_needLine_X1_isLine
theorem dX5_needLine_0 : decode cX5_needLine 0 = .ok (.aload_n 0, 1) := by decide +kernel
theorem dX5_needLine_1 : decode cX5_needLine 1 = .ok (.getfield 10, 3) := by decide +kernel
theorem dX5_needLine_4 : decode cX5_needLine 4 = .ok (.iload_n 1, 1) := by decide +kernel
theorem dX5_needLine_5 : decode cX5_needLine 5 = .ok (.invokevirtual 294, 3) := by decide +kernel
theorem dX5_needLine_8 : decode cX5_needLine 8 = .ok (.ifCond .ne 14, 3) := by decide +kernel
theorem dX5_needLine_11 : decode cX5_needLine 11 = .ok (.new 289, 3) := by decide +kernel
theorem dX5_needLine_14 : decode cX5_needLine 14 = .ok (.dup, 1) := by decide +kernel
theorem dX5_needLine_15 : decode cX5_needLine 15 = .ok (.ldc_w 297, 3) := by decide +kernel
theorem dX5_needLine_18 : decode cX5_needLine 18 = .ok (.invokespecial 293, 3) := by decide +kernel
theorem dX5_needLine_21 : decode cX5_needLine 21 = .ok (.athrow, 1) := by decide +kernel
theorem dX5_needLine_22 : decode cX5_needLine 22 = .ok (.return_, 1) := by decide +kernel
set_option maxRecDepth 20000 in
theorem ggX5_needBus_X5_has : GoodIn wsX5_needBus wsX5_has := goodIn_r _ [7] (by decide +kernel) (by decide +kernel)
set_option maxRecDepth 20000 in
theorem gX5_needBus_X5_has : GoodIn wsX5_needBus (va_wsS RX5 149 yX5_has wsX5_has) := goodIn_app (goodIn_of _ (by decide +kernel)) ggX5_needBus_X5_has
theorem dX5_needBus_0 : decode cX5_needBus 0 = .ok (.aload_n 0, 1) := by decide +kernel
theorem dX5_needBus_1 : decode cX5_needBus 1 = .ok (.getfield 10, 3) := by decide +kernel
theorem dX5_needBus_4 : decode cX5_needBus 4 = .ok (.getfield 192, 3) := by decide +kernel
theorem dX5_needBus_7 : decode cX5_needBus 7 = .ok (.iload_n 1, 1) := by decide +kernel
theorem dX5_needBus_8 : decode cX5_needBus 8 = .ok (.invokestatic 149, 3) := by decide +kernel
theorem dX5_needBus_11 : decode cX5_needBus 11 = .ok (.ifCond .eq 14, 3) := by decide +kernel
theorem dX5_needBus_14 : decode cX5_needBus 14 = .ok (.new 176, 3) := by decide +kernel
theorem dX5_needBus_17 : decode cX5_needBus 17 = .ok (.dup, 1) := by decide +kernel
theorem dX5_needBus_18 : decode cX5_needBus 18 = .ok (.ldc_w 299, 3) := by decide +kernel
theorem dX5_needBus_21 : decode cX5_needBus 21 = .ok (.invokespecial 178, 3) := by decide +kernel
theorem dX5_needBus_24 : decode cX5_needBus 24 = .ok (.athrow, 1) := by decide +kernel
theorem dX5_needBus_25 : decode cX5_needBus 25 = .ok (.return_, 1) := by decide +kernel
set_option maxRecDepth 20000 in
theorem ggX5_needBreaker_X5_has : GoodIn wsX5_needBreaker wsX5_has := goodIn_r _ [7] (by decide +kernel) (by decide +kernel)
set_option maxRecDepth 20000 in
theorem gX5_needBreaker_X5_has : GoodIn wsX5_needBreaker (va_wsS RX5 149 yX5_has wsX5_has) := goodIn_app (goodIn_of _ (by decide +kernel)) ggX5_needBreaker_X5_has
theorem dX5_needBreaker_0 : decode cX5_needBreaker 0 = .ok (.aload_n 0, 1) := by decide +kernel
theorem dX5_needBreaker_1 : decode cX5_needBreaker 1 = .ok (.getfield 10, 3) := by decide +kernel
theorem dX5_needBreaker_4 : decode cX5_needBreaker 4 = .ok (.getfield 301, 3) := by decide +kernel
theorem dX5_needBreaker_7 : decode cX5_needBreaker 7 = .ok (.iload_n 1, 1) := by decide +kernel
theorem dX5_needBreaker_8 : decode cX5_needBreaker 8 = .ok (.invokestatic 149, 3) := by decide +kernel
theorem dX5_needBreaker_11 : decode cX5_needBreaker 11 = .ok (.ifCond .ne 14, 3) := by decide +kernel
theorem dX5_needBreaker_14 : decode cX5_needBreaker 14 = .ok (.new 176, 3) := by decide +kernel
theorem dX5_needBreaker_17 : decode cX5_needBreaker 17 = .ok (.dup, 1) := by decide +kernel
theorem dX5_needBreaker_18 : decode cX5_needBreaker 18 = .ok (.ldc_w 304, 3) := by decide +kernel
theorem dX5_needBreaker_21 : decode cX5_needBreaker 21 = .ok (.invokespecial 178, 3) := by decide +kernel
theorem dX5_needBreaker_24 : decode cX5_needBreaker 24 = .ok (.athrow, 1) := by decide +kernel
theorem dX5_needBreaker_25 : decode cX5_needBreaker 25 = .ok (.return_, 1) := by decide +kernel
set_option maxRecDepth 20000 in
theorem ggX5_needFewLinesToTry_X4_ofPlans : GoodIn wsX5_needFewLinesToTry wsX4_ofPlans := goodIn_r _ [8, 9, 10, 11, 12, 26, 27, 28, 29, 30, 31, 32, 33, 34, 35, 36, 37, 38, 39, 40] (by decide +kernel) (by decide +kernel)
set_option maxRecDepth 20000 in
theorem gX5_needFewLinesToTry_X4_ofPlans : GoodIn wsX5_needFewLinesToTry (wsV RX5 306 RX4 yX4_ofPlans wsX4_ofPlans) := goodIn_app (goodIn_of _ (by decide +kernel)) ggX5_needFewLinesToTry_X4_ofPlans
set_option maxRecDepth 20000 in
theorem ggX5_needFewLinesToTry_J6_bitCount_0f7a4 : GoodIn wsX5_needFewLinesToTry wsJ6_bitCount_0f7a4 := goodIn_r _ [16, 17, 18, 19] (by decide +kernel) (by decide +kernel)
set_option maxRecDepth 20000 in
theorem gX5_needFewLinesToTry_J6_bitCount_0f7a4 : GoodIn wsX5_needFewLinesToTry (va_wsS RX5 181 yJ6_bitCount_0f7a4 wsJ6_bitCount_0f7a4) := goodIn_app (goodIn_of _ (by decide +kernel)) ggX5_needFewLinesToTry_J6_bitCount_0f7a4
theorem dX5_needFewLinesToTry_0 : decode cX5_needFewLinesToTry 0 = .ok (.aload_n 0, 1) := by decide +kernel
theorem dX5_needFewLinesToTry_1 : decode cX5_needFewLinesToTry 1 = .ok (.getfield 30, 3) := by decide +kernel
theorem dX5_needFewLinesToTry_4 : decode cX5_needFewLinesToTry 4 = .ok (.invokevirtual 306, 3) := by decide +kernel
theorem dX5_needFewLinesToTry_7 : decode cX5_needFewLinesToTry 7 = .ok (.invokestatic 181, 3) := by decide +kernel
theorem dX5_needFewLinesToTry_10 : decode cX5_needFewLinesToTry 10 = .ok (.bipush 9, 2) := by decide +kernel
theorem dX5_needFewLinesToTry_12 : decode cX5_needFewLinesToTry 12 = .ok (.if_icmp .le 14, 3) := by decide +kernel
theorem dX5_needFewLinesToTry_15 : decode cX5_needFewLinesToTry 15 = .ok (.new 176, 3) := by decide +kernel
theorem dX5_needFewLinesToTry_18 : decode cX5_needFewLinesToTry 18 = .ok (.dup, 1) := by decide +kernel
theorem dX5_needFewLinesToTry_19 : decode cX5_needFewLinesToTry 19 = .ok (.ldc_w 309, 3) := by decide +kernel
theorem dX5_needFewLinesToTry_22 : decode cX5_needFewLinesToTry 22 = .ok (.invokespecial 178, 3) := by decide +kernel
theorem dX5_needFewLinesToTry_25 : decode cX5_needFewLinesToTry 25 = .ok (.athrow, 1) := by decide +kernel
theorem dX5_needFewLinesToTry_26 : decode cX5_needFewLinesToTry 26 = .ok (.return_, 1) := by decide +kernel
theorem dX5_needLoad_0 : decode cX5_needLoad 0 = .ok (.iload_n 0, 1) := by decide +kernel
theorem dX5_needLoad_1 : decode cX5_needLoad 1 = .ok (.ifCond .lt 9, 3) := by decide +kernel
theorem dX5_needLoad_4 : decode cX5_needLoad 4 = .ok (.iload_n 0, 1) := by decide +kernel
theorem dX5_needLoad_5 : decode cX5_needLoad 5 = .ok (.bipush 99, 2) := by decide +kernel
theorem dX5_needLoad_7 : decode cX5_needLoad 7 = .ok (.if_icmp .le 14, 3) := by decide +kernel
theorem dX5_needLoad_10 : decode cX5_needLoad 10 = .ok (.new 50, 3) := by decide +kernel
theorem dX5_needLoad_13 : decode cX5_needLoad 13 = .ok (.dup, 1) := by decide +kernel
theorem dX5_needLoad_14 : decode cX5_needLoad 14 = .ok (.ldc_w 311, 3) := by decide +kernel
theorem dX5_needLoad_17 : decode cX5_needLoad 17 = .ok (.invokespecial 54, 3) := by decide +kernel
theorem dX5_needLoad_20 : decode cX5_needLoad 20 = .ok (.athrow, 1) := by decide +kernel
theorem dX5_needLoad_21 : decode cX5_needLoad 21 = .ok (.return_, 1) := by decide +kernel
theorem dX5_added_0 : decode cX5_added 0 = .ok (.iload_n 0, 1) := by decide +kernel
theorem dX5_added_1 : decode cX5_added 1 = .ok (.iconst (-1), 1) := by decide +kernel
theorem dX5_added_2 : decode cX5_added 2 = .ok (.if_icmp .ne 14, 3) := by decide +kernel
theorem dX5_added_5 : decode cX5_added 5 = .ok (.new 100, 3) := by decide +kernel
theorem dX5_added_8 : decode cX5_added 8 = .ok (.dup, 1) := by decide +kernel
theorem dX5_added_9 : decode cX5_added 9 = .ok (.ldc_w 313, 3) := by decide +kernel
theorem dX5_added_12 : decode cX5_added 12 = .ok (.invokespecial 104, 3) := by decide +kernel
theorem dX5_added_15 : decode cX5_added 15 = .ok (.athrow, 1) := by decide +kernel
theorem dX5_added_16 : decode cX5_added 16 = .ok (.iload_n 0, 1) := by decide +kernel
theorem dX5_added_17 : decode cX5_added 17 = .ok (.ireturn, 1) := by decide +kernel
set_option maxRecDepth 20000 in
theorem ggX5_lengthOfPathTo_X0_layPath : GoodIn wsX5_lengthOfPathTo wsX0_layPath := goodIn_ca (goodIn_r _ [9, 10, 11, 12, 13, 14, 15, 16, 8, 17, 18, 19, 20, 21, 22, 23, 24, 25, 26, 38, 39, 40, 41, 42, 43, 44, 45, 46, 47, 48, 49, 50] (by decide +kernel) (by decide +kernel)) (goodIn_sub (fun _ h => List.mem_cons_of_mem _ (List.mem_append_right _ h)) (by decide +kernel))
set_option maxRecDepth 20000 in
theorem gX5_lengthOfPathTo_X0_layPath : GoodIn wsX5_lengthOfPathTo (wsV RX5 315 RX0 yX0_layPath wsX0_layPath) := goodIn_app (goodIn_of _ (by decide +kernel)) ggX5_lengthOfPathTo_X0_layPath
theorem dX5_lengthOfPathTo_0 : decode cX5_lengthOfPathTo 0 = .ok (.aload_n 0, 1) := by decide +kernel
theorem dX5_lengthOfPathTo_1 : decode cX5_lengthOfPathTo 1 = .ok (.getfield 21, 3) := by decide +kernel
theorem dX5_lengthOfPathTo_4 : decode cX5_lengthOfPathTo 4 = .ok (.iload_n 1, 1) := by decide +kernel
theorem dX5_lengthOfPathTo_5 : decode cX5_lengthOfPathTo 5 = .ok (.aload_n 0, 1) := by decide +kernel
theorem dX5_lengthOfPathTo_6 : decode cX5_lengthOfPathTo 6 = .ok (.getfield 30, 3) := by decide +kernel
theorem dX5_lengthOfPathTo_9 : decode cX5_lengthOfPathTo 9 = .ok (.getfield 120, 3) := by decide +kernel
theorem dX5_lengthOfPathTo_12 : decode cX5_lengthOfPathTo 12 = .ok (.invokevirtual 315, 3) := by decide +kernel
theorem dX5_lengthOfPathTo_15 : decode cX5_lengthOfPathTo 15 = .ok (.istore_n 2, 1) := by decide +kernel
theorem dX5_lengthOfPathTo_16 : decode cX5_lengthOfPathTo 16 = .ok (.iload_n 2, 1) := by decide +kernel
theorem dX5_lengthOfPathTo_17 : decode cX5_lengthOfPathTo 17 = .ok (.ifCond .ne 14, 3) := by decide +kernel
theorem dX5_lengthOfPathTo_20 : decode cX5_lengthOfPathTo 20 = .ok (.new 100, 3) := by decide +kernel
theorem dX5_lengthOfPathTo_23 : decode cX5_lengthOfPathTo 23 = .ok (.dup, 1) := by decide +kernel
theorem dX5_lengthOfPathTo_24 : decode cX5_lengthOfPathTo 24 = .ok (.ldc_w 318, 3) := by decide +kernel
theorem dX5_lengthOfPathTo_27 : decode cX5_lengthOfPathTo 27 = .ok (.invokespecial 104, 3) := by decide +kernel
theorem dX5_lengthOfPathTo_30 : decode cX5_lengthOfPathTo 30 = .ok (.athrow, 1) := by decide +kernel
theorem dX5_lengthOfPathTo_31 : decode cX5_lengthOfPathTo 31 = .ok (.iload_n 2, 1) := by decide +kernel
theorem dX5_lengthOfPathTo_32 : decode cX5_lengthOfPathTo 32 = .ok (.ireturn, 1) := by decide +kernel
set_option maxRecDepth 20000 in
theorem ggX5_islandAt_X1_islandAround : GoodIn wsX5_islandAt wsX1_islandAround := goodIn_ca (goodIn_r _ [7, 8, 9, 10, 11, 12, 13, 14, 15, 16, 17, 18, 6, 19, 20, 21, 22, 23, 24, 25, 26, 27, 28, 40, 41, 42, 43, 44, 45, 46, 47, 48, 49] (by decide +kernel) (by decide +kernel)) (goodIn_sub (fun _ h => List.mem_cons_of_mem _ (List.mem_append_right _ h)) (by decide +kernel))
set_option maxRecDepth 20000 in
theorem gX5_islandAt_X1_islandAround : GoodIn wsX5_islandAt (wsV RX5 320 RX1 yX1_islandAround wsX1_islandAround) := goodIn_app (goodIn_of _ (by decide +kernel)) ggX5_islandAt_X1_islandAround
theorem dX5_islandAt_0 : decode cX5_islandAt 0 = .ok (.aload_n 0, 1) := by decide +kernel
theorem dX5_islandAt_1 : decode cX5_islandAt 1 = .ok (.getfield 10, 3) := by decide +kernel
theorem dX5_islandAt_4 : decode cX5_islandAt 4 = .ok (.iload_n 1, 1) := by decide +kernel
theorem dX5_islandAt_5 : decode cX5_islandAt 5 = .ok (.aload_n 0, 1) := by decide +kernel
theorem dX5_islandAt_6 : decode cX5_islandAt 6 = .ok (.getfield 30, 3) := by decide +kernel
theorem dX5_islandAt_9 : decode cX5_islandAt 9 = .ok (.getfield 120, 3) := by decide +kernel
theorem dX5_islandAt_12 : decode cX5_islandAt 12 = .ok (.invokevirtual 320, 3) := by decide +kernel
theorem dX5_islandAt_15 : decode cX5_islandAt 15 = .ok (.ireturn, 1) := by decide +kernel
set_option maxRecDepth 20000 in
theorem ggX5_liveNodes_X1_liveWith : GoodIn wsX5_liveNodes wsX1_liveWith := goodIn_ca (goodIn_r _ [7, 8, 9, 10, 11, 12, 13, 14, 15, 6, 16, 17, 18, 19, 20, 21, 22, 23, 24, 25, 26, 27, 28, 29, 30, 31, 32, 33, 34, 46, 47, 48, 49, 50, 51, 52, 53, 54, 55] (by decide +kernel) (by decide +kernel)) (goodIn_sub (fun _ h => List.mem_cons_of_mem _ (List.mem_append_right _ h)) (by decide +kernel))
set_option maxRecDepth 20000 in
theorem gX5_liveNodes_X1_liveWith : GoodIn wsX5_liveNodes (wsV RX5 323 RX1 yX1_liveWith wsX1_liveWith) := goodIn_app (goodIn_of _ (by decide +kernel)) ggX5_liveNodes_X1_liveWith
theorem dX5_liveNodes_0 : decode cX5_liveNodes 0 = .ok (.aload_n 0, 1) := by decide +kernel
theorem dX5_liveNodes_1 : decode cX5_liveNodes 1 = .ok (.getfield 10, 3) := by decide +kernel
theorem dX5_liveNodes_4 : decode cX5_liveNodes 4 = .ok (.aload_n 0, 1) := by decide +kernel
theorem dX5_liveNodes_5 : decode cX5_liveNodes 5 = .ok (.getfield 30, 3) := by decide +kernel
theorem dX5_liveNodes_8 : decode cX5_liveNodes 8 = .ok (.getfield 120, 3) := by decide +kernel
theorem dX5_liveNodes_11 : decode cX5_liveNodes 11 = .ok (.invokevirtual 323, 3) := by decide +kernel
theorem dX5_liveNodes_14 : decode cX5_liveNodes 14 = .ok (.ireturn, 1) := by decide +kernel
theorem dX5_bit_0 : decode cX5_bit 0 = .ok (.iconst 1, 1) := by decide +kernel
theorem dX5_bit_1 : decode cX5_bit 1 = .ok (.iload_n 0, 1) := by decide +kernel
theorem dX5_bit_2 : decode cX5_bit 2 = .ok (.ishl, 1) := by decide +kernel
theorem dX5_bit_3 : decode cX5_bit 3 = .ok (.ireturn, 1) := by decide +kernel
theorem dX5_has_0 : decode cX5_has 0 = .ok (.iload_n 0, 1) := by decide +kernel
theorem dX5_has_1 : decode cX5_has 1 = .ok (.iload_n 1, 1) := by decide +kernel
theorem dX5_has_2 : decode cX5_has 2 = .ok (.ishr, 1) := by decide +kernel
theorem dX5_has_3 : decode cX5_has 3 = .ok (.iconst 1, 1) := by decide +kernel
theorem dX5_has_4 : decode cX5_has 4 = .ok (.iand, 1) := by decide +kernel
theorem dX5_has_5 : decode cX5_has 5 = .ok (.ifCond .eq 7, 3) := by decide +kernel
theorem dX5_has_8 : decode cX5_has 8 = .ok (.iconst 1, 1) := by decide +kernel
theorem dX5_has_9 : decode cX5_has 9 = .ok (.goto 4, 3) := by decide +kernel
theorem dX5_has_12 : decode cX5_has 12 = .ok (.iconst 0, 1) := by decide +kernel
theorem dX5_has_13 : decode cX5_has 13 = .ok (.ireturn, 1) := by decide +kernel
set_option maxRecDepth 20000 in
theorem ggX5_lowestIn_X5_memberAt : GoodIn wsX5_lowestIn wsX5_memberAt := goodIn_r _ [4] (by decide +kernel) (by decide +kernel)
set_option maxRecDepth 20000 in
theorem gX5_lowestIn_X5_memberAt : GoodIn wsX5_lowestIn (va_wsS RX5 266 yX5_memberAt wsX5_memberAt) := goodIn_app (goodIn_of _ (by decide +kernel)) ggX5_lowestIn_X5_memberAt
theorem dX5_lowestIn_0 : decode cX5_lowestIn 0 = .ok (.iload_n 0, 1) := by decide +kernel
theorem dX5_lowestIn_1 : decode cX5_lowestIn 1 = .ok (.iconst 0, 1) := by decide +kernel
theorem dX5_lowestIn_2 : decode cX5_lowestIn 2 = .ok (.invokestatic 266, 3) := by decide +kernel
theorem dX5_lowestIn_5 : decode cX5_lowestIn 5 = .ok (.ireturn, 1) := by decide +kernel
theorem dX5_memberAt_0 : decode cX5_memberAt 0 = .ok (.iconst 0, 1) := by decide +kernel
theorem dX5_memberAt_1 : decode cX5_memberAt 1 = .ok (.istore_n 2, 1) := by decide +kernel
theorem dX5_memberAt_2 : decode cX5_memberAt 2 = .ok (.iconst 0, 1) := by decide +kernel
theorem dX5_memberAt_3 : decode cX5_memberAt 3 = .ok (.istore_n 3, 1) := by decide +kernel
theorem dX5_memberAt_4 : decode cX5_memberAt 4 = .ok (.iload_n 3, 1) := by decide +kernel
theorem dX5_memberAt_5 : decode cX5_memberAt 5 = .ok (.bipush 12, 2) := by decide +kernel
theorem dX5_memberAt_7 : decode cX5_memberAt 7 = .ok (.if_icmp .ge 27, 3) := by decide +kernel
theorem dX5_memberAt_10 : decode cX5_memberAt 10 = .ok (.iload_n 0, 1) := by decide +kernel
theorem dX5_memberAt_11 : decode cX5_memberAt 11 = .ok (.iload_n 3, 1) := by decide +kernel
theorem dX5_memberAt_12 : decode cX5_memberAt 12 = .ok (.ishr, 1) := by decide +kernel
theorem dX5_memberAt_13 : decode cX5_memberAt 13 = .ok (.iconst 1, 1) := by decide +kernel
theorem dX5_memberAt_14 : decode cX5_memberAt 14 = .ok (.iand, 1) := by decide +kernel
theorem dX5_memberAt_15 : decode cX5_memberAt 15 = .ok (.ifCond .eq 13, 3) := by decide +kernel
theorem dX5_memberAt_18 : decode cX5_memberAt 18 = .ok (.iload_n 2, 1) := by decide +kernel
theorem dX5_memberAt_19 : decode cX5_memberAt 19 = .ok (.iload_n 1, 1) := by decide +kernel
theorem dX5_memberAt_20 : decode cX5_memberAt 20 = .ok (.if_icmp .ne 5, 3) := by decide +kernel
theorem dX5_memberAt_23 : decode cX5_memberAt 23 = .ok (.iload_n 3, 1) := by decide +kernel
theorem dX5_memberAt_24 : decode cX5_memberAt 24 = .ok (.ireturn, 1) := by decide +kernel
theorem dX5_memberAt_25 : decode cX5_memberAt 25 = .ok (.iinc 2 1, 3) := by decide +kernel
theorem dX5_memberAt_28 : decode cX5_memberAt 28 = .ok (.iinc 3 1, 3) := by decide +kernel
theorem dX5_memberAt_31 : decode cX5_memberAt 31 = .ok (.goto (-27), 3) := by decide +kernel
theorem dX5_memberAt_34 : decode cX5_memberAt 34 = .ok (.iconst (-1), 1) := by decide +kernel
theorem dX5_memberAt_35 : decode cX5_memberAt 35 = .ok (.ireturn, 1) := by decide +kernel
theorem dJ6_bitCount_0f7a4_0 : decode cJ6_bitCount_0f7a4 0 = .ok (.iload_n 0, 1) := by decide +kernel
theorem dJ6_bitCount_0f7a4_1 : decode cJ6_bitCount_0f7a4 1 = .ok (.iload_n 0, 1) := by decide +kernel
theorem dJ6_bitCount_0f7a4_2 : decode cJ6_bitCount_0f7a4 2 = .ok (.iconst 1, 1) := by decide +kernel
theorem dJ6_bitCount_0f7a4_3 : decode cJ6_bitCount_0f7a4 3 = .ok (.iushr, 1) := by decide +kernel
theorem dJ6_bitCount_0f7a4_4 : decode cJ6_bitCount_0f7a4 4 = .ok (.ldc_w 265, 3) := by decide +kernel
theorem dJ6_bitCount_0f7a4_7 : decode cJ6_bitCount_0f7a4 7 = .ok (.iand, 1) := by decide +kernel
theorem dJ6_bitCount_0f7a4_8 : decode cJ6_bitCount_0f7a4 8 = .ok (.isub, 1) := by decide +kernel
theorem dJ6_bitCount_0f7a4_9 : decode cJ6_bitCount_0f7a4 9 = .ok (.istore_n 0, 1) := by decide +kernel
theorem dJ6_bitCount_0f7a4_10 : decode cJ6_bitCount_0f7a4 10 = .ok (.iload_n 0, 1) := by decide +kernel
theorem dJ6_bitCount_0f7a4_11 : decode cJ6_bitCount_0f7a4 11 = .ok (.ldc_w 266, 3) := by decide +kernel
theorem dJ6_bitCount_0f7a4_14 : decode cJ6_bitCount_0f7a4 14 = .ok (.iand, 1) := by decide +kernel
theorem dJ6_bitCount_0f7a4_15 : decode cJ6_bitCount_0f7a4 15 = .ok (.iload_n 0, 1) := by decide +kernel
theorem dJ6_bitCount_0f7a4_16 : decode cJ6_bitCount_0f7a4 16 = .ok (.iconst 2, 1) := by decide +kernel
theorem dJ6_bitCount_0f7a4_17 : decode cJ6_bitCount_0f7a4 17 = .ok (.iushr, 1) := by decide +kernel
theorem dJ6_bitCount_0f7a4_18 : decode cJ6_bitCount_0f7a4 18 = .ok (.ldc_w 266, 3) := by decide +kernel
theorem dJ6_bitCount_0f7a4_21 : decode cJ6_bitCount_0f7a4 21 = .ok (.iand, 1) := by decide +kernel
theorem dJ6_bitCount_0f7a4_22 : decode cJ6_bitCount_0f7a4 22 = .ok (.iadd, 1) := by decide +kernel
theorem dJ6_bitCount_0f7a4_23 : decode cJ6_bitCount_0f7a4 23 = .ok (.istore_n 0, 1) := by decide +kernel
theorem dJ6_bitCount_0f7a4_24 : decode cJ6_bitCount_0f7a4 24 = .ok (.iload_n 0, 1) := by decide +kernel
theorem dJ6_bitCount_0f7a4_25 : decode cJ6_bitCount_0f7a4 25 = .ok (.iload_n 0, 1) := by decide +kernel
theorem dJ6_bitCount_0f7a4_26 : decode cJ6_bitCount_0f7a4 26 = .ok (.iconst 4, 1) := by decide +kernel
theorem dJ6_bitCount_0f7a4_27 : decode cJ6_bitCount_0f7a4 27 = .ok (.iushr, 1) := by decide +kernel
theorem dJ6_bitCount_0f7a4_28 : decode cJ6_bitCount_0f7a4 28 = .ok (.iadd, 1) := by decide +kernel
theorem dJ6_bitCount_0f7a4_29 : decode cJ6_bitCount_0f7a4 29 = .ok (.ldc_w 267, 3) := by decide +kernel
theorem dJ6_bitCount_0f7a4_32 : decode cJ6_bitCount_0f7a4 32 = .ok (.iand, 1) := by decide +kernel
theorem dJ6_bitCount_0f7a4_33 : decode cJ6_bitCount_0f7a4 33 = .ok (.istore_n 0, 1) := by decide +kernel
theorem dJ6_bitCount_0f7a4_34 : decode cJ6_bitCount_0f7a4 34 = .ok (.iload_n 0, 1) := by decide +kernel
theorem dJ6_bitCount_0f7a4_35 : decode cJ6_bitCount_0f7a4 35 = .ok (.iload_n 0, 1) := by decide +kernel
theorem dJ6_bitCount_0f7a4_36 : decode cJ6_bitCount_0f7a4 36 = .ok (.bipush 8, 2) := by decide +kernel
theorem dJ6_bitCount_0f7a4_38 : decode cJ6_bitCount_0f7a4 38 = .ok (.iushr, 1) := by decide +kernel
theorem dJ6_bitCount_0f7a4_39 : decode cJ6_bitCount_0f7a4 39 = .ok (.iadd, 1) := by decide +kernel
theorem dJ6_bitCount_0f7a4_40 : decode cJ6_bitCount_0f7a4 40 = .ok (.istore_n 0, 1) := by decide +kernel
theorem dJ6_bitCount_0f7a4_41 : decode cJ6_bitCount_0f7a4 41 = .ok (.iload_n 0, 1) := by decide +kernel
theorem dJ6_bitCount_0f7a4_42 : decode cJ6_bitCount_0f7a4 42 = .ok (.iload_n 0, 1) := by decide +kernel
theorem dJ6_bitCount_0f7a4_43 : decode cJ6_bitCount_0f7a4 43 = .ok (.bipush 16, 2) := by decide +kernel
theorem dJ6_bitCount_0f7a4_45 : decode cJ6_bitCount_0f7a4 45 = .ok (.iushr, 1) := by decide +kernel
theorem dJ6_bitCount_0f7a4_46 : decode cJ6_bitCount_0f7a4 46 = .ok (.iadd, 1) := by decide +kernel
theorem dJ6_bitCount_0f7a4_47 : decode cJ6_bitCount_0f7a4 47 = .ok (.istore_n 0, 1) := by decide +kernel
theorem dJ6_bitCount_0f7a4_48 : decode cJ6_bitCount_0f7a4 48 = .ok (.iload_n 0, 1) := by decide +kernel
theorem dJ6_bitCount_0f7a4_49 : decode cJ6_bitCount_0f7a4 49 = .ok (.bipush 63, 2) := by decide +kernel
theorem dJ6_bitCount_0f7a4_51 : decode cJ6_bitCount_0f7a4 51 = .ok (.iand, 1) := by decide +kernel
theorem dJ6_bitCount_0f7a4_52 : decode cJ6_bitCount_0f7a4 52 = .ok (.ireturn, 1) := by decide +kernel
