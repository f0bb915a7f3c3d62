theorem dX1_loadCutOffBy_20 : decode cX1_loadCutOffBy 20 = .ok (.aload_n 0, 1) := by decide +kernel
theorem dX1_loadCutOffBy_21 : decode cX1_loadCutOffBy 21 = .ok (.iload_n 1, 1) := by decide +kernel
theorem dX1_loadCutOffBy_22 : decode cX1_loadCutOffBy 22 = .ok (.invokevirtual 68, 3) := by decide +kernel
theorem dX1_loadCutOffBy_25 : decode cX1_loadCutOffBy 25 = .ok (.istore_n 3, 1) := by decide +kernel
theorem dX1_loadCutOffBy_26 : decode cX1_loadCutOffBy 26 = .ok (.aload_n 0, 1) := by decide +kernel
theorem dX1_loadCutOffBy_27 : decode cX1_loadCutOffBy 27 = .ok (.iload_n 3, 1) := by decide +kernel
theorem dX1_loadCutOffBy_28 : decode cX1_loadCutOffBy 28 = .ok (.iload_n 2, 1) := by decide +kernel
theorem dX1_loadCutOffBy_29 : decode cX1_loadCutOffBy 29 = .ok (.iload_n 1, 1) := by decide +kernel
theorem dX1_loadCutOffBy_30 : decode cX1_loadCutOffBy 30 = .ok (.invokestatic 37, 3) := by decide +kernel
theorem dX1_loadCutOffBy_33 : decode cX1_loadCutOffBy 33 = .ok (.iconst (-1), 1) := by decide +kernel
theorem dX1_loadCutOffBy_34 : decode cX1_loadCutOffBy 34 = .ok (.ixor, 1) := by decide +kernel
theorem dX1_loadCutOffBy_35 : decode cX1_loadCutOffBy 35 = .ok (.iand, 1) := by decide +kernel
theorem dX1_loadCutOffBy_36 : decode cX1_loadCutOffBy 36 = .ok (.invokevirtual 71, 3) := by decide +kernel
theorem dX1_loadCutOffBy_39 : decode cX1_loadCutOffBy 39 = .ok (.istore 4, 2) := by decide +kernel
theorem dX1_loadCutOffBy_41 : decode cX1_loadCutOffBy 41 = .ok (.aload_n 0, 1) := by decide +kernel
theorem dX1_loadCutOffBy_42 : decode cX1_loadCutOffBy 42 = .ok (.iload 4, 2) := by decide +kernel
theorem dX1_loadCutOffBy_44 : decode cX1_loadCutOffBy 44 = .ok (.invokevirtual 74, 3) := by decide +kernel
theorem dX1_loadCutOffBy_47 : decode cX1_loadCutOffBy 47 = .ok (.iconst (-1), 1) := by decide +kernel
theorem dX1_loadCutOffBy_48 : decode cX1_loadCutOffBy 48 = .ok (.if_icmp .eq 23, 3) := by decide +kernel
theorem dX1_loadCutOffBy_51 : decode cX1_loadCutOffBy 51 = .ok (.aload_n 0, 1) := by decide +kernel
theorem dX1_loadCutOffBy_52 : decode cX1_loadCutOffBy 52 = .ok (.aload_n 0, 1) := by decide +kernel
theorem dX1_loadCutOffBy_53 : decode cX1_loadCutOffBy 53 = .ok (.iload_n 3, 1) := by decide +kernel
theorem dX1_loadCutOffBy_54 : decode cX1_loadCutOffBy 54 = .ok (.iload_n 1, 1) := by decide +kernel
theorem dX1_loadCutOffBy_55 : decode cX1_loadCutOffBy 55 = .ok (.invokevirtual 65, 3) := by decide +kernel
theorem dX1_loadCutOffBy_58 : decode cX1_loadCutOffBy 58 = .ok (.iload_n 2, 1) := by decide +kernel
theorem dX1_loadCutOffBy_59 : decode cX1_loadCutOffBy 59 = .ok (.iload_n 1, 1) := by decide +kernel
theorem dX1_loadCutOffBy_60 : decode cX1_loadCutOffBy 60 = .ok (.invokestatic 37, 3) := by decide +kernel
theorem dX1_loadCutOffBy_63 : decode cX1_loadCutOffBy 63 = .ok (.iconst (-1), 1) := by decide +kernel
theorem dX1_loadCutOffBy_64 : decode cX1_loadCutOffBy 64 = .ok (.ixor, 1) := by decide +kernel
theorem dX1_loadCutOffBy_65 : decode cX1_loadCutOffBy 65 = .ok (.iand, 1) := by decide +kernel
theorem dX1_loadCutOffBy_66 : decode cX1_loadCutOffBy 66 = .ok (.invokevirtual 71, 3) := by decide +kernel
theorem dX1_loadCutOffBy_69 : decode cX1_loadCutOffBy 69 = .ok (.istore 4, 2) := by decide +kernel
theorem dX1_loadCutOffBy_71 : decode cX1_loadCutOffBy 71 = .ok (.aload_n 0, 1) := by decide +kernel
theorem dX1_loadCutOffBy_72 : decode cX1_loadCutOffBy 72 = .ok (.iload 4, 2) := by decide +kernel
theorem dX1_loadCutOffBy_74 : decode cX1_loadCutOffBy 74 = .ok (.invokevirtual 77, 3) := by decide +kernel
theorem dX1_loadCutOffBy_77 : decode cX1_loadCutOffBy 77 = .ok (.ireturn, 1) := by decide +kernel
theorem dX2_init_0 : decode cX2_init 0 = .ok (.aload_n 0, 1) := by decide +kernel
theorem dX2_init_1 : decode cX2_init 1 = .ok (.invokespecial 3, 3) := by decide +kernel
theorem dX2_init_4 : decode cX2_init 4 = .ok (.aload_n 0, 1) := by decide +kernel
theorem dX2_init_5 : decode cX2_init 5 = .ok (.aload_n 1, 1) := by decide +kernel
theorem dX2_init_6 : decode cX2_init 6 = .ok (.putfield 9, 3) := by decide +kernel
theorem dX2_init_9 : decode cX2_init 9 = .ok (.aload_n 0, 1) := by decide +kernel
theorem dX2_init_10 : decode cX2_init 10 = .ok (.aload_n 2, 1) := by decide +kernel
theorem dX2_init_11 : decode cX2_init 11 = .ok (.putfield 15, 3) := by decide +kernel
theorem dX2_init_14 : decode cX2_init 14 = .ok (.return_, 1) := by decide +kernel
set_option maxRecDepth 20000 in
theorem ggX2_startWithEmptyPlan_X4_ofPlans : GoodIn wsX2_startWithEmptyPlan wsX4_ofPlans := goodIn_r _ [9, 10, 11, 12, 13, 63, 64, 65, 66, 67, 68, 69, 70, 71, 72, 73, 74, 75, 76, 77] (by decide +kernel) (by decide +kernel)
set_option maxRecDepth 20000 in
theorem gX2_startWithEmptyPlan_X4_ofPlans : GoodIn wsX2_startWithEmptyPlan (wsV RX2 19 RX4 yX4_ofPlans wsX4_ofPlans) := goodIn_app (goodIn_of _ (by decide +kernel)) ggX2_startWithEmptyPlan_X4_ofPlans
set_option maxRecDepth 20000 in
theorem ggX2_startWithEmptyPlan_X2_valueOf : GoodIn wsX2_startWithEmptyPlan wsX2_valueOf := goodIn_ca (goodIn_r _ [18, 19, 1, 20, 21, 22, 23, 24, 25, 26, 27, 28, 29, 30, 31, 32, 33, 34, 35, 36, 37, 38, 39, 40, 41, 42, 43, 44, 45, 46, 47, 48, 49, 50, 51, 52, 53, 54, 55, 56, 57, 58, 59, 60, 61, 62, 63, 64, 65, 66, 67, 68, 69, 70, 71, 72, 73, 74, 75, 76, 77] (by decide +kernel) (by decide +kernel)) (goodIn_sub (fun _ h => List.mem_cons_of_mem _ (List.mem_append_right _ h)) (by decide +kernel))
set_option maxRecDepth 20000 in
theorem gX2_startWithEmptyPlan_X2_valueOf : GoodIn wsX2_startWithEmptyPlan (wsV RX2 32 RX2 yX2_valueOf wsX2_valueOf) := goodIn_app (goodIn_of _ (by decide +kernel)) ggX2_startWithEmptyPlan_X2_valueOf
theorem dX2_startWithEmptyPlan_0 : decode cX2_startWithEmptyPlan 0 = .ok (.aload_n 0, 1) := by decide +kernel
theorem dX2_startWithEmptyPlan_1 : decode cX2_startWithEmptyPlan 1 = .ok (.aload_n 0, 1) := by decide +kernel
theorem dX2_startWithEmptyPlan_2 : decode cX2_startWithEmptyPlan 2 = .ok (.getfield 15, 3) := by decide +kernel
theorem dX2_startWithEmptyPlan_5 : decode cX2_startWithEmptyPlan 5 = .ok (.invokevirtual 19, 3) := by decide +kernel
theorem dX2_startWithEmptyPlan_8 : decode cX2_startWithEmptyPlan 8 = .ok (.putfield 25, 3) := by decide +kernel
theorem dX2_startWithEmptyPlan_11 : decode cX2_startWithEmptyPlan 11 = .ok (.aload_n 0, 1) := by decide +kernel
theorem dX2_startWithEmptyPlan_12 : decode cX2_startWithEmptyPlan 12 = .ok (.iconst 0, 1) := by decide +kernel
theorem dX2_startWithEmptyPlan_13 : decode cX2_startWithEmptyPlan 13 = .ok (.putfield 29, 3) := by decide +kernel
theorem dX2_startWithEmptyPlan_16 : decode cX2_startWithEmptyPlan 16 = .ok (.aload_n 0, 1) := by decide +kernel
theorem dX2_startWithEmptyPlan_17 : decode cX2_startWithEmptyPlan 17 = .ok (.aload_n 0, 1) := by decide +kernel
theorem dX2_startWithEmptyPlan_18 : decode cX2_startWithEmptyPlan 18 = .ok (.iconst 0, 1) := by decide +kernel
theorem dX2_startWithEmptyPlan_19 : decode cX2_startWithEmptyPlan 19 = .ok (.invokevirtual 32, 3) := by decide +kernel
theorem dX2_startWithEmptyPlan_22 : decode cX2_startWithEmptyPlan 22 = .ok (.putfield 36, 3) := by decide +kernel
theorem dX2_startWithEmptyPlan_25 : decode cX2_startWithEmptyPlan 25 = .ok (.return_, 1) := by decide +kernel
set_option maxRecDepth 20000 in
theorem ggX2_valueOf_X1_liveWith : GoodIn wsX2_valueOf wsX1_liveWith := goodIn_ca (goodIn_r _ [7, 8, 9, 10, 11, 12, 13, 14, 15, 6, 16, 17, 18, 19, 20, 21, 22, 23, 24, 25, 26, 27, 28, 29, 30, 31, 32, 33, 34, 51, 52, 53, 54, 55, 56, 57, 58, 59, 60] (by decide +kernel) (by decide +kernel)) (goodIn_sub (fun _ h => List.mem_cons_of_mem _ (List.mem_append_right _ h)) (by decide +kernel))
set_option maxRecDepth 20000 in
theorem gX2_valueOf_X1_liveWith : GoodIn wsX2_valueOf (wsV RX2 42 RX1 yX1_liveWith wsX1_liveWith) := goodIn_app (goodIn_of _ (by decide +kernel)) ggX2_valueOf_X1_liveWith
set_option maxRecDepth 20000 in
theorem ggX2_valueOf_X1_weightIn : GoodIn wsX2_valueOf wsX1_weightIn := goodIn_ca (goodIn_r _ [38, 8, 39, 40, 10, 11, 12, 51, 52, 53, 54, 55, 56, 57, 58, 59, 60] (by decide +kernel) (by decide +kernel)) (goodIn_sub (fun _ h => List.mem_cons_of_mem _ (List.mem_append_right _ h)) (by decide +kernel))
set_option maxRecDepth 20000 in
theorem gX2_valueOf_X1_weightIn : GoodIn wsX2_valueOf (wsV RX2 47 RX1 yX1_weightIn wsX1_weightIn) := goodIn_app (goodIn_of _ (by decide +kernel)) ggX2_valueOf_X1_weightIn
theorem dX2_valueOf_0 : decode cX2_valueOf 0 = .ok (.aload_n 0, 1) := by decide +kernel
theorem dX2_valueOf_1 : decode cX2_valueOf 1 = .ok (.getfield 9, 3) := by decide +kernel
theorem dX2_valueOf_4 : decode cX2_valueOf 4 = .ok (.aload_n 0, 1) := by decide +kernel
theorem dX2_valueOf_5 : decode cX2_valueOf 5 = .ok (.getfield 9, 3) := by decide +kernel
theorem dX2_valueOf_8 : decode cX2_valueOf 8 = .ok (.aload_n 0, 1) := by decide +kernel
theorem dX2_valueOf_9 : decode cX2_valueOf 9 = .ok (.getfield 15, 3) := by decide +kernel
theorem dX2_valueOf_12 : decode cX2_valueOf 12 = .ok (.getfield 39, 3) := by decide +kernel
theorem dX2_valueOf_15 : decode cX2_valueOf 15 = .ok (.iload_n 1, 1) := by decide +kernel
theorem dX2_valueOf_16 : decode cX2_valueOf 16 = .ok (.ior, 1) := by decide +kernel
theorem dX2_valueOf_17 : decode cX2_valueOf 17 = .ok (.invokevirtual 42, 3) := by decide +kernel
theorem dX2_valueOf_20 : decode cX2_valueOf 20 = .ok (.invokevirtual 47, 3) := by decide +kernel
theorem dX2_valueOf_23 : decode cX2_valueOf 23 = .ok (.ireturn, 1) := by decide +kernel
set_option maxRecDepth 20000 in
theorem ggX2_isBetter_J6_bitCount_0f7a4 : GoodIn wsX2_isBetter wsJ6_bitCount_0f7a4 := goodIn_r _ [6, 7, 8, 9] (by decide +kernel) (by decide +kernel)
set_option maxRecDepth 20000 in
theorem gX2_isBetter_J6_bitCount_0f7a4 : GoodIn wsX2_isBetter (va_wsS RX2 50 yJ6_bitCount_0f7a4 wsJ6_bitCount_0f7a4) := goodIn_app (goodIn_of _ (by decide +kernel)) ggX2_isBetter_J6_bitCount_0f7a4
theorem dX2_isBetter_0 : decode cX2_isBetter 0 = .ok (.iload_n 1, 1) := by decide +kernel
theorem dX2_isBetter_1 : decode cX2_isBetter 1 = .ok (.aload_n 0, 1) := by decide +kernel
theorem dX2_isBetter_2 : decode cX2_isBetter 2 = .ok (.getfield 36, 3) := by decide +kernel
theorem dX2_isBetter_5 : decode cX2_isBetter 5 = .ok (.if_icmp .gt 22, 3) := by decide +kernel
theorem dX2_isBetter_8 : decode cX2_isBetter 8 = .ok (.iload_n 1, 1) := by decide +kernel
theorem dX2_isBetter_9 : decode cX2_isBetter 9 = .ok (.aload_n 0, 1) := by decide +kernel
theorem dX2_isBetter_10 : decode cX2_isBetter 10 = .ok (.getfield 36, 3) := by decide +kernel
theorem dX2_isBetter_13 : decode cX2_isBetter 13 = .ok (.if_icmp .ne 18, 3) := by decide +kernel
theorem dX2_isBetter_16 : decode cX2_isBetter 16 = .ok (.iload_n 2, 1) := by decide +kernel
theorem dX2_isBetter_17 : decode cX2_isBetter 17 = .ok (.aload_n 0, 1) := by decide +kernel
theorem dX2_isBetter_18 : decode cX2_isBetter 18 = .ok (.getfield 29, 3) := by decide +kernel
theorem dX2_isBetter_21 : decode cX2_isBetter 21 = .ok (.invokestatic 50, 3) := by decide +kernel
theorem dX2_isBetter_24 : decode cX2_isBetter 24 = .ok (.if_icmp .ge 7, 3) := by decide +kernel
theorem dX2_isBetter_27 : decode cX2_isBetter 27 = .ok (.iconst 1, 1) := by decide +kernel
theorem dX2_isBetter_28 : decode cX2_isBetter 28 = .ok (.goto 4, 3) := by decide +kernel
theorem dX2_isBetter_31 : decode cX2_isBetter 31 = .ok (.iconst 0, 1) := by decide +kernel
theorem dX2_isBetter_32 : decode cX2_isBetter 32 = .ok (.ireturn, 1) := by decide +kernel
set_option maxRecDepth 20000 in
theorem ggX2_keepIfBetter_J6_bitCount_0f7a4 : GoodIn wsX2_keepIfBetter wsJ6_bitCount_0f7a4 := goodIn_r _ [6, 7, 8, 9] (by decide +kernel) (by decide +kernel)
set_option maxRecDepth 20000 in
theorem gX2_keepIfBetter_J6_bitCount_0f7a4 : GoodIn wsX2_keepIfBetter (va_wsS RX2 50 yJ6_bitCount_0f7a4 wsJ6_bitCount_0f7a4) := goodIn_app (goodIn_of _ (by decide +kernel)) ggX2_keepIfBetter_J6_bitCount_0f7a4
set_option maxRecDepth 20000 in
theorem ggX2_keepIfBetter_X2_isBetter : GoodIn wsX2_keepIfBetter wsX2_isBetter := goodIn_r _ [14, 2, 1, 3, 4, 5, 6, 7, 8, 9, 15, 16, 17, 18, 19] (by decide +kernel) (by decide +kernel)
set_option maxRecDepth 20000 in
theorem gX2_keepIfBetter_X2_isBetter : GoodIn wsX2_keepIfBetter (wsV RX2 55 RX2 yX2_isBetter wsX2_isBetter) := goodIn_app (goodIn_of _ (by decide +kernel)) ggX2_keepIfBetter_X2_isBetter
theorem dX2_keepIfBetter_0 : decode cX2_keepIfBetter 0 = .ok (.aload_n 0, 1) := by decide +kernel
theorem dX2_keepIfBetter_1 : decode cX2_keepIfBetter 1 = .ok (.iload_n 2, 1) := by decide +kernel
theorem dX2_keepIfBetter_2 : decode cX2_keepIfBetter 2 = .ok (.iload_n 1, 1) := by decide +kernel
theorem dX2_keepIfBetter_3 : decode cX2_keepIfBetter 3 = .ok (.invokestatic 50, 3) := by decide +kernel
theorem dX2_keepIfBetter_6 : decode cX2_keepIfBetter 6 = .ok (.invokevirtual 55, 3) := by decide +kernel
theorem dX2_keepIfBetter_9 : decode cX2_keepIfBetter 9 = .ok (.ifCond .eq 13, 3) := by decide +kernel
theorem dX2_keepIfBetter_12 : decode cX2_keepIfBetter 12 = .ok (.aload_n 0, 1) := by decide +kernel
theorem dX2_keepIfBetter_13 : decode cX2_keepIfBetter 13 = .ok (.iload_n 1, 1) := by decide +kernel
theorem dX2_keepIfBetter_14 : decode cX2_keepIfBetter 14 = .ok (.putfield 29, 3) := by decide +kernel
theorem dX2_keepIfBetter_17 : decode cX2_keepIfBetter 17 = .ok (.aload_n 0, 1) := by decide +kernel
theorem dX2_keepIfBetter_18 : decode cX2_keepIfBetter 18 = .ok (.iload_n 2, 1) := by decide +kernel
theorem dX2_keepIfBetter_19 : decode cX2_keepIfBetter 19 = .ok (.putfield 36, 3) := by decide +kernel
theorem dX2_keepIfBetter_22 : decode cX2_keepIfBetter 22 = .ok (.return_, 1) := by decide +kernel
set_option maxRecDepth 20000 in
theorem ggX2_findBest_X2_startWithEmptyPlan : GoodIn wsX2_findBest wsX2_startWithEmptyPlan := goodIn_ca (goodIn_r _ [5, 6, 7, 8, 9, 10, 11, 12, 13, 14, 15, 16, 17, 18, 19, 20, 21, 4, 22, 23, 24, 25, 26, 27, 28, 29, 30, 31, 32, 33, 34, 35, 36, 37, 38, 39, 40, 41, 42, 43, 44, 45, 46, 47, 48, 49, 50, 51, 52, 53, 54, 55, 56, 57, 58, 59, 60, 61, 148, 149, 150, 151, 152, 153, 154, 155, 156, 157, 158, 159, 160, 161, 162, 163, 164, 165, 166, 167] (by decide +kernel) (by decide +kernel)) (goodIn_sub (fun _ h => List.mem_cons_of_mem _ (List.mem_append_right _ h)) (by decide +kernel))
set_option maxRecDepth 20000 in
theorem gX2_findBest_X2_startWithEmptyPlan : GoodIn wsX2_findBest (wsV RX2 59 RX2 yX2_startWithEmptyPlan wsX2_startWithEmptyPlan) := goodIn_app (goodIn_of _ (by decide +kernel)) ggX2_findBest_X2_startWithEmptyPlan
set_option maxRecDepth 20000 in
theorem ggX2_findBest_X2_extend : GoodIn wsX2_findBest wsX2_extend := goodIn_ca (goodIn_r _ [65, 7, 6, 31, 32, 33, 38, 39, 19, 20, 21, 4, 22, 23, 24, 25, 26, 27, 28, 29, 30, 34, 35, 36, 37, 40, 41, 42, 43, 44, 45, 46, 47, 48, 49, 50, 51, 52, 53, 54, 55, 56, 57, 58, 59, 60, 61, 66, 67, 68, 69, 70, 71, 72, 73, 74, 75, 76, 9, 8, 77, 78, 79, 13, 80, 17, 15, 18, 81, 82, 83, 84, 85, 86, 87, 88, 89, 90, 91, 92, 93, 94, 95, 96, 97, 98, 99, 100, 101, 102, 103, 104, 105, 106, 107, 108, 109, 110, 111, 112, 113, 114, 115, 116, 117, 118, 119, 120, 121, 122, 123, 124, 125, 126, 127, 128, 129, 130, 131, 132, 133, 134, 135, 136, 137, 138, 139, 140, 141, 142, 143, 144, 145, 146, 147, 62, 63, 64, 148, 149, 150, 151, 152, 153, 154, 155, 156, 157, 158, 159, 160, 161, 162, 163, 164, 165, 166, 167, 168, 169, 170] (by decide +kernel) (by decide +kernel)) (goodIn_sub (fun _ h => List.mem_cons_of_mem _ (List.mem_append_right _ h)) (by decide +kernel))
set_option maxRecDepth 20000 in
theorem gX2_findBest_X2_extend : GoodIn wsX2_findBest (wsV RX2 62 RX2 yX2_extend wsX2_extend) := goodIn_app (goodIn_of _ (by decide +kernel)) ggX2_findBest_X2_extend
theorem dX2_findBest_0 : decode cX2_findBest 0 = .ok (.aload_n 0, 1) := by decide +kernel
theorem dX2_findBest_1 : decode cX2_findBest 1 = .ok (.invokevirtual 59, 3) := by decide +kernel
theorem dX2_findBest_4 : decode cX2_findBest 4 = .ok (.aload_n 0, 1) := by decide +kernel
theorem dX2_findBest_5 : decode cX2_findBest 5 = .ok (.iconst 0, 1) := by decide +kernel
theorem dX2_findBest_6 : decode cX2_findBest 6 = .ok (.iconst 0, 1) := by decide +kernel
theorem dX2_findBest_7 : decode cX2_findBest 7 = .ok (.invokevirtual 62, 3) := by decide +kernel
theorem dX2_findBest_10 : decode cX2_findBest 10 = .ok (.return_, 1) := by decide +kernel
set_option maxRecDepth 20000 in
theorem ggX2_extend_X5_has : GoodIn wsX2_extend wsX5_has := goodIn_r _ [5] (by decide +kernel) (by decide +kernel)
set_option maxRecDepth 20000 in
theorem gX2_extend_X5_has_n66 : GoodIn wsX2_extend (wsX5_has) := ggX2_extend_X5_has
set_option maxRecDepth 20000 in
theorem ggX2_extend_X5_bit : GoodIn wsX2_extend wsX5_bit := goodIn_r _ [7] (by decide +kernel) (by decide +kernel)
set_option maxRecDepth 20000 in
theorem gX2_extend_X5_bit_n69 : GoodIn wsX2_extend (wsX5_bit) := ggX2_extend_X5_bit
set_option maxRecDepth 20000 in
theorem ggX2_extend_X2_valueOf : GoodIn wsX2_extend wsX2_valueOf := goodIn_ca (goodIn_r _ [12, 13, 2, 14, 15, 16, 17, 18, 19, 20, 3, 4, 5, 21, 22, 23, 24, 6, 7, 25, 26, 27, 28, 29, 30, 31, 32, 33, 34, 35, 36, 37, 38, 39, 40, 41, 42, 43, 44, 45, 46, 138, 139, 140, 141, 142, 143, 144, 145, 146, 147, 148, 149, 150, 151, 152, 153, 154, 155, 156, 157] (by decide +kernel) (by decide +kernel)) (goodIn_sub (fun _ h => List.mem_cons_of_mem _ (List.mem_append_right _ h)) (by decide +kernel))
set_option maxRecDepth 20000 in
theorem gX2_extend_X2_valueOf : GoodIn wsX2_extend (wsV RX2 32 RX2 yX2_valueOf wsX2_valueOf) := goodIn_app (goodIn_of _ (by decide +kernel)) ggX2_extend_X2_valueOf
set_option maxRecDepth 20000 in
theorem ggX2_extend_J6_bitCount_0f7a4 : GoodIn wsX2_extend wsJ6_bitCount_0f7a4 := goodIn_r _ [50, 51, 52, 53] (by decide +kernel) (by decide +kernel)
set_option maxRecDepth 20000 in
theorem gX2_extend_J6_bitCount_0f7a4 : GoodIn wsX2_extend (va_wsS RX2 50 yJ6_bitCount_0f7a4 wsJ6_bitCount_0f7a4) := goodIn_app (goodIn_of _ (by decide +kernel)) ggX2_extend_J6_bitCount_0f7a4
set_option maxRecDepth 20000 in
theorem ggX2_extend_X2_isBetter : GoodIn wsX2_extend wsX2_isBetter := goodIn_r _ [57, 58, 59, 47, 48, 49, 50, 51, 52, 53, 138, 139, 140, 141, 142] (by decide +kernel) (by decide +kernel)
set_option maxRecDepth 20000 in
theorem gX2_extend_X2_isBetter : GoodIn wsX2_extend (wsV RX2 55 RX2 yX2_isBetter wsX2_isBetter) := goodIn_app (goodIn_of _ (by decide +kernel)) ggX2_extend_X2_isBetter
set_option maxRecDepth 20000 in
theorem ggX2_extend_X4_closeReason : GoodIn wsX2_extend wsX4_closeReason := goodIn_ca (goodIn_r _ [64, 65, 66, 67, 68, 3, 4, 5, 69, 70, 71, 17, 72, 39, 73, 74, 75, 76, 34, 77, 22, 23, 24, 6, 7, 25, 26, 27, 28, 29, 30, 31, 32, 33, 35, 36, 37, 38, 40, 78, 79, 80, 81, 82, 20, 83, 84, 85, 86, 87, 88, 89, 90, 19, 45, 91, 92, 93, 94, 95, 96, 97, 98, 99, 100, 101, 102, 103, 104, 105, 106, 107, 108, 109, 110, 111, 112, 113, 114, 115, 116, 117, 118, 119, 120, 121, 122, 123, 124, 125, 126, 127, 128, 129, 130, 143, 144, 145, 146, 147, 148, 149, 150, 151, 152, 153, 154, 155, 156, 157, 158, 159, 160] (by decide +kernel) (by decide +kernel)) (goodIn_sub (fun _ h => List.mem_cons_of_mem _ (List.mem_append_right _ h)) (by decide +kernel))
set_option maxRecDepth 20000 in
theorem gX2_extend_X4_closeReason : GoodIn wsX2_extend (wsV RX2 72 RX4 yX4_closeReason wsX4_closeReason) := goodIn_app (goodIn_of _ (by decide +kernel)) ggX2_extend_X4_closeReason
set_option maxRecDepth 20000 in
theorem ggX2_extend_X2_keepIfBetter : GoodIn wsX2_extend wsX2_keepIfBetter := goodIn_r _ [134, 59, 58, 47, 48, 49, 50, 51, 52, 53, 54, 55, 56, 11, 57, 138, 139, 140, 141, 142] (by decide +kernel) (by decide +kernel)
set_option maxRecDepth 20000 in
theorem gX2_extend_X2_keepIfBetter : GoodIn wsX2_extend (wsV RX2 76 RX2 yX2_keepIfBetter wsX2_keepIfBetter) := goodIn_app (goodIn_of _ (by decide +kernel)) ggX2_extend_X2_keepIfBetter
set_option maxRecDepth 20000 in
theorem ggX2_extend_X2_extend : GoodIn wsX2_extend wsX2_extend := goodIn_ca (goodIn_r _ [0, 1, 2, 3, 4, 5, 6, 7, 8, 9, 10, 11, 12, 13, 14, 15, 16, 17, 18, 19, 20, 21, 22, 23, 24, 25, 26, 27, 28, 29, 30, 31, 32, 33, 34, 35, 36, 37, 38, 39, 40, 41, 42, 43, 44, 45, 46, 47, 48, 49, 50, 51, 52, 53, 54, 55, 56, 57, 58, 59, 60, 61, 62, 63, 64, 65, 66, 67, 68, 69, 70, 71, 72, 73, 74, 75, 76, 77, 78, 79, 80, 81, 82, 83, 84, 85, 86, 87, 88, 89, 90, 91, 92, 93, 94, 95, 96, 97, 98, 99, 100, 101, 102, 103, 104, 105, 106, 107, 108, 109, 110, 111, 112, 113, 114, 115, 116, 117, 118, 119, 120, 121, 122, 123, 124, 125, 126, 127, 128, 129, 130, 131, 132, 133, 134, 135, 136, 137, 138, 139, 140, 141, 142, 143, 144, 145, 146, 147, 148, 149, 150, 151, 152, 153, 154, 155, 156, 157, 158, 159, 160] (by decide +kernel) (by decide +kernel)) (goodIn_sub (fun _ h => List.mem_cons_of_mem _ (List.mem_append_right _ h)) (by decide +kernel))
set_option maxRecDepth 20000 in
theorem gX2_extend_X2_extend : GoodIn wsX2_extend (wsV RX2 62 RX2 yX2_extend wsX2_extend) := goodIn_app (goodIn_of _ (by decide +kernel)) ggX2_extend_X2_extend
theorem dX2_extend_0 : decode cX2_extend 0 = .ok (.iload_n 2, 1) := by decide +kernel
theorem dX2_extend_1 : decode cX2_extend 1 = .ok (.istore_n 3, 1) := by decide +kernel
theorem dX2_extend_2 : decode cX2_extend 2 = .ok (.iload_n 3, 1) := by decide +kernel
theorem dX2_extend_3 : decode cX2_extend 3 = .ok (.bipush 12, 2) := by decide +kernel
theorem dX2_extend_5 : decode cX2_extend 5 = .ok (.if_icmp .ge 111, 3) := by decide +kernel
theorem dX2_extend_8 : decode cX2_extend 8 = .ok (.aload_n 0, 1) := by decide +kernel
theorem dX2_extend_9 : decode cX2_extend 9 = .ok (.getfield 25, 3) := by decide +kernel
theorem dX2_extend_12 : decode cX2_extend 12 = .ok (.iload_n 3, 1) := by decide +kernel
theorem dX2_extend_13 : decode cX2_extend 13 = .ok (.invokestatic 66, 3) := by decide +kernel
theorem dX2_extend_16 : decode cX2_extend 16 = .ok (.ifCond .ne 6, 3) := by decide +kernel
theorem dX2_extend_19 : decode cX2_extend 19 = .ok (.goto 91, 3) := by decide +kernel
theorem dX2_extend_22 : decode cX2_extend 22 = .ok (.iload_n 1, 1) := by decide +kernel
theorem dX2_extend_23 : decode cX2_extend 23 = .ok (.aload_n 0, 1) := by decide +kernel
theorem dX2_extend_24 : decode cX2_extend 24 = .ok (.getfield 25, 3) := by decide +kernel
theorem dX2_extend_27 : decode cX2_extend 27 = .ok (.iload_n 3, 1) := by decide +kernel
theorem dX2_extend_28 : decode cX2_extend 28 = .ok (.invokestatic 69, 3) := by decide +kernel
theorem dX2_extend_31 : decode cX2_extend 31 = .ok (.iconst 1, 1) := by decide +kernel
theorem dX2_extend_32 : decode cX2_extend 32 = .ok (.isub, 1) := by decide +kernel
theorem dX2_extend_33 : decode cX2_extend 33 = .ok (.iconst (-1), 1) := by decide +kernel
theorem dX2_extend_34 : decode cX2_extend 34 = .ok (.ixor, 1) := by decide +kernel
theorem dX2_extend_35 : decode cX2_extend 35 = .ok (.iand, 1) := by decide +kernel
theorem dX2_extend_36 : decode cX2_extend 36 = .ok (.ior, 1) := by decide +kernel
theorem dX2_extend_37 : decode cX2_extend 37 = .ok (.istore 4, 2) := by decide +kernel
theorem dX2_extend_39 : decode cX2_extend 39 = .ok (.aload_n 0, 1) := by decide +kernel
theorem dX2_extend_40 : decode cX2_extend 40 = .ok (.aload_n 0, 1) := by decide +kernel
theorem dX2_extend_41 : decode cX2_extend 41 = .ok (.iload 4, 2) := by decide +kernel
theorem dX2_extend_43 : decode cX2_extend 43 = .ok (.invokevirtual 32, 3) := by decide +kernel
theorem dX2_extend_46 : decode cX2_extend 46 = .ok (.iload_n 1, 1) := by decide +kernel
theorem dX2_extend_47 : decode cX2_extend 47 = .ok (.invokestatic 50, 3) := by decide +kernel
theorem dX2_extend_50 : decode cX2_extend 50 = .ok (.iconst 1, 1) := by decide +kernel
theorem dX2_extend_51 : decode cX2_extend 51 = .ok (.iadd, 1) := by decide +kernel
theorem dX2_extend_52 : decode cX2_extend 52 = .ok (.invokevirtual 55, 3) := by decide +kernel
theorem dX2_extend_55 : decode cX2_extend 55 = .ok (.ifCond .ne 4, 3) := by decide +kernel
theorem dX2_extend_58 : decode cX2_extend 58 = .ok (.return_, 1) := by decide +kernel
theorem dX2_extend_59 : decode cX2_extend 59 = .ok (.aload_n 0, 1) := by decide +kernel
theorem dX2_extend_60 : decode cX2_extend 60 = .ok (.getfield 15, 3) := by decide +kernel
theorem dX2_extend_63 : decode cX2_extend 63 = .ok (.iload_n 3, 1) := by decide +kernel
theorem dX2_extend_64 : decode cX2_extend 64 = .ok (.aload_n 0, 1) := by decide +kernel
theorem dX2_extend_65 : decode cX2_extend 65 = .ok (.getfield 15, 3) := by decide +kernel
theorem dX2_extend_68 : decode cX2_extend 68 = .ok (.getfield 39, 3) := by decide +kernel
theorem dX2_extend_71 : decode cX2_extend 71 = .ok (.iload_n 1, 1) := by decide +kernel
theorem dX2_extend_72 : decode cX2_extend 72 = .ok (.ior, 1) := by decide +kernel
theorem dX2_extend_73 : decode cX2_extend 73 = .ok (.invokevirtual 72, 3) := by decide +kernel
theorem dX2_extend_76 : decode cX2_extend 76 = .ok (.bipush 110, 2) := by decide +kernel
theorem dX2_extend_78 : decode cX2_extend 78 = .ok (.if_icmp .ne 32, 3) := by decide +kernel
theorem dX2_extend_81 : decode cX2_extend 81 = .ok (.iload_n 1, 1) := by decide +kernel
theorem dX2_extend_82 : decode cX2_extend 82 = .ok (.iload_n 3, 1) := by decide +kernel
theorem dX2_extend_83 : decode cX2_extend 83 = .ok (.invokestatic 69, 3) := by decide +kernel
theorem dX2_extend_86 : decode cX2_extend 86 = .ok (.ior, 1) := by decide +kernel
theorem dX2_extend_87 : decode cX2_extend 87 = .ok (.istore 5, 2) := by decide +kernel
theorem dX2_extend_89 : decode cX2_extend 89 = .ok (.aload_n 0, 1) := by decide +kernel
theorem dX2_extend_90 : decode cX2_extend 90 = .ok (.iload 5, 2) := by decide +kernel
theorem dX2_extend_92 : decode cX2_extend 92 = .ok (.aload_n 0, 1) := by decide +kernel
theorem dX2_extend_93 : decode cX2_extend 93 = .ok (.iload 5, 2) := by decide +kernel
theorem dX2_extend_95 : decode cX2_extend 95 = .ok (.invokevirtual 32, 3) := by decide +kernel
theorem dX2_extend_98 : decode cX2_extend 98 = .ok (.invokevirtual 76, 3) := by decide +kernel
theorem dX2_extend_101 : decode cX2_extend 101 = .ok (.aload_n 0, 1) := by decide +kernel
theorem dX2_extend_102 : decode cX2_extend 102 = .ok (.iload 5, 2) := by decide +kernel
theorem dX2_extend_104 : decode cX2_extend 104 = .ok (.iload_n 3, 1) := by decide +kernel
theorem dX2_extend_105 : decode cX2_extend 105 = .ok (.iconst 1, 1) := by decide +kernel
theorem dX2_extend_106 : decode cX2_extend 106 = .ok (.iadd, 1) := by decide +kernel
theorem dX2_extend_107 : decode cX2_extend 107 = .ok (.invokevirtual 62, 3) := by decide +kernel
theorem dX2_extend_110 : decode cX2_extend 110 = .ok (.iinc 3 1, 3) := by decide +kernel
theorem dX2_extend_113 : decode cX2_extend 113 = .ok (.goto (-111), 3) := by decide +kernel
theorem dX2_extend_116 : decode cX2_extend 116 = .ok (.return_, 1) := by decide +kernel
set_option maxRecDepth 20000 in
theorem ggX2_tryAllSets_X2_startWithEmptyPlan : GoodIn wsX2_tryAllSets wsX2_startWithEmptyPlan := goodIn_ca (goodIn_r _ [6, 7, 1, 8, 9, 10, 11, 12, 13, 14, 15, 16, 17, 18, 19, 20, 21, 5, 22, 23, 24, 25, 26, 27, 28, 29, 30, 31, 32, 33, 34, 35, 36, 37, 38, 39, 40, 41, 42, 43, 44, 45, 46, 47, 48, 49, 50, 51, 52, 53, 54, 55, 56, 57, 58, 59, 60, 61, 148, 149, 150, 151, 152, 153, 154, 155, 156, 157, 158, 159, 160, 161, 162, 163, 164, 165, 166, 167] (by decide +kernel) (by decide +kernel)) (goodIn_sub (fun _ h => List.mem_cons_of_mem _ (List.mem_append_right _ h)) (by decide +kernel))
set_option maxRecDepth 20000 in
theorem gX2_tryAllSets_X2_startWithEmptyPlan : GoodIn wsX2_tryAllSets (wsV RX2 59 RX2 yX2_startWithEmptyPlan wsX2_startWithEmptyPlan) := goodIn_app (goodIn_of _ (by decide +kernel)) ggX2_tryAllSets_X2_startWithEmptyPlan
set_option maxRecDepth 20000 in
theorem ggX2_tryAllSets_X2_canBeClosedInOrder : GoodIn wsX2_tryAllSets wsX2_canBeClosedInOrder := goodIn_ca (goodIn_r _ [65, 7, 31, 32, 33, 66, 67, 68, 13, 69, 17, 15, 18, 70, 71, 72, 73, 27, 74, 54, 75, 76, 77, 78, 49, 79, 35, 36, 37, 38, 39, 40, 41, 42, 43, 44, 45, 46, 47, 48, 50, 51, 52, 53, 55, 80, 81, 82, 83, 84, 30, 85, 86, 87, 88, 89, 90, 91, 92, 29, 60, 93, 94, 95, 96, 97, 98, 99, 100, 101, 102, 103, 104, 105, 106, 107, 108, 109, 110, 111, 112, 113, 114, 115, 116, 117, 118, 119, 120, 121, 122, 123, 124, 125, 126, 127, 128, 129, 130, 131, 132, 148, 149, 150, 151, 152, 153, 154, 155, 156, 157, 158, 159, 160, 161, 162, 163, 164, 165, 166, 167, 168, 169, 170] (by decide +kernel) (by decide +kernel)) (goodIn_sub (fun _ h => List.mem_cons_of_mem _ (List.mem_append_right _ h)) (by decide +kernel))
set_option maxRecDepth 20000 in
theorem gX2_tryAllSets_X2_canBeClosedInOrder : GoodIn wsX2_tryAllSets (wsV RX2 79 RX2 yX2_canBeClosedInOrder wsX2_canBeClosedInOrder) := goodIn_app (goodIn_of _ (by decide +kernel)) ggX2_tryAllSets_X2_canBeClosedInOrder
set_option maxRecDepth 20000 in
theorem ggX2_tryAllSets_X2_valueOf : GoodIn wsX2_tryAllSets wsX2_valueOf := goodIn_ca (goodIn_r _ [22, 23, 7, 24, 25, 26, 27, 28, 29, 30, 31, 32, 33, 34, 35, 36, 37, 38, 39, 40, 41, 42, 43, 44, 45, 46, 47, 48, 49, 50, 51, 52, 53, 54, 55, 56, 57, 58, 59, 60, 61, 148, 149, 150, 151, 152, 153, 154, 155, 156, 157, 158, 159, 160, 161, 162, 163, 164, 165, 166, 167] (by decide +kernel) (by decide +kernel)) (goodIn_sub (fun _ h => List.mem_cons_of_mem _ (List.mem_append_right _ h)) (by decide +kernel))
set_option maxRecDepth 20000 in
theorem gX2_tryAllSets_X2_valueOf : GoodIn wsX2_tryAllSets (wsV RX2 32 RX2 yX2_valueOf wsX2_valueOf) := goodIn_app (goodIn_of _ (by decide +kernel)) ggX2_tryAllSets_X2_valueOf
set_option maxRecDepth 20000 in
theorem ggX2_tryAllSets_X2_keepIfBetter : GoodIn wsX2_tryAllSets wsX2_keepIfBetter := goodIn_r _ [136, 8, 9, 137, 138, 139, 140, 141, 142, 143, 144, 145, 146, 5, 147, 148, 149, 150, 151, 152] (by decide +kernel) (by decide +kernel)
set_option maxRecDepth 20000 in
theorem gX2_tryAllSets_X2_keepIfBetter : GoodIn wsX2_tryAllSets (wsV RX2 76 RX2 yX2_keepIfBetter wsX2_keepIfBetter) := goodIn_app (goodIn_of _ (by decide +kernel)) ggX2_tryAllSets_X2_keepIfBetter
theorem dX2_tryAllSets_0 : decode cX2_tryAllSets 0 = .ok (.aload_n 0, 1) := by decide +kernel
theorem dX2_tryAllSets_1 : decode cX2_tryAllSets 1 = .ok (.invokevirtual 59, 3) := by decide +kernel
theorem dX2_tryAllSets_4 : decode cX2_tryAllSets 4 = .ok (.iconst 1, 1) := by decide +kernel
theorem dX2_tryAllSets_5 : decode cX2_tryAllSets 5 = .ok (.istore_n 1, 1) := by decide +kernel
theorem dX2_tryAllSets_6 : decode cX2_tryAllSets 6 = .ok (.iload_n 1, 1) := by decide +kernel
theorem dX2_tryAllSets_7 : decode cX2_tryAllSets 7 = .ok (.sipush 4096, 3) := by decide +kernel
theorem dX2_tryAllSets_10 : decode cX2_tryAllSets 10 = .ok (.if_icmp .ge 38, 3) := by decide +kernel
theorem dX2_tryAllSets_13 : decode cX2_tryAllSets 13 = .ok (.iload_n 1, 1) := by decide +kernel
theorem dX2_tryAllSets_14 : decode cX2_tryAllSets 14 = .ok (.aload_n 0, 1) := by decide +kernel
theorem dX2_tryAllSets_15 : decode cX2_tryAllSets 15 = .ok (.getfield 25, 3) := by decide +kernel
theorem dX2_tryAllSets_18 : decode cX2_tryAllSets 18 = .ok (.iconst (-1), 1) := by decide +kernel
theorem dX2_tryAllSets_19 : decode cX2_tryAllSets 19 = .ok (.ixor, 1) := by decide +kernel
theorem dX2_tryAllSets_20 : decode cX2_tryAllSets 20 = .ok (.iand, 1) := by decide +kernel
theorem dX2_tryAllSets_21 : decode cX2_tryAllSets 21 = .ok (.ifCond .ne 21, 3) := by decide +kernel
theorem dX2_tryAllSets_24 : decode cX2_tryAllSets 24 = .ok (.aload_n 0, 1) := by decide +kernel
theorem dX2_tryAllSets_25 : decode cX2_tryAllSets 25 = .ok (.iload_n 1, 1) := by decide +kernel
theorem dX2_tryAllSets_26 : decode cX2_tryAllSets 26 = .ok (.invokevirtual 79, 3) := by decide +kernel
theorem dX2_tryAllSets_29 : decode cX2_tryAllSets 29 = .ok (.ifCond .eq 13, 3) := by decide +kernel
theorem dX2_tryAllSets_32 : decode cX2_tryAllSets 32 = .ok (.aload_n 0, 1) := by decide +kernel
theorem dX2_tryAllSets_33 : decode cX2_tryAllSets 33 = .ok (.iload_n 1, 1) := by decide +kernel
theorem dX2_tryAllSets_34 : decode cX2_tryAllSets 34 = .ok (.aload_n 0, 1) := by decide +kernel
theorem dX2_tryAllSets_35 : decode cX2_tryAllSets 35 = .ok (.iload_n 1, 1) := by decide +kernel
theorem dX2_tryAllSets_36 : decode cX2_tryAllSets 36 = .ok (.invokevirtual 32, 3) := by decide +kernel
theorem dX2_tryAllSets_39 : decode cX2_tryAllSets 39 = .ok (.invokevirtual 76, 3) := by decide +kernel
theorem dX2_tryAllSets_42 : decode cX2_tryAllSets 42 = .ok (.iinc 1 1, 3) := by decide +kernel
theorem dX2_tryAllSets_45 : decode cX2_tryAllSets 45 = .ok (.goto (-39), 3) := by decide +kernel
theorem dX2_tryAllSets_48 : decode cX2_tryAllSets 48 = .ok (.return_, 1) := by decide +kernel
set_option maxRecDepth 20000 in
theorem ggX2_canBeClosedInOrder_X5_has : GoodIn wsX2_canBeClosedInOrder wsX5_has := goodIn_r _ [4] (by decide +kernel) (by decide +kernel)
set_option maxRecDepth 20000 in
theorem gX2_canBeClosedInOrder_X5_has_n66 : GoodIn wsX2_canBeClosedInOrder (wsX5_has) := ggX2_canBeClosedInOrder_X5_has
set_option maxRecDepth 20000 in
theorem ggX2_canBeClosedInOrder_X4_closeReason : GoodIn wsX2_canBeClosedInOrder wsX4_closeReason := goodIn_ca (goodIn_r _ [9, 10, 11, 12, 13, 2, 3, 4, 14, 15, 16, 17, 18, 19, 20, 21, 22, 23, 24, 25, 26, 27, 28, 29, 30, 31, 32, 33, 34, 35, 36, 37, 38, 39, 40, 41, 42, 43, 44, 45, 46, 47, 48, 49, 50, 51, 52, 53, 54, 55, 56, 57, 58, 59, 60, 61, 62, 63, 64, 65, 66, 67, 68, 69, 70, 71, 72, 73, 74, 75, 76, 77, 78, 79, 80, 81, 82, 83, 84, 85, 86, 87, 88, 89, 90, 91, 92, 93, 94, 95, 96, 97, 98, 99, 100, 106, 107, 108, 109, 110, 111, 112, 113, 114, 115, 116, 117, 118, 119, 120, 121, 122, 123] (by decide +kernel) (by decide +kernel)) (goodIn_sub (fun _ h => List.mem_cons_of_mem _ (List.mem_append_right _ h)) (by decide +kernel))
set_option maxRecDepth 20000 in
theorem gX2_canBeClosedInOrder_X4_closeReason : GoodIn wsX2_canBeClosedInOrder (wsV RX2 72 RX4 yX4_closeReason wsX4_closeReason) := goodIn_app (goodIn_of _ (by decide +kernel)) ggX2_canBeClosedInOrder_X4_closeReason
set_option maxRecDepth 20000 in
theorem ggX2_canBeClosedInOrder_X5_bit : GoodIn wsX2_canBeClosedInOrder wsX5_bit := goodIn_r _ [30] (by decide +kernel) (by decide +kernel)
set_option maxRecDepth 20000 in
theorem gX2_canBeClosedInOrder_X5_bit_n69 : GoodIn wsX2_canBeClosedInOrder (wsX5_bit) := ggX2_canBeClosedInOrder_X5_bit
theorem dX2_canBeClosedInOrder_0 : decode cX2_canBeClosedInOrder 0 = .ok (.iconst 0, 1) := by decide +kernel
theorem dX2_canBeClosedInOrder_1 : decode cX2_canBeClosedInOrder 1 = .ok (.istore_n 2, 1) := by decide +kernel
theorem dX2_canBeClosedInOrder_2 : decode cX2_canBeClosedInOrder 2 = .ok (.iconst 0, 1) := by decide +kernel
theorem dX2_canBeClosedInOrder_3 : decode cX2_canBeClosedInOrder 3 = .ok (.istore_n 3, 1) := by decide +kernel
theorem dX2_canBeClosedInOrder_4 : decode cX2_canBeClosedInOrder 4 = .ok (.iload_n 3, 1) := by decide +kernel
theorem dX2_canBeClosedInOrder_5 : decode cX2_canBeClosedInOrder 5 = .ok (.bipush 12, 2) := by decide +kernel
theorem dX2_canBeClosedInOrder_7 : decode cX2_canBeClosedInOrder 7 = .ok (.if_icmp .ge 48, 3) := by decide +kernel
theorem dX2_canBeClosedInOrder_10 : decode cX2_canBeClosedInOrder 10 = .ok (.iload_n 1, 1) := by decide +kernel
theorem dX2_canBeClosedInOrder_11 : decode cX2_canBeClosedInOrder 11 = .ok (.iload_n 3, 1) := by decide +kernel
theorem dX2_canBeClosedInOrder_12 : decode cX2_canBeClosedInOrder 12 = .ok (.invokestatic 66, 3) := by decide +kernel
theorem dX2_canBeClosedInOrder_15 : decode cX2_canBeClosedInOrder 15 = .ok (.ifCond .eq 34, 3) := by decide +kernel
theorem dX2_canBeClosedInOrder_18 : decode cX2_canBeClosedInOrder 18 = .ok (.aload_n 0, 1) := by decide +kernel
theorem dX2_canBeClosedInOrder_19 : decode cX2_canBeClosedInOrder 19 = .ok (.getfield 15, 3) := by decide +kernel
theorem dX2_canBeClosedInOrder_22 : decode cX2_canBeClosedInOrder 22 = .ok (.iload_n 3, 1) := by decide +kernel
theorem dX2_canBeClosedInOrder_23 : decode cX2_canBeClosedInOrder 23 = .ok (.aload_n 0, 1) := by decide +kernel
theorem dX2_canBeClosedInOrder_24 : decode cX2_canBeClosedInOrder 24 = .ok (.getfield 15, 3) := by decide +kernel
theorem dX2_canBeClosedInOrder_27 : decode cX2_canBeClosedInOrder 27 = .ok (.getfield 39, 3) := by decide +kernel
theorem dX2_canBeClosedInOrder_30 : decode cX2_canBeClosedInOrder 30 = .ok (.iload_n 2, 1) := by decide +kernel
theorem dX2_canBeClosedInOrder_31 : decode cX2_canBeClosedInOrder 31 = .ok (.ior, 1) := by decide +kernel
theorem dX2_canBeClosedInOrder_32 : decode cX2_canBeClosedInOrder 32 = .ok (.invokevirtual 72, 3) := by decide +kernel
theorem dX2_canBeClosedInOrder_35 : decode cX2_canBeClosedInOrder 35 = .ok (.bipush 110, 2) := by decide +kernel
theorem dX2_canBeClosedInOrder_37 : decode cX2_canBeClosedInOrder 37 = .ok (.if_icmp .eq 5, 3) := by decide +kernel
theorem dX2_canBeClosedInOrder_40 : decode cX2_canBeClosedInOrder 40 = .ok (.iconst 0, 1) := by decide +kernel
theorem dX2_canBeClosedInOrder_41 : decode cX2_canBeClosedInOrder 41 = .ok (.ireturn, 1) := by decide +kernel
theorem dX2_canBeClosedInOrder_42 : decode cX2_canBeClosedInOrder 42 = .ok (.iload_n 2, 1) := by decide +kernel
theorem dX2_canBeClosedInOrder_43 : decode cX2_canBeClosedInOrder 43 = .ok (.iload_n 3, 1) := by decide +kernel
theorem dX2_canBeClosedInOrder_44 : decode cX2_canBeClosedInOrder 44 = .ok (.invokestatic 69, 3) := by decide +kernel
theorem dX2_canBeClosedInOrder_47 : decode cX2_canBeClosedInOrder 47 = .ok (.ior, 1) := by decide +kernel
theorem dX2_canBeClosedInOrder_48 : decode cX2_canBeClosedInOrder 48 = .ok (.istore_n 2, 1) := by decide +kernel
theorem dX2_canBeClosedInOrder_49 : decode cX2_canBeClosedInOrder 49 = .ok (.iinc 3 1, 3) := by decide +kernel
theorem dX2_canBeClosedInOrder_52 : decode cX2_canBeClosedInOrder 52 = .ok (.goto (-48), 3) := by decide +kernel
theorem dX2_canBeClosedInOrder_55 : decode cX2_canBeClosedInOrder 55 = .ok (.iconst 1, 1) := by decide +kernel
theorem dX2_canBeClosedInOrder_56 : decode cX2_canBeClosedInOrder 56 = .ok (.ireturn, 1) := by decide +kernel
theorem dX3_init_0 : decode cX3_init 0 = .ok (.aload_n 0, 1) := by decide +kernel
theorem dX3_init_1 : decode cX3_init 1 = .ok (.invokespecial 3, 3) := by decide +kernel
theorem dX3_init_4 : decode cX3_init 4 = .ok (.aload_n 0, 1) := by decide +kernel
theorem dX3_init_5 : decode cX3_init 5 = .ok (.bipush 12, 2) := by decide +kernel
theorem dX3_init_7 : decode cX3_init 7 = .ok (.newarray .int, 2) := by decide +kernel
theorem dX3_init_9 : decode cX3_init 9 = .ok (.putfield 9, 3) := by decide +kernel
theorem dX3_init_12 : decode cX3_init 12 = .ok (.aload_n 0, 1) := by decide +kernel
theorem dX3_init_13 : decode cX3_init 13 = .ok (.bipush 12, 2) := by decide +kernel
theorem dX3_init_15 : decode cX3_init 15 = .ok (.newarray .int, 2) := by decide +kernel
theorem dX3_init_17 : decode cX3_init 17 = .ok (.putfield 15, 3) := by decide +kernel
theorem dX3_init_20 : decode cX3_init 20 = .ok (.aload_n 0, 1) := by decide +kernel
theorem dX3_init_21 : decode cX3_init 21 = .ok (.bipush 12, 2) := by decide +kernel
theorem dX3_init_23 : decode cX3_init 23 = .ok (.newarray .int, 2) := by decide +kernel
theorem dX3_init_25 : decode cX3_init 25 = .ok (.putfield 18, 3) := by decide +kernel
theorem dX3_init_28 : decode cX3_init 28 = .ok (.aload_n 0, 1) := by decide +kernel
theorem dX3_init_29 : decode cX3_init 29 = .ok (.aload_n 1, 1) := by decide +kernel
theorem dX3_init_30 : decode cX3_init 30 = .ok (.putfield 21, 3) := by decide +kernel
theorem dX3_init_33 : decode cX3_init 33 = .ok (.aload_n 0, 1) := by decide +kernel
theorem dX3_init_34 : decode cX3_init 34 = .ok (.aload_n 2, 1) := by decide +kernel
theorem dX3_init_35 : decode cX3_init 35 = .ok (.putfield 25, 3) := by decide +kernel
theorem dX3_init_38 : decode cX3_init 38 = .ok (.return_, 1) := by decide +kernel
set_option maxRecDepth 20000 in
theorem ggX3_setUp_X1_isLine : GoodIn wsX3_setUp wsX1_isLine := goodIn_r _ [9, 10, 16, 17, 18, 19, 20, 21, 22, 23, 24, 25] (by decide +kernel) (by decide +kernel)
set_option maxRecDepth 20000 in
theorem gX3_setUp_X1_isLine : GoodIn wsX3_setUp (wsV RX3 29 RX1 yX1_isLine wsX1_isLine) := goodIn_app (goodIn_of _ (by decide +kernel)) ggX3_setUp_X1_isLine
theorem dX3_setUp_0 : decode cX3_setUp 0 = .ok (.aload_n 0, 1) := by decide +kernel
theorem dX3_setUp_1 : decode cX3_setUp 1 = .ok (.getfield 21, 3) := by decide +kernel
theorem dX3_setUp_4 : decode cX3_setUp 4 = .ok (.iload_n 1, 1) := by decide +kernel
theorem dX3_setUp_5 : decode cX3_setUp 5 = .ok (.invokevirtual 29, 3) := by decide +kernel
theorem dX3_setUp_8 : decode cX3_setUp 8 = .ok (.ifCond .eq 25, 3) := by decide +kernel
theorem dX3_setUp_11 : decode cX3_setUp 11 = .ok (.aload_n 0, 1) := by decide +kernel
theorem dX3_setUp_12 : decode cX3_setUp 12 = .ok (.getfield 9, 3) := by decide +kernel
theorem dX3_setUp_15 : decode cX3_setUp 15 = .ok (.iload_n 1, 1) := by decide +kernel
theorem dX3_setUp_16 : decode cX3_setUp 16 = .ok (.iload_n 2, 1) := by decide +kernel
theorem dX3_setUp_17 : decode cX3_setUp 17 = .ok (.iastore, 1) := by decide +kernel
theorem dX3_setUp_18 : decode cX3_setUp 18 = .ok (.aload_n 0, 1) := by decide +kernel
theorem dX3_setUp_19 : decode cX3_setUp 19 = .ok (.getfield 15, 3) := by decide +kernel
theorem dX3_setUp_22 : decode cX3_setUp 22 = .ok (.iload_n 1, 1) := by decide +kernel
theorem dX3_setUp_23 : decode cX3_setUp 23 = .ok (.iload_n 3, 1) := by decide +kernel
theorem dX3_setUp_24 : decode cX3_setUp 24 = .ok (.iastore, 1) := by decide +kernel
theorem dX3_setUp_25 : decode cX3_setUp 25 = .ok (.aload_n 0, 1) := by decide +kernel
theorem dX3_setUp_26 : decode cX3_setUp 26 = .ok (.getfield 18, 3) := by decide +kernel
theorem dX3_setUp_29 : decode cX3_setUp 29 = .ok (.iload_n 1, 1) := by decide +kernel
theorem dX3_setUp_30 : decode cX3_setUp 30 = .ok (.iload 4, 2) := by decide +kernel
theorem dX3_setUp_32 : decode cX3_setUp 32 = .ok (.iastore, 1) := by decide +kernel
theorem dX3_setUp_33 : decode cX3_setUp 33 = .ok (.return_, 1) := by decide +kernel
set_option maxRecDepth 20000 in
theorem ggX3_pickupAt_X1_isLine : GoodIn wsX3_pickupAt wsX1_isLine := goodIn_r _ [7, 8, 14, 15, 16, 17, 18, 19, 20, 21, 22, 23] (by decide +kernel) (by decide +kernel)
set_option maxRecDepth 20000 in
theorem gX3_pickupAt_X1_isLine : GoodIn wsX3_pickupAt (wsV RX3 29 RX1 yX1_isLine wsX1_isLine) := goodIn_app (goodIn_of _ (by decide +kernel)) ggX3_pickupAt_X1_isLine
theorem dX3_pickupAt_0 : decode cX3_pickupAt 0 = .ok (.aload_n 0, 1) := by decide +kernel
theorem dX3_pickupAt_1 : decode cX3_pickupAt 1 = .ok (.getfield 21, 3) := by decide +kernel
theorem dX3_pickupAt_4 : decode cX3_pickupAt 4 = .ok (.iload_n 1, 1) := by decide +kernel
theorem dX3_pickupAt_5 : decode cX3_pickupAt 5 = .ok (.invokevirtual 29, 3) := by decide +kernel
theorem dX3_pickupAt_8 : decode cX3_pickupAt 8 = .ok (.ifCond .eq 12, 3) := by decide +kernel
theorem dX3_pickupAt_11 : decode cX3_pickupAt 11 = .ok (.aload_n 0, 1) := by decide +kernel
theorem dX3_pickupAt_12 : decode cX3_pickupAt 12 = .ok (.getfield 9, 3) := by decide +kernel
theorem dX3_pickupAt_15 : decode cX3_pickupAt 15 = .ok (.iload_n 1, 1) := by decide +kernel
theorem dX3_pickupAt_16 : decode cX3_pickupAt 16 = .ok (.iaload, 1) := by decide +kernel
theorem dX3_pickupAt_17 : decode cX3_pickupAt 17 = .ok (.goto 4, 3) := by decide +kernel
theorem dX3_pickupAt_20 : decode cX3_pickupAt 20 = .ok (.iconst 0, 1) := by decide +kernel
theorem dX3_pickupAt_21 : decode cX3_pickupAt 21 = .ok (.ireturn, 1) := by decide +kernel
set_option maxRecDepth 20000 in
theorem ggX3_timeFor_X1_isLine : GoodIn wsX3_timeFor wsX1_isLine := goodIn_r _ [9, 10, 19, 20, 21, 22, 23, 24, 25, 26, 27, 28] (by decide +kernel) (by decide +kernel)
set_option maxRecDepth 20000 in
theorem gX3_timeFor_X1_isLine : GoodIn wsX3_timeFor (wsV RX3 29 RX1 yX1_isLine wsX1_isLine) := goodIn_app (goodIn_of _ (by decide +kernel)) ggX3_timeFor_X1_isLine
set_option maxRecDepth 20000 in
theorem ggX3_timeFor_X5_has : GoodIn wsX3_timeFor wsX5_has := goodIn_r _ [13] (by decide +kernel) (by decide +kernel)
set_option maxRecDepth 20000 in
theorem gX3_timeFor_X5_has_n39 : GoodIn wsX3_timeFor (wsX5_has) := ggX3_timeFor_X5_has
theorem dX3_timeFor_0 : decode cX3_timeFor 0 = .ok (.aload_n 0, 1) := by decide +kernel
theorem dX3_timeFor_1 : decode cX3_timeFor 1 = .ok (.getfield 21, 3) := by decide +kernel
theorem dX3_timeFor_4 : decode cX3_timeFor 4 = .ok (.iload_n 1, 1) := by decide +kernel
theorem dX3_timeFor_5 : decode cX3_timeFor 5 = .ok (.invokevirtual 29, 3) := by decide +kernel
theorem dX3_timeFor_8 : decode cX3_timeFor 8 = .ok (.ifCond .eq 17, 3) := by decide +kernel
theorem dX3_timeFor_11 : decode cX3_timeFor 11 = .ok (.aload_n 0, 1) := by decide +kernel
theorem dX3_timeFor_12 : decode cX3_timeFor 12 = .ok (.getfield 21, 3) := by decide +kernel
theorem dX3_timeFor_15 : decode cX3_timeFor 15 = .ok (.getfield 35, 3) := by decide +kernel
theorem dX3_timeFor_18 : decode cX3_timeFor 18 = .ok (.iload_n 1, 1) := by decide +kernel
theorem dX3_timeFor_19 : decode cX3_timeFor 19 = .ok (.invokestatic 39, 3) := by decide +kernel
theorem dX3_timeFor_22 : decode cX3_timeFor 22 = .ok (.ifCond .ne 5, 3) := by decide +kernel
theorem dX3_timeFor_25 : decode cX3_timeFor 25 = .ok (.iconst (-1), 1) := by decide +kernel
theorem dX3_timeFor_26 : decode cX3_timeFor 26 = .ok (.ireturn, 1) := by decide +kernel
theorem dX3_timeFor_27 : decode cX3_timeFor 27 = .ok (.iload_n 2, 1) := by decide +kernel
theorem dX3_timeFor_28 : decode cX3_timeFor 28 = .ok (.aload_n 0, 1) := by decide +kernel
theorem dX3_timeFor_29 : decode cX3_timeFor 29 = .ok (.getfield 9, 3) := by decide +kernel
theorem dX3_timeFor_32 : decode cX3_timeFor 32 = .ok (.iload_n 1, 1) := by decide +kernel
theorem dX3_timeFor_33 : decode cX3_timeFor 33 = .ok (.iaload, 1) := by decide +kernel
theorem dX3_timeFor_34 : decode cX3_timeFor 34 = .ok (.isub, 1) := by decide +kernel
theorem dX3_timeFor_35 : decode cX3_timeFor 35 = .ok (.istore_n 3, 1) := by decide +kernel
theorem dX3_timeFor_36 : decode cX3_timeFor 36 = .ok (.iload_n 3, 1) := by decide +kernel
theorem dX3_timeFor_37 : decode cX3_timeFor 37 = .ok (.ifCond .gt 5, 3) := by decide +kernel
theorem dX3_timeFor_40 : decode cX3_timeFor 40 = .ok (.iconst (-1), 1) := by decide +kernel
theorem dX3_timeFor_41 : decode cX3_timeFor 41 = .ok (.ireturn, 1) := by decide +kernel
theorem dX3_timeFor_42 : decode cX3_timeFor 42 = .ok (.aload_n 0, 1) := by decide +kernel
theorem dX3_timeFor_43 : decode cX3_timeFor 43 = .ok (.getfield 18, 3) := by decide +kernel
theorem dX3_timeFor_46 : decode cX3_timeFor 46 = .ok (.iload_n 1, 1) := by decide +kernel
theorem dX3_timeFor_47 : decode cX3_timeFor 47 = .ok (.iaload, 1) := by decide +kernel
theorem dX3_timeFor_48 : decode cX3_timeFor 48 = .ok (.ifCond .eq 15, 3) := by decide +kernel
theorem dX3_timeFor_51 : decode cX3_timeFor 51 = .ok (.aload_n 0, 1) := by decide +kernel
theorem dX3_timeFor_52 : decode cX3_timeFor 52 = .ok (.getfield 18, 3) := by decide +kernel
theorem dX3_timeFor_55 : decode cX3_timeFor 55 = .ok (.iload_n 1, 1) := by decide +kernel
theorem dX3_timeFor_56 : decode cX3_timeFor 56 = .ok (.iaload, 1) := by decide +kernel
theorem dX3_timeFor_57 : decode cX3_timeFor 57 = .ok (.iload_n 2, 1) := by decide +kernel
theorem dX3_timeFor_58 : decode cX3_timeFor 58 = .ok (.if_icmp .gt 5, 3) := by decide +kernel
theorem dX3_timeFor_61 : decode cX3_timeFor 61 = .ok (.iconst 1, 1) := by decide +kernel
theorem dX3_timeFor_62 : decode cX3_timeFor 62 = .ok (.ireturn, 1) := by decide +kernel
theorem dX3_timeFor_63 : decode cX3_timeFor 63 = .ok (.aload_n 0, 1) := by decide +kernel
theorem dX3_timeFor_64 : decode cX3_timeFor 64 = .ok (.getfield 15, 3) := by decide +kernel
theorem dX3_timeFor_67 : decode cX3_timeFor 67 = .ok (.iload_n 1, 1) := by decide +kernel
theorem dX3_timeFor_68 : decode cX3_timeFor 68 = .ok (.iaload, 1) := by decide +kernel
theorem dX3_timeFor_69 : decode cX3_timeFor 69 = .ok (.aload_n 0, 1) := by decide +kernel
theorem dX3_timeFor_70 : decode cX3_timeFor 70 = .ok (.getfield 9, 3) := by decide +kernel
theorem dX3_timeFor_73 : decode cX3_timeFor 73 = .ok (.iload_n 1, 1) := by decide +kernel
theorem dX3_timeFor_74 : decode cX3_timeFor 74 = .ok (.iaload, 1) := by decide +kernel
theorem dX3_timeFor_75 : decode cX3_timeFor 75 = .ok (.imul, 1) := by decide +kernel
theorem dX3_timeFor_76 : decode cX3_timeFor 76 = .ok (.bipush 10, 2) := by decide +kernel
theorem dX3_timeFor_78 : decode cX3_timeFor 78 = .ok (.imul, 1) := by decide +kernel
theorem dX3_timeFor_79 : decode cX3_timeFor 79 = .ok (.iload_n 3, 1) := by decide +kernel
theorem dX3_timeFor_80 : decode cX3_timeFor 80 = .ok (.idiv, 1) := by decide +kernel
theorem dX3_timeFor_81 : decode cX3_timeFor 81 = .ok (.iconst 2, 1) := by decide +kernel
theorem dX3_timeFor_82 : decode cX3_timeFor 82 = .ok (.iadd, 1) := by decide +kernel
theorem dX3_timeFor_83 : decode cX3_timeFor 83 = .ok (.ireturn, 1) := by decide +kernel
set_option maxRecDepth 20000 in
theorem ggX3_currentOfFault_X1_sourceOfLine : GoodIn wsX3_currentOfFault wsX1_sourceOfLine := goodIn_ca (goodIn_r _ [6, 7, 8, 9, 5, 10, 11, 12, 13, 14, 15, 16, 17, 18, 19, 20, 21, 22, 23, 24, 25, 26, 27, 28, 29, 30, 31, 32, 33, 34, 35, 36, 37, 38, 39, 40, 41, 42, 43, 44, 60, 61, 62, 63, 64, 65, 66, 67, 68, 69] (by decide +kernel) (by decide +kernel)) (goodIn_sub (fun _ h => List.mem_cons_of_mem _ (List.mem_append_right _ h)) (by decide +kernel))
set_option maxRecDepth 20000 in
theorem gX3_currentOfFault_X1_sourceOfLine : GoodIn wsX3_currentOfFault (wsV RX3 43 RX1 yX1_sourceOfLine wsX1_sourceOfLine) := goodIn_app (goodIn_of _ (by decide +kernel)) ggX3_currentOfFault_X1_sourceOfLine
set_option maxRecDepth 20000 in
theorem ggX3_currentOfFault_X1_capacityAt : GoodIn wsX3_currentOfFault wsX1_capacityAt := goodIn_ca (goodIn_r _ [48, 49, 50, 51, 52, 5, 53, 54, 60, 61, 62, 63, 64, 65, 66, 67, 68, 69] (by decide +kernel) (by decide +kernel)) (goodIn_sub (fun _ h => List.mem_cons_of_mem _ (List.mem_append_right _ h)) (by decide +kernel))
set_option maxRecDepth 20000 in
theorem gX3_currentOfFault_X1_capacityAt : GoodIn wsX3_currentOfFault (wsV RX3 47 RX1 yX1_capacityAt wsX1_capacityAt) := goodIn_app (goodIn_of _ (by decide +kernel)) ggX3_currentOfFault_X1_capacityAt
theorem dX3_currentOfFault_0 : decode cX3_currentOfFault 0 = .ok (.aload_n 0, 1) := by decide +kernel
theorem dX3_currentOfFault_1 : decode cX3_currentOfFault 1 = .ok (.getfield 21, 3) := by decide +kernel
theorem dX3_currentOfFault_4 : decode cX3_currentOfFault 4 = .ok (.aload_n 0, 1) := by decide +kernel
theorem dX3_currentOfFault_5 : decode cX3_currentOfFault 5 = .ok (.getfield 21, 3) := by decide +kernel
theorem dX3_currentOfFault_8 : decode cX3_currentOfFault 8 = .ok (.iload_n 1, 1) := by decide +kernel
theorem dX3_currentOfFault_9 : decode cX3_currentOfFault 9 = .ok (.iload_n 3, 1) := by decide +kernel
theorem dX3_currentOfFault_10 : decode cX3_currentOfFault 10 = .ok (.invokevirtual 43, 3) := by decide +kernel
theorem dX3_currentOfFault_13 : decode cX3_currentOfFault 13 = .ok (.invokevirtual 47, 3) := by decide +kernel
theorem dX3_currentOfFault_16 : decode cX3_currentOfFault 16 = .ok (.istore 4, 2) := by decide +kernel
theorem dX3_currentOfFault_18 : decode cX3_currentOfFault 18 = .ok (.iload_n 2, 1) := by decide +kernel
theorem dX3_currentOfFault_19 : decode cX3_currentOfFault 19 = .ok (.ifCond .le 13, 3) := by decide +kernel
theorem dX3_currentOfFault_22 : decode cX3_currentOfFault 22 = .ok (.iload 4, 2) := by decide +kernel
theorem dX3_currentOfFault_24 : decode cX3_currentOfFault 24 = .ok (.bipush 10, 2) := by decide +kernel
theorem dX3_currentOfFault_26 : decode cX3_currentOfFault 26 = .ok (.imul, 1) := by decide +kernel
theorem dX3_currentOfFault_27 : decode cX3_currentOfFault 27 = .ok (.iload_n 2, 1) := by decide +kernel
theorem dX3_currentOfFault_28 : decode cX3_currentOfFault 28 = .ok (.idiv, 1) := by decide +kernel
theorem dX3_currentOfFault_29 : decode cX3_currentOfFault 29 = .ok (.goto 4, 3) := by decide +kernel
theorem dX3_currentOfFault_32 : decode cX3_currentOfFault 32 = .ok (.iconst 0, 1) := by decide +kernel
theorem dX3_currentOfFault_33 : decode cX3_currentOfFault 33 = .ok (.ireturn, 1) := by decide +kernel
set_option maxRecDepth 20000 in
theorem ggX3_answerTo_X0_layPath : GoodIn wsX3_answerTo wsX0_layPath := goodIn_ca (goodIn_r _ [6, 7, 8, 9, 10, 11, 12, 13, 5, 14, 15, 16, 17, 18, 19, 20, 21, 22, 23, 94, 95, 96, 97, 98, 99, 100, 101, 102, 103, 104, 105, 106] (by decide +kernel) (by decide +kernel)) (goodIn_sub (fun _ h => List.mem_cons_of_mem _ (List.mem_append_left _ (List.mem_append_right _ h))) (by decide +kernel))
set_option maxRecDepth 20000 in
theorem gX3_answerTo_X0_layPath : GoodIn wsX3_answerTo (wsV RX3 51 RX0 yX0_layPath wsX0_layPath) := goodIn_app (goodIn_of _ (by decide +kernel)) ggX3_answerTo_X0_layPath
set_option maxRecDepth 20000 in
theorem ggX3_answerTo_X3_currentOfFault : GoodIn wsX3_answerTo wsX3_currentOfFault := goodIn_ca (goodIn_ca (goodIn_r _ [28, 29, 30, 31, 32, 19, 33, 34, 35, 36, 37, 22, 38, 39, 40, 41, 21, 42, 43, 44, 45, 46, 9, 47, 48, 49, 50, 51, 52, 53, 54, 55, 56, 8, 10, 57, 17, 18, 20, 23, 58, 59, 60, 61, 62, 63, 64, 65, 66, 67, 68, 69, 70, 71, 72, 89, 90, 91, 92, 93, 97, 98, 99, 100, 101, 102, 103, 104, 105, 106] (by decide +kernel) (by decide +kernel)) (goodIn_sub (fun _ h => List.mem_cons_of_mem _ (List.mem_append_right _ h)) (by decide +kernel))) (goodIn_sub (fun _ h => List.mem_cons_of_mem _ (List.mem_append_left _ (List.mem_append_right _ h))) (by decide +kernel))
set_option maxRecDepth 20000 in
theorem gX3_answerTo_X3_currentOfFault : GoodIn wsX3_answerTo (wsV RX3 56 RX3 yX3_currentOfFault wsX3_currentOfFault) := goodIn_app (goodIn_of _ (by decide +kernel)) ggX3_answerTo_X3_currentOfFault
set_option maxRecDepth 20000 in
theorem ggX3_answerTo_X3_firstOnPath : GoodIn wsX3_answerTo wsX3_firstOnPath := goodIn_ca (goodIn_ca (goodIn_r _ [76, 1, 77, 78, 79, 5, 80, 15, 81, 82, 83, 27, 84, 29, 85, 86, 87, 88, 39, 40, 19, 41, 21, 8, 9, 10, 89, 90, 91, 92, 93, 94, 95, 96, 97, 98, 99, 100, 101, 102, 103, 104, 105, 106] (by decide +kernel) (by decide +kernel)) (goodIn_sub (fun _ h => List.mem_cons_of_mem _ (List.mem_append_left _ (List.mem_append_right _ h))) (by decide +kernel))) (goodIn_sub (fun _ h => List.mem_cons_of_mem _ (List.mem_append_right _ h)) (by decide +kernel))
set_option maxRecDepth 20000 in
theorem gX3_answerTo_X3_firstOnPath : GoodIn wsX3_answerTo (wsV RX3 60 RX3 yX3_firstOnPath wsX3_firstOnPath) := goodIn_app (goodIn_of _ (by decide +kernel)) ggX3_answerTo_X3_firstOnPath
theorem dX3_answerTo_0 : decode cX3_answerTo 0 = .ok (.aload_n 0, 1) := by decide +kernel
theorem dX3_answerTo_1 : decode cX3_answerTo 1 = .ok (.getfield 25, 3) := by decide +kernel
theorem dX3_answerTo_4 : decode cX3_answerTo 4 = .ok (.iload_n 1, 1) := by decide +kernel
theorem dX3_answerTo_5 : decode cX3_answerTo 5 = .ok (.iload_n 2, 1) := by decide +kernel
theorem dX3_answerTo_6 : decode cX3_answerTo 6 = .ok (.invokevirtual 51, 3) := by decide +kernel
theorem dX3_answerTo_9 : decode cX3_answerTo 9 = .ok (.istore_n 3, 1) := by decide +kernel
theorem dX3_answerTo_10 : decode cX3_answerTo 10 = .ok (.iload_n 3, 1) := by decide +kernel
theorem dX3_answerTo_11 : decode cX3_answerTo 11 = .ok (.ifCond .ne 5, 3) := by decide +kernel
theorem dX3_answerTo_14 : decode cX3_answerTo 14 = .ok (.iconst (-1), 1) := by decide +kernel
theorem dX3_answerTo_15 : decode cX3_answerTo 15 = .ok (.ireturn, 1) := by decide +kernel
theorem dX3_answerTo_16 : decode cX3_answerTo 16 = .ok (.aload_n 0, 1) := by decide +kernel
theorem dX3_answerTo_17 : decode cX3_answerTo 17 = .ok (.iload_n 3, 1) := by decide +kernel
theorem dX3_answerTo_18 : decode cX3_answerTo 18 = .ok (.aload_n 0, 1) := by decide +kernel
theorem dX3_answerTo_19 : decode cX3_answerTo 19 = .ok (.iload_n 1, 1) := by decide +kernel
theorem dX3_answerTo_20 : decode cX3_answerTo 20 = .ok (.iload_n 3, 1) := by decide +kernel
theorem dX3_answerTo_21 : decode cX3_answerTo 21 = .ok (.iload_n 2, 1) := by decide +kernel
theorem dX3_answerTo_22 : decode cX3_answerTo 22 = .ok (.invokevirtual 56, 3) := by decide +kernel
theorem dX3_answerTo_25 : decode cX3_answerTo 25 = .ok (.iconst (-1), 1) := by decide +kernel
theorem dX3_answerTo_26 : decode cX3_answerTo 26 = .ok (.invokevirtual 60, 3) := by decide +kernel
theorem dX3_answerTo_29 : decode cX3_answerTo 29 = .ok (.istore 4, 2) := by decide +kernel
theorem dX3_answerTo_31 : decode cX3_answerTo 31 = .ok (.iload 4, 2) := by decide +kernel
theorem dX3_answerTo_33 : decode cX3_answerTo 33 = .ok (.iconst (-1), 1) := by decide +kernel
theorem dX3_answerTo_34 : decode cX3_answerTo 34 = .ok (.if_icmp .ne 8, 3) := by decide +kernel
theorem dX3_answerTo_37 : decode cX3_answerTo 37 = .ok (.bipush (-2), 2) := by decide +kernel
theorem dX3_answerTo_39 : decode cX3_answerTo 39 = .ok (.goto 5, 3) := by decide +kernel
theorem dX3_answerTo_42 : decode cX3_answerTo 42 = .ok (.iload 4, 2) := by decide +kernel
theorem dX3_answerTo_44 : decode cX3_answerTo 44 = .ok (.ireturn, 1) := by decide +kernel
set_option maxRecDepth 20000 in
theorem ggX3_leadOf_X0_layPath : GoodIn wsX3_leadOf wsX0_layPath := goodIn_ca (goodIn_r _ [6, 7, 8, 9, 10, 11, 12, 13, 5, 14, 15, 16, 17, 18, 19, 20, 21, 22, 23, 94, 95, 96, 97, 98, 99, 100, 101, 102, 103, 104, 105, 106] (by decide +kernel) (by decide +kernel)) (goodIn_sub (fun _ h => List.mem_cons_of_mem _ (List.mem_append_left _ (List.mem_append_right _ h))) (by decide +kernel))
set_option maxRecDepth 20000 in
theorem gX3_leadOf_X0_layPath : GoodIn wsX3_leadOf (wsV RX3 51 RX0 yX0_layPath wsX0_layPath) := goodIn_app (goodIn_of _ (by decide +kernel)) ggX3_leadOf_X0_layPath
set_option maxRecDepth 20000 in
theorem ggX3_leadOf_X3_currentOfFault : GoodIn wsX3_leadOf wsX3_currentOfFault := goodIn_ca (goodIn_ca (goodIn_r _ [28, 29, 30, 31, 32, 19, 33, 34, 35, 36, 37, 22, 38, 39, 40, 41, 21, 42, 43, 44, 45, 46, 9, 47, 48, 49, 50, 51, 52, 53, 54, 55, 56, 8, 10, 57, 17, 18, 20, 23, 58, 59, 60, 61, 62, 63, 64, 65, 66, 67, 68, 69, 70, 71, 72, 89, 90, 91, 92, 93, 97, 98, 99, 100, 101, 102, 103, 104, 105, 106] (by decide +kernel) (by decide +kernel)) (goodIn_sub (fun _ h => List.mem_cons_of_mem _ (List.mem_append_right _ h)) (by decide +kernel))) (goodIn_sub (fun _ h => List.mem_cons_of_mem _ (List.mem_append_left _ (List.mem_append_right _ h))) (by decide +kernel))
set_option maxRecDepth 20000 in
theorem gX3_leadOf_X3_currentOfFault : GoodIn wsX3_leadOf (wsV RX3 56 RX3 yX3_currentOfFault wsX3_currentOfFault) := goodIn_app (goodIn_of _ (by decide +kernel)) ggX3_leadOf_X3_currentOfFault
set_option maxRecDepth 20000 in
theorem ggX3_leadOf_X3_firstOnPath : GoodIn wsX3_leadOf wsX3_firstOnPath := goodIn_ca (goodIn_ca (goodIn_r _ [76, 1, 77, 78, 79, 5, 80, 15, 81, 82, 83, 27, 84, 29, 85, 86, 87, 88, 39, 40, 19, 41, 21, 8, 9, 10, 89, 90, 91, 92, 93, 94, 95, 96, 97, 98, 99, 100, 101, 102, 103, 104, 105, 106] (by decide +kernel) (by decide +kernel)) (goodIn_sub (fun _ h => List.mem_cons_of_mem _ (List.mem_append_left _ (List.mem_append_right _ h))) (by decide +kernel))) (goodIn_sub (fun _ h => List.mem_cons_of_mem _ (List.mem_append_right _ h)) (by decide +kernel))
set_option maxRecDepth 20000 in
theorem gX3_leadOf_X3_firstOnPath : GoodIn wsX3_leadOf (wsV RX3 60 RX3 yX3_firstOnPath wsX3_firstOnPath) := goodIn_app (goodIn_of _ (by decide +kernel)) ggX3_leadOf_X3_firstOnPath
set_option maxRecDepth 20000 in
theorem ggX3_leadOf_X3_timeFor : GoodIn wsX3_leadOf wsX3_timeFor := goodIn_ca (goodIn_ca (goodIn_r _ [84, 29, 85, 86, 87, 88, 39, 40, 19, 41, 21, 8, 9, 10, 89, 90, 91, 92, 93, 97, 98, 99, 100, 101, 102, 103, 104, 105, 106] (by decide +kernel) (by decide +kernel)) (goodIn_sub (fun _ h => List.mem_cons_of_mem _ (List.mem_append_left _ (List.mem_append_right _ h))) (by decide +kernel))) (goodIn_sub (fun _ h => List.mem_cons_of_mem _ (List.mem_append_right _ h)) (by decide +kernel))
set_option maxRecDepth 20000 in
theorem gX3_leadOf_X3_timeFor : GoodIn wsX3_leadOf (wsV RX3 63 RX3 yX3_timeFor wsX3_timeFor) := goodIn_app (goodIn_of _ (by decide +kernel)) ggX3_leadOf_X3_timeFor
theorem dX3_leadOf_0 : decode cX3_leadOf 0 = .ok (.aload_n 0, 1) := by decide +kernel
theorem dX3_leadOf_1 : decode cX3_leadOf 1 = .ok (.getfield 25, 3) := by decide +kernel
theorem dX3_leadOf_4 : decode cX3_leadOf 4 = .ok (.iload_n 1, 1) := by decide +kernel
theorem dX3_leadOf_5 : decode cX3_leadOf 5 = .ok (.iload_n 2, 1) := by decide +kernel
theorem dX3_leadOf_6 : decode cX3_leadOf 6 = .ok (.invokevirtual 51, 3) := by decide +kernel
theorem dX3_leadOf_9 : decode cX3_leadOf 9 = .ok (.istore_n 3, 1) := by decide +kernel
theorem dX3_leadOf_10 : decode cX3_leadOf 10 = .ok (.aload_n 0, 1) := by decide +kernel
theorem dX3_leadOf_11 : decode cX3_leadOf 11 = .ok (.iload_n 1, 1) := by decide +kernel
theorem dX3_leadOf_12 : decode cX3_leadOf 12 = .ok (.iload_n 3, 1) := by decide +kernel
theorem dX3_leadOf_13 : decode cX3_leadOf 13 = .ok (.iload_n 2, 1) := by decide +kernel
theorem dX3_leadOf_14 : decode cX3_leadOf 14 = .ok (.invokevirtual 56, 3) := by decide +kernel
theorem dX3_leadOf_17 : decode cX3_leadOf 17 = .ok (.istore 4, 2) := by decide +kernel
theorem dX3_leadOf_19 : decode cX3_leadOf 19 = .ok (.aload_n 0, 1) := by decide +kernel
theorem dX3_leadOf_20 : decode cX3_leadOf 20 = .ok (.iload_n 3, 1) := by decide +kernel
theorem dX3_leadOf_21 : decode cX3_leadOf 21 = .ok (.iload 4, 2) := by decide +kernel
theorem dX3_leadOf_23 : decode cX3_leadOf 23 = .ok (.iload_n 1, 1) := by decide +kernel
theorem dX3_leadOf_24 : decode cX3_leadOf 24 = .ok (.invokevirtual 60, 3) := by decide +kernel
theorem dX3_leadOf_27 : decode cX3_leadOf 27 = .ok (.istore 5, 2) := by decide +kernel
theorem dX3_leadOf_29 : decode cX3_leadOf 29 = .ok (.iload 5, 2) := by decide +kernel
theorem dX3_leadOf_31 : decode cX3_leadOf 31 = .ok (.iconst (-1), 1) := by decide +kernel
theorem dX3_leadOf_32 : decode cX3_leadOf 32 = .ok (.if_icmp .ne 7, 3) := by decide +kernel
theorem dX3_leadOf_35 : decode cX3_leadOf 35 = .ok (.iconst (-1), 1) := by decide +kernel
theorem dX3_leadOf_36 : decode cX3_leadOf 36 = .ok (.goto 19, 3) := by decide +kernel
theorem dX3_leadOf_39 : decode cX3_leadOf 39 = .ok (.aload_n 0, 1) := by decide +kernel
theorem dX3_leadOf_40 : decode cX3_leadOf 40 = .ok (.iload 5, 2) := by decide +kernel
theorem dX3_leadOf_42 : decode cX3_leadOf 42 = .ok (.iload 4, 2) := by decide +kernel
theorem dX3_leadOf_44 : decode cX3_leadOf 44 = .ok (.invokevirtual 63, 3) := by decide +kernel
theorem dX3_leadOf_47 : decode cX3_leadOf 47 = .ok (.aload_n 0, 1) := by decide +kernel
theorem dX3_leadOf_48 : decode cX3_leadOf 48 = .ok (.iload_n 1, 1) := by decide +kernel
theorem dX3_leadOf_49 : decode cX3_leadOf 49 = .ok (.iload 4, 2) := by decide +kernel
theorem dX3_leadOf_51 : decode cX3_leadOf 51 = .ok (.invokevirtual 63, 3) := by decide +kernel
theorem dX3_leadOf_54 : decode cX3_leadOf 54 = .ok (.isub, 1) := by decide +kernel
theorem dX3_leadOf_55 : decode cX3_leadOf 55 = .ok (.ireturn, 1) := by decide +kernel
set_option maxRecDepth 20000 in
theorem ggX3_firstOnPath_X0_lineOnPath : GoodIn wsX3_firstOnPath wsX0_lineOnPath := goodIn_ca (goodIn_r _ [6, 7, 31, 32, 33] (by decide +kernel) (by decide +kernel)) (goodIn_sub (fun _ h => List.mem_cons_of_mem _ (List.mem_append_left _ (List.mem_append_right _ h))) (by decide +kernel))
set_option maxRecDepth 20000 in
theorem gX3_firstOnPath_X0_lineOnPath : GoodIn wsX3_firstOnPath (wsV RX3 66 RX0 yX0_lineOnPath wsX0_lineOnPath) := goodIn_app (goodIn_of _ (by decide +kernel)) ggX3_firstOnPath_X0_lineOnPath
set_option maxRecDepth 20000 in
theorem ggX3_firstOnPath_X3_timeFor : GoodIn wsX3_firstOnPath wsX3_timeFor := goodIn_ca (goodIn_ca (goodIn_r _ [12, 13, 14, 15, 16, 17, 18, 19, 20, 21, 22, 23, 24, 25, 26, 27, 28, 29, 30, 34, 35, 36, 37, 38, 39, 40, 41, 42, 43] (by decide +kernel) (by decide +kernel)) (goodIn_sub (fun _ h => List.mem_cons_of_mem _ (List.mem_append_left _ (List.mem_append_right _ h))) (by decide +kernel))) (goodIn_sub (fun _ h => List.mem_cons_of_mem _ (List.mem_append_right _ h)) (by decide +kernel))
set_option maxRecDepth 20000 in
theorem gX3_firstOnPath_X3_timeFor : GoodIn wsX3_firstOnPath (wsV RX3 63 RX3 yX3_timeFor wsX3_timeFor) := goodIn_app (goodIn_of _ (by decide +kernel)) ggX3_firstOnPath_X3_timeFor
theorem dX3_firstOnPath_0 : decode cX3_firstOnPath 0 = .ok (.iconst (-1), 1) := by decide +kernel
theorem dX3_firstOnPath_1 : decode cX3_firstOnPath 1 = .ok (.istore 4, 2) := by decide +kernel
theorem dX3_firstOnPath_3 : decode cX3_firstOnPath 3 = .ok (.iconst 0, 1) := by decide +kernel
theorem dX3_firstOnPath_4 : decode cX3_firstOnPath 4 = .ok (.istore 5, 2) := by decide +kernel
theorem dX3_firstOnPath_6 : decode cX3_firstOnPath 6 = .ok (.iconst 0, 1) := by decide +kernel
theorem dX3_firstOnPath_7 : decode cX3_firstOnPath 7 = .ok (.istore 6, 2) := by decide +kernel
theorem dX3_firstOnPath_9 : decode cX3_firstOnPath 9 = .ok (.iload 6, 2) := by decide +kernel
theorem dX3_firstOnPath_11 : decode cX3_firstOnPath 11 = .ok (.iload_n 1, 1) := by decide +kernel
theorem dX3_firstOnPath_12 : decode cX3_firstOnPath 12 = .ok (.if_icmp .ge 66, 3) := by decide +kernel
theorem dX3_firstOnPath_15 : decode cX3_firstOnPath 15 = .ok (.aload_n 0, 1) := by decide +kernel
theorem dX3_firstOnPath_16 : decode cX3_firstOnPath 16 = .ok (.getfield 25, 3) := by decide +kernel
theorem dX3_firstOnPath_19 : decode cX3_firstOnPath 19 = .ok (.iload 6, 2) := by decide +kernel
theorem dX3_firstOnPath_21 : decode cX3_firstOnPath 21 = .ok (.invokevirtual 66, 3) := by decide +kernel
theorem dX3_firstOnPath_24 : decode cX3_firstOnPath 24 = .ok (.istore 7, 2) := by decide +kernel
theorem dX3_firstOnPath_26 : decode cX3_firstOnPath 26 = .ok (.iload 7, 2) := by decide +kernel
theorem dX3_firstOnPath_28 : decode cX3_firstOnPath 28 = .ok (.iload_n 3, 1) := by decide +kernel
theorem dX3_firstOnPath_29 : decode cX3_firstOnPath 29 = .ok (.if_icmp .ne 7, 3) := by decide +kernel
theorem dX3_firstOnPath_32 : decode cX3_firstOnPath 32 = .ok (.iconst (-1), 1) := by decide +kernel
theorem dX3_firstOnPath_33 : decode cX3_firstOnPath 33 = .ok (.goto 10, 3) := by decide +kernel
theorem dX3_firstOnPath_36 : decode cX3_firstOnPath 36 = .ok (.aload_n 0, 1) := by decide +kernel
theorem dX3_firstOnPath_37 : decode cX3_firstOnPath 37 = .ok (.iload 7, 2) := by decide +kernel
theorem dX3_firstOnPath_39 : decode cX3_firstOnPath 39 = .ok (.iload_n 2, 1) := by decide +kernel
theorem dX3_firstOnPath_40 : decode cX3_firstOnPath 40 = .ok (.invokevirtual 63, 3) := by decide +kernel
theorem dX3_firstOnPath_43 : decode cX3_firstOnPath 43 = .ok (.istore 8, 2) := by decide +kernel
theorem dX3_firstOnPath_45 : decode cX3_firstOnPath 45 = .ok (.iload 8, 2) := by decide +kernel
theorem dX3_firstOnPath_47 : decode cX3_firstOnPath 47 = .ok (.iconst (-1), 1) := by decide +kernel
theorem dX3_firstOnPath_48 : decode cX3_firstOnPath 48 = .ok (.if_icmp .eq 24, 3) := by decide +kernel
theorem dX3_firstOnPath_51 : decode cX3_firstOnPath 51 = .ok (.iload 4, 2) := by decide +kernel
theorem dX3_firstOnPath_53 : decode cX3_firstOnPath 53 = .ok (.iconst (-1), 1) := by decide +kernel
theorem dX3_firstOnPath_54 : decode cX3_firstOnPath 54 = .ok (.if_icmp .eq 10, 3) := by decide +kernel
theorem dX3_firstOnPath_57 : decode cX3_firstOnPath 57 = .ok (.iload 8, 2) := by decide +kernel
theorem dX3_firstOnPath_59 : decode cX3_firstOnPath 59 = .ok (.iload 5, 2) := by decide +kernel
theorem dX3_firstOnPath_61 : decode cX3_firstOnPath 61 = .ok (.if_icmp .gt 11, 3) := by decide +kernel
theorem dX3_firstOnPath_64 : decode cX3_firstOnPath 64 = .ok (.iload 7, 2) := by decide +kernel
theorem dX3_firstOnPath_66 : decode cX3_firstOnPath 66 = .ok (.istore 4, 2) := by decide +kernel
theorem dX3_firstOnPath_68 : decode cX3_firstOnPath 68 = .ok (.iload 8, 2) := by decide +kernel
theorem dX3_firstOnPath_70 : decode cX3_firstOnPath 70 = .ok (.istore 5, 2) := by decide +kernel
theorem dX3_firstOnPath_72 : decode cX3_firstOnPath 72 = .ok (.iinc 6 1, 3) := by decide +kernel
theorem dX3_firstOnPath_75 : decode cX3_firstOnPath 75 = .ok (.goto (-66), 3) := by decide +kernel
theorem dX3_firstOnPath_78 : decode cX3_firstOnPath 78 = .ok (.iload 4, 2) := by decide +kernel
theorem dX3_firstOnPath_80 : decode cX3_firstOnPath 80 = .ok (.ireturn, 1) := by decide +kernel
theorem dX4_init_0 : decode cX4_init 0 = .ok (.aload_n 0, 1) := by decide +kernel
theorem dX4_init_1 : decode cX4_init 1 = .ok (.invokespecial 3, 3) := by decide +kernel
theorem dX4_init_4 : decode cX4_init 4 = .ok (.aload_n 0, 1) := by decide +kernel
theorem dX4_init_5 : decode cX4_init 5 = .ok (.aload_n 1, 1) := by decide +kernel
theorem dX4_init_6 : decode cX4_init 6 = .ok (.putfield 9, 3) := by decide +kernel
theorem dX4_init_9 : decode cX4_init 9 = .ok (.aload_n 0, 1) := by decide +kernel
theorem dX4_init_10 : decode cX4_init 10 = .ok (.aload_n 2, 1) := by decide +kernel
theorem dX4_init_11 : decode cX4_init 11 = .ok (.putfield 15, 3) := by decide +kernel
theorem dX4_init_14 : decode cX4_init 14 = .ok (.return_, 1) := by decide +kernel
theorem dX4_closeAll_0 : decode cX4_closeAll 0 = .ok (.aload_n 0, 1) := by decide +kernel
theorem dX4_closeAll_1 : decode cX4_closeAll 1 = .ok (.dup, 1) := by decide +kernel
theorem dX4_closeAll_2 : decode cX4_closeAll 2 = .ok (.getfield 19, 3) := by decide +kernel
theorem dX4_closeAll_5 : decode cX4_closeAll 5 = .ok (.iload_n 1, 1) := by decide +kernel
theorem dX4_closeAll_6 : decode cX4_closeAll 6 = .ok (.ior, 1) := by decide +kernel
theorem dX4_closeAll_7 : decode cX4_closeAll 7 = .ok (.putfield 19, 3) := by decide +kernel
theorem dX4_closeAll_10 : decode cX4_closeAll 10 = .ok (.return_, 1) := by decide +kernel
theorem dX4_openAll_0 : decode cX4_openAll 0 = .ok (.aload_n 0, 1) := by decide +kernel
theorem dX4_openAll_1 : decode cX4_openAll 1 = .ok (.dup, 1) := by decide +kernel
theorem dX4_openAll_2 : decode cX4_openAll 2 = .ok (.getfield 19, 3) := by decide +kernel
theorem dX4_openAll_5 : decode cX4_openAll 5 = .ok (.iload_n 1, 1) := by decide +kernel
theorem dX4_openAll_6 : decode cX4_openAll 6 = .ok (.iconst (-1), 1) := by decide +kernel
theorem dX4_openAll_7 : decode cX4_openAll 7 = .ok (.ixor, 1) := by decide +kernel
theorem dX4_openAll_8 : decode cX4_openAll 8 = .ok (.iand, 1) := by decide +kernel
theorem dX4_openAll_9 : decode cX4_openAll 9 = .ok (.putfield 19, 3) := by decide +kernel
theorem dX4_openAll_12 : decode cX4_openAll 12 = .ok (.return_, 1) := by decide +kernel
theorem dX4_lockOut_0 : decode cX4_lockOut 0 = .ok (.aload_n 0, 1) := by decide +kernel
theorem dX4_lockOut_1 : decode cX4_lockOut 1 = .ok (.dup, 1) := by decide +kernel
theorem dX4_lockOut_2 : decode cX4_lockOut 2 = .ok (.getfield 19, 3) := by decide +kernel
theorem dX4_lockOut_5 : decode cX4_lockOut 5 = .ok (.iload_n 1, 1) := by decide +kernel
theorem dX4_lockOut_6 : decode cX4_lockOut 6 = .ok (.iconst (-1), 1) := by decide +kernel
theorem dX4_lockOut_7 : decode cX4_lockOut 7 = .ok (.ixor, 1) := by decide +kernel
theorem dX4_lockOut_8 : decode cX4_lockOut 8 = .ok (.iand, 1) := by decide +kernel
theorem dX4_lockOut_9 : decode cX4_lockOut 9 = .ok (.putfield 19, 3) := by decide +kernel
theorem dX4_lockOut_12 : decode cX4_lockOut 12 = .ok (.aload_n 0, 1) := by decide +kernel
theorem dX4_lockOut_13 : decode cX4_lockOut 13 = .ok (.dup, 1) := by decide +kernel
theorem dX4_lockOut_14 : decode cX4_lockOut 14 = .ok (.getfield 23, 3) := by decide +kernel
theorem dX4_lockOut_17 : decode cX4_lockOut 17 = .ok (.iload_n 1, 1) := by decide +kernel
theorem dX4_lockOut_18 : decode cX4_lockOut 18 = .ok (.ior, 1) := by decide +kernel
theorem dX4_lockOut_19 : decode cX4_lockOut 19 = .ok (.putfield 23, 3) := by decide +kernel
theorem dX4_lockOut_22 : decode cX4_lockOut 22 = .ok (.return_, 1) := by decide +kernel
theorem dX4_ofPlans_0 : decode cX4_ofPlans 0 = .ok (.aload_n 0, 1) := by decide +kernel
theorem dX4_ofPlans_1 : decode cX4_ofPlans 1 = .ok (.getfield 9, 3) := by decide +kernel
theorem dX4_ofPlans_4 : decode cX4_ofPlans 4 = .ok (.getfield 26, 3) := by decide +kernel
theorem dX4_ofPlans_7 : decode cX4_ofPlans 7 = .ok (.aload_n 0, 1) := by decide +kernel
theorem dX4_ofPlans_8 : decode cX4_ofPlans 8 = .ok (.getfield 19, 3) := by decide +kernel
theorem dX4_ofPlans_11 : decode cX4_ofPlans 11 = .ok (.aload_n 0, 1) := by decide +kernel
theorem dX4_ofPlans_12 : decode cX4_ofPlans 12 = .ok (.getfield 23, 3) := by decide +kernel
theorem dX4_ofPlans_15 : decode cX4_ofPlans 15 = .ok (.ior, 1) := by decide +kernel
theorem dX4_ofPlans_16 : decode cX4_ofPlans 16 = .ok (.aload_n 0, 1) := by decide +kernel
theorem dX4_ofPlans_17 : decode cX4_ofPlans 17 = .ok (.getfield 31, 3) := by decide +kernel
theorem dX4_ofPlans_20 : decode cX4_ofPlans 20 = .ok (.ior, 1) := by decide +kernel
theorem dX4_ofPlans_21 : decode cX4_ofPlans 21 = .ok (.iconst (-1), 1) := by decide +kernel
theorem dX4_ofPlans_22 : decode cX4_ofPlans 22 = .ok (.ixor, 1) := by decide +kernel
theorem dX4_ofPlans_23 : decode cX4_ofPlans 23 = .ok (.iand, 1) := by decide +kernel
theorem dX4_ofPlans_24 : decode cX4_ofPlans 24 = .ok (.ireturn, 1) := by decide +kernel
set_option maxRecDepth 20000 in
theorem ggX4_openReason_X5_has : GoodIn wsX4_openReason wsX5_has := goodIn_r _ [6] (by decide +kernel) (by decide +kernel)
set_option maxRecDepth 20000 in
theorem gX4_openReason_X5_has_n34 : GoodIn wsX4_openReason (wsX5_has) := ggX4_openReason_X5_has
set_option maxRecDepth 20000 in
theorem ggX4_openReason_X0_currentIn : GoodIn wsX4_openReason wsX0_currentIn := goodIn_ca (goodIn_r _ [11, 12, 13, 14, 15, 16, 10, 17, 4, 5, 6, 18, 19, 20, 21, 22, 23, 24, 25, 26, 27, 28, 29, 30, 31, 32, 33, 34, 35, 36, 37, 38, 39, 55, 56, 57, 45, 46, 47, 48, 49, 50, 51, 52, 53, 54] (by decide +kernel) (by decide +kernel)) (goodIn_sub (fun _ h => List.mem_cons_of_mem _ (List.mem_append_right _ h)) (by decide +kernel))
set_option maxRecDepth 20000 in
theorem gX4_openReason_X0_currentIn : GoodIn wsX4_openReason (wsV RX4 38 RX0 yX0_currentIn wsX0_currentIn) := goodIn_app (goodIn_of _ (by decide +kernel)) ggX4_openReason_X0_currentIn
theorem dX4_openReason_0 : decode cX4_openReason 0 = .ok (.aload_n 0, 1) := by decide +kernel
theorem dX4_openReason_1 : decode cX4_openReason 1 = .ok (.getfield 19, 3) := by decide +kernel
theorem dX4_openReason_4 : decode cX4_openReason 4 = .ok (.iload_n 1, 1) := by decide +kernel
theorem dX4_openReason_5 : decode cX4_openReason 5 = .ok (.invokestatic 34, 3) := by decide +kernel
theorem dX4_openReason_8 : decode cX4_openReason 8 = .ok (.ifCond .ne 6, 3) := by decide +kernel
theorem dX4_openReason_11 : decode cX4_openReason 11 = .ok (.bipush 99, 2) := by decide +kernel
theorem dX4_openReason_13 : decode cX4_openReason 13 = .ok (.ireturn, 1) := by decide +kernel
theorem dX4_openReason_14 : decode cX4_openReason 14 = .ok (.aload_n 0, 1) := by decide +kernel
theorem dX4_openReason_15 : decode cX4_openReason 15 = .ok (.getfield 9, 3) := by decide +kernel
theorem dX4_openReason_18 : decode cX4_openReason 18 = .ok (.getfield 26, 3) := by decide +kernel
theorem dX4_openReason_21 : decode cX4_openReason 21 = .ok (.iload_n 1, 1) := by decide +kernel
theorem dX4_openReason_22 : decode cX4_openReason 22 = .ok (.invokestatic 34, 3) := by decide +kernel
theorem dX4_openReason_25 : decode cX4_openReason 25 = .ok (.ifCond .ne 18, 3) := by decide +kernel
theorem dX4_openReason_28 : decode cX4_openReason 28 = .ok (.aload_n 0, 1) := by decide +kernel
theorem dX4_openReason_29 : decode cX4_openReason 29 = .ok (.getfield 15, 3) := by decide +kernel
theorem dX4_openReason_32 : decode cX4_openReason 32 = .ok (.iload_n 1, 1) := by decide +kernel
theorem dX4_openReason_33 : decode cX4_openReason 33 = .ok (.aload_n 0, 1) := by decide +kernel
theorem dX4_openReason_34 : decode cX4_openReason 34 = .ok (.getfield 19, 3) := by decide +kernel
theorem dX4_openReason_37 : decode cX4_openReason 37 = .ok (.invokevirtual 38, 3) := by decide +kernel
theorem dX4_openReason_40 : decode cX4_openReason 40 = .ok (.ifCond .ne 8, 3) := by decide +kernel
theorem dX4_openReason_43 : decode cX4_openReason 43 = .ok (.bipush 110, 2) := by decide +kernel
theorem dX4_openReason_45 : decode cX4_openReason 45 = .ok (.goto 5, 3) := by decide +kernel
theorem dX4_openReason_48 : decode cX4_openReason 48 = .ok (.bipush 100, 2) := by decide +kernel
theorem dX4_openReason_50 : decode cX4_openReason 50 = .ok (.ireturn, 1) := by decide +kernel
set_option maxRecDepth 20000 in
theorem ggX4_closeReason_X5_has : GoodIn wsX4_closeReason wsX5_has := goodIn_r _ [7] (by decide +kernel) (by decide +kernel)
set_option maxRecDepth 20000 in
theorem gX4_closeReason_X5_has_n34 : GoodIn wsX4_closeReason (wsX5_has) := ggX4_closeReason_X5_has
set_option maxRecDepth 20000 in
theorem ggX4_closeReason_X1_oneEnd : GoodIn wsX4_closeReason wsX1_oneEnd := goodIn_ca (goodIn_r _ [12, 13, 14, 15, 16, 11, 17, 18, 100, 101, 102, 103, 104, 105, 106, 107, 108, 109] (by decide +kernel) (by decide +kernel)) (goodIn_sub (fun _ h => List.mem_cons_of_mem _ (List.mem_append_right _ h)) (by decide +kernel))
set_option maxRecDepth 20000 in
theorem gX4_closeReason_X1_oneEnd : GoodIn wsX4_closeReason (wsV RX4 44 RX1 yX1_oneEnd wsX1_oneEnd) := goodIn_app (goodIn_of _ (by decide +kernel)) ggX4_closeReason_X1_oneEnd
set_option maxRecDepth 20000 in
theorem ggX4_closeReason_X1_islandAround : GoodIn wsX4_closeReason wsX1_islandAround := goodIn_ca (goodIn_r _ [22, 23, 6, 24, 25, 26, 27, 28, 29, 30, 31, 32, 11, 33, 18, 5, 7, 34, 35, 36, 37, 13, 38, 100, 101, 102, 103, 104, 105, 106, 107, 108, 109] (by decide +kernel) (by decide +kernel)) (goodIn_sub (fun _ h => List.mem_cons_of_mem _ (List.mem_append_right _ h)) (by decide +kernel))
set_option maxRecDepth 20000 in
theorem gX4_closeReason_X1_islandAround : GoodIn wsX4_closeReason (wsV RX4 48 RX1 yX1_islandAround wsX1_islandAround) := goodIn_app (goodIn_of _ (by decide +kernel)) ggX4_closeReason_X1_islandAround
set_option maxRecDepth 20000 in
theorem ggX4_closeReason_X1_acrossFrom : GoodIn wsX4_closeReason wsX1_acrossFrom := goodIn_ca (goodIn_r _ [37, 18, 13, 38, 100, 101, 102, 103, 104, 105, 106, 107, 108, 109] (by decide +kernel) (by decide +kernel)) (goodIn_sub (fun _ h => List.mem_cons_of_mem _ (List.mem_append_right _ h)) (by decide +kernel))
set_option maxRecDepth 20000 in
theorem gX4_closeReason_X1_acrossFrom : GoodIn wsX4_closeReason (wsV RX4 51 RX1 yX1_acrossFrom wsX1_acrossFrom) := goodIn_app (goodIn_of _ (by decide +kernel)) ggX4_closeReason_X1_acrossFrom
set_option maxRecDepth 20000 in
theorem ggX4_closeReason_X1_sourceIn : GoodIn wsX4_closeReason wsX1_sourceIn := goodIn_r _ [43, 44, 25, 6, 26, 27, 28, 29, 100, 101, 102, 103, 104, 105, 106, 107, 108, 109] (by decide +kernel) (by decide +kernel)
set_option maxRecDepth 20000 in
theorem gX4_closeReason_X1_sourceIn : GoodIn wsX4_closeReason (wsV RX4 54 RX1 yX1_sourceIn wsX1_sourceIn) := goodIn_app (goodIn_of _ (by decide +kernel)) ggX4_closeReason_X1_sourceIn
set_option maxRecDepth 20000 in
theorem ggX4_closeReason_X1_linesAt : GoodIn wsX4_closeReason wsX1_linesAt := goodIn_ca (goodIn_r _ [48, 18, 13, 38, 5, 6, 7, 23, 24, 100, 101, 102, 103, 104, 105, 106, 107, 108, 109] (by decide +kernel) (by decide +kernel)) (goodIn_sub (fun _ h => List.mem_cons_of_mem _ (List.mem_append_right _ h)) (by decide +kernel))
set_option maxRecDepth 20000 in
theorem gX4_closeReason_X1_linesAt : GoodIn wsX4_closeReason (wsV RX4 57 RX1 yX1_linesAt wsX1_linesAt) := goodIn_app (goodIn_of _ (by decide +kernel)) ggX4_closeReason_X1_linesAt
set_option maxRecDepth 20000 in
theorem ggX4_closeReason_X1_loadIn : GoodIn wsX4_closeReason wsX1_loadIn := goodIn_ca (goodIn_r _ [52, 53, 54, 5, 6, 7, 100, 101, 102, 103, 104, 105, 106, 107, 108, 109] (by decide +kernel) (by decide +kernel)) (goodIn_sub (fun _ h => List.mem_cons_of_mem _ (List.mem_append_right _ h)) (by decide +kernel))
set_option maxRecDepth 20000 in
theorem gX4_closeReason_X1_loadIn : GoodIn wsX4_closeReason (wsV RX4 60 RX1 yX1_loadIn wsX1_loadIn) := goodIn_app (goodIn_of _ (by decide +kernel)) ggX4_closeReason_X1_loadIn
set_option maxRecDepth 20000 in
theorem ggX4_closeReason_X1_asksTooMuch : GoodIn wsX4_closeReason wsX1_asksTooMuch := goodIn_ca (goodIn_r _ [58, 59, 50, 51, 11, 52, 53, 54, 5, 6, 7, 60, 41, 42, 43, 44, 25, 26, 27, 28, 29, 61, 62, 63, 64, 65, 66, 67, 68, 69, 100, 101, 102, 103, 104, 105, 106, 107, 108, 109] (by decide +kernel) (by decide +kernel)) (goodIn_sub (fun _ h => List.mem_cons_of_mem _ (List.mem_append_right _ h)) (by decide +kernel))
set_option maxRecDepth 20000 in
theorem gX4_closeReason_X1_asksTooMuch : GoodIn wsX4_closeReason (wsV RX4 63 RX1 yX1_asksTooMuch wsX1_asksTooMuch) := goodIn_app (goodIn_of _ (by decide +kernel)) ggX4_closeReason_X1_asksTooMuch
set_option maxRecDepth 20000 in
theorem ggX4_closeReason_X5_bit : GoodIn wsX4_closeReason wsX5_bit := goodIn_r _ [24] (by decide +kernel) (by decide +kernel)
set_option maxRecDepth 20000 in
theorem gX4_closeReason_X5_bit_n67 : GoodIn wsX4_closeReason (wsX5_bit) := ggX4_closeReason_X5_bit
set_option maxRecDepth 20000 in
theorem ggX4_closeReason_X0_firstOverloaded : GoodIn wsX4_closeReason wsX0_firstOverloaded := goodIn_ca (goodIn_r _ [74, 75, 76, 77, 78, 79, 73, 80, 5, 6, 7, 81, 82, 83, 84, 85, 86, 87, 11, 88, 53, 54, 89, 35, 36, 37, 18, 13, 38, 90, 91, 92, 93, 94, 14, 15, 16, 17, 110, 111, 112, 100, 101, 102, 103, 104, 105, 106, 107, 108, 109] (by decide +kernel) (by decide +kernel)) (goodIn_sub (fun _ h => List.mem_cons_of_mem _ (List.mem_append_right _ h)) (by decide +kernel))
set_option maxRecDepth 20000 in
theorem gX4_closeReason_X0_firstOverloaded : GoodIn wsX4_closeReason (wsV RX4 70 RX0 yX0_firstOverloaded wsX0_firstOverloaded) := goodIn_app (goodIn_of _ (by decide +kernel)) ggX4_closeReason_X0_firstOverloaded
theorem dX4_closeReason_0 : decode cX4_closeReason 0 = .ok (.iload_n 2, 1) := by decide +kernel
theorem dX4_closeReason_1 : decode cX4_closeReason 1 = .ok (.iload_n 1, 1) := by decide +kernel
theorem dX4_closeReason_2 : decode cX4_closeReason 2 = .ok (.invokestatic 34, 3) := by decide +kernel
theorem dX4_closeReason_5 : decode cX4_closeReason 5 = .ok (.ifCond .eq 6, 3) := by decide +kernel
theorem dX4_closeReason_8 : decode cX4_closeReason 8 = .ok (.bipush 99, 2) := by decide +kernel
theorem dX4_closeReason_10 : decode cX4_closeReason 10 = .ok (.ireturn, 1) := by decide +kernel
theorem dX4_closeReason_11 : decode cX4_closeReason 11 = .ok (.aload_n 0, 1) := by decide +kernel
theorem dX4_closeReason_12 : decode cX4_closeReason 12 = .ok (.getfield 23, 3) := by decide +kernel
theorem dX4_closeReason_15 : decode cX4_closeReason 15 = .ok (.iload_n 1, 1) := by decide +kernel
theorem dX4_closeReason_16 : decode cX4_closeReason 16 = .ok (.invokestatic 34, 3) := by decide +kernel
theorem dX4_closeReason_19 : decode cX4_closeReason 19 = .ok (.ifCond .eq 6, 3) := by decide +kernel
theorem dX4_closeReason_22 : decode cX4_closeReason 22 = .ok (.bipush 111, 2) := by decide +kernel
theorem dX4_closeReason_24 : decode cX4_closeReason 24 = .ok (.ireturn, 1) := by decide +kernel
theorem dX4_closeReason_25 : decode cX4_closeReason 25 = .ok (.aload_n 0, 1) := by decide +kernel
theorem dX4_closeReason_26 : decode cX4_closeReason 26 = .ok (.getfield 9, 3) := by decide +kernel
theorem dX4_closeReason_29 : decode cX4_closeReason 29 = .ok (.iload_n 1, 1) := by decide +kernel
theorem dX4_closeReason_30 : decode cX4_closeReason 30 = .ok (.invokevirtual 44, 3) := by decide +kernel
theorem dX4_closeReason_33 : decode cX4_closeReason 33 = .ok (.istore_n 3, 1) := by decide +kernel
theorem dX4_closeReason_34 : decode cX4_closeReason 34 = .ok (.aload_n 0, 1) := by decide +kernel
theorem dX4_closeReason_35 : decode cX4_closeReason 35 = .ok (.getfield 9, 3) := by decide +kernel
theorem dX4_closeReason_38 : decode cX4_closeReason 38 = .ok (.iload_n 3, 1) := by decide +kernel
theorem dX4_closeReason_39 : decode cX4_closeReason 39 = .ok (.iload_n 2, 1) := by decide +kernel
theorem dX4_closeReason_40 : decode cX4_closeReason 40 = .ok (.invokevirtual 48, 3) := by decide +kernel
theorem dX4_closeReason_43 : decode cX4_closeReason 43 = .ok (.istore 4, 2) := by decide +kernel
theorem dX4_closeReason_45 : decode cX4_closeReason 45 = .ok (.aload_n 0, 1) := by decide +kernel
theorem dX4_closeReason_46 : decode cX4_closeReason 46 = .ok (.getfield 9, 3) := by decide +kernel
theorem dX4_closeReason_49 : decode cX4_closeReason 49 = .ok (.aload_n 0, 1) := by decide +kernel
theorem dX4_closeReason_50 : decode cX4_closeReason 50 = .ok (.getfield 9, 3) := by decide +kernel
theorem dX4_closeReason_53 : decode cX4_closeReason 53 = .ok (.iload_n 3, 1) := by decide +kernel
theorem dX4_closeReason_54 : decode cX4_closeReason 54 = .ok (.iload_n 1, 1) := by decide +kernel
theorem dX4_closeReason_55 : decode cX4_closeReason 55 = .ok (.invokevirtual 51, 3) := by decide +kernel
theorem dX4_closeReason_58 : decode cX4_closeReason 58 = .ok (.iload_n 2, 1) := by decide +kernel
theorem dX4_closeReason_59 : decode cX4_closeReason 59 = .ok (.invokevirtual 48, 3) := by decide +kernel
theorem dX4_closeReason_62 : decode cX4_closeReason 62 = .ok (.istore 5, 2) := by decide +kernel
theorem dX4_closeReason_64 : decode cX4_closeReason 64 = .ok (.aload_n 0, 1) := by decide +kernel
theorem dX4_closeReason_65 : decode cX4_closeReason 65 = .ok (.getfield 9, 3) := by decide +kernel
theorem dX4_closeReason_68 : decode cX4_closeReason 68 = .ok (.iload 4, 2) := by decide +kernel
theorem dX4_closeReason_70 : decode cX4_closeReason 70 = .ok (.invokevirtual 54, 3) := by decide +kernel
theorem dX4_closeReason_73 : decode cX4_closeReason 73 = .ok (.iconst (-1), 1) := by decide +kernel
theorem dX4_closeReason_74 : decode cX4_closeReason 74 = .ok (.if_icmp .eq 7, 3) := by decide +kernel
theorem dX4_closeReason_77 : decode cX4_closeReason 77 = .ok (.iconst 1, 1) := by decide +kernel
theorem dX4_closeReason_78 : decode cX4_closeReason 78 = .ok (.goto 4, 3) := by decide +kernel
theorem dX4_closeReason_81 : decode cX4_closeReason 81 = .ok (.iconst 0, 1) := by decide +kernel
theorem dX4_closeReason_82 : decode cX4_closeReason 82 = .ok (.istore 6, 2) := by decide +kernel
theorem dX4_closeReason_84 : decode cX4_closeReason 84 = .ok (.aload_n 0, 1) := by decide +kernel
theorem dX4_closeReason_85 : decode cX4_closeReason 85 = .ok (.getfield 9, 3) := by decide +kernel
theorem dX4_closeReason_88 : decode cX4_closeReason 88 = .ok (.iload 5, 2) := by decide +kernel
theorem dX4_closeReason_90 : decode cX4_closeReason 90 = .ok (.invokevirtual 54, 3) := by decide +kernel
theorem dX4_closeReason_93 : decode cX4_closeReason 93 = .ok (.iconst (-1), 1) := by decide +kernel
theorem dX4_closeReason_94 : decode cX4_closeReason 94 = .ok (.if_icmp .eq 7, 3) := by decide +kernel
theorem dX4_closeReason_97 : decode cX4_closeReason 97 = .ok (.iconst 1, 1) := by decide +kernel
theorem dX4_closeReason_98 : decode cX4_closeReason 98 = .ok (.goto 4, 3) := by decide +kernel
theorem dX4_closeReason_101 : decode cX4_closeReason 101 = .ok (.iconst 0, 1) := by decide +kernel
theorem dX4_closeReason_102 : decode cX4_closeReason 102 = .ok (.istore 7, 2) := by decide +kernel
theorem dX4_closeReason_104 : decode cX4_closeReason 104 = .ok (.iload 6, 2) := by decide +kernel
theorem dX4_closeReason_106 : decode cX4_closeReason 106 = .ok (.iload 7, 2) := by decide +kernel
theorem dX4_closeReason_108 : decode cX4_closeReason 108 = .ok (.if_icmp .ne 7, 3) := by decide +kernel
theorem dX4_closeReason_111 : decode cX4_closeReason 111 = .ok (.iconst 0, 1) := by decide +kernel
theorem dX4_closeReason_112 : decode cX4_closeReason 112 = .ok (.goto 15, 3) := by decide +kernel
theorem dX4_closeReason_115 : decode cX4_closeReason 115 = .ok (.iload 6, 2) := by decide +kernel
theorem dX4_closeReason_117 : decode cX4_closeReason 117 = .ok (.ifCond .eq 8, 3) := by decide +kernel
theorem dX4_closeReason_120 : decode cX4_closeReason 120 = .ok (.iload 5, 2) := by decide +kernel
theorem dX4_closeReason_122 : decode cX4_closeReason 122 = .ok (.goto 5, 3) := by decide +kernel
theorem dX4_closeReason_125 : decode cX4_closeReason 125 = .ok (.iload 4, 2) := by decide +kernel
theorem dX4_closeReason_127 : decode cX4_closeReason 127 = .ok (.istore 8, 2) := by decide +kernel
theorem dX4_closeReason_129 : decode cX4_closeReason 129 = .ok (.aload_n 0, 1) := by decide +kernel
theorem dX4_closeReason_130 : decode cX4_closeReason 130 = .ok (.getfield 31, 3) := by decide +kernel
theorem dX4_closeReason_133 : decode cX4_closeReason 133 = .ok (.iload_n 1, 1) := by decide +kernel
theorem dX4_closeReason_134 : decode cX4_closeReason 134 = .ok (.invokestatic 34, 3) := by decide +kernel
theorem dX4_closeReason_137 : decode cX4_closeReason 137 = .ok (.ifCond .ne 21, 3) := by decide +kernel
theorem dX4_closeReason_140 : decode cX4_closeReason 140 = .ok (.aload_n 0, 1) := by decide +kernel
theorem dX4_closeReason_141 : decode cX4_closeReason 141 = .ok (.getfield 9, 3) := by decide +kernel
theorem dX4_closeReason_144 : decode cX4_closeReason 144 = .ok (.iload 8, 2) := by decide +kernel
theorem dX4_closeReason_146 : decode cX4_closeReason 146 = .ok (.iload_n 2, 1) := by decide +kernel
theorem dX4_closeReason_147 : decode cX4_closeReason 147 = .ok (.invokevirtual 57, 3) := by decide +kernel
theorem dX4_closeReason_150 : decode cX4_closeReason 150 = .ok (.aload_n 0, 1) := by decide +kernel
theorem dX4_closeReason_151 : decode cX4_closeReason 151 = .ok (.getfield 31, 3) := by decide +kernel
theorem dX4_closeReason_154 : decode cX4_closeReason 154 = .ok (.iand, 1) := by decide +kernel
theorem dX4_closeReason_155 : decode cX4_closeReason 155 = .ok (.ifCond .eq 6, 3) := by decide +kernel
theorem dX4_closeReason_158 : decode cX4_closeReason 158 = .ok (.bipush 102, 2) := by decide +kernel
theorem dX4_closeReason_160 : decode cX4_closeReason 160 = .ok (.ireturn, 1) := by decide +kernel
theorem dX4_closeReason_161 : decode cX4_closeReason 161 = .ok (.iload 4, 2) := by decide +kernel
theorem dX4_closeReason_163 : decode cX4_closeReason 163 = .ok (.iload 5, 2) := by decide +kernel
theorem dX4_closeReason_165 : decode cX4_closeReason 165 = .ok (.if_icmp .eq 13, 3) := by decide +kernel
theorem dX4_closeReason_168 : decode cX4_closeReason 168 = .ok (.iload 6, 2) := by decide +kernel
theorem dX4_closeReason_170 : decode cX4_closeReason 170 = .ok (.ifCond .eq 11, 3) := by decide +kernel
theorem dX4_closeReason_173 : decode cX4_closeReason 173 = .ok (.iload 7, 2) := by decide +kernel
theorem dX4_closeReason_175 : decode cX4_closeReason 175 = .ok (.ifCond .eq 6, 3) := by decide +kernel
theorem dX4_closeReason_178 : decode cX4_closeReason 178 = .ok (.bipush 114, 2) := by decide +kernel
theorem dX4_closeReason_180 : decode cX4_closeReason 180 = .ok (.ireturn, 1) := by decide +kernel
theorem dX4_closeReason_181 : decode cX4_closeReason 181 = .ok (.aload_n 0, 1) := by decide +kernel
theorem dX4_closeReason_182 : decode cX4_closeReason 182 = .ok (.getfield 9, 3) := by decide +kernel
theorem dX4_closeReason_185 : decode cX4_closeReason 185 = .ok (.getfield 26, 3) := by decide +kernel
theorem dX4_closeReason_188 : decode cX4_closeReason 188 = .ok (.iload_n 1, 1) := by decide +kernel
theorem dX4_closeReason_189 : decode cX4_closeReason 189 = .ok (.invokestatic 34, 3) := by decide +kernel
theorem dX4_closeReason_192 : decode cX4_closeReason 192 = .ok (.ifCond .ne 18, 3) := by decide +kernel
theorem dX4_closeReason_195 : decode cX4_closeReason 195 = .ok (.aload_n 0, 1) := by decide +kernel
theorem dX4_closeReason_196 : decode cX4_closeReason 196 = .ok (.getfield 9, 3) := by decide +kernel
theorem dX4_closeReason_199 : decode cX4_closeReason 199 = .ok (.iload 8, 2) := by decide +kernel
theorem dX4_closeReason_201 : decode cX4_closeReason 201 = .ok (.invokevirtual 60, 3) := by decide +kernel
theorem dX4_closeReason_204 : decode cX4_closeReason 204 = .ok (.ifCond .le 6, 3) := by decide +kernel
theorem dX4_closeReason_207 : decode cX4_closeReason 207 = .ok (.bipush 100, 2) := by decide +kernel
theorem dX4_closeReason_209 : decode cX4_closeReason 209 = .ok (.ireturn, 1) := by decide +kernel
theorem dX4_closeReason_210 : decode cX4_closeReason 210 = .ok (.iload 8, 2) := by decide +kernel
theorem dX4_closeReason_212 : decode cX4_closeReason 212 = .ok (.ifCond .ne 6, 3) := by decide +kernel
theorem dX4_closeReason_215 : decode cX4_closeReason 215 = .ok (.bipush 110, 2) := by decide +kernel
theorem dX4_closeReason_217 : decode cX4_closeReason 217 = .ok (.ireturn, 1) := by decide +kernel
theorem dX4_closeReason_218 : decode cX4_closeReason 218 = .ok (.aload_n 0, 1) := by decide +kernel
theorem dX4_closeReason_219 : decode cX4_closeReason 219 = .ok (.getfield 9, 3) := by decide +kernel
theorem dX4_closeReason_222 : decode cX4_closeReason 222 = .ok (.iload 4, 2) := by decide +kernel
theorem dX4_closeReason_224 : decode cX4_closeReason 224 = .ok (.iload 5, 2) := by decide +kernel
theorem dX4_closeReason_226 : decode cX4_closeReason 226 = .ok (.ior, 1) := by decide +kernel
theorem dX4_closeReason_227 : decode cX4_closeReason 227 = .ok (.invokevirtual 63, 3) := by decide +kernel
theorem dX4_closeReason_230 : decode cX4_closeReason 230 = .ok (.ifCond .eq 6, 3) := by decide +kernel
theorem dX4_closeReason_233 : decode cX4_closeReason 233 = .ok (.bipush 115, 2) := by decide +kernel
theorem dX4_closeReason_235 : decode cX4_closeReason 235 = .ok (.ireturn, 1) := by decide +kernel
theorem dX4_closeReason_236 : decode cX4_closeReason 236 = .ok (.aload_n 0, 1) := by decide +kernel
theorem dX4_closeReason_237 : decode cX4_closeReason 237 = .ok (.getfield 15, 3) := by decide +kernel
theorem dX4_closeReason_240 : decode cX4_closeReason 240 = .ok (.iload_n 2, 1) := by decide +kernel
theorem dX4_closeReason_241 : decode cX4_closeReason 241 = .ok (.iload_n 1, 1) := by decide +kernel
theorem dX4_closeReason_242 : decode cX4_closeReason 242 = .ok (.invokestatic 67, 3) := by decide +kernel
theorem dX4_closeReason_245 : decode cX4_closeReason 245 = .ok (.ior, 1) := by decide +kernel
theorem dX4_closeReason_246 : decode cX4_closeReason 246 = .ok (.invokevirtual 70, 3) := by decide +kernel
theorem dX4_closeReason_249 : decode cX4_closeReason 249 = .ok (.iconst (-1), 1) := by decide +kernel
theorem dX4_closeReason_250 : decode cX4_closeReason 250 = .ok (.if_icmp .ne 8, 3) := by decide +kernel
theorem dX4_closeReason_253 : decode cX4_closeReason 253 = .ok (.bipush 110, 2) := by decide +kernel
theorem dX4_closeReason_255 : decode cX4_closeReason 255 = .ok (.goto 5, 3) := by decide +kernel
theorem dX4_closeReason_258 : decode cX4_closeReason 258 = .ok (.bipush 108, 2) := by decide +kernel
theorem dX4_closeReason_260 : decode cX4_closeReason 260 = .ok (.ireturn, 1) := by decide +kernel
set_option maxRecDepth 20000 in
theorem ggX4_keepLimits_X5_has : GoodIn wsX4_keepLimits wsX5_has := goodIn_r _ [6] (by decide +kernel) (by decide +kernel)
set_option maxRecDepth 20000 in
theorem gX4_keepLimits_X5_has_n34 : GoodIn wsX4_keepLimits (wsX5_has) := ggX4_keepLimits_X5_has
set_option maxRecDepth 20000 in
theorem ggX4_keepLimits_X1_islandAround : GoodIn wsX4_keepLimits wsX1_islandAround := goodIn_ca (goodIn_r _ [11, 12, 5, 13, 14, 15, 16, 17, 18, 19, 20, 21, 10, 22, 23, 4, 6, 24, 25, 26, 27, 28, 29, 88, 89, 90, 91, 92, 93, 94, 95, 96, 97] (by decide +kernel) (by decide +kernel)) (goodIn_sub (fun _ h => List.mem_cons_of_mem _ (List.mem_append_right _ h)) (by decide +kernel))
set_option maxRecDepth 20000 in
theorem gX4_keepLimits_X1_islandAround : GoodIn wsX4_keepLimits (wsV RX4 48 RX1 yX1_islandAround wsX1_islandAround) := goodIn_app (goodIn_of _ (by decide +kernel)) ggX4_keepLimits_X1_islandAround
set_option maxRecDepth 20000 in
theorem ggX4_keepLimits_X1_asksTooMuch : GoodIn wsX4_keepLimits wsX1_asksTooMuch := goodIn_ca (goodIn_r _ [33, 34, 35, 36, 10, 37, 38, 39, 4, 5, 6, 40, 41, 42, 43, 44, 14, 15, 16, 17, 18, 45, 46, 47, 48, 49, 50, 51, 52, 53, 88, 89, 90, 91, 92, 93, 94, 95, 96, 97] (by decide +kernel) (by decide +kernel)) (goodIn_sub (fun _ h => List.mem_cons_of_mem _ (List.mem_append_right _ h)) (by decide +kernel))
set_option maxRecDepth 20000 in
theorem gX4_keepLimits_X1_asksTooMuch : GoodIn wsX4_keepLimits (wsV RX4 63 RX1 yX1_asksTooMuch wsX1_asksTooMuch) := goodIn_app (goodIn_of _ (by decide +kernel)) ggX4_keepLimits_X1_asksTooMuch
set_option maxRecDepth 20000 in
theorem ggX4_keepLimits_X0_firstOverloaded : GoodIn wsX4_keepLimits wsX0_firstOverloaded := goodIn_ca (goodIn_r _ [58, 59, 60, 61, 62, 63, 57, 64, 4, 5, 6, 65, 66, 67, 68, 69, 70, 71, 10, 72, 38, 39, 73, 25, 26, 27, 23, 28, 29, 74, 75, 76, 77, 78, 79, 80, 81, 82, 98, 99, 100, 88, 89, 90, 91, 92, 93, 94, 95, 96, 97] (by decide +kernel) (by decide +kernel)) (goodIn_sub (fun _ h => List.mem_cons_of_mem _ (List.mem_append_right _ h)) (by decide +kernel))
set_option maxRecDepth 20000 in
theorem gX4_keepLimits_X0_firstOverloaded : GoodIn wsX4_keepLimits (wsV RX4 70 RX0 yX0_firstOverloaded wsX0_firstOverloaded) := goodIn_app (goodIn_of _ (by decide +kernel)) ggX4_keepLimits_X0_firstOverloaded
theorem dX4_keepLimits_0 : decode cX4_keepLimits 0 = .ok (.iconst 0, 1) := by decide +kernel
theorem dX4_keepLimits_1 : decode cX4_keepLimits 1 = .ok (.istore_n 1, 1) := by decide +kernel
theorem dX4_keepLimits_2 : decode cX4_keepLimits 2 = .ok (.iload_n 1, 1) := by decide +kernel
theorem dX4_keepLimits_3 : decode cX4_keepLimits 3 = .ok (.aload_n 0, 1) := by decide +kernel
theorem dX4_keepLimits_4 : decode cX4_keepLimits 4 = .ok (.getfield 9, 3) := by decide +kernel
theorem dX4_keepLimits_7 : decode cX4_keepLimits 7 = .ok (.getfield 73, 3) := by decide +kernel
theorem dX4_keepLimits_10 : decode cX4_keepLimits 10 = .ok (.if_icmp .ge 47, 3) := by decide +kernel
theorem dX4_keepLimits_13 : decode cX4_keepLimits 13 = .ok (.aload_n 0, 1) := by decide +kernel
theorem dX4_keepLimits_14 : decode cX4_keepLimits 14 = .ok (.getfield 9, 3) := by decide +kernel
theorem dX4_keepLimits_17 : decode cX4_keepLimits 17 = .ok (.getfield 76, 3) := by decide +kernel
theorem dX4_keepLimits_20 : decode cX4_keepLimits 20 = .ok (.iload_n 1, 1) := by decide +kernel
theorem dX4_keepLimits_21 : decode cX4_keepLimits 21 = .ok (.invokestatic 34, 3) := by decide +kernel
theorem dX4_keepLimits_24 : decode cX4_keepLimits 24 = .ok (.ifCond .eq 27, 3) := by decide +kernel
theorem dX4_keepLimits_27 : decode cX4_keepLimits 27 = .ok (.aload_n 0, 1) := by decide +kernel
theorem dX4_keepLimits_28 : decode cX4_keepLimits 28 = .ok (.getfield 9, 3) := by decide +kernel
theorem dX4_keepLimits_31 : decode cX4_keepLimits 31 = .ok (.aload_n 0, 1) := by decide +kernel
theorem dX4_keepLimits_32 : decode cX4_keepLimits 32 = .ok (.getfield 9, 3) := by decide +kernel
theorem dX4_keepLimits_35 : decode cX4_keepLimits 35 = .ok (.iload_n 1, 1) := by decide +kernel
theorem dX4_keepLimits_36 : decode cX4_keepLimits 36 = .ok (.aload_n 0, 1) := by decide +kernel
theorem dX4_keepLimits_37 : decode cX4_keepLimits 37 = .ok (.getfield 19, 3) := by decide +kernel
theorem dX4_keepLimits_40 : decode cX4_keepLimits 40 = .ok (.invokevirtual 48, 3) := by decide +kernel
theorem dX4_keepLimits_43 : decode cX4_keepLimits 43 = .ok (.invokevirtual 63, 3) := by decide +kernel
theorem dX4_keepLimits_46 : decode cX4_keepLimits 46 = .ok (.ifCond .eq 5, 3) := by decide +kernel
theorem dX4_keepLimits_49 : decode cX4_keepLimits 49 = .ok (.iconst 0, 1) := by decide +kernel
theorem dX4_keepLimits_50 : decode cX4_keepLimits 50 = .ok (.ireturn, 1) := by decide +kernel
theorem dX4_keepLimits_51 : decode cX4_keepLimits 51 = .ok (.iinc 1 1, 3) := by decide +kernel
theorem dX4_keepLimits_54 : decode cX4_keepLimits 54 = .ok (.goto (-52), 3) := by decide +kernel
theorem dX4_keepLimits_57 : decode cX4_keepLimits 57 = .ok (.aload_n 0, 1) := by decide +kernel
theorem dX4_keepLimits_58 : decode cX4_keepLimits 58 = .ok (.getfield 15, 3) := by decide +kernel
theorem dX4_keepLimits_61 : decode cX4_keepLimits 61 = .ok (.aload_n 0, 1) := by decide +kernel
theorem dX4_keepLimits_62 : decode cX4_keepLimits 62 = .ok (.getfield 19, 3) := by decide +kernel
theorem dX4_keepLimits_65 : decode cX4_keepLimits 65 = .ok (.invokevirtual 70, 3) := by decide +kernel
theorem dX4_keepLimits_68 : decode cX4_keepLimits 68 = .ok (.iconst (-1), 1) := by decide +kernel
theorem dX4_keepLimits_69 : decode cX4_keepLimits 69 = .ok (.if_icmp .ne 7, 3) := by decide +kernel
theorem dX4_keepLimits_72 : decode cX4_keepLimits 72 = .ok (.iconst 1, 1) := by decide +kernel
theorem dX4_keepLimits_73 : decode cX4_keepLimits 73 = .ok (.goto 4, 3) := by decide +kernel
theorem dX4_keepLimits_76 : decode cX4_keepLimits 76 = .ok (.iconst 0, 1) := by decide +kernel
theorem dX4_keepLimits_77 : decode cX4_keepLimits 77 = .ok (.ireturn, 1) := by decide +kernel
set_option maxRecDepth 20000 in
theorem ggX5_init_X1_init : GoodIn wsX5_init wsX1_init := goodIn_r _ [25, 26, 2, 3, 27, 28, 29, 30, 31, 32, 33, 62, 63, 64, 65, 66, 67, 68, 69, 70, 71] (by decide +kernel) (by decide +kernel)
set_option maxRecDepth 20000 in
theorem gX5_init_X1_init_n9 : GoodIn wsX5_init (wsX1_init) := ggX5_init_X1_init
set_option maxRecDepth 20000 in
theorem ggX5_init_X0_init : GoodIn wsX5_init wsX0_init := goodIn_r _ [36, 37, 2, 3, 27, 38, 39, 40, 78, 79, 80] (by decide +kernel) (by decide +kernel)
set_option maxRecDepth 20000 in
theorem gX5_init_X0_init : GoodIn wsX5_init (wsX0_init) := ggX5_init_X0_init
set_option maxRecDepth 20000 in
theorem ggX5_init_X4_init : GoodIn wsX5_init wsX4_init := goodIn_r _ [43, 44, 2, 3, 45, 46, 81, 82, 83, 84, 85] (by decide +kernel) (by decide +kernel)
set_option maxRecDepth 20000 in
theorem gX5_init_X4_init : GoodIn wsX5_init (wsX4_init) := ggX5_init_X4_init
set_option maxRecDepth 20000 in
theorem ggX5_init_X3_init : GoodIn wsX5_init wsX3_init := goodIn_r _ [49, 50, 2, 3, 27, 51, 52, 53, 54, 55, 86, 87, 88, 89, 90] (by decide +kernel) (by decide +kernel)
set_option maxRecDepth 20000 in
theorem gX5_init_X3_init : GoodIn wsX5_init (wsX3_init) := ggX5_init_X3_init
set_option maxRecDepth 20000 in
theorem ggX5_init_X2_init : GoodIn wsX5_init wsX2_init := goodIn_r _ [58, 59, 2, 3, 60, 61, 91, 92, 93, 94, 95] (by decide +kernel) (by decide +kernel)
set_option maxRecDepth 20000 in
theorem gX5_init_X2_init : GoodIn wsX5_init (wsX2_init) := ggX5_init_X2_init
theorem dX5_init_0 : decode cX5_init 0 = .ok (.aload_n 0, 1) := by decide +kernel
theorem dX5_init_1 : decode cX5_init 1 = .ok (.invokespecial 1, 3) := by decide +kernel
theorem dX5_init_4 : decode cX5_init 4 = .ok (.aload_n 0, 1) := by decide +kernel
theorem dX5_init_5 : decode cX5_init 5 = .ok (.new 7, 3) := by decide +kernel
theorem dX5_init_8 : decode cX5_init 8 = .ok (.dup, 1) := by decide +kernel
theorem dX5_init_9 : decode cX5_init 9 = .ok (.invokespecial 9, 3) := by decide +kernel
theorem dX5_init_12 : decode cX5_init 12 = .ok (.putfield 10, 3) := by decide +kernel
theorem dX5_init_15 : decode cX5_init 15 = .ok (.aload_n 0, 1) := by decide +kernel
theorem dX5_init_16 : decode cX5_init 16 = .ok (.new 16, 3) := by decide +kernel
theorem dX5_init_19 : decode cX5_init 19 = .ok (.dup, 1) := by decide +kernel
theorem dX5_init_20 : decode cX5_init 20 = .ok (.aload_n 0, 1) := by decide +kernel
theorem dX5_init_21 : decode cX5_init 21 = .ok (.getfield 10, 3) := by decide +kernel
theorem dX5_init_24 : decode cX5_init 24 = .ok (.invokespecial 18, 3) := by decide +kernel
theorem dX5_init_27 : decode cX5_init 27 = .ok (.putfield 21, 3) := by decide +kernel
theorem dX5_init_30 : decode cX5_init 30 = .ok (.aload_n 0, 1) := by decide +kernel
theorem dX5_init_31 : decode cX5_init 31 = .ok (.new 25, 3) := by decide +kernel
theorem dX5_init_34 : decode cX5_init 34 = .ok (.dup, 1) := by decide +kernel
theorem dX5_init_35 : decode cX5_init 35 = .ok (.aload_n 0, 1) := by decide +kernel
theorem dX5_init_36 : decode cX5_init 36 = .ok (.getfield 10, 3) := by decide +kernel
theorem dX5_init_39 : decode cX5_init 39 = .ok (.aload_n 0, 1) := by decide +kernel
theorem dX5_init_40 : decode cX5_init 40 = .ok (.getfield 21, 3) := by decide +kernel
theorem dX5_init_43 : decode cX5_init 43 = .ok (.invokespecial 27, 3) := by decide +kernel
theorem dX5_init_46 : decode cX5_init 46 = .ok (.putfield 30, 3) := by decide +kernel
theorem dX5_init_49 : decode cX5_init 49 = .ok (.aload_n 0, 1) := by decide +kernel
