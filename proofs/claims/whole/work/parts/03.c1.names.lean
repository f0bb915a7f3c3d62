theorem dX2_canBeClosedInOrder_55 : decode cX2_canBeClosedInOrder 55 = .ok (.iconst 1, 1) := by decide +kernel
theorem dX2_canBeClosedInOrder_56 : decode cX2_canBeClosedInOrder 56 = .ok (.ireturn, 1) := by decide +kernel
theorem dX3_init_0 : decode cX3_init 0 = .ok (.aload_n 0, 1) := by decide +kernel
theorem dX3_init_1 : decode cX3_init 1 = .ok (.invokespecial 3, 3) := by decide +kernel
theorem dX3_init_4 : decode cX3_init 4 = .ok (.aload_n 0, 1) := by decide +kernel
theorem dX3_init_5 : decode cX3_init 5 = .ok (.bipush 12, 2) := by decide +kernel
theorem dX3_init_7 : decode cX3_init 7 = .ok (.newarray .int, 2) := by decide +kernel
theorem dX3_init_9 : decode cX3_init 9 = .ok (.putfield 9, 3) := by decide +kernel
theorem dX3_init_12 : decode cX3_init 12 = .ok (.aload_n 0, 1) := by decide +kernel
theorem dX3_init_13 : decode cX3_init 13 = .ok (.bipush 12, 2) := by decide +kernel
theorem dX3_init_15 : decode cX3_init 15 = .ok (.newarray .int, 2) := by decide +kernel
theorem dX3_init_17 : decode cX3_init 17 = .ok (.putfield 15, 3) := by decide +kernel
theorem dX3_init_20 : decode cX3_init 20 = .ok (.aload_n 0, 1) := by decide +kernel
theorem dX3_init_21 : decode cX3_init 21 = .ok (.bipush 12, 2) := by decide +kernel
theorem dX3_init_23 : decode cX3_init 23 = .ok (.newarray .int, 2) := by decide +kernel
theorem dX3_init_25 : decode cX3_init 25 = .ok (.putfield 18, 3) := by decide +kernel
theorem dX3_init_28 : decode cX3_init 28 = .ok (.aload_n 0, 1) := by decide +kernel
theorem dX3_init_29 : decode cX3_init 29 = .ok (.aload_n 1, 1) := by decide +kernel
theorem dX3_init_30 : decode cX3_init 30 = .ok (.putfield 21, 3) := by decide +kernel
theorem dX3_init_33 : decode cX3_init 33 = .ok (.aload_n 0, 1) := by decide +kernel
theorem dX3_init_34 : decode cX3_init 34 = .ok (.aload_n 2, 1) := by decide +kernel
theorem dX3_init_35 : decode cX3_init 35 = .ok (.putfield 25, 3) := by decide +kernel
theorem dX3_init_38 : decode cX3_init 38 = .ok (.return_, 1) := by decide +kernel
set_option maxRecDepth 20000 in
theorem ggX3_setUp_X1_isLine : GoodIn wsX3_setUp wsX1_isLine := goodIn_r _ [9, 10, 16, 17, 18, 19, 20, 21, 22, 23, 24, 25] (by decide +kernel) (by decide +kernel)
set_option maxRecDepth 20000 in
theorem gX3_setUp_X1_isLine : GoodIn wsX3_setUp (wsV RX3 29 RX1 yX1_isLine wsX1_isLine) := goodIn_app (goodIn_of _ (by decide +kernel)) ggX3_setUp_X1_isLine
theorem dX3_setUp_0 : decode cX3_setUp 0 = .ok (.aload_n 0, 1) := by decide +kernel
theorem dX3_setUp_1 : decode cX3_setUp 1 = .ok (.getfield 21, 3) := by decide +kernel
theorem dX3_setUp_4 : decode cX3_setUp 4 = .ok (.iload_n 1, 1) := by decide +kernel
theorem dX3_setUp_5 : decode cX3_setUp 5 = .ok (.invokevirtual 29, 3) := by decide +kernel
theorem dX3_setUp_8 : decode cX3_setUp 8 = .ok (.ifCond .eq 25, 3) := by decide +kernel
theorem dX3_setUp_11 : decode cX3_setUp 11 = .ok (.aload_n 0, 1) := by decide +kernel
theorem dX3_setUp_12 : decode cX3_setUp 12 = .ok (.getfield 9, 3) := by decide +kernel
theorem dX3_setUp_15 : decode cX3_setUp 15 = .ok (.iload_n 1, 1) := by decide +kernel
theorem dX3_setUp_16 : decode cX3_setUp 16 = .ok (.iload_n 2, 1) := by decide +kernel
theorem dX3_setUp_17 : decode cX3_setUp 17 = .ok (.iastore, 1) := by decide +kernel
theorem dX3_setUp_18 : decode cX3_setUp 18 = .ok (.aload_n 0, 1) := by decide +kernel
theorem dX3_setUp_19 : decode cX3_setUp 19 = .ok (.getfield 15, 3) := by decide +kernel
theorem dX3_setUp_22 : decode cX3_setUp 22 = .ok (.iload_n 1, 1) := by decide +kernel
theorem dX3_setUp_23 : decode cX3_setUp 23 = .ok (.iload_n 3, 1) := by decide +kernel
theorem dX3_setUp_24 : decode cX3_setUp 24 = .ok (.iastore, 1) := by decide +kernel
theorem dX3_setUp_25 : decode cX3_setUp 25 = .ok (.aload_n 0, 1) := by decide +kernel
theorem dX3_setUp_26 : decode cX3_setUp 26 = .ok (.getfield 18, 3) := by decide +kernel
theorem dX3_setUp_29 : decode cX3_setUp 29 = .ok (.iload_n 1, 1) := by decide +kernel
theorem dX3_setUp_30 : decode cX3_setUp 30 = .ok (.iload 4, 2) := by decide +kernel
theorem dX3_setUp_32 : decode cX3_setUp 32 = .ok (.iastore, 1) := by decide +kernel
theorem dX3_setUp_33 : decode cX3_setUp 33 = .ok (.return_, 1) := by decide +kernel
set_option maxRecDepth 20000 in
theorem ggX3_pickupAt_X1_isLine : GoodIn wsX3_pickupAt wsX1_isLine := goodIn_r _ [7, 8, 14, 15, 16, 17, 18, 19, 20, 21, 22, 23] (by decide +kernel) (by decide +kernel)
set_option maxRecDepth 20000 in
theorem gX3_pickupAt_X1_isLine : GoodIn wsX3_pickupAt (wsV RX3 29 RX1 yX1_isLine wsX1_isLine) := goodIn_app (goodIn_of _ (by decide +kernel)) ggX3_pickupAt_X1_isLine
theorem dX3_pickupAt_0 : decode cX3_pickupAt 0 = .ok (.aload_n 0, 1) := by decide +kernel
theorem dX3_pickupAt_1 : decode cX3_pickupAt 1 = .ok (.getfield 21, 3) := by decide +kernel
theorem dX3_pickupAt_4 : decode cX3_pickupAt 4 = .ok (.iload_n 1, 1) := by decide +kernel
theorem dX3_pickupAt_5 : decode cX3_pickupAt 5 = .ok (.invokevirtual 29, 3) := by decide +kernel
theorem dX3_pickupAt_8 : decode cX3_pickupAt 8 = .ok (.ifCond .eq 12, 3) := by decide +kernel
theorem dX3_pickupAt_11 : decode cX3_pickupAt 11 = .ok (.aload_n 0, 1) := by decide +kernel
theorem dX3_pickupAt_12 : decode cX3_pickupAt 12 = .ok (.getfield 9, 3) := by decide +kernel
theorem dX3_pickupAt_15 : decode cX3_pickupAt 15 = .ok (.iload_n 1, 1) := by decide +kernel
theorem dX3_pickupAt_16 : decode cX3_pickupAt 16 = .ok (.iaload, 1) := by decide +kernel
theorem dX3_pickupAt_17 : decode cX3_pickupAt 17 = .ok (.goto 4, 3) := by decide +kernel
theorem dX3_pickupAt_20 : decode cX3_pickupAt 20 = .ok (.iconst 0, 1) := by decide +kernel
theorem dX3_pickupAt_21 : decode cX3_pickupAt 21 = .ok (.ireturn, 1) := by decide +kernel
set_option maxRecDepth 20000 in
theorem ggX3_timeFor_X1_isLine : GoodIn wsX3_timeFor wsX1_isLine := goodIn_r _ [9, 10, 19, 20, 21, 22, 23, 24, 25, 26, 27, 28] (by decide +kernel) (by decide +kernel)
set_option maxRecDepth 20000 in
theorem gX3_timeFor_X1_isLine : GoodIn wsX3_timeFor (wsV RX3 29 RX1 yX1_isLine wsX1_isLine) := goodIn_app (goodIn_of _ (by decide +kernel)) ggX3_timeFor_X1_isLine
set_option maxRecDepth 20000 in
theorem ggX3_timeFor_X5_has : GoodIn wsX3_timeFor wsX5_has := goodIn_r _ [13] (by decide +kernel) (by decide +kernel)
set_option maxRecDepth 20000 in
theorem gX3_timeFor_X5_has_n39 : GoodIn wsX3_timeFor (wsX5_has) := ggX3_timeFor_X5_has
theorem dX3_timeFor_0 : decode cX3_timeFor 0 = .ok (.aload_n 0, 1) := by decide +kernel
theorem dX3_timeFor_1 : decode cX3_timeFor 1 = .ok (.getfield 21, 3) := by decide +kernel
theorem dX3_timeFor_4 : decode cX3_timeFor 4 = .ok (.iload_n 1, 1) := by decide +kernel
theorem dX3_timeFor_5 : decode cX3_timeFor 5 = .ok (.invokevirtual 29, 3) := by decide +kernel
theorem dX3_timeFor_8 : decode cX3_timeFor 8 = .ok (.ifCond .eq 17, 3) := by decide +kernel
theorem dX3_timeFor_11 : decode cX3_timeFor 11 = .ok (.aload_n 0, 1) := by decide +kernel
theorem dX3_timeFor_12 : decode cX3_timeFor 12 = .ok (.getfield 21, 3) := by decide +kernel
theorem dX3_timeFor_15 : decode cX3_timeFor 15 = .ok (.getfield 35, 3) := by decide +kernel
theorem dX3_timeFor_18 : decode cX3_timeFor 18 = .ok (.iload_n 1, 1) := by decide +kernel
theorem dX3_timeFor_19 : decode cX3_timeFor 19 = .ok (.invokestatic 39, 3) := by decide +kernel
theorem dX3_timeFor_22 : decode cX3_timeFor 22 = .ok (.ifCond .ne 5, 3) := by decide +kernel
theorem dX3_timeFor_25 : decode cX3_timeFor 25 = .ok (.iconst (-1), 1) := by decide +kernel
theorem dX3_timeFor_26 : decode cX3_timeFor 26 = .ok (.ireturn, 1) := by decide +kernel
theorem dX3_timeFor_27 : decode cX3_timeFor 27 = .ok (.iload_n 2, 1) := by decide +kernel
theorem dX3_timeFor_28 : decode cX3_timeFor 28 = .ok (.aload_n 0, 1) := by decide +kernel
theorem dX3_timeFor_29 : decode cX3_timeFor 29 = .ok (.getfield 9, 3) := by decide +kernel
theorem dX3_timeFor_32 : decode cX3_timeFor 32 = .ok (.iload_n 1, 1) := by decide +kernel
theorem dX3_timeFor_33 : decode cX3_timeFor 33 = .ok (.iaload, 1) := by decide +kernel
theorem dX3_timeFor_34 : decode cX3_timeFor 34 = .ok (.isub, 1) := by decide +kernel
theorem dX3_timeFor_35 : decode cX3_timeFor 35 = .ok (.istore_n 3, 1) := by decide +kernel
theorem dX3_timeFor_36 : decode cX3_timeFor 36 = .ok (.iload_n 3, 1) := by decide +kernel
theorem dX3_timeFor_37 : decode cX3_timeFor 37 = .ok (.ifCond .gt 5, 3) := by decide +kernel
theorem dX3_timeFor_40 : decode cX3_timeFor 40 = .ok (.iconst (-1), 1) := by decide +kernel
theorem dX3_timeFor_41 : decode cX3_timeFor 41 = .ok (.ireturn, 1) := by decide +kernel
theorem dX3_timeFor_42 : decode cX3_timeFor 42 = .ok (.aload_n 0, 1) := by decide +kernel
theorem dX3_timeFor_43 : decode cX3_timeFor 43 = .ok (.getfield 18, 3) := by decide +kernel
theorem dX3_timeFor_46 : decode cX3_timeFor 46 = .ok (.iload_n 1, 1) := by decide +kernel
theorem dX3_timeFor_47 : decode cX3_timeFor 47 = .ok (.iaload, 1) := by decide +kernel
theorem dX3_timeFor_48 : decode cX3_timeFor 48 = .ok (.ifCond .eq 15, 3) := by decide +kernel
theorem dX3_timeFor_51 : decode cX3_timeFor 51 = .ok (.aload_n 0, 1) := by decide +kernel
theorem dX3_timeFor_52 : decode cX3_timeFor 52 = .ok (.getfield 18, 3) := by decide +kernel
theorem dX3_timeFor_55 : decode cX3_timeFor 55 = .ok (.iload_n 1, 1) := by decide +kernel
theorem dX3_timeFor_56 : decode cX3_timeFor 56 = .ok (.iaload, 1) := by decide +kernel
theorem dX3_timeFor_57 : decode cX3_timeFor 57 = .ok (.iload_n 2, 1) := by decide +kernel
theorem dX3_timeFor_58 : decode cX3_timeFor 58 = .ok (.if_icmp .gt 5, 3) := by decide +kernel
theorem dX3_timeFor_61 : decode cX3_timeFor 61 = .ok (.iconst 1, 1) := by decide +kernel
theorem dX3_timeFor_62 : decode cX3_timeFor 62 = .ok (.ireturn, 1) := by decide +kernel
theorem dX3_timeFor_63 : decode cX3_timeFor 63 = .ok (.aload_n 0, 1) := by decide +kernel
theorem dX3_timeFor_64 : decode cX3_timeFor 64 = .ok (.getfield 15, 3) := by decide +kernel
theorem dX3_timeFor_67 : decode cX3_timeFor 67 = .ok (.iload_n 1, 1) := by decide +kernel
theorem dX3_timeFor_68 : decode cX3_timeFor 68 = .ok (.iaload, 1) := by decide +kernel
theorem dX3_timeFor_69 : decode cX3_timeFor 69 = .ok (.aload_n 0, 1) := by decide +kernel
theorem dX3_timeFor_70 : decode cX3_timeFor 70 = .ok (.getfield 9, 3) := by decide +kernel
theorem dX3_timeFor_73 : decode cX3_timeFor 73 = .ok (.iload_n 1, 1) := by decide +kernel
theorem dX3_timeFor_74 : decode cX3_timeFor 74 = .ok (.iaload, 1) := by decide +kernel
theorem dX3_timeFor_75 : decode cX3_timeFor 75 = .ok (.imul, 1) := by decide +kernel
theorem dX3_timeFor_76 : decode cX3_timeFor 76 = .ok (.bipush 10, 2) := by decide +kernel
theorem dX3_timeFor_78 : decode cX3_timeFor 78 = .ok (.imul, 1) := by decide +kernel
theorem dX3_timeFor_79 : decode cX3_timeFor 79 = .ok (.iload_n 3, 1) := by decide +kernel
theorem dX3_timeFor_80 : decode cX3_timeFor 80 = .ok (.idiv, 1) := by decide +kernel
theorem dX3_timeFor_81 : decode cX3_timeFor 81 = .ok (.iconst 2, 1) := by decide +kernel
theorem dX3_timeFor_82 : decode cX3_timeFor 82 = .ok (.iadd, 1) := by decide +kernel
theorem dX3_timeFor_83 : decode cX3_timeFor 83 = .ok (.ireturn, 1) := by decide +kernel
set_option maxRecDepth 20000 in
theorem ggX3_currentOfFault_X1_sourceOfLine : GoodIn wsX3_currentOfFault wsX1_sourceOfLine := goodIn_ca (goodIn_r _ [6, 7, 8, 9, 5, 10, 11, 12, 13, 14, 15, 16, 17, 18, 19, 20, 21, 22, 23, 24, 25, 26, 27, 28, 29, 30, 31, 32, 33, 34, 35, 36, 37, 38, 39, 40, 41, 42, 43, 44, 60, 61, 62, 63, 64, 65, 66, 67, 68, 69] (by decide +kernel) (by decide +kernel)) (goodIn_sub (fun _ h => List.mem_cons_of_mem _ (List.mem_append_right _ h)) (by decide +kernel))
set_option maxRecDepth 20000 in
theorem gX3_currentOfFault_X1_sourceOfLine : GoodIn wsX3_currentOfFault (wsV RX3 43 RX1 yX1_sourceOfLine wsX1_sourceOfLine) := goodIn_app (goodIn_of _ (by decide +kernel)) ggX3_currentOfFault_X1_sourceOfLine
set_option maxRecDepth 20000 in
theorem ggX3_currentOfFault_X1_capacityAt : GoodIn wsX3_currentOfFault wsX1_capacityAt := goodIn_ca (goodIn_r _ [48, 49, 50, 51, 52, 5, 53, 54, 60, 61, 62, 63, 64, 65, 66, 67, 68, 69] (by decide +kernel) (by decide +kernel)) (goodIn_sub (fun _ h => List.mem_cons_of_mem _ (List.mem_append_right _ h)) (by decide +kernel))
set_option maxRecDepth 20000 in
theorem gX3_currentOfFault_X1_capacityAt : GoodIn wsX3_currentOfFault (wsV RX3 47 RX1 yX1_capacityAt wsX1_capacityAt) := goodIn_app (goodIn_of _ (by decide +kernel)) ggX3_currentOfFault_X1_capacityAt
theorem dX3_currentOfFault_0 : decode cX3_currentOfFault 0 = .ok (.aload_n 0, 1) := by decide +kernel
theorem dX3_currentOfFault_1 : decode cX3_currentOfFault 1 = .ok (.getfield 21, 3) := by decide +kernel
theorem dX3_currentOfFault_4 : decode cX3_currentOfFault 4 = .ok (.aload_n 0, 1) := by decide +kernel
theorem dX3_currentOfFault_5 : decode cX3_currentOfFault 5 = .ok (.getfield 21, 3) := by decide +kernel
theorem dX3_currentOfFault_8 : decode cX3_currentOfFault 8 = .ok (.iload_n 1, 1) := by decide +kernel
theorem dX3_currentOfFault_9 : decode cX3_currentOfFault 9 = .ok (.iload_n 3, 1) := by decide +kernel
theorem dX3_currentOfFault_10 : decode cX3_currentOfFault 10 = .ok (.invokevirtual 43, 3) := by decide +kernel
theorem dX3_currentOfFault_13 : decode cX3_currentOfFault 13 = .ok (.invokevirtual 47, 3) := by decide +kernel
theorem dX3_currentOfFault_16 : decode cX3_currentOfFault 16 = .ok (.istore 4, 2) := by decide +kernel
theorem dX3_currentOfFault_18 : decode cX3_currentOfFault 18 = .ok (.iload_n 2, 1) := by decide +kernel
theorem dX3_currentOfFault_19 : decode cX3_currentOfFault 19 = .ok (.ifCond .le 13, 3) := by decide +kernel
theorem dX3_currentOfFault_22 : decode cX3_currentOfFault 22 = .ok (.iload 4, 2) := by decide +kernel
theorem dX3_currentOfFault_24 : decode cX3_currentOfFault 24 = .ok (.bipush 10, 2) := by decide +kernel
theorem dX3_currentOfFault_26 : decode cX3_currentOfFault 26 = .ok (.imul, 1) := by decide +kernel
theorem dX3_currentOfFault_27 : decode cX3_currentOfFault 27 = .ok (.iload_n 2, 1) := by decide +kernel
theorem dX3_currentOfFault_28 : decode cX3_currentOfFault 28 = .ok (.idiv, 1) := by decide +kernel
theorem dX3_currentOfFault_29 : decode cX3_currentOfFault 29 = .ok (.goto 4, 3) := by decide +kernel
theorem dX3_currentOfFault_32 : decode cX3_currentOfFault 32 = .ok (.iconst 0, 1) := by decide +kernel
theorem dX3_currentOfFault_33 : decode cX3_currentOfFault 33 = .ok (.ireturn, 1) := by decide +kernel
set_option maxRecDepth 20000 in
theorem ggX3_answerTo_X0_layPath : GoodIn wsX3_answerTo wsX0_layPath := goodIn_ca (goodIn_r _ [6, 7, 8, 9, 10, 11, 12, 13, 5, 14, 15, 16, 17, 18, 19, 20, 21, 22, 23, 94, 95, 96, 97, 98, 99, 100, 101, 102, 103, 104, 105, 106] (by decide +kernel) (by decide +kernel)) (goodIn_sub (fun _ h => List.mem_cons_of_mem _ (List.mem_append_left _ (List.mem_append_right _ h))) (by decide +kernel))
set_option maxRecDepth 20000 in
theorem gX3_answerTo_X0_layPath : GoodIn wsX3_answerTo (wsV RX3 51 RX0 yX0_layPath wsX0_layPath) := goodIn_app (goodIn_of _ (by decide +kernel)) ggX3_answerTo_X0_layPath
set_option maxRecDepth 20000 in
theorem ggX3_answerTo_X3_currentOfFault : GoodIn wsX3_answerTo wsX3_currentOfFault := goodIn_ca (goodIn_ca (goodIn_r _ [28, 29, 30, 31, 32, 19, 33, 34, 35, 36, 37, 22, 38, 39, 40, 41, 21, 42, 43, 44, 45, 46, 9, 47, 48, 49, 50, 51, 52, 53, 54, 55, 56, 8, 10, 57, 17, 18, 20, 23, 58, 59, 60, 61, 62, 63, 64, 65, 66, 67, 68, 69, 70, 71, 72, 89, 90, 91, 92, 93, 97, 98, 99, 100, 101, 102, 103, 104, 105, 106] (by decide +kernel) (by decide +kernel)) (goodIn_sub (fun _ h => List.mem_cons_of_mem _ (List.mem_append_right _ h)) (by decide +kernel))) (goodIn_sub (fun _ h => List.mem_cons_of_mem _ (List.mem_append_left _ (List.mem_append_right _ h))) (by decide +kernel))
set_option maxRecDepth 20000 in
theorem gX3_answerTo_X3_currentOfFault : GoodIn wsX3_answerTo (wsV RX3 56 RX3 yX3_currentOfFault wsX3_currentOfFault) := goodIn_app (goodIn_of _ (by decide +kernel)) ggX3_answerTo_X3_currentOfFault
set_option maxRecDepth 20000 in
theorem ggX3_answerTo_X3_firstOnPath : GoodIn wsX3_answerTo wsX3_firstOnPath := goodIn_ca (goodIn_ca (goodIn_r _ [76, 1, 77, 78, 79, 5, 80, 15, 81, 82, 83, 27, 84, 29, 85, 86, 87, 88, 39, 40, 19, 41, 21, 8, 9, 10, 89, 90, 91, 92, 93, 94, 95, 96, 97, 98, 99, 100, 101, 102, 103, 104, 105, 106] (by decide +kernel) (by decide +kernel)) (goodIn_sub (fun _ h => List.mem_cons_of_mem _ (List.mem_append_left _ (List.mem_append_right _ h))) (by decide +kernel))) (goodIn_sub (fun _ h => List.mem_cons_of_mem _ (List.mem_append_right _ h)) (by decide +kernel))
set_option maxRecDepth 20000 in
theorem gX3_answerTo_X3_firstOnPath : GoodIn wsX3_answerTo (wsV RX3 60 RX3 yX3_firstOnPath wsX3_firstOnPath) := goodIn_app (goodIn_of _ (by decide +kernel)) ggX3_answerTo_X3_firstOnPath
theorem dX3_answerTo_0 : decode cX3_answerTo 0 = .ok (.aload_n 0, 1) := by decide +kernel
theorem dX3_answerTo_1 : decode cX3_answerTo 1 = .ok (.getfield 25, 3) := by decide +kernel
theorem dX3_answerTo_4 : decode cX3_answerTo 4 = .ok (.iload_n 1, 1) := by decide +kernel
theorem dX3_answerTo_5 : decode cX3_answerTo 5 = .ok (.iload_n 2, 1) := by decide +kernel
theorem dX3_answerTo_6 : decode cX3_answerTo 6 = .ok (.invokevirtual 51, 3) := by decide +kernel
theorem dX3_answerTo_9 : decode cX3_answerTo 9 = .ok (.istore_n 3, 1) := by decide +kernel
theorem dX3_answerTo_10 : decode cX3_answerTo 10 = .ok (.iload_n 3, 1) := by decide +kernel
theorem dX3_answerTo_11 : decode cX3_answerTo 11 = .ok (.ifCond .ne 5, 3) := by decide +kernel
theorem dX3_answerTo_14 : decode cX3_answerTo 14 = .ok (.iconst (-1), 1) := by decide +kernel
theorem dX3_answerTo_15 : decode cX3_answerTo 15 = .ok (.ireturn, 1) := by decide +kernel
theorem dX3_answerTo_16 : decode cX3_answerTo 16 = .ok (.aload_n 0, 1) := by decide +kernel
theorem dX3_answerTo_17 : decode cX3_answerTo 17 = .ok (.iload_n 3, 1) := by decide +kernel
theorem dX3_answerTo_18 : decode cX3_answerTo 18 = .ok (.aload_n 0, 1) := by decide +kernel
theorem dX3_answerTo_19 : decode cX3_answerTo 19 = .ok (.iload_n 1, 1) := by decide +kernel
theorem dX3_answerTo_20 : decode cX3_answerTo 20 = .ok (.iload_n 3, 1) := by decide +kernel
theorem dX3_answerTo_21 : decode cX3_answerTo 21 = .ok (.iload_n 2, 1) := by decide +kernel
theorem dX3_answerTo_22 : decode cX3_answerTo 22 = .ok (.invokevirtual 56, 3) := by decide +kernel
theorem dX3_answerTo_25 : decode cX3_answerTo 25 = .ok (.iconst (-1), 1) := by decide +kernel
theorem dX3_answerTo_26 : decode cX3_answerTo 26 = .ok (.invokevirtual 60, 3) := by decide +kernel
theorem dX3_answerTo_29 : decode cX3_answerTo 29 = .ok (.istore 4, 2) := by decide +kernel
theorem dX3_answerTo_31 : decode cX3_answerTo 31 = .ok (.iload 4, 2) := by decide +kernel
theorem dX3_answerTo_33 : decode cX3_answerTo 33 = .ok (.iconst (-1), 1) := by decide +kernel
theorem dX3_answerTo_34 : decode cX3_answerTo 34 = .ok (.if_icmp .ne 8, 3) := by decide +kernel
theorem dX3_answerTo_37 : decode cX3_answerTo 37 = .ok (.bipush (-2), 2) := by decide +kernel
theorem dX3_answerTo_39 : decode cX3_answerTo 39 = .ok (.goto 5, 3) := by decide +kernel
theorem dX3_answerTo_42 : decode cX3_answerTo 42 = .ok (.iload 4, 2) := by decide +kernel
theorem dX3_answerTo_44 : decode cX3_answerTo 44 = .ok (.ireturn, 1) := by decide +kernel
set_option maxRecDepth 20000 in
theorem ggX3_leadOf_X0_layPath : GoodIn wsX3_leadOf wsX0_layPath := goodIn_ca (goodIn_r _ [6, 7, 8, 9, 10, 11, 12, 13, 5, 14, 15, 16, 17, 18, 19, 20, 21, 22, 23, 94, 95, 96, 97, 98, 99, 100, 101, 102, 103, 104, 105, 106] (by decide +kernel) (by decide +kernel)) (goodIn_sub (fun _ h => List.mem_cons_of_mem _ (List.mem_append_left _ (List.mem_append_right _ h))) (by decide +kernel))
set_option maxRecDepth 20000 in
theorem gX3_leadOf_X0_layPath : GoodIn wsX3_leadOf (wsV RX3 51 RX0 yX0_layPath wsX0_layPath) := goodIn_app (goodIn_of _ (by decide +kernel)) ggX3_leadOf_X0_layPath
set_option maxRecDepth 20000 in
theorem ggX3_leadOf_X3_currentOfFault : GoodIn wsX3_leadOf wsX3_currentOfFault := goodIn_ca (goodIn_ca (goodIn_r _ [28, 29, 30, 31, 32, 19, 33, 34, 35, 36, 37, 22, 38, 39, 40, 41, 21, 42, 43, 44, 45, 46, 9, 47, 48, 49, 50, 51, 52, 53, 54, 55, 56, 8, 10, 57, 17, 18, 20, 23, 58, 59, 60, 61, 62, 63, 64, 65, 66, 67, 68, 69, 70, 71, 72, 89, 90, 91, 92, 93, 97, 98, 99, 100, 101, 102, 103, 104, 105, 106] (by decide +kernel) (by decide +kernel)) (goodIn_sub (fun _ h => List.mem_cons_of_mem _ (List.mem_append_right _ h)) (by decide +kernel))) (goodIn_sub (fun _ h => List.mem_cons_of_mem _ (List.mem_append_left _ (List.mem_append_right _ h))) (by decide +kernel))
set_option maxRecDepth 20000 in
theorem gX3_leadOf_X3_currentOfFault : GoodIn wsX3_leadOf (wsV RX3 56 RX3 yX3_currentOfFault wsX3_currentOfFault) := goodIn_app (goodIn_of _ (by decide +kernel)) ggX3_leadOf_X3_currentOfFault
set_option maxRecDepth 20000 in
theorem ggX3_leadOf_X3_firstOnPath : GoodIn wsX3_leadOf wsX3_firstOnPath := goodIn_ca (goodIn_ca (goodIn_r _ [76, 1, 77, 78, 79, 5, 80, 15, 81, 82, 83, 27, 84, 29, 85, 86, 87, 88, 39, 40, 19, 41, 21, 8, 9, 10, 89, 90, 91, 92, 93, 94, 95, 96, 97, 98, 99, 100, 101, 102, 103, 104, 105, 106] (by decide +kernel) (by decide +kernel)) (goodIn_sub (fun _ h => List.mem_cons_of_mem _ (List.mem_append_left _ (List.mem_append_right _ h))) (by decide +kernel))) (goodIn_sub (fun _ h => List.mem_cons_of_mem _ (List.mem_append_right _ h)) (by decide +kernel))
set_option maxRecDepth 20000 in
theorem gX3_leadOf_X3_firstOnPath : GoodIn wsX3_leadOf (wsV RX3 60 RX3 yX3_firstOnPath wsX3_firstOnPath) := goodIn_app (goodIn_of _ (by decide +kernel)) ggX3_leadOf_X3_firstOnPath
set_option maxRecDepth 20000 in
theorem ggX3_leadOf_X3_timeFor : GoodIn wsX3_leadOf wsX3_timeFor := goodIn_ca (goodIn_ca (goodIn_r _ [84, 29, 85, 86, 87, 88, 39, 40, 19, 41, 21, 8, 9, 10, 89, 90, 91, 92, 93, 97, 98, 99, 100, 101, 102, 103, 104, 105, 106] (by decide +kernel) (by decide +kernel)) (goodIn_sub (fun _ h => List.mem_cons_of_mem _ (List.mem_append_left _ (List.mem_append_right _ h))) (by decide +kernel))) (goodIn_sub (fun _ h => List.mem_cons_of_mem _ (List.mem_append_right _ h)) (by decide +kernel))
set_option maxRecDepth 20000 in
theorem gX3_leadOf_X3_timeFor : GoodIn wsX3_leadOf (wsV RX3 63 RX3 yX3_timeFor wsX3_timeFor) := goodIn_app (goodIn_of _ (by decide +kernel)) ggX3_leadOf_X3_timeFor
theorem dX3_leadOf_0 : decode cX3_leadOf 0 = .ok (.aload_n 0, 1) := by decide +kernel
theorem dX3_leadOf_1 : decode cX3_leadOf 1 = .ok (.getfield 25, 3) := by decide +kernel
theorem dX3_leadOf_4 : decode cX3_leadOf 4 = .ok (.iload_n 1, 1) := by decide +kernel
theorem dX3_leadOf_5 : decode cX3_leadOf 5 = .ok (.iload_n 2, 1) := by decide +kernel
theorem dX3_leadOf_6 : decode cX3_leadOf 6 = .ok (.invokevirtual 51, 3) := by decide +kernel
theorem dX3_leadOf_9 : decode cX3_leadOf 9 = .ok (.istore_n 3, 1) := by decide +kernel
theorem dX3_leadOf_10 : decode cX3_leadOf 10 = .ok (.aload_n 0, 1) := by decide +kernel
theorem dX3_leadOf_11 : decode cX3_leadOf 11 = .ok (.iload_n 1, 1) := by decide +kernel
theorem dX3_leadOf_12 : decode cX3_leadOf 12 = .ok (.iload_n 3, 1) := by decide +kernel
theorem dX3_leadOf_13 : decode cX3_leadOf 13 = .ok (.iload_n 2, 1) := by decide +kernel
theorem dX3_leadOf_14 : decode cX3_leadOf 14 = .ok (.invokevirtual 56, 3) := by decide +kernel
theorem dX3_leadOf_17 : decode cX3_leadOf 17 = .ok (.istore 4, 2) := by decide +kernel
theorem dX3_leadOf_19 : decode cX3_leadOf 19 = .ok (.aload_n 0, 1) := by decide +kernel
theorem dX3_leadOf_20 : decode cX3_leadOf 20 = .ok (.iload_n 3, 1) := by decide +kernel
theorem dX3_leadOf_21 : decode cX3_leadOf 21 = .ok (.iload 4, 2) := by decide +kernel
theorem dX3_leadOf_23 : decode cX3_leadOf 23 = .ok (.iload_n 1, 1) := by decide +kernel
theorem dX3_leadOf_24 : decode cX3_leadOf 24 = .ok (.invokevirtual 60, 3) := by decide +kernel
theorem dX3_leadOf_27 : decode cX3_leadOf 27 = .ok (.istore 5, 2) := by decide +kernel
theorem dX3_leadOf_29 : decode cX3_leadOf 29 = .ok (.iload 5, 2) := by decide +kernel
theorem dX3_leadOf_31 : decode cX3_leadOf 31 = .ok (.iconst (-1), 1) := by decide +kernel
theorem dX3_leadOf_32 : decode cX3_leadOf 32 = .ok (.if_icmp .ne 7, 3) := by decide +kernel
theorem dX3_leadOf_35 : decode cX3_leadOf 35 = .ok (.iconst (-1), 1) := by decide +kernel
theorem dX3_leadOf_36 : decode cX3_leadOf 36 = .ok (.goto 19, 3) := by decide +kernel
theorem dX3_leadOf_39 : decode cX3_leadOf 39 = .ok (.aload_n 0, 1) := by decide +kernel
theorem dX3_leadOf_40 : decode cX3_leadOf 40 = .ok (.iload 5, 2) := by decide +kernel
theorem dX3_leadOf_42 : decode cX3_leadOf 42 = .ok (.iload 4, 2) := by decide +kernel
theorem dX3_leadOf_44 : decode cX3_leadOf 44 = .ok (.invokevirtual 63, 3) := by decide +kernel
theorem dX3_leadOf_47 : decode cX3_leadOf 47 = .ok (.aload_n 0, 1) := by decide +kernel
theorem dX3_leadOf_48 : decode cX3_leadOf 48 = .ok (.iload_n 1, 1) := by decide +kernel
theorem dX3_leadOf_49 : decode cX3_leadOf 49 = .ok (.iload 4, 2) := by decide +kernel
theorem dX3_leadOf_51 : decode cX3_leadOf 51 = .ok (.invokevirtual 63, 3) := by decide +kernel
theorem dX3_leadOf_54 : decode cX3_leadOf 54 = .ok (.isub, 1) := by decide +kernel
theorem dX3_leadOf_55 : decode cX3_leadOf 55 = .ok (.ireturn, 1) := by decide +kernel
set_option maxRecDepth 20000 in
theorem ggX3_firstOnPath_X0_lineOnPath : GoodIn wsX3_firstOnPath wsX0_lineOnPath := goodIn_ca (goodIn_r _ [6, 7, 31, 32, 33] (by decide +kernel) (by decide +kernel)) (goodIn_sub (fun _ h => List.mem_cons_of_mem _ (List.mem_append_left _ (List.mem_append_right _ h))) (by decide +kernel))
set_option maxRecDepth 20000 in
theorem gX3_firstOnPath_X0_lineOnPath : GoodIn wsX3_firstOnPath (wsV RX3 66 RX0 yX0_lineOnPath wsX0_lineOnPath) := goodIn_app (goodIn_of _ (by decide +kernel)) ggX3_firstOnPath_X0_lineOnPath
set_option maxRecDepth 20000 in
theorem ggX3_firstOnPath_X3_timeFor : GoodIn wsX3_firstOnPath wsX3_timeFor := goodIn_ca (goodIn_ca (goodIn_r _ [12, 13, 14, 15, 16, 17, 18, 19, 20, 21, 22, 23, 24, 25, 26, 27, 28, 29, 30, 34, 35, 36, 37, 38, 39, 40, 41, 42, 43] (by decide +kernel) (by decide +kernel)) (goodIn_sub (fun _ h => List.mem_cons_of_mem _ (List.mem_append_left _ (List.mem_append_right _ h))) (by decide +kernel))) (goodIn_sub (fun _ h => List.mem_cons_of_mem _ (List.mem_append_right _ h)) (by decide +kernel))
set_option maxRecDepth 20000 in
theorem gX3_firstOnPath_X3_timeFor : GoodIn wsX3_firstOnPath (wsV RX3 63 RX3 yX3_timeFor wsX3_timeFor) := goodIn_app (goodIn_of _ (by decide +kernel)) ggX3_firstOnPath_X3_timeFor
theorem dX3_firstOnPath_0 : decode cX3_firstOnPath 0 = .ok (.iconst (-1), 1) := by decide +kernel
theorem dX3_firstOnPath_1 : decode cX3_firstOnPath 1 = .ok (.istore 4, 2) := by decide +kernel
theorem dX3_firstOnPath_3 : decode cX3_firstOnPath 3 = .ok (.iconst 0, 1) := by decide +kernel
theorem dX3_firstOnPath_4 : decode cX3_firstOnPath 4 = .ok (.istore 5, 2) := by decide +kernel
theorem dX3_firstOnPath_6 : decode cX3_firstOnPath 6 = .ok (.iconst 0, 1) := by decide +kernel
theorem dX3_firstOnPath_7 : decode cX3_firstOnPath 7 = .ok (.istore 6, 2) := by decide +kernel
theorem dX3_firstOnPath_9 : decode cX3_firstOnPath 9 = .ok (.iload 6, 2) := by decide +kernel
theorem dX3_firstOnPath_11 : decode cX3_firstOnPath 11 = .ok (.iload_n 1, 1) := by decide +kernel
theorem dX3_firstOnPath_12 : decode cX3_firstOnPath 12 = .ok (.if_icmp .ge 66, 3) := by decide +kernel
theorem dX3_firstOnPath_15 : decode cX3_firstOnPath 15 = .ok (.aload_n 0, 1) := by decide +kernel
theorem dX3_firstOnPath_16 : decode cX3_firstOnPath 16 = .ok (.getfield 25, 3) := by decide +kernel
theorem dX3_firstOnPath_19 : decode cX3_firstOnPath 19 = .ok (.iload 6, 2) := by decide +kernel
theorem dX3_firstOnPath_21 : decode cX3_firstOnPath 21 = .ok (.invokevirtual 66, 3) := by decide +kernel
theorem dX3_firstOnPath_24 : decode cX3_firstOnPath 24 = .ok (.istore 7, 2) := by decide +kernel
theorem dX3_firstOnPath_26 : decode cX3_firstOnPath 26 = .ok (.iload 7, 2) := by decide +kernel
theorem dX3_firstOnPath_28 : decode cX3_firstOnPath 28 = .ok (.iload_n 3, 1) := by decide +kernel
theorem dX3_firstOnPath_29 : decode cX3_firstOnPath 29 = .ok (.if_icmp .ne 7, 3) := by decide +kernel
theorem dX3_firstOnPath_32 : decode cX3_firstOnPath 32 = .ok (.iconst (-1), 1) := by decide +kernel
theorem dX3_firstOnPath_33 : decode cX3_firstOnPath 33 = .ok (.goto 10, 3) := by decide +kernel
theorem dX3_firstOnPath_36 : decode cX3_firstOnPath 36 = .ok (.aload_n 0, 1) := by decide +kernel
theorem dX3_firstOnPath_37 : decode cX3_firstOnPath 37 = .ok (.iload 7, 2) := by decide +kernel
theorem dX3_firstOnPath_39 : decode cX3_firstOnPath 39 = .ok (.iload_n 2, 1) := by decide +kernel
theorem dX3_firstOnPath_40 : decode cX3_firstOnPath 40 = .ok (.invokevirtual 63, 3) := by decide +kernel
theorem dX3_firstOnPath_43 : decode cX3_firstOnPath 43 = .ok (.istore 8, 2) := by decide +kernel
theorem dX3_firstOnPath_45 : decode cX3_firstOnPath 45 = .ok (.iload 8, 2) := by decide +kernel
theorem dX3_firstOnPath_47 : decode cX3_firstOnPath 47 = .ok (.iconst (-1), 1) := by decide +kernel
theorem dX3_firstOnPath_48 : decode cX3_firstOnPath 48 = .ok (.if_icmp .eq 24, 3) := by decide +kernel
theorem dX3_firstOnPath_51 : decode cX3_firstOnPath 51 = .ok (.iload 4, 2) := by decide +kernel
theorem dX3_firstOnPath_53 : decode cX3_firstOnPath 53 = .ok (.iconst (-1), 1) := by decide +kernel
theorem dX3_firstOnPath_54 : decode cX3_firstOnPath 54 = .ok (.if_icmp .eq 10, 3) := by decide +kernel
theorem dX3_firstOnPath_57 : decode cX3_firstOnPath 57 = .ok (.iload 8, 2) := by decide +kernel
theorem dX3_firstOnPath_59 : decode cX3_firstOnPath 59 = .ok (.iload 5, 2) := by decide +kernel
theorem dX3_firstOnPath_61 : decode cX3_firstOnPath 61 = .ok (.if_icmp .gt 11, 3) := by decide +kernel
theorem dX3_firstOnPath_64 : decode cX3_firstOnPath 64 = .ok (.iload 7, 2) := by decide +kernel
theorem dX3_firstOnPath_66 : decode cX3_firstOnPath 66 = .ok (.istore 4, 2) := by decide +kernel
theorem dX3_firstOnPath_68 : decode cX3_firstOnPath 68 = .ok (.iload 8, 2) := by decide +kernel
theorem dX3_firstOnPath_70 : decode cX3_firstOnPath 70 = .ok (.istore 5, 2) := by decide +kernel
theorem dX3_firstOnPath_72 : decode cX3_firstOnPath 72 = .ok (.iinc 6 1, 3) := by decide +kernel
theorem dX3_firstOnPath_75 : decode cX3_firstOnPath 75 = .ok (.goto (-66), 3) := by decide +kernel
theorem dX3_firstOnPath_78 : decode cX3_firstOnPath 78 = .ok (.iload 4, 2) := by decide +kernel
theorem dX3_firstOnPath_80 : decode cX3_firstOnPath 80 = .ok (.ireturn, 1) := by decide +kernel
theorem dX4_init_0 : decode cX4_init 0 = .ok (.aload_n 0, 1) := by decide +kernel
theorem dX4_init_1 : decode cX4_init 1 = .ok (.invokespecial 3, 3) := by decide +kernel
theorem dX4_init_4 : decode cX4_init 4 = .ok (.aload_n 0, 1) := by decide +kernel
theorem dX4_init_5 : decode cX4_init 5 = .ok (.aload_n 1, 1) := by decide +kernel
theorem dX4_init_6 : decode cX4_init 6 = .ok (.putfield 9, 3) := by decide +kernel
theorem dX4_init_9 : decode cX4_init 9 = .ok (.aload_n 0, 1) := by decide +kernel
theorem dX4_init_10 : decode cX4_init 10 = .ok (.aload_n 2, 1) := by decide +kernel
theorem dX4_init_11 : decode cX4_init 11 = .ok (.putfield 15, 3) := by decide +kernel
theorem dX4_init_14 : decode cX4_init 14 = .ok (.return_, 1) := by decide +kernel
theorem dX4_closeAll_0 : decode cX4_closeAll 0 = .ok (.aload_n 0, 1) := by decide +kernel
theorem dX4_closeAll_1 : decode cX4_closeAll 1 = .ok (.dup, 1) := by decide +kernel
theorem dX4_closeAll_2 : decode cX4_closeAll 2 = .ok (.getfield 19, 3) := by decide +kernel
theorem dX4_closeAll_5 : decode cX4_closeAll 5 = .ok (.iload_n 1, 1) := by decide +kernel
theorem dX4_closeAll_6 : decode cX4_closeAll 6 = .ok (.ior, 1) := by decide +kernel
theorem dX4_closeAll_7 : decode cX4_closeAll 7 = .ok (.putfield 19, 3) := by decide +kernel
theorem dX4_closeAll_10 : decode cX4_closeAll 10 = .ok (.return_, 1) := by decide +kernel
theorem dX4_openAll_0 : decode cX4_openAll 0 = .ok (.aload_n 0, 1) := by decide +kernel
theorem dX4_openAll_1 : decode cX4_openAll 1 = .ok (.dup, 1) := by decide +kernel
theorem dX4_openAll_2 : decode cX4_openAll 2 = .ok (.getfield 19, 3) := by decide +kernel
theorem dX4_openAll_5 : decode cX4_openAll 5 = .ok (.iload_n 1, 1) := by decide +kernel
theorem dX4_openAll_6 : decode cX4_openAll 6 = .ok (.iconst (-1), 1) := by decide +kernel
theorem dX4_openAll_7 : decode cX4_openAll 7 = .ok (.ixor, 1) := by decide +kernel
theorem dX4_openAll_8 : decode cX4_openAll 8 = .ok (.iand, 1) := by decide +kernel
theorem dX4_openAll_9 : decode cX4_openAll 9 = .ok (.putfield 19, 3) := by decide +kernel
theorem dX4_openAll_12 : decode cX4_openAll 12 = .ok (.return_, 1) := by decide +kernel
theorem dX4_lockOut_0 : decode cX4_lockOut 0 = .ok (.aload_n 0, 1) := by decide +kernel
theorem dX4_lockOut_1 : decode cX4_lockOut 1 = .ok (.dup, 1) := by decide +kernel
theorem dX4_lockOut_2 : decode cX4_lockOut 2 = .ok (.getfield 19, 3) := by decide +kernel
theorem dX4_lockOut_5 : decode cX4_lockOut 5 = .ok (.iload_n 1, 1) := by decide +kernel
theorem dX4_lockOut_6 : decode cX4_lockOut 6 = .ok (.iconst (-1), 1) := by decide +kernel
theorem dX4_lockOut_7 : decode cX4_lockOut 7 = .ok (.ixor, 1) := by decide +kernel
theorem dX4_lockOut_8 : decode cX4_lockOut 8 = .ok (.iand, 1) := by decide +kernel
theorem dX4_lockOut_9 : decode cX4_lockOut 9 = .ok (.putfield 19, 3) := by decide +kernel
theorem dX4_lockOut_12 : decode cX4_lockOut 12 = .ok (.aload_n 0, 1) := by decide +kernel
theorem dX4_lockOut_13 : decode cX4_lockOut 13 = .ok (.dup, 1) := by decide +kernel
theorem dX4_lockOut_14 : decode cX4_lockOut 14 = .ok (.getfield 23, 3) := by decide +kernel
theorem dX4_lockOut_17 : decode cX4_lockOut 17 = .ok (.iload_n 1, 1) := by decide +kernel
theorem dX4_lockOut_18 : decode cX4_lockOut 18 = .ok (.ior, 1) := by decide +kernel
theorem dX4_lockOut_19 : decode cX4_lockOut 19 = .ok (.putfield 23, 3) := by decide +kernel
theorem dX4_lockOut_22 : decode cX4_lockOut 22 = .ok (.return_, 1) := by decide +kernel
theorem dX4_ofPlans_0 : decode cX4_ofPlans 0 = .ok (.aload_n 0, 1) := by decide +kernel
theorem dX4_ofPlans_1 : decode cX4_ofPlans 1 = .ok (.getfield 9, 3) := by decide +kernel
theorem dX4_ofPlans_4 : decode cX4_ofPlans 4 = .ok (.getfield 26, 3) := by decide +kernel
theorem dX4_ofPlans_7 : decode cX4_ofPlans 7 = .ok (.aload_n 0, 1) := by decide +kernel
theorem dX4_ofPlans_8 : decode cX4_ofPlans 8 = .ok (.getfield 19, 3) := by decide +kernel
theorem dX4_ofPlans_11 : decode cX4_ofPlans 11 = .ok (.aload_n 0, 1) := by decide +kernel
theorem dX4_ofPlans_12 : decode cX4_ofPlans 12 = .ok (.getfield 23, 3) := by decide +kernel
theorem dX4_ofPlans_15 : decode cX4_ofPlans 15 = .ok (.ior, 1) := by decide +kernel
theorem dX4_ofPlans_16 : decode cX4_ofPlans 16 = .ok (.aload_n 0, 1) := by decide +kernel
theorem dX4_ofPlans_17 : decode cX4_ofPlans 17 = .ok (.getfield 31, 3) := by decide +kernel
theorem dX4_ofPlans_20 : decode cX4_ofPlans 20 = .ok (.ior, 1) := by decide +kernel
theorem dX4_ofPlans_21 : decode cX4_ofPlans 21 = .ok (.iconst (-1), 1) := by decide +kernel
theorem dX4_ofPlans_22 : decode cX4_ofPlans 22 = .ok (.ixor, 1) := by decide +kernel
theorem dX4_ofPlans_23 : decode cX4_ofPlans 23 = .ok (.iand, 1) := by decide +kernel
theorem dX4_ofPlans_24 : decode cX4_ofPlans 24 = .ok (.ireturn, 1) := by decide +kernel
set_option maxRecDepth 20000 in
theorem ggX4_openReason_X5_has : GoodIn wsX4_openReason wsX5_has := goodIn_r _ [6] (by decide +kernel) (by decide +kernel)
set_option maxRecDepth 20000 in
theorem gX4_openReason_X5_has_n34 : GoodIn wsX4_openReason (wsX5_has) := ggX4_openReason_X5_has
set_option maxRecDepth 20000 in
theorem ggX4_openReason_X0_currentIn : GoodIn wsX4_openReason wsX0_currentIn := goodIn_ca (goodIn_r _ [11, 12, 13, 14, 15, 16, 10, 17, 4, 5, 6, 18, 19, 20, 21, 22, 23, 24, 25, 26, 27, 28, 29, 30, 31, 32, 33, 34, 35, 36, 37, 38, 39, 55, 56, 57, 45, 46, 47, 48, 49, 50, 51, 52, 53, 54] (by decide +kernel) (by decide +kernel)) (goodIn_sub (fun _ h => List.mem_cons_of_mem _ (List.mem_append_right _ h)) (by decide +kernel))
set_option maxRecDepth 20000 in
theorem gX4_openReason_X0_currentIn : GoodIn wsX4_openReason (wsV RX4 38 RX0 yX0_currentIn wsX0_currentIn) := goodIn_app (goodIn_of _ (by decide +kernel)) ggX4_openReason_X0_currentIn
theorem dX4_openReason_0 : decode cX4_openReason 0 = .ok (.aload_n 0, 1) := by decide +kernel
theorem dX4_openReason_1 : decode cX4_openReason 1 = .ok (.getfield 19, 3) := by decide +kernel
theorem dX4_openReason_4 : decode cX4_openReason 4 = .ok (.iload_n 1, 1) := by decide +kernel
theorem dX4_openReason_5 : decode cX4_openReason 5 = .ok (.invokestatic 34, 3) := by decide +kernel
theorem dX4_openReason_8 : decode cX4_openReason 8 = .ok (.ifCond .ne 6, 3) := by decide +kernel
theorem dX4_openReason_11 : decode cX4_openReason 11 = .ok (.bipush 99, 2) := by decide +kernel
theorem dX4_openReason_13 : decode cX4_openReason 13 = .ok (.ireturn, 1) := by decide +kernel
theorem dX4_openReason_14 : decode cX4_openReason 14 = .ok (.aload_n 0, 1) := by decide +kernel
theorem dX4_openReason_15 : decode cX4_openReason 15 = .ok (.getfield 9, 3) := by decide +kernel
theorem dX4_openReason_18 : decode cX4_openReason 18 = .ok (.getfield 26, 3) := by decide +kernel
theorem dX4_openReason_21 : decode cX4_openReason 21 = .ok (.iload_n 1, 1) := by decide +kernel
theorem dX4_openReason_22 : decode cX4_openReason 22 = .ok (.invokestatic 34, 3) := by decide +kernel
theorem dX4_openReason_25 : decode cX4_openReason 25 = .ok (.ifCond .ne 18, 3) := by decide +kernel
theorem dX4_openReason_28 : decode cX4_openReason 28 = .ok (.aload_n 0, 1) := by decide +kernel
theorem dX4_openReason_29 : decode cX4_openReason 29 = .ok (.getfield 15, 3) := by decide +kernel
theorem dX4_openReason_32 : decode cX4_openReason 32 = .ok (.iload_n 1, 1) := by decide +kernel
theorem dX4_openReason_33 : decode cX4_openReason 33 = .ok (.aload_n 0, 1) := by decide +kernel
theorem dX4_openReason_34 : decode cX4_openReason 34 = .ok (.getfield 19, 3) := by decide +kernel
theorem dX4_openReason_37 : decode cX4_openReason 37 = .ok (.invokevirtual 38, 3) := by decide +kernel
theorem dX4_openReason_40 : decode cX4_openReason 40 = .ok (.ifCond .ne 8, 3) := by decide +kernel
theorem dX4_openReason_43 : decode cX4_openReason 43 = .ok (.bipush 110, 2) := by decide +kernel
theorem dX4_openReason_45 : decode cX4_openReason 45 = .ok (.goto 5, 3) := by decide +kernel
theorem dX4_openReason_48 : decode cX4_openReason 48 = .ok (.bipush 100, 2) := by decide +kernel
theorem dX4_openReason_50 : decode cX4_openReason 50 = .ok (.ireturn, 1) := by decide +kernel
set_option maxRecDepth 20000 in
theorem ggX4_closeReason_X5_has : GoodIn wsX4_closeReason wsX5_has := goodIn_r _ [7] (by decide +kernel) (by decide +kernel)
set_option maxRecDepth 20000 in
theorem gX4_closeReason_X5_has_n34 : GoodIn wsX4_closeReason (wsX5_has) := ggX4_closeReason_X5_has
set_option maxRecDepth 20000 in
theorem ggX4_closeReason_X1_oneEnd : GoodIn wsX4_closeReason wsX1_oneEnd := goodIn_ca (goodIn_r _ [12, 13, 14, 15, 16, 11, 17, 18, 100, 101, 102, 103, 104, 105, 106, 107, 108, 109] (by decide +kernel) (by decide +kernel)) (goodIn_sub (fun _ h => List.mem_cons_of_mem _ (List.mem_append_right _ h)) (by decide +kernel))
set_option maxRecDepth 20000 in
theorem gX4_closeReason_X1_oneEnd : GoodIn wsX4_closeReason (wsV RX4 44 RX1 yX1_oneEnd wsX1_oneEnd) := goodIn_app (goodIn_of _ (by decide +kernel)) ggX4_closeReason_X1_oneEnd
set_option maxRecDepth 20000 in
theorem ggX4_closeReason_X1_islandAround : GoodIn wsX4_closeReason wsX1_islandAround := goodIn_ca (goodIn_r _ [22, 23, 6, 24, 25, 26, 27, 28, 29, 30, 31, 32, 11, 33, 18, 5, 7, 34, 35, 36, 37, 13, 38, 100, 101, 102, 103, 104, 105, 106, 107, 108, 109] (by decide +kernel) (by decide +kernel)) (goodIn_sub (fun _ h => List.mem_cons_of_mem _ (List.mem_append_right _ h)) (by decide +kernel))
set_option maxRecDepth 20000 in
theorem gX4_closeReason_X1_islandAround : GoodIn wsX4_closeReason (wsV RX4 48 RX1 yX1_islandAround wsX1_islandAround) := goodIn_app (goodIn_of _ (by decide +kernel)) ggX4_closeReason_X1_islandAround
set_option maxRecDepth 20000 in
theorem ggX4_closeReason_X1_acrossFrom : GoodIn wsX4_closeReason wsX1_acrossFrom := goodIn_ca (goodIn_r _ [37, 18, 13, 38, 100, 101, 102, 103, 104, 105, 106, 107, 108, 109] (by decide +kernel) (by decide +kernel)) (goodIn_sub (fun _ h => List.mem_cons_of_mem _ (List.mem_append_right _ h)) (by decide +kernel))
set_option maxRecDepth 20000 in
theorem gX4_closeReason_X1_acrossFrom : GoodIn wsX4_closeReason (wsV RX4 51 RX1 yX1_acrossFrom wsX1_acrossFrom) := goodIn_app (goodIn_of _ (by decide +kernel)) ggX4_closeReason_X1_acrossFrom
set_option maxRecDepth 20000 in
theorem ggX4_closeReason_X1_sourceIn : GoodIn wsX4_closeReason wsX1_sourceIn := goodIn_r _ [43, 44, 25, 6, 26, 27, 28, 29, 100, 101, 102, 103, 104, 105, 106, 107, 108, 109] (by decide +kernel) (by decide +kernel)
set_option maxRecDepth 20000 in
theorem gX4_closeReason_X1_sourceIn : GoodIn wsX4_closeReason (wsV RX4 54 RX1 yX1_sourceIn wsX1_sourceIn) := goodIn_app (goodIn_of _ (by decide +kernel)) ggX4_closeReason_X1_sourceIn
set_option maxRecDepth 20000 in
theorem ggX4_closeReason_X1_linesAt : GoodIn wsX4_closeReason wsX1_linesAt := goodIn_ca (goodIn_r _ [48, 18, 13, 38, 5, 6, 7, 23, 24, 100, 101, 102, 103, 104, 105, 106, 107, 108, 109] (by decide +kernel) (by decide +kernel)) (goodIn_sub (fun _ h => List.mem_cons_of_mem _ (List.mem_append_right _ h)) (by decide +kernel))
set_option maxRecDepth 20000 in
theorem gX4_closeReason_X1_linesAt : GoodIn wsX4_closeReason (wsV RX4 57 RX1 yX1_linesAt wsX1_linesAt) := goodIn_app (goodIn_of _ (by decide +kernel)) ggX4_closeReason_X1_linesAt
set_option maxRecDepth 20000 in
theorem ggX4_closeReason_X1_loadIn : GoodIn wsX4_closeReason wsX1_loadIn := goodIn_ca (goodIn_r _ [52, 53, 54, 5, 6, 7, 100, 101, 102, 103, 104, 105, 106, 107, 108, 109] (by decide +kernel) (by decide +kernel)) (goodIn_sub (fun _ h => List.mem_cons_of_mem _ (List.mem_append_right _ h)) (by decide +kernel))
set_option maxRecDepth 20000 in
theorem gX4_closeReason_X1_loadIn : GoodIn wsX4_closeReason (wsV RX4 60 RX1 yX1_loadIn wsX1_loadIn) := goodIn_app (goodIn_of _ (by decide +kernel)) ggX4_closeReason_X1_loadIn
set_option maxRecDepth 20000 in
theorem ggX4_closeReason_X1_asksTooMuch : GoodIn wsX4_closeReason wsX1_asksTooMuch := goodIn_ca (goodIn_r _ [58, 59, 50, 51, 11, 52, 53, 54, 5, 6, 7, 60, 41, 42, 43, 44, 25, 26, 27, 28, 29, 61, 62, 63, 64, 65, 66, 67, 68, 69, 100, 101, 102, 103, 104, 105, 106, 107, 108, 109] (by decide +kernel) (by decide +kernel)) (goodIn_sub (fun _ h => List.mem_cons_of_mem _ (List.mem_append_right _ h)) (by decide +kernel))
set_option maxRecDepth 20000 in
theorem gX4_closeReason_X1_asksTooMuch : GoodIn wsX4_closeReason (wsV RX4 63 RX1 yX1_asksTooMuch wsX1_asksTooMuch) := goodIn_app (goodIn_of _ (by decide +kernel)) ggX4_closeReason_X1_asksTooMuch
set_option maxRecDepth 20000 in
theorem ggX4_closeReason_X5_bit : GoodIn wsX4_closeReason wsX5_bit := goodIn_r _ [24] (by decide +kernel) (by decide +kernel)
set_option maxRecDepth 20000 in
theorem gX4_closeReason_X5_bit_n67 : GoodIn wsX4_closeReason (wsX5_bit) := ggX4_closeReason_X5_bit
set_option maxRecDepth 20000 in
theorem ggX4_closeReason_X0_firstOverloaded : GoodIn wsX4_closeReason wsX0_firstOverloaded := goodIn_ca (goodIn_r _ [74, 75, 76, 77, 78, 79, 73, 80, 5, 6, 7, 81, 82, 83, 84, 85, 86, 87, 11, 88, 53, 54, 89, 35, 36, 37, 18, 13, 38, 90, 91, 92, 93, 94, 14, 15, 16, 17, 110, 111, 112, 100, 101, 102, 103, 104, 105, 106, 107, 108, 109] (by decide +kernel) (by decide +kernel)) (goodIn_sub (fun _ h => List.mem_cons_of_mem _ (List.mem_append_right _ h)) (by decide +kernel))
set_option maxRecDepth 20000 in
theorem gX4_closeReason_X0_firstOverloaded : GoodIn wsX4_closeReason (wsV RX4 70 RX0 yX0_firstOverloaded wsX0_firstOverloaded) := goodIn_app (goodIn_of _ (by decide +kernel)) ggX4_closeReason_X0_firstOverloaded
theorem dX4_closeReason_0 : decode cX4_closeReason 0 = .ok (.iload_n 2, 1) := by decide +kernel
theorem dX4_closeReason_1 : decode cX4_closeReason 1 = .ok (.iload_n 1, 1) := by decide +kernel
theorem dX4_closeReason_2 : decode cX4_closeReason 2 = .ok (.invokestatic 34, 3) := by decide +kernel
theorem dX4_closeReason_5 : decode cX4_closeReason 5 = .ok (.ifCond .eq 6, 3) := by decide +kernel
theorem dX4_closeReason_8 : decode cX4_closeReason 8 = .ok (.bipush 99, 2) := by decide +kernel
theorem dX4_closeReason_10 : decode cX4_closeReason 10 = .ok (.ireturn, 1) := by decide +kernel
theorem dX4_closeReason_11 : decode cX4_closeReason 11 = .ok (.aload_n 0, 1) := by decide +kernel
theorem dX4_closeReason_12 : decode cX4_closeReason 12 = .ok (.getfield 23, 3) := by decide +kernel
theorem dX4_closeReason_15 : decode cX4_closeReason 15 = .ok (.iload_n 1, 1) := by decide +kernel
theorem dX4_closeReason_16 : decode cX4_closeReason 16 = .ok (.invokestatic 34, 3) := by decide +kernel
theorem dX4_closeReason_19 : decode cX4_closeReason 19 = .ok (.ifCond .eq 6, 3) := by decide +kernel
theorem dX4_closeReason_22 : decode cX4_closeReason 22 = .ok (.bipush 111, 2) := by decide +kernel
theorem dX4_closeReason_24 : decode cX4_closeReason 24 = .ok (.ireturn, 1) := by decide +kernel
theorem dX4_closeReason_25 : decode cX4_closeReason 25 = .ok (.aload_n 0, 1) := by decide +kernel
theorem dX4_closeReason_26 : decode cX4_closeReason 26 = .ok (.getfield 9, 3) := by decide +kernel
theorem dX4_closeReason_29 : decode cX4_closeReason 29 = .ok (.iload_n 1, 1) := by decide +kernel
theorem dX4_closeReason_30 : decode cX4_closeReason 30 = .ok (.invokevirtual 44, 3) := by decide +kernel
theorem dX4_closeReason_33 : decode cX4_closeReason 33 = .ok (.istore_n 3, 1) := by decide +kernel
theorem dX4_closeReason_34 : decode cX4_closeReason 34 = .ok (.aload_n 0, 1) := by decide +kernel
theorem dX4_closeReason_35 : decode cX4_closeReason 35 = .ok (.getfield 9, 3) := by decide +kernel
theorem dX4_closeReason_38 : decode cX4_closeReason 38 = .ok (.iload_n 3, 1) := by decide +kernel
theorem dX4_closeReason_39 : decode cX4_closeReason 39 = .ok (.iload_n 2, 1) := by decide +kernel
theorem dX4_closeReason_40 : decode cX4_closeReason 40 = .ok (.invokevirtual 48, 3) := by decide +kernel
theorem dX4_closeReason_43 : decode cX4_closeReason 43 = .ok (.istore 4, 2) := by decide +kernel
theorem dX4_closeReason_45 : decode cX4_closeReason 45 = .ok (.aload_n 0, 1) := by decide +kernel
theorem dX4_closeReason_46 : decode cX4_closeReason 46 = .ok (.getfield 9, 3) := by decide +kernel
theorem dX4_closeReason_49 : decode cX4_closeReason 49 = .ok (.aload_n 0, 1) := by decide +kernel
theorem dX4_closeReason_50 : decode cX4_closeReason 50 = .ok (.getfield 9, 3) := by decide +kernel
theorem dX4_closeReason_53 : decode cX4_closeReason 53 = .ok (.iload_n 3, 1) := by decide +kernel
theorem dX4_closeReason_54 : decode cX4_closeReason 54 = .ok (.iload_n 1, 1) := by decide +kernel
theorem dX4_closeReason_55 : decode cX4_closeReason 55 = .ok (.invokevirtual 51, 3) := by decide +kernel
theorem dX4_closeReason_58 : decode cX4_closeReason 58 = .ok (.iload_n 2, 1) := by decide +kernel
theorem dX4_closeReason_59 : decode cX4_closeReason 59 = .ok (.invokevirtual 48, 3) := by decide +kernel
theorem dX4_closeReason_62 : decode cX4_closeReason 62 = .ok (.istore 5, 2) := by decide +kernel
theorem dX4_closeReason_64 : decode cX4_closeReason 64 = .ok (.aload_n 0, 1) := by decide +kernel
theorem dX4_closeReason_65 : decode cX4_closeReason 65 = .ok (.getfield 9, 3) := by decide +kernel
theorem dX4_closeReason_68 : decode cX4_closeReason 68 = .ok (.iload 4, 2) := by decide +kernel
theorem dX4_closeReason_70 : decode cX4_closeReason 70 = .ok (.invokevirtual 54, 3) := by decide +kernel
theorem dX4_closeReason_73 : decode cX4_closeReason 73 = .ok (.iconst (-1), 1) := by decide +kernel
theorem dX4_closeReason_74 : decode cX4_closeReason 74 = .ok (.if_icmp .eq 7, 3) := by decide +kernel
theorem dX4_closeReason_77 : decode cX4_closeReason 77 = .ok (.iconst 1, 1) := by decide +kernel
theorem dX4_closeReason_78 : decode cX4_closeReason 78 = .ok (.goto 4, 3) := by decide +kernel
theorem dX4_closeReason_81 : decode cX4_closeReason 81 = .ok (.iconst 0, 1) := by decide +kernel
theorem dX4_closeReason_82 : decode cX4_closeReason 82 = .ok (.istore 6, 2) := by decide +kernel
theorem dX4_closeReason_84 : decode cX4_closeReason 84 = .ok (.aload_n 0, 1) := by decide +kernel
theorem dX4_closeReason_85 : decode cX4_closeReason 85 = .ok (.getfield 9, 3) := by decide +kernel
theorem dX4_closeReason_88 : decode cX4_closeReason 88 = .ok (.iload 5, 2) := by decide +kernel
theorem dX4_closeReason_90 : decode cX4_closeReason 90 = .ok (.invokevirtual 54, 3) := by decide +kernel
theorem dX4_closeReason_93 : decode cX4_closeReason 93 = .ok (.iconst (-1), 1) := by decide +kernel
theorem dX4_closeReason_94 : decode cX4_closeReason 94 = .ok (.if_icmp .eq 7, 3) := by decide +kernel
theorem dX4_closeReason_97 : decode cX4_closeReason 97 = .ok (.iconst 1, 1) := by decide +kernel
theorem dX4_closeReason_98 : decode cX4_closeReason 98 = .ok (.goto 4, 3) := by decide +kernel
theorem dX4_closeReason_101 : decode cX4_closeReason 101 = .ok (.iconst 0, 1) := by decide +kernel
theorem dX4_closeReason_102 : decode cX4_closeReason 102 = .ok (.istore 7, 2) := by decide +kernel
theorem dX4_closeReason_104 : decode cX4_closeReason 104 = .ok (.iload 6, 2) := by decide +kernel
theorem dX4_closeReason_106 : decode cX4_closeReason 106 = .ok (.iload 7, 2) := by decide +kernel
theorem dX4_closeReason_108 : decode cX4_closeReason 108 = .ok (.if_icmp .ne 7, 3) := by decide +kernel
theorem dX4_closeReason_111 : decode cX4_closeReason 111 = .ok (.iconst 0, 1) := by decide +kernel
theorem dX4_closeReason_112 : decode cX4_closeReason 112 = .ok (.goto 15, 3) := by decide +kernel
theorem dX4_closeReason_115 : decode cX4_closeReason 115 = .ok (.iload 6, 2) := by decide +kernel
theorem dX4_closeReason_117 : decode cX4_closeReason 117 = .ok (.ifCond .eq 8, 3) := by decide +kernel
theorem dX4_closeReason_120 : decode cX4_closeReason 120 = .ok (.iload 5, 2) := by decide +kernel
theorem dX4_closeReason_122 : decode cX4_closeReason 122 = .ok (.goto 5, 3) := by decide +kernel
theorem dX4_closeReason_125 : decode cX4_closeReason 125 = .ok (.iload 4, 2) := by decide +kernel
theorem dX4_closeReason_127 : decode cX4_closeReason 127 = .ok (.istore 8, 2) := by decide +kernel
theorem dX4_closeReason_129 : decode cX4_closeReason 129 = .ok (.aload_n 0, 1) := by decide +kernel
theorem dX4_closeReason_130 : decode cX4_closeReason 130 = .ok (.getfield 31, 3) := by decide +kernel
theorem dX4_closeReason_133 : decode cX4_closeReason 133 = .ok (.iload_n 1, 1) := by decide +kernel
theorem dX4_closeReason_134 : decode cX4_closeReason 134 = .ok (.invokestatic 34, 3) := by decide +kernel
theorem dX4_closeReason_137 : decode cX4_closeReason 137 = .ok (.ifCond .ne 21, 3) := by decide +kernel
theorem dX4_closeReason_140 : decode cX4_closeReason 140 = .ok (.aload_n 0, 1) := by decide +kernel
theorem dX4_closeReason_141 : decode cX4_closeReason 141 = .ok (.getfield 9, 3) := by decide +kernel
theorem dX4_closeReason_144 : decode cX4_closeReason 144 = .ok (.iload 8, 2) := by decide +kernel
theorem dX4_closeReason_146 : decode cX4_closeReason 146 = .ok (.iload_n 2, 1) := by decide +kernel
theorem dX4_closeReason_147 : decode cX4_closeReason 147 = .ok (.invokevirtual 57, 3) := by decide +kernel
theorem dX4_closeReason_150 : decode cX4_closeReason 150 = .ok (.aload_n 0, 1) := by decide +kernel
theorem dX4_closeReason_151 : decode cX4_closeReason 151 = .ok (.getfield 31, 3) := by decide +kernel
theorem dX4_closeReason_154 : decode cX4_closeReason 154 = .ok (.iand, 1) := by decide +kernel
theorem dX4_closeReason_155 : decode cX4_closeReason 155 = .ok (.ifCond .eq 6, 3) := by decide +kernel
theorem dX4_closeReason_158 : decode cX4_closeReason 158 = .ok (.bipush 102, 2) := by decide +kernel
theorem dX4_closeReason_160 : decode cX4_closeReason 160 = .ok (.ireturn, 1) := by decide +kernel
theorem dX4_closeReason_161 : decode cX4_closeReason 161 = .ok (.iload 4, 2) := by decide +kernel
theorem dX4_closeReason_163 : decode cX4_closeReason 163 = .ok (.iload 5, 2) := by decide +kernel
theorem dX4_closeReason_165 : decode cX4_closeReason 165 = .ok (.if_icmp .eq 13, 3) := by decide +kernel
theorem dX4_closeReason_168 : decode cX4_closeReason 168 = .ok (.iload 6, 2) := by decide +kernel
theorem dX4_closeReason_170 : decode cX4_closeReason 170 = .ok (.ifCond .eq 11, 3) := by decide +kernel
theorem dX4_closeReason_173 : decode cX4_closeReason 173 = .ok (.iload 7, 2) := by decide +kernel
theorem dX4_closeReason_175 : decode cX4_closeReason 175 = .ok (.ifCond .eq 6, 3) := by decide +kernel
theorem dX4_closeReason_178 : decode cX4_closeReason 178 = .ok (.bipush 114, 2) := by decide +kernel
theorem dX4_closeReason_180 : decode cX4_closeReason 180 = .ok (.ireturn, 1) := by decide +kernel
theorem dX4_closeReason_181 : decode cX4_closeReason 181 = .ok (.aload_n 0, 1) := by decide +kernel
theorem dX4_closeReason_182 : decode cX4_closeReason 182 = .ok (.getfield 9, 3) := by decide +kernel
theorem dX4_closeReason_185 : decode cX4_closeReason 185 = .ok (.getfield 26, 3) := by decide +kernel
theorem dX4_closeReason_188 : decode cX4_closeReason 188 = .ok (.iload_n 1, 1) := by decide +kernel
theorem dX4_closeReason_189 : decode cX4_closeReason 189 = .ok (.invokestatic 34, 3) := by decide +kernel
theorem dX4_closeReason_192 : decode cX4_closeReason 192 = .ok (.ifCond .ne 18, 3) := by decide +kernel
theorem dX4_closeReason_195 : decode cX4_closeReason 195 = .ok (.aload_n 0, 1) := by decide +kernel
theorem dX4_closeReason_196 : decode cX4_closeReason 196 = .ok (.getfield 9, 3) := by decide +kernel
theorem dX4_closeReason_199 : decode cX4_closeReason 199 = .ok (.iload 8, 2) := by decide +kernel
theorem dX4_closeReason_201 : decode cX4_closeReason 201 = .ok (.invokevirtual 60, 3) := by decide +kernel
theorem dX4_closeReason_204 : decode cX4_closeReason 204 = .ok (.ifCond .le 6, 3) := by decide +kernel
theorem dX4_closeReason_207 : decode cX4_closeReason 207 = .ok (.bipush 100, 2) := by decide +kernel
theorem dX4_closeReason_209 : decode cX4_closeReason 209 = .ok (.ireturn, 1) := by decide +kernel
theorem dX4_closeReason_210 : decode cX4_closeReason 210 = .ok (.iload 8, 2) := by decide +kernel
theorem dX4_closeReason_212 : decode cX4_closeReason 212 = .ok (.ifCond .ne 6, 3) := by decide +kernel
theorem dX4_closeReason_215 : decode cX4_closeReason 215 = .ok (.bipush 110, 2) := by decide +kernel
theorem dX4_closeReason_217 : decode cX4_closeReason 217 = .ok (.ireturn, 1) := by decide +kernel
theorem dX4_closeReason_218 : decode cX4_closeReason 218 = .ok (.aload_n 0, 1) := by decide +kernel
theorem dX4_closeReason_219 : decode cX4_closeReason 219 = .ok (.getfield 9, 3) := by decide +kernel
theorem dX4_closeReason_222 : decode cX4_closeReason 222 = .ok (.iload 4, 2) := by decide +kernel
theorem dX4_closeReason_224 : decode cX4_closeReason 224 = .ok (.iload 5, 2) := by decide +kernel
theorem dX4_closeReason_226 : decode cX4_closeReason 226 = .ok (.ior, 1) := by decide +kernel
theorem dX4_closeReason_227 : decode cX4_closeReason 227 = .ok (.invokevirtual 63, 3) := by decide +kernel
theorem dX4_closeReason_230 : decode cX4_closeReason 230 = .ok (.ifCond .eq 6, 3) := by decide +kernel
theorem dX4_closeReason_233 : decode cX4_closeReason 233 = .ok (.bipush 115, 2) := by decide +kernel
theorem dX4_closeReason_235 : decode cX4_closeReason 235 = .ok (.ireturn, 1) := by decide +kernel
theorem dX4_closeReason_236 : decode cX4_closeReason 236 = .ok (.aload_n 0, 1) := by decide +kernel
theorem dX4_closeReason_237 : decode cX4_closeReason 237 = .ok (.getfield 15, 3) := by decide +kernel
theorem dX4_closeReason_240 : decode cX4_closeReason 240 = .ok (.iload_n 2, 1) := by decide +kernel
theorem dX4_closeReason_241 : decode cX4_closeReason 241 = .ok (.iload_n 1, 1) := by decide +kernel
theorem dX4_closeReason_242 : decode cX4_closeReason 242 = .ok (.invokestatic 67, 3) := by decide +kernel
theorem dX4_closeReason_245 : decode cX4_closeReason 245 = .ok (.ior, 1) := by decide +kernel
theorem dX4_closeReason_246 : decode cX4_closeReason 246 = .ok (.invokevirtual 70, 3) := by decide +kernel
theorem dX4_closeReason_249 : decode cX4_closeReason 249 = .ok (.iconst (-1), 1) := by decide +kernel
theorem dX4_closeReason_250 : decode cX4_closeReason 250 = .ok (.if_icmp .ne 8, 3) := by decide +kernel
theorem dX4_closeReason_253 : decode cX4_closeReason 253 = .ok (.bipush 110, 2) := by decide +kernel
theorem dX4_closeReason_255 : decode cX4_closeReason 255 = .ok (.goto 5, 3) := by decide +kernel
theorem dX4_closeReason_258 : decode cX4_closeReason 258 = .ok (.bipush 108, 2) := by decide +kernel
theorem dX4_closeReason_260 : decode cX4_closeReason 260 = .ok (.ireturn, 1) := by decide +kernel
set_option maxRecDepth 20000 in
theorem ggX4_keepLimits_X5_has : GoodIn wsX4_keepLimits wsX5_has := goodIn_r _ [6] (by decide +kernel) (by decide +kernel)
set_option maxRecDepth 20000 in
theorem gX4_keepLimits_X5_has_n34 : GoodIn wsX4_keepLimits (wsX5_has) := ggX4_keepLimits_X5_has
set_option maxRecDepth 20000 in
theorem ggX4_keepLimits_X1_islandAround : GoodIn wsX4_keepLimits wsX1_islandAround := goodIn_ca (goodIn_r _ [11, 12, 5, 13, 14, 15, 16, 17, 18, 19, 20, 21, 10, 22, 23, 4, 6, 24, 25, 26, 27, 28, 29, 88, 89, 90, 91, 92, 93, 94, 95, 96, 97] (by decide +kernel) (by decide +kernel)) (goodIn_sub (fun _ h => List.mem_cons_of_mem _ (List.mem_append_right _ h)) (by decide +kernel))
set_option maxRecDepth 20000 in
theorem gX4_keepLimits_X1_islandAround : GoodIn wsX4_keepLimits (wsV RX4 48 RX1 yX1_islandAround wsX1_islandAround) := goodIn_app (goodIn_of _ (by decide +kernel)) ggX4_keepLimits_X1_islandAround
set_option maxRecDepth 20000 in
theorem ggX4_keepLimits_X1_asksTooMuch : GoodIn wsX4_keepLimits wsX1_asksTooMuch := goodIn_ca (goodIn_r _ [33, 34, 35, 36, 10, 37, 38, 39, 4, 5, 6, 40, 41, 42, 43, 44, 14, 15, 16, 17, 18, 45, 46, 47, 48, 49, 50, 51, 52, 53, 88, 89, 90, 91, 92, 93, 94, 95, 96, 97] (by decide +kernel) (by decide +kernel)) (goodIn_sub (fun _ h => List.mem_cons_of_mem _ (List.mem_append_right _ h)) (by decide +kernel))
set_option maxRecDepth 20000 in
theorem gX4_keepLimits_X1_asksTooMuch : GoodIn wsX4_keepLimits (wsV RX4 63 RX1 yX1_asksTooMuch wsX1_asksTooMuch) := goodIn_app (goodIn_of _ (by decide +kernel)) ggX4_keepLimits_X1_asksTooMuch
set_option maxRecDepth 20000 in
theorem ggX4_keepLimits_X0_firstOverloaded : GoodIn wsX4_keepLimits wsX0_firstOverloaded := goodIn_ca (goodIn_r _ [58, 59, 60, 61, 62, 63, 57, 64, 4, 5, 6, 65, 66, 67, 68, 69, 70, 71, 10, 72, 38, 39, 73, 25, 26, 27, 23, 28, 29, 74, 75, 76, 77, 78, 79, 80, 81, 82, 98, 99, 100, 88, 89, 90, 91, 92, 93, 94, 95, 96, 97] (by decide +kernel) (by decide +kernel)) (goodIn_sub (fun _ h => List.mem_cons_of_mem _ (List.mem_append_right _ h)) (by decide +kernel))
set_option maxRecDepth 20000 in
theorem gX4_keepLimits_X0_firstOverloaded : GoodIn wsX4_keepLimits (wsV RX4 70 RX0 yX0_firstOverloaded wsX0_firstOverloaded) := goodIn_app (goodIn_of _ (by decide +kernel)) ggX4_keepLimits_X0_firstOverloaded
theorem dX4_keepLimits_0 : decode cX4_keepLimits 0 = .ok (.iconst 0, 1) := by decide +kernel
theorem dX4_keepLimits_1 : decode cX4_keepLimits 1 = .ok (.istore_n 1, 1) := by decide +kernel
theorem dX4_keepLimits_2 : decode cX4_keepLimits 2 = .ok (.iload_n 1, 1) := by decide +kernel
theorem dX4_keepLimits_3 : decode cX4_keepLimits 3 = .ok (.aload_n 0, 1) := by decide +kernel
theorem dX4_keepLimits_4 : decode cX4_keepLimits 4 = .ok (.getfield 9, 3) := by decide +kernel
theorem dX4_keepLimits_7 : decode cX4_keepLimits 7 = .ok (.getfield 73, 3) := by decide +kernel
theorem dX4_keepLimits_10 : decode cX4_keepLimits 10 = .ok (.if_icmp .ge 47, 3) := by decide +kernel
theorem dX4_keepLimits_13 : decode cX4_keepLimits 13 = .ok (.aload_n 0, 1) := by decide +kernel
theorem dX4_keepLimits_14 : decode cX4_keepLimits 14 = .ok (.getfield 9, 3) := by decide +kernel
theorem dX4_keepLimits_17 : decode cX4_keepLimits 17 = .ok (.getfield 76, 3) := by decide +kernel
theorem dX4_keepLimits_20 : decode cX4_keepLimits 20 = .ok (.iload_n 1, 1) := by decide +kernel
theorem dX4_keepLimits_21 : decode cX4_keepLimits 21 = .ok (.invokestatic 34, 3) := by decide +kernel
theorem dX4_keepLimits_24 : decode cX4_keepLimits 24 = .ok (.ifCond .eq 27, 3) := by decide +kernel
theorem dX4_keepLimits_27 : decode cX4_keepLimits 27 = .ok (.aload_n 0, 1) := by decide +kernel
theorem dX4_keepLimits_28 : decode cX4_keepLimits 28 = .ok (.getfield 9, 3) := by decide +kernel
theorem dX4_keepLimits_31 : decode cX4_keepLimits 31 = .ok (.aload_n 0, 1) := by decide +kernel
theorem dX4_keepLimits_32 : decode cX4_keepLimits 32 = .ok (.getfield 9, 3) := by decide +kernel
theorem dX4_keepLimits_35 : decode cX4_keepLimits 35 = .ok (.iload_n 1, 1) := by decide +kernel
theorem dX4_keepLimits_36 : decode cX4_keepLimits 36 = .ok (.aload_n 0, 1) := by decide +kernel
theorem dX4_keepLimits_37 : decode cX4_keepLimits 37 = .ok (.getfield 19, 3) := by decide +kernel
theorem dX4_keepLimits_40 : decode cX4_keepLimits 40 = .ok (.invokevirtual 48, 3) := by decide +kernel
theorem dX4_keepLimits_43 : decode cX4_keepLimits 43 = .ok (.invokevirtual 63, 3) := by decide +kernel
theorem dX4_keepLimits_46 : decode cX4_keepLimits 46 = .ok (.ifCond .eq 5, 3) := by decide +kernel
theorem dX4_keepLimits_49 : decode cX4_keepLimits 49 = .ok (.iconst 0, 1) := by decide +kernel
theorem dX4_keepLimits_50 : decode cX4_keepLimits 50 = .ok (.ireturn, 1) := by decide +kernel
theorem dX4_keepLimits_51 : decode cX4_keepLimits 51 = .ok (.iinc 1 1, 3) := by decide +kernel
theorem dX4_keepLimits_54 : decode cX4_keepLimits 54 = .ok (.goto (-52), 3) := by decide +kernel
theorem dX4_keepLimits_57 : decode cX4_keepLimits 57 = .ok (.aload_n 0, 1) := by decide +kernel
theorem dX4_keepLimits_58 : decode cX4_keepLimits 58 = .ok (.getfield 15, 3) := by decide +kernel
theorem dX4_keepLimits_61 : decode cX4_keepLimits 61 = .ok (.aload_n 0, 1) := by decide +kernel
theorem dX4_keepLimits_62 : decode cX4_keepLimits 62 = .ok (.getfield 19, 3) := by decide +kernel
theorem dX4_keepLimits_65 : decode cX4_keepLimits 65 = .ok (.invokevirtual 70, 3) := by decide +kernel
theorem dX4_keepLimits_68 : decode cX4_keepLimits 68 = .ok (.iconst (-1), 1) := by decide +kernel
theorem dX4_keepLimits_69 : decode cX4_keepLimits 69 = .ok (.if_icmp .ne 7, 3) := by decide +kernel
theorem dX4_keepLimits_72 : decode cX4_keepLimits 72 = .ok (.iconst 1, 1) := by decide +kernel
theorem dX4_keepLimits_73 : decode cX4_keepLimits 73 = .ok (.goto 4, 3) := by decide +kernel
theorem dX4_keepLimits_76 : decode cX4_keepLimits 76 = .ok (.iconst 0, 1) := by decide +kernel
theorem dX4_keepLimits_77 : decode cX4_keepLimits 77 = .ok (.ireturn, 1) := by decide +kernel
set_option maxRecDepth 20000 in
theorem ggX5_init_X1_init : GoodIn wsX5_init wsX1_init := goodIn_r _ [25, 26, 2, 3, 27, 28, 29, 30, 31, 32, 33, 62, 63, 64, 65, 66, 67, 68, 69, 70, 71] (by decide +kernel) (by decide +kernel)
set_option maxRecDepth 20000 in
theorem gX5_init_X1_init_n9 : GoodIn wsX5_init (wsX1_init) := ggX5_init_X1_init
set_option maxRecDepth 20000 in
theorem ggX5_init_X0_init : GoodIn wsX5_init wsX0_init := goodIn_r _ [36, 37, 2, 3, 27, 38, 39, 40, 78, 79, 80] (by decide +kernel) (by decide +kernel)
set_option maxRecDepth 20000 in
theorem gX5_init_X0_init : GoodIn wsX5_init (wsX0_init) := ggX5_init_X0_init
set_option maxRecDepth 20000 in
theorem ggX5_init_X4_init : GoodIn wsX5_init wsX4_init := goodIn_r _ [43, 44, 2, 3, 45, 46, 81, 82, 83, 84, 85] (by decide +kernel) (by decide +kernel)
set_option maxRecDepth 20000 in
theorem gX5_init_X4_init : GoodIn wsX5_init (wsX4_init) := ggX5_init_X4_init
set_option maxRecDepth 20000 in
theorem ggX5_init_X3_init : GoodIn wsX5_init wsX3_init := goodIn_r _ [49, 50, 2, 3, 27, 51, 52, 53, 54, 55, 86, 87, 88, 89, 90] (by decide +kernel) (by decide +kernel)
set_option maxRecDepth 20000 in
theorem gX5_init_X3_init : GoodIn wsX5_init (wsX3_init) := ggX5_init_X3_init
set_option maxRecDepth 20000 in
theorem ggX5_init_X2_init : GoodIn wsX5_init wsX2_init := goodIn_r _ [58, 59, 2, 3, 60, 61, 91, 92, 93, 94, 95] (by decide +kernel) (by decide +kernel)
set_option maxRecDepth 20000 in
theorem gX5_init_X2_init : GoodIn wsX5_init (wsX2_init) := ggX5_init_X2_init
theorem dX5_init_0 : decode cX5_init 0 = .ok (.aload_n 0, 1) := by decide +kernel
theorem dX5_init_1 : decode cX5_init 1 = .ok (.invokespecial 1, 3) := by decide +kernel
theorem dX5_init_4 : decode cX5_init 4 = .ok (.aload_n 0, 1) := by decide +kernel
theorem dX5_init_5 : decode cX5_init 5 = .ok (.new 7, 3) := by decide +kernel
theorem dX5_init_8 : decode cX5_init 8 = .ok (.dup, 1) := by decide +kernel
theorem dX5_init_9 : decode cX5_init 9 = .ok (.invokespecial 9, 3) := by decide +kernel
theorem dX5_init_12 : decode cX5_init 12 = .ok (.putfield 10, 3) := by decide +kernel
theorem dX5_init_15 : decode cX5_init 15 = .ok (.aload_n 0, 1) := by decide +kernel
theorem dX5_init_16 : decode cX5_init 16 = .ok (.new 16, 3) := by decide +kernel
theorem dX5_init_19 : decode cX5_init 19 = .ok (.dup, 1) := by decide +kernel
theorem dX5_init_20 : decode cX5_init 20 = .ok (.aload_n 0, 1) := by decide +kernel
theorem dX5_init_21 : decode cX5_init 21 = .ok (.getfield 10, 3) := by decide +kernel
theorem dX5_init_24 : decode cX5_init 24 = .ok (.invokespecial 18, 3) := by decide +kernel
theorem dX5_init_27 : decode cX5_init 27 = .ok (.putfield 21, 3) := by decide +kernel
theorem dX5_init_30 : decode cX5_init 30 = .ok (.aload_n 0, 1) := by decide +kernel
theorem dX5_init_31 : decode cX5_init 31 = .ok (.new 25, 3) := by decide +kernel
theorem dX5_init_34 : decode cX5_init 34 = .ok (.dup, 1) := by decide +kernel
theorem dX5_init_35 : decode cX5_init 35 = .ok (.aload_n 0, 1) := by decide +kernel
theorem dX5_init_36 : decode cX5_init 36 = .ok (.getfield 10, 3) := by decide +kernel
theorem dX5_init_39 : decode cX5_init 39 = .ok (.aload_n 0, 1) := by decide +kernel
theorem dX5_init_40 : decode cX5_init 40 = .ok (.getfield 21, 3) := by decide +kernel
theorem dX5_init_43 : decode cX5_init 43 = .ok (.invokespecial 27, 3) := by decide +kernel
theorem dX5_init_46 : decode cX5_init 46 = .ok (.putfield 30, 3) := by decide +kernel
theorem dX5_init_49 : decode cX5_init 49 = .ok (.aload_n 0, 1) := by decide +kernel
theorem dX5_init_50 : decode cX5_init 50 = .ok (.new 34, 3) := by decide +kernel
theorem dX5_init_53 : decode cX5_init 53 = .ok (.dup, 1) := by decide +kernel
theorem dX5_init_54 : decode cX5_init 54 = .ok (.aload_n 0, 1) := by decide +kernel
theorem dX5_init_55 : decode cX5_init 55 = .ok (.getfield 10, 3) := by decide +kernel
theorem dX5_init_58 : decode cX5_init 58 = .ok (.aload_n 0, 1) := by decide +kernel
theorem dX5_init_59 : decode cX5_init 59 = .ok (.getfield 21, 3) := by decide +kernel
theorem dX5_init_62 : decode cX5_init 62 = .ok (.invokespecial 36, 3) := by decide +kernel
theorem dX5_init_65 : decode cX5_init 65 = .ok (.putfield 37, 3) := by decide +kernel
theorem dX5_init_68 : decode cX5_init 68 = .ok (.aload_n 0, 1) := by decide +kernel
theorem dX5_init_69 : decode cX5_init 69 = .ok (.new 41, 3) := by decide +kernel
theorem dX5_init_72 : decode cX5_init 72 = .ok (.dup, 1) := by decide +kernel
theorem dX5_init_73 : decode cX5_init 73 = .ok (.aload_n 0, 1) := by decide +kernel
theorem dX5_init_74 : decode cX5_init 74 = .ok (.getfield 10, 3) := by decide +kernel
theorem dX5_init_77 : decode cX5_init 77 = .ok (.aload_n 0, 1) := by decide +kernel
theorem dX5_init_78 : decode cX5_init 78 = .ok (.getfield 30, 3) := by decide +kernel
theorem dX5_init_81 : decode cX5_init 81 = .ok (.invokespecial 43, 3) := by decide +kernel
theorem dX5_init_84 : decode cX5_init 84 = .ok (.putfield 46, 3) := by decide +kernel
theorem dX5_init_87 : decode cX5_init 87 = .ok (.return_, 1) := by decide +kernel
set_option maxRecDepth 20000 in
theorem ggX5_addSource_X1_addNode : GoodIn wsX5_addSource wsX1_addNode := goodIn_ca (goodIn_r _ [8, 9, 10, 11, 12, 13, 14, 15, 16, 28, 29, 30, 31, 32, 33, 34, 35, 36, 37] (by decide +kernel) (by decide +kernel)) (goodIn_sub (fun _ h => List.mem_cons_of_mem _ (List.mem_append_left _ (List.mem_append_right _ h))) (by decide +kernel))
set_option maxRecDepth 20000 in
theorem gX5_addSource_X1_addNode : GoodIn wsX5_addSource (wsV RX5 57 RX1 yX1_addNode wsX1_addNode) := goodIn_app (goodIn_of _ (by decide +kernel)) ggX5_addSource_X1_addNode
set_option maxRecDepth 20000 in
theorem ggX5_addSource_X5_added : GoodIn wsX5_addSource wsX5_added := goodIn_ca (goodIn_r _ [19, 20, 21] (by decide +kernel) (by decide +kernel)) (goodIn_sub (fun _ h => List.mem_cons_of_mem _ (List.mem_append_right _ h)) (by decide +kernel))
set_option maxRecDepth 20000 in
theorem gX5_addSource_X5_added : GoodIn wsX5_addSource (va_wsS RX5 61 yX5_added wsX5_added) := goodIn_app (goodIn_of _ (by decide +kernel)) ggX5_addSource_X5_added
theorem dX5_addSource_0 : decode cX5_addSource 0 = .ok (.iload_n 1, 1) := by decide +kernel
theorem dX5_addSource_1 : decode cX5_addSource 1 = .ok (.iconst 1, 1) := by decide +kernel
theorem dX5_addSource_2 : decode cX5_addSource 2 = .ok (.if_icmp .lt 10, 3) := by decide +kernel
theorem dX5_addSource_5 : decode cX5_addSource 5 = .ok (.iload_n 1, 1) := by decide +kernel
theorem dX5_addSource_6 : decode cX5_addSource 6 = .ok (.sipush 999, 3) := by decide +kernel
theorem dX5_addSource_9 : decode cX5_addSource 9 = .ok (.if_icmp .le 13, 3) := by decide +kernel
theorem dX5_addSource_12 : decode cX5_addSource 12 = .ok (.new 50, 3) := by decide +kernel
theorem dX5_addSource_15 : decode cX5_addSource 15 = .ok (.dup, 1) := by decide +kernel
theorem dX5_addSource_16 : decode cX5_addSource 16 = .ok (.ldc 52, 2) := by decide +kernel
theorem dX5_addSource_18 : decode cX5_addSource 18 = .ok (.invokespecial 54, 3) := by decide +kernel
theorem dX5_addSource_21 : decode cX5_addSource 21 = .ok (.athrow, 1) := by decide +kernel
theorem dX5_addSource_22 : decode cX5_addSource 22 = .ok (.aload_n 0, 1) := by decide +kernel
theorem dX5_addSource_23 : decode cX5_addSource 23 = .ok (.getfield 10, 3) := by decide +kernel
theorem dX5_addSource_26 : decode cX5_addSource 26 = .ok (.iload_n 1, 1) := by decide +kernel
theorem dX5_addSource_27 : decode cX5_addSource 27 = .ok (.iconst 0, 1) := by decide +kernel
theorem dX5_addSource_28 : decode cX5_addSource 28 = .ok (.iconst 0, 1) := by decide +kernel
theorem dX5_addSource_29 : decode cX5_addSource 29 = .ok (.invokevirtual 57, 3) := by decide +kernel
theorem dX5_addSource_32 : decode cX5_addSource 32 = .ok (.invokestatic 61, 3) := by decide +kernel
theorem dX5_addSource_35 : decode cX5_addSource 35 = .ok (.ireturn, 1) := by decide +kernel
set_option maxRecDepth 20000 in
theorem ggX5_addBus_X5_needLoad : GoodIn wsX5_addBus wsX5_needLoad := goodIn_ca (goodIn_r _ [7, 1, 2] (by decide +kernel) (by decide +kernel)) (goodIn_sub (fun _ h => List.mem_cons_of_mem _ (List.mem_append_left _ (List.mem_append_left _ (List.mem_append_right _ h)))) (by decide +kernel))
set_option maxRecDepth 20000 in
theorem gX5_addBus_X5_needLoad : GoodIn wsX5_addBus (va_wsS RX5 65 yX5_needLoad wsX5_needLoad) := goodIn_app (goodIn_of _ (by decide +kernel)) ggX5_addBus_X5_needLoad
set_option maxRecDepth 20000 in
theorem ggX5_addBus_X1_addNode : GoodIn wsX5_addBus wsX1_addNode := goodIn_ca (goodIn_r _ [12, 13, 14, 15, 16, 17, 18, 6, 19, 31, 32, 33, 34, 35, 36, 37, 38, 39, 40] (by decide +kernel) (by decide +kernel)) (goodIn_sub (fun _ h => List.mem_cons_of_mem _ (List.mem_append_left _ (List.mem_append_right _ h))) (by decide +kernel))
set_option maxRecDepth 20000 in
theorem gX5_addBus_X1_addNode : GoodIn wsX5_addBus (wsV RX5 57 RX1 yX1_addNode wsX1_addNode) := goodIn_app (goodIn_of _ (by decide +kernel)) ggX5_addBus_X1_addNode
set_option maxRecDepth 20000 in
theorem ggX5_addBus_X5_added : GoodIn wsX5_addBus wsX5_added := goodIn_ca (goodIn_r _ [22, 23, 24] (by decide +kernel) (by decide +kernel)) (goodIn_sub (fun _ h => List.mem_cons_of_mem _ (List.mem_append_right _ h)) (by decide +kernel))
set_option maxRecDepth 20000 in
theorem gX5_addBus_X5_added : GoodIn wsX5_addBus (va_wsS RX5 61 yX5_added wsX5_added) := goodIn_app (goodIn_of _ (by decide +kernel)) ggX5_addBus_X5_added
theorem dX5_addBus_0 : decode cX5_addBus 0 = .ok (.iload_n 1, 1) := by decide +kernel
theorem dX5_addBus_1 : decode cX5_addBus 1 = .ok (.invokestatic 65, 3) := by decide +kernel
theorem dX5_addBus_4 : decode cX5_addBus 4 = .ok (.iload_n 2, 1) := by decide +kernel
theorem dX5_addBus_5 : decode cX5_addBus 5 = .ok (.ifCond .lt 9, 3) := by decide +kernel
theorem dX5_addBus_8 : decode cX5_addBus 8 = .ok (.iload_n 2, 1) := by decide +kernel
theorem dX5_addBus_9 : decode cX5_addBus 9 = .ok (.bipush 9, 2) := by decide +kernel
theorem dX5_addBus_11 : decode cX5_addBus 11 = .ok (.if_icmp .le 13, 3) := by decide +kernel
theorem dX5_addBus_14 : decode cX5_addBus 14 = .ok (.new 50, 3) := by decide +kernel
theorem dX5_addBus_17 : decode cX5_addBus 17 = .ok (.dup, 1) := by decide +kernel
theorem dX5_addBus_18 : decode cX5_addBus 18 = .ok (.ldc 69, 2) := by decide +kernel
theorem dX5_addBus_20 : decode cX5_addBus 20 = .ok (.invokespecial 54, 3) := by decide +kernel
theorem dX5_addBus_23 : decode cX5_addBus 23 = .ok (.athrow, 1) := by decide +kernel
theorem dX5_addBus_24 : decode cX5_addBus 24 = .ok (.aload_n 0, 1) := by decide +kernel
theorem dX5_addBus_25 : decode cX5_addBus 25 = .ok (.getfield 10, 3) := by decide +kernel
theorem dX5_addBus_28 : decode cX5_addBus 28 = .ok (.iconst 0, 1) := by decide +kernel
theorem dX5_addBus_29 : decode cX5_addBus 29 = .ok (.iload_n 1, 1) := by decide +kernel
theorem dX5_addBus_30 : decode cX5_addBus 30 = .ok (.iload_n 2, 1) := by decide +kernel
theorem dX5_addBus_31 : decode cX5_addBus 31 = .ok (.invokevirtual 57, 3) := by decide +kernel
theorem dX5_addBus_34 : decode cX5_addBus 34 = .ok (.invokestatic 61, 3) := by decide +kernel
theorem dX5_addBus_37 : decode cX5_addBus 37 = .ok (.ireturn, 1) := by decide +kernel
set_option maxRecDepth 20000 in
theorem ggX5_addLine_X5_needNode : GoodIn wsX5_addLine wsX5_needNode := goodIn_ca (goodIn_r _ [9, 10, 11, 3, 12, 13, 14, 15, 16, 17, 47, 48, 49, 50, 51, 52, 53, 54, 55, 56, 57, 58, 59, 60, 61, 62] (by decide +kernel) (by decide +kernel)) (goodIn_sub (fun _ h => List.mem_cons_of_mem _ (List.mem_append_left _ (List.mem_append_left _ (List.mem_append_right _ h)))) (by decide +kernel))
set_option maxRecDepth 20000 in
theorem gX5_addLine_X5_needNode : GoodIn wsX5_addLine (wsV RX5 71 RX5 yX5_needNode wsX5_needNode) := goodIn_app (goodIn_of _ (by decide +kernel)) ggX5_addLine_X5_needNode
set_option maxRecDepth 20000 in
theorem ggX5_addLine_X1_addLineBetween : GoodIn wsX5_addLine wsX1_addLineBetween := goodIn_ca (goodIn_r _ [21, 22, 23, 24, 25, 26, 27, 8, 28, 53, 54, 55, 56, 57, 58, 59, 60, 61, 62] (by decide +kernel) (by decide +kernel)) (goodIn_sub (fun _ h => List.mem_cons_of_mem _ (List.mem_append_left _ (List.mem_append_right _ h))) (by decide +kernel))
set_option maxRecDepth 20000 in
theorem gX5_addLine_X1_addLineBetween : GoodIn wsX5_addLine (wsV RX5 78 RX1 yX1_addLineBetween wsX1_addLineBetween) := goodIn_app (goodIn_of _ (by decide +kernel)) ggX5_addLine_X1_addLineBetween
set_option maxRecDepth 20000 in
theorem ggX5_addLine_X5_added : GoodIn wsX5_addLine wsX5_added := goodIn_ca (goodIn_r _ [31, 32, 33] (by decide +kernel) (by decide +kernel)) (goodIn_sub (fun _ h => List.mem_cons_of_mem _ (List.mem_append_right _ h)) (by decide +kernel))
set_option maxRecDepth 20000 in
theorem gX5_addLine_X5_added : GoodIn wsX5_addLine (va_wsS RX5 61 yX5_added wsX5_added) := goodIn_app (goodIn_of _ (by decide +kernel)) ggX5_addLine_X5_added
set_option maxRecDepth 20000 in
theorem ggX5_addLine_X3_setUp : GoodIn wsX5_addLine wsX3_setUp := goodIn_ca (goodIn_r _ [38, 39, 40, 41, 42, 43, 44, 45, 15, 46, 22, 63, 64, 65, 66, 67, 53, 54, 55, 56, 57, 58, 59, 60, 61, 62] (by decide +kernel) (by decide +kernel)) (goodIn_sub (fun _ h => List.mem_cons_of_mem _ (List.mem_append_left _ (List.mem_append_right _ h))) (by decide +kernel))
set_option maxRecDepth 20000 in
theorem gX5_addLine_X3_setUp : GoodIn wsX5_addLine (wsV RX5 82 RX3 yX3_setUp wsX3_setUp) := goodIn_app (goodIn_of _ (by decide +kernel)) ggX5_addLine_X3_setUp
theorem dX5_addLine_0 : decode cX5_addLine 0 = .ok (.aload_n 0, 1) := by decide +kernel
theorem dX5_addLine_1 : decode cX5_addLine 1 = .ok (.iload_n 1, 1) := by decide +kernel
theorem dX5_addLine_2 : decode cX5_addLine 2 = .ok (.invokevirtual 71, 3) := by decide +kernel
theorem dX5_addLine_5 : decode cX5_addLine 5 = .ok (.aload_n 0, 1) := by decide +kernel
theorem dX5_addLine_6 : decode cX5_addLine 6 = .ok (.iload_n 2, 1) := by decide +kernel
theorem dX5_addLine_7 : decode cX5_addLine 7 = .ok (.invokevirtual 71, 3) := by decide +kernel
theorem dX5_addLine_10 : decode cX5_addLine 10 = .ok (.iload_n 1, 1) := by decide +kernel
theorem dX5_addLine_11 : decode cX5_addLine 11 = .ok (.iload_n 2, 1) := by decide +kernel
theorem dX5_addLine_12 : decode cX5_addLine 12 = .ok (.if_icmp .ne 13, 3) := by decide +kernel
theorem dX5_addLine_15 : decode cX5_addLine 15 = .ok (.new 50, 3) := by decide +kernel
theorem dX5_addLine_18 : decode cX5_addLine 18 = .ok (.dup, 1) := by decide +kernel
theorem dX5_addLine_19 : decode cX5_addLine 19 = .ok (.ldc 74, 2) := by decide +kernel
theorem dX5_addLine_21 : decode cX5_addLine 21 = .ok (.invokespecial 54, 3) := by decide +kernel
theorem dX5_addLine_24 : decode cX5_addLine 24 = .ok (.athrow, 1) := by decide +kernel
theorem dX5_addLine_25 : decode cX5_addLine 25 = .ok (.iload_n 3, 1) := by decide +kernel
theorem dX5_addLine_26 : decode cX5_addLine 26 = .ok (.iconst 1, 1) := by decide +kernel
theorem dX5_addLine_27 : decode cX5_addLine 27 = .ok (.if_icmp .lt 10, 3) := by decide +kernel
theorem dX5_addLine_30 : decode cX5_addLine 30 = .ok (.iload_n 3, 1) := by decide +kernel
theorem dX5_addLine_31 : decode cX5_addLine 31 = .ok (.sipush 999, 3) := by decide +kernel
theorem dX5_addLine_34 : decode cX5_addLine 34 = .ok (.if_icmp .le 13, 3) := by decide +kernel
theorem dX5_addLine_37 : decode cX5_addLine 37 = .ok (.new 50, 3) := by decide +kernel
theorem dX5_addLine_40 : decode cX5_addLine 40 = .ok (.dup, 1) := by decide +kernel
theorem dX5_addLine_41 : decode cX5_addLine 41 = .ok (.ldc 76, 2) := by decide +kernel
theorem dX5_addLine_43 : decode cX5_addLine 43 = .ok (.invokespecial 54, 3) := by decide +kernel
theorem dX5_addLine_46 : decode cX5_addLine 46 = .ok (.athrow, 1) := by decide +kernel
theorem dX5_addLine_47 : decode cX5_addLine 47 = .ok (.aload_n 0, 1) := by decide +kernel
theorem dX5_addLine_48 : decode cX5_addLine 48 = .ok (.getfield 10, 3) := by decide +kernel
theorem dX5_addLine_51 : decode cX5_addLine 51 = .ok (.iload_n 1, 1) := by decide +kernel
theorem dX5_addLine_52 : decode cX5_addLine 52 = .ok (.iload_n 2, 1) := by decide +kernel
theorem dX5_addLine_53 : decode cX5_addLine 53 = .ok (.iload_n 3, 1) := by decide +kernel
theorem dX5_addLine_54 : decode cX5_addLine 54 = .ok (.iload 4, 2) := by decide +kernel
theorem dX5_addLine_56 : decode cX5_addLine 56 = .ok (.invokevirtual 78, 3) := by decide +kernel
theorem dX5_addLine_59 : decode cX5_addLine 59 = .ok (.invokestatic 61, 3) := by decide +kernel
theorem dX5_addLine_62 : decode cX5_addLine 62 = .ok (.istore 5, 2) := by decide +kernel
theorem dX5_addLine_64 : decode cX5_addLine 64 = .ok (.aload_n 0, 1) := by decide +kernel
theorem dX5_addLine_65 : decode cX5_addLine 65 = .ok (.getfield 37, 3) := by decide +kernel
theorem dX5_addLine_68 : decode cX5_addLine 68 = .ok (.iload 5, 2) := by decide +kernel
theorem dX5_addLine_70 : decode cX5_addLine 70 = .ok (.iload_n 3, 1) := by decide +kernel
theorem dX5_addLine_71 : decode cX5_addLine 71 = .ok (.iconst 1, 1) := by decide +kernel
theorem dX5_addLine_72 : decode cX5_addLine 72 = .ok (.iconst 0, 1) := by decide +kernel
theorem dX5_addLine_73 : decode cX5_addLine 73 = .ok (.invokevirtual 82, 3) := by decide +kernel
theorem dX5_addLine_76 : decode cX5_addLine 76 = .ok (.iload 5, 2) := by decide +kernel
theorem dX5_addLine_78 : decode cX5_addLine 78 = .ok (.ireturn, 1) := by decide +kernel
set_option maxRecDepth 20000 in
theorem ggX5_setLoad_X5_needNode : GoodIn wsX5_setLoad wsX5_needNode := goodIn_ca (goodIn_r _ [9, 10, 11, 3, 12, 13, 14, 15, 16, 17, 116, 117, 118, 119, 120, 121, 122, 123, 124, 125, 126, 127, 128, 129, 130, 131] (by decide +kernel) (by decide +kernel)) (goodIn_sub (fun _ h => List.mem_cons_of_mem _ (List.mem_append_left _ (List.mem_append_left _ (List.mem_append_left _ (List.mem_append_right _ h))))) (by decide +kernel))
set_option maxRecDepth 20000 in
theorem gX5_setLoad_X5_needNode : GoodIn wsX5_setLoad (wsV RX5 71 RX5 yX5_needNode wsX5_needNode) := goodIn_app (goodIn_of _ (by decide +kernel)) ggX5_setLoad_X5_needNode
set_option maxRecDepth 20000 in
theorem ggX5_setLoad_X5_needLoad : GoodIn wsX5_setLoad wsX5_needLoad := goodIn_ca (goodIn_r _ [20, 21, 22] (by decide +kernel) (by decide +kernel)) (goodIn_sub (fun _ h => List.mem_cons_of_mem _ (List.mem_append_left _ (List.mem_append_left _ (List.mem_append_right _ h)))) (by decide +kernel))
set_option maxRecDepth 20000 in
theorem gX5_setLoad_X5_needLoad : GoodIn wsX5_setLoad (va_wsS RX5 65 yX5_needLoad wsX5_needLoad) := goodIn_app (goodIn_of _ (by decide +kernel)) ggX5_setLoad_X5_needLoad
set_option maxRecDepth 20000 in
theorem ggX5_setLoad_X5_needBus : GoodIn wsX5_setLoad wsX5_needBus := goodIn_ca (goodIn_r _ [26, 27, 28, 3, 29, 30, 8, 31, 116, 117, 118, 119, 120, 121, 122, 123, 124, 125, 126, 127, 128, 129, 130, 131] (by decide +kernel) (by decide +kernel)) (goodIn_sub (fun _ h => List.mem_cons_of_mem _ (List.mem_append_left _ (List.mem_append_right _ h))) (by decide +kernel))
set_option maxRecDepth 20000 in
theorem gX5_setLoad_X5_needBus : GoodIn wsX5_setLoad (wsV RX5 86 RX5 yX5_needBus wsX5_needBus) := goodIn_app (goodIn_of _ (by decide +kernel)) ggX5_setLoad_X5_needBus
set_option maxRecDepth 20000 in
theorem ggX5_setLoad_X1_loadAt : GoodIn wsX5_setLoad wsX1_loadAt := goodIn_ca (goodIn_r _ [35, 17, 36, 122, 123, 124, 125, 126, 127, 128, 129, 130, 131] (by decide +kernel) (by decide +kernel)) (goodIn_sub (fun _ h => List.mem_cons_of_mem _ (List.mem_append_right _ h)) (by decide +kernel))
set_option maxRecDepth 20000 in
theorem gX5_setLoad_X1_loadAt : GoodIn wsX5_setLoad (wsV RX5 89 RX1 yX1_loadAt wsX1_loadAt) := goodIn_app (goodIn_of _ (by decide +kernel)) ggX5_setLoad_X1_loadAt
set_option maxRecDepth 20000 in
theorem ggX5_setLoad_X1_putLoad : GoodIn wsX5_setLoad wsX1_putLoad := goodIn_ca (goodIn_r _ [40, 36, 41, 13, 14, 15, 16, 17, 122, 123, 124, 125, 126, 127, 128, 129, 130, 131] (by decide +kernel) (by decide +kernel)) (goodIn_sub (fun _ h => List.mem_cons_of_mem _ (List.mem_append_right _ h)) (by decide +kernel))
set_option maxRecDepth 20000 in
theorem gX5_setLoad_X1_putLoad : GoodIn wsX5_setLoad (wsV RX5 92 RX1 yX1_putLoad wsX1_putLoad) := goodIn_app (goodIn_of _ (by decide +kernel)) ggX5_setLoad_X1_putLoad
set_option maxRecDepth 20000 in
theorem ggX5_setLoad_X4_keepLimits : GoodIn wsX5_setLoad wsX4_keepLimits := goodIn_ca (goodIn_r _ [46, 47, 48, 49, 30, 8, 31, 50, 51, 52, 15, 53, 54, 55, 56, 57, 58, 59, 60, 61, 62, 63, 64, 65, 66, 67, 68, 69, 70, 71, 72, 73, 74, 75, 76, 77, 78, 79, 17, 36, 80, 81, 82, 83, 84, 85, 86, 87, 88, 89, 41, 13, 14, 16, 90, 91, 92, 93, 94, 95, 96, 97, 98, 99, 100, 101, 102, 103, 104, 105, 33, 34, 35, 106, 107, 108, 109, 110, 111, 112, 113, 114, 115, 132, 133, 134, 135, 136, 122, 123, 124, 125, 126, 127, 128, 129, 130, 131, 137, 138, 139] (by decide +kernel) (by decide +kernel)) (goodIn_sub (fun _ h => List.mem_cons_of_mem _ (List.mem_append_right _ h)) (by decide +kernel))
set_option maxRecDepth 20000 in
theorem gX5_setLoad_X4_keepLimits : GoodIn wsX5_setLoad (wsV RX5 96 RX4 yX4_keepLimits wsX4_keepLimits) := goodIn_app (goodIn_of _ (by decide +kernel)) ggX5_setLoad_X4_keepLimits
theorem dX5_setLoad_0 : decode cX5_setLoad 0 = .ok (.aload_n 0, 1) := by decide +kernel
theorem dX5_setLoad_1 : decode cX5_setLoad 1 = .ok (.iload_n 1, 1) := by decide +kernel
theorem dX5_setLoad_2 : decode cX5_setLoad 2 = .ok (.invokevirtual 71, 3) := by decide +kernel
theorem dX5_setLoad_5 : decode cX5_setLoad 5 = .ok (.iload_n 2, 1) := by decide +kernel
theorem dX5_setLoad_6 : decode cX5_setLoad 6 = .ok (.invokestatic 65, 3) := by decide +kernel
theorem dX5_setLoad_9 : decode cX5_setLoad 9 = .ok (.aload_n 0, 1) := by decide +kernel
theorem dX5_setLoad_10 : decode cX5_setLoad 10 = .ok (.iload_n 1, 1) := by decide +kernel
theorem dX5_setLoad_11 : decode cX5_setLoad 11 = .ok (.invokevirtual 86, 3) := by decide +kernel
theorem dX5_setLoad_14 : decode cX5_setLoad 14 = .ok (.aload_n 0, 1) := by decide +kernel
theorem dX5_setLoad_15 : decode cX5_setLoad 15 = .ok (.getfield 10, 3) := by decide +kernel
theorem dX5_setLoad_18 : decode cX5_setLoad 18 = .ok (.iload_n 1, 1) := by decide +kernel
theorem dX5_setLoad_19 : decode cX5_setLoad 19 = .ok (.invokevirtual 89, 3) := by decide +kernel
theorem dX5_setLoad_22 : decode cX5_setLoad 22 = .ok (.istore_n 3, 1) := by decide +kernel
theorem dX5_setLoad_23 : decode cX5_setLoad 23 = .ok (.aload_n 0, 1) := by decide +kernel
theorem dX5_setLoad_24 : decode cX5_setLoad 24 = .ok (.getfield 10, 3) := by decide +kernel
theorem dX5_setLoad_27 : decode cX5_setLoad 27 = .ok (.iload_n 1, 1) := by decide +kernel
theorem dX5_setLoad_28 : decode cX5_setLoad 28 = .ok (.iload_n 2, 1) := by decide +kernel
theorem dX5_setLoad_29 : decode cX5_setLoad 29 = .ok (.invokevirtual 92, 3) := by decide +kernel
theorem dX5_setLoad_32 : decode cX5_setLoad 32 = .ok (.aload_n 0, 1) := by decide +kernel
theorem dX5_setLoad_33 : decode cX5_setLoad 33 = .ok (.getfield 30, 3) := by decide +kernel
theorem dX5_setLoad_36 : decode cX5_setLoad 36 = .ok (.invokevirtual 96, 3) := by decide +kernel
theorem dX5_setLoad_39 : decode cX5_setLoad 39 = .ok (.ifCond .ne 22, 3) := by decide +kernel
theorem dX5_setLoad_42 : decode cX5_setLoad 42 = .ok (.aload_n 0, 1) := by decide +kernel
theorem dX5_setLoad_43 : decode cX5_setLoad 43 = .ok (.getfield 10, 3) := by decide +kernel
theorem dX5_setLoad_46 : decode cX5_setLoad 46 = .ok (.iload_n 1, 1) := by decide +kernel
theorem dX5_setLoad_47 : decode cX5_setLoad 47 = .ok (.iload_n 3, 1) := by decide +kernel
theorem dX5_setLoad_48 : decode cX5_setLoad 48 = .ok (.invokevirtual 92, 3) := by decide +kernel
theorem dX5_setLoad_51 : decode cX5_setLoad 51 = .ok (.new 100, 3) := by decide +kernel
theorem dX5_setLoad_54 : decode cX5_setLoad 54 = .ok (.dup, 1) := by decide +kernel
theorem dX5_setLoad_55 : decode cX5_setLoad 55 = .ok (.ldc 102, 2) := by decide +kernel
theorem dX5_setLoad_57 : decode cX5_setLoad 57 = .ok (.invokespecial 104, 3) := by decide +kernel
theorem dX5_setLoad_60 : decode cX5_setLoad 60 = .ok (.athrow, 1) := by decide +kernel
theorem dX5_setLoad_61 : decode cX5_setLoad 61 = .ok (.iload_n 3, 1) := by decide +kernel
theorem dX5_setLoad_62 : decode cX5_setLoad 62 = .ok (.ireturn, 1) := by decide +kernel
set_option maxRecDepth 20000 in
theorem ggX5_setRelay_X5_needLine : GoodIn wsX5_setRelay wsX5_needLine := goodIn_ca (goodIn_r _ [8, 9, 10, 11, 12, 13, 14, 15, 16, 17, 41, 42, 43, 44, 45, 46, 47, 48, 49, 50, 51, 52, 53, 54, 55, 56] (by decide +kernel) (by decide +kernel)) (goodIn_sub (fun _ h => List.mem_cons_of_mem _ (List.mem_append_left _ (List.mem_append_left _ (List.mem_append_right _ h)))) (by decide +kernel))
set_option maxRecDepth 20000 in
theorem gX5_setRelay_X5_needLine : GoodIn wsX5_setRelay (wsV RX5 105 RX5 yX5_needLine wsX5_needLine) := goodIn_app (goodIn_of _ (by decide +kernel)) ggX5_setRelay_X5_needLine
set_option maxRecDepth 20000 in
theorem ggX5_setRelay_X5_needBreaker : GoodIn wsX5_setRelay wsX5_needBreaker := goodIn_ca (goodIn_r _ [21, 22, 23, 11, 24, 25, 7, 26, 41, 42, 43, 44, 45, 46, 47, 48, 49, 50, 51, 52, 53, 54, 55, 56] (by decide +kernel) (by decide +kernel)) (goodIn_sub (fun _ h => List.mem_cons_of_mem _ (List.mem_append_left _ (List.mem_append_right _ h))) (by decide +kernel))
set_option maxRecDepth 20000 in
theorem gX5_setRelay_X5_needBreaker : GoodIn wsX5_setRelay (wsV RX5 114 RX5 yX5_needBreaker wsX5_needBreaker) := goodIn_app (goodIn_of _ (by decide +kernel)) ggX5_setRelay_X5_needBreaker
set_option maxRecDepth 20000 in
theorem ggX5_setRelay_X3_pickupAt : GoodIn wsX5_setRelay wsX3_pickupAt := goodIn_ca (goodIn_r _ [31, 32, 33, 34, 13, 14, 15, 16, 17, 57, 58, 59, 60, 61, 47, 48, 49, 50, 51, 52, 53, 54, 55, 56] (by decide +kernel) (by decide +kernel)) (goodIn_sub (fun _ h => List.mem_cons_of_mem _ (List.mem_append_right _ h)) (by decide +kernel))
set_option maxRecDepth 20000 in
theorem gX5_setRelay_X3_pickupAt : GoodIn wsX5_setRelay (wsV RX5 117 RX3 yX3_pickupAt wsX3_pickupAt) := goodIn_app (goodIn_of _ (by decide +kernel)) ggX5_setRelay_X3_pickupAt
set_option maxRecDepth 20000 in
theorem ggX5_setRelay_X3_setUp : GoodIn wsX5_setRelay wsX3_setUp := goodIn_ca (goodIn_r _ [38, 32, 33, 39, 40, 34, 13, 14, 15, 16, 17, 57, 58, 59, 60, 61, 47, 48, 49, 50, 51, 52, 53, 54, 55, 56] (by decide +kernel) (by decide +kernel)) (goodIn_sub (fun _ h => List.mem_cons_of_mem _ (List.mem_append_right _ h)) (by decide +kernel))
set_option maxRecDepth 20000 in
theorem gX5_setRelay_X3_setUp : GoodIn wsX5_setRelay (wsV RX5 82 RX3 yX3_setUp wsX3_setUp) := goodIn_app (goodIn_of _ (by decide +kernel)) ggX5_setRelay_X3_setUp
theorem dX5_setRelay_0 : decode cX5_setRelay 0 = .ok (.aload_n 0, 1) := by decide +kernel
theorem dX5_setRelay_1 : decode cX5_setRelay 1 = .ok (.iload_n 1, 1) := by decide +kernel
theorem dX5_setRelay_2 : decode cX5_setRelay 2 = .ok (.invokevirtual 105, 3) := by decide +kernel
theorem dX5_setRelay_5 : decode cX5_setRelay 5 = .ok (.iload_n 2, 1) := by decide +kernel
theorem dX5_setRelay_6 : decode cX5_setRelay 6 = .ok (.iconst 1, 1) := by decide +kernel
theorem dX5_setRelay_7 : decode cX5_setRelay 7 = .ok (.if_icmp .lt 10, 3) := by decide +kernel
theorem dX5_setRelay_10 : decode cX5_setRelay 10 = .ok (.iload_n 2, 1) := by decide +kernel
theorem dX5_setRelay_11 : decode cX5_setRelay 11 = .ok (.sipush 999, 3) := by decide +kernel
theorem dX5_setRelay_14 : decode cX5_setRelay 14 = .ok (.if_icmp .le 13, 3) := by decide +kernel
theorem dX5_setRelay_17 : decode cX5_setRelay 17 = .ok (.new 50, 3) := by decide +kernel
theorem dX5_setRelay_20 : decode cX5_setRelay 20 = .ok (.dup, 1) := by decide +kernel
theorem dX5_setRelay_21 : decode cX5_setRelay 21 = .ok (.ldc 108, 2) := by decide +kernel
theorem dX5_setRelay_23 : decode cX5_setRelay 23 = .ok (.invokespecial 54, 3) := by decide +kernel
theorem dX5_setRelay_26 : decode cX5_setRelay 26 = .ok (.athrow, 1) := by decide +kernel
theorem dX5_setRelay_27 : decode cX5_setRelay 27 = .ok (.iload_n 3, 1) := by decide +kernel
theorem dX5_setRelay_28 : decode cX5_setRelay 28 = .ok (.iconst 1, 1) := by decide +kernel
theorem dX5_setRelay_29 : decode cX5_setRelay 29 = .ok (.if_icmp .lt 9, 3) := by decide +kernel
theorem dX5_setRelay_32 : decode cX5_setRelay 32 = .ok (.iload_n 3, 1) := by decide +kernel
theorem dX5_setRelay_33 : decode cX5_setRelay 33 = .ok (.bipush 10, 2) := by decide +kernel
theorem dX5_setRelay_35 : decode cX5_setRelay 35 = .ok (.if_icmp .le 13, 3) := by decide +kernel
theorem dX5_setRelay_38 : decode cX5_setRelay 38 = .ok (.new 50, 3) := by decide +kernel
theorem dX5_setRelay_41 : decode cX5_setRelay 41 = .ok (.dup, 1) := by decide +kernel
theorem dX5_setRelay_42 : decode cX5_setRelay 42 = .ok (.ldc 110, 2) := by decide +kernel
theorem dX5_setRelay_44 : decode cX5_setRelay 44 = .ok (.invokespecial 54, 3) := by decide +kernel
theorem dX5_setRelay_47 : decode cX5_setRelay 47 = .ok (.athrow, 1) := by decide +kernel
theorem dX5_setRelay_48 : decode cX5_setRelay 48 = .ok (.iload 4, 2) := by decide +kernel
theorem dX5_setRelay_50 : decode cX5_setRelay 50 = .ok (.ifCond .eq 19, 3) := by decide +kernel
theorem dX5_setRelay_53 : decode cX5_setRelay 53 = .ok (.iload 4, 2) := by decide +kernel
theorem dX5_setRelay_55 : decode cX5_setRelay 55 = .ok (.iload_n 2, 1) := by decide +kernel
theorem dX5_setRelay_56 : decode cX5_setRelay 56 = .ok (.if_icmp .gt 13, 3) := by decide +kernel
theorem dX5_setRelay_59 : decode cX5_setRelay 59 = .ok (.new 50, 3) := by decide +kernel
theorem dX5_setRelay_62 : decode cX5_setRelay 62 = .ok (.dup, 1) := by decide +kernel
theorem dX5_setRelay_63 : decode cX5_setRelay 63 = .ok (.ldc 112, 2) := by decide +kernel
theorem dX5_setRelay_65 : decode cX5_setRelay 65 = .ok (.invokespecial 54, 3) := by decide +kernel
theorem dX5_setRelay_68 : decode cX5_setRelay 68 = .ok (.athrow, 1) := by decide +kernel
theorem dX5_setRelay_69 : decode cX5_setRelay 69 = .ok (.aload_n 0, 1) := by decide +kernel
theorem dX5_setRelay_70 : decode cX5_setRelay 70 = .ok (.iload_n 1, 1) := by decide +kernel
theorem dX5_setRelay_71 : decode cX5_setRelay 71 = .ok (.invokevirtual 114, 3) := by decide +kernel
theorem dX5_setRelay_74 : decode cX5_setRelay 74 = .ok (.aload_n 0, 1) := by decide +kernel
theorem dX5_setRelay_75 : decode cX5_setRelay 75 = .ok (.getfield 37, 3) := by decide +kernel
theorem dX5_setRelay_78 : decode cX5_setRelay 78 = .ok (.iload_n 1, 1) := by decide +kernel
theorem dX5_setRelay_79 : decode cX5_setRelay 79 = .ok (.invokevirtual 117, 3) := by decide +kernel
theorem dX5_setRelay_82 : decode cX5_setRelay 82 = .ok (.istore 5, 2) := by decide +kernel
theorem dX5_setRelay_84 : decode cX5_setRelay 84 = .ok (.aload_n 0, 1) := by decide +kernel
theorem dX5_setRelay_85 : decode cX5_setRelay 85 = .ok (.getfield 37, 3) := by decide +kernel
theorem dX5_setRelay_88 : decode cX5_setRelay 88 = .ok (.iload_n 1, 1) := by decide +kernel
theorem dX5_setRelay_89 : decode cX5_setRelay 89 = .ok (.iload_n 2, 1) := by decide +kernel
theorem dX5_setRelay_90 : decode cX5_setRelay 90 = .ok (.iload_n 3, 1) := by decide +kernel
theorem dX5_setRelay_91 : decode cX5_setRelay 91 = .ok (.iload 4, 2) := by decide +kernel
theorem dX5_setRelay_93 : decode cX5_setRelay 93 = .ok (.invokevirtual 82, 3) := by decide +kernel
theorem dX5_setRelay_96 : decode cX5_setRelay 96 = .ok (.iload 5, 2) := by decide +kernel
theorem dX5_setRelay_98 : decode cX5_setRelay 98 = .ok (.ireturn, 1) := by decide +kernel
set_option maxRecDepth 20000 in
theorem ggX5_close_X5_needLine : GoodIn wsX5_close wsX5_needLine := goodIn_ca (goodIn_r _ [6, 7, 8, 9, 10, 11, 12, 13, 14, 15, 115, 116, 117, 118, 119, 120, 126, 127, 128, 129, 130, 131, 132, 133, 134, 135] (by decide +kernel) (by decide +kernel)) (goodIn_sub (fun _ h => List.mem_cons_of_mem _ (List.mem_append_left _ (List.mem_append_right _ h))) (by decide +kernel))
set_option maxRecDepth 20000 in
theorem gX5_close_X5_needLine : GoodIn wsX5_close (wsV RX5 105 RX5 yX5_needLine wsX5_needLine) := goodIn_app (goodIn_of _ (by decide +kernel)) ggX5_close_X5_needLine
set_option maxRecDepth 20000 in
theorem ggX5_close_X4_closeReason : GoodIn wsX5_close wsX4_closeReason := goodIn_ca (goodIn_r _ [20, 21, 22, 23, 24, 25, 5, 26, 27, 28, 29, 13, 30, 31, 32, 11, 12, 14, 15, 33, 34, 35, 36, 37, 38, 39, 40, 41, 42, 43, 44, 45, 46, 47, 48, 49, 50, 51, 52, 53, 54, 55, 56, 57, 58, 59, 60, 61, 62, 63, 64, 65, 66, 67, 68, 69, 70, 71, 72, 73, 74, 75, 76, 77, 78, 79, 80, 81, 82, 83, 84, 85, 86, 87, 88, 89, 90, 91, 92, 93, 94, 95, 96, 97, 98, 99, 100, 101, 102, 103, 104, 105, 106, 107, 108, 121, 122, 123, 124, 125, 126, 127, 128, 129, 130, 131, 132, 133, 134, 135, 136, 137, 138] (by decide +kernel) (by decide +kernel)) (goodIn_sub (fun _ h => List.mem_cons_of_mem _ (List.mem_append_right _ h)) (by decide +kernel))
set_option maxRecDepth 20000 in
theorem gX5_close_X4_closeReason : GoodIn wsX5_close (wsV RX5 124 RX4 yX4_closeReason wsX4_closeReason) := goodIn_app (goodIn_of _ (by decide +kernel)) ggX5_close_X4_closeReason
set_option maxRecDepth 20000 in
theorem ggX5_close_X5_bit : GoodIn wsX5_close wsX5_bit := goodIn_r _ [38] (by decide +kernel) (by decide +kernel)
set_option maxRecDepth 20000 in
theorem gX5_close_X5_bit : GoodIn wsX5_close (va_wsS RX5 128 yX5_bit wsX5_bit) := goodIn_app (goodIn_of _ (by decide +kernel)) ggX5_close_X5_bit
set_option maxRecDepth 20000 in
theorem ggX5_close_X4_closeAll : GoodIn wsX5_close wsX4_closeAll := goodIn_r _ [113, 114, 121, 122, 123, 124, 125] (by decide +kernel) (by decide +kernel)
set_option maxRecDepth 20000 in
theorem gX5_close_X4_closeAll : GoodIn wsX5_close (wsV RX5 131 RX4 yX4_closeAll wsX4_closeAll) := goodIn_app (goodIn_of _ (by decide +kernel)) ggX5_close_X4_closeAll
theorem dX5_close_0 : decode cX5_close 0 = .ok (.aload_n 0, 1) := by decide +kernel
theorem dX5_close_1 : decode cX5_close 1 = .ok (.iload_n 1, 1) := by decide +kernel
theorem dX5_close_2 : decode cX5_close 2 = .ok (.invokevirtual 105, 3) := by decide +kernel
theorem dX5_close_5 : decode cX5_close 5 = .ok (.aload_n 0, 1) := by decide +kernel
theorem dX5_close_6 : decode cX5_close 6 = .ok (.getfield 30, 3) := by decide +kernel
theorem dX5_close_9 : decode cX5_close 9 = .ok (.iload_n 1, 1) := by decide +kernel
theorem dX5_close_10 : decode cX5_close 10 = .ok (.aload_n 0, 1) := by decide +kernel
theorem dX5_close_11 : decode cX5_close 11 = .ok (.getfield 30, 3) := by decide +kernel
theorem dX5_close_14 : decode cX5_close 14 = .ok (.getfield 120, 3) := by decide +kernel
theorem dX5_close_17 : decode cX5_close 17 = .ok (.invokevirtual 124, 3) := by decide +kernel
theorem dX5_close_20 : decode cX5_close 20 = .ok (.istore_n 2, 1) := by decide +kernel
theorem dX5_close_21 : decode cX5_close 21 = .ok (.iload_n 2, 1) := by decide +kernel
theorem dX5_close_22 : decode cX5_close 22 = .ok (.bipush 110, 2) := by decide +kernel
theorem dX5_close_24 : decode cX5_close 24 = .ok (.if_icmp .ne 14, 3) := by decide +kernel
theorem dX5_close_27 : decode cX5_close 27 = .ok (.aload_n 0, 1) := by decide +kernel
theorem dX5_close_28 : decode cX5_close 28 = .ok (.getfield 30, 3) := by decide +kernel
theorem dX5_close_31 : decode cX5_close 31 = .ok (.iload_n 1, 1) := by decide +kernel
theorem dX5_close_32 : decode cX5_close 32 = .ok (.invokestatic 128, 3) := by decide +kernel
theorem dX5_close_35 : decode cX5_close 35 = .ok (.invokevirtual 131, 3) := by decide +kernel
theorem dX5_close_38 : decode cX5_close 38 = .ok (.iload_n 2, 1) := by decide +kernel
theorem dX5_close_39 : decode cX5_close 39 = .ok (.ireturn, 1) := by decide +kernel
set_option maxRecDepth 20000 in
theorem ggX5_open_X5_needLine : GoodIn wsX5_open wsX5_needLine := goodIn_ca (goodIn_r _ [6, 7, 8, 9, 10, 11, 12, 13, 14, 15, 61, 62, 63, 64, 65, 66, 67, 68, 69, 70, 71, 72, 73, 74, 75, 76] (by decide +kernel) (by decide +kernel)) (goodIn_sub (fun _ h => List.mem_cons_of_mem _ (List.mem_append_left _ (List.mem_append_right _ h))) (by decide +kernel))
set_option maxRecDepth 20000 in
theorem gX5_open_X5_needLine : GoodIn wsX5_open (wsV RX5 105 RX5 yX5_needLine wsX5_needLine) := goodIn_app (goodIn_of _ (by decide +kernel)) ggX5_open_X5_needLine
set_option maxRecDepth 20000 in
theorem ggX5_open_X4_openReason : GoodIn wsX5_open wsX4_openReason := goodIn_ca (goodIn_r _ [20, 21, 22, 23, 24, 5, 25, 26, 27, 28, 29, 30, 31, 32, 33, 34, 35, 36, 37, 38, 39, 40, 41, 42, 43, 13, 44, 45, 46, 47, 48, 49, 50, 15, 51, 52, 53, 11, 12, 14, 77, 78, 79, 80, 81, 67, 68, 69, 70, 71, 72, 73, 74, 75, 76, 82, 83, 84] (by decide +kernel) (by decide +kernel)) (goodIn_sub (fun _ h => List.mem_cons_of_mem _ (List.mem_append_right _ h)) (by decide +kernel))
set_option maxRecDepth 20000 in
theorem gX5_open_X4_openReason : GoodIn wsX5_open (wsV RX5 134 RX4 yX4_openReason wsX4_openReason) := goodIn_app (goodIn_of _ (by decide +kernel)) ggX5_open_X4_openReason
set_option maxRecDepth 20000 in
theorem ggX5_open_X5_bit : GoodIn wsX5_open wsX5_bit := goodIn_r _ [56] (by decide +kernel) (by decide +kernel)
set_option maxRecDepth 20000 in
theorem gX5_open_X5_bit : GoodIn wsX5_open (va_wsS RX5 128 yX5_bit wsX5_bit) := goodIn_app (goodIn_of _ (by decide +kernel)) ggX5_open_X5_bit
set_option maxRecDepth 20000 in
theorem ggX5_open_X4_openAll : GoodIn wsX5_open wsX4_openAll := goodIn_r _ [60, 21, 77, 78, 79, 80, 81] (by decide +kernel) (by decide +kernel)
set_option maxRecDepth 20000 in
theorem gX5_open_X4_openAll : GoodIn wsX5_open (wsV RX5 138 RX4 yX4_openAll wsX4_openAll) := goodIn_app (goodIn_of _ (by decide +kernel)) ggX5_open_X4_openAll
theorem dX5_open_0 : decode cX5_open 0 = .ok (.aload_n 0, 1) := by decide +kernel
theorem dX5_open_1 : decode cX5_open 1 = .ok (.iload_n 1, 1) := by decide +kernel
theorem dX5_open_2 : decode cX5_open 2 = .ok (.invokevirtual 105, 3) := by decide +kernel
theorem dX5_open_5 : decode cX5_open 5 = .ok (.aload_n 0, 1) := by decide +kernel
theorem dX5_open_6 : decode cX5_open 6 = .ok (.getfield 30, 3) := by decide +kernel
theorem dX5_open_9 : decode cX5_open 9 = .ok (.iload_n 1, 1) := by decide +kernel
theorem dX5_open_10 : decode cX5_open 10 = .ok (.invokevirtual 134, 3) := by decide +kernel
theorem dX5_open_13 : decode cX5_open 13 = .ok (.istore_n 2, 1) := by decide +kernel
theorem dX5_open_14 : decode cX5_open 14 = .ok (.iload_n 2, 1) := by decide +kernel
theorem dX5_open_15 : decode cX5_open 15 = .ok (.bipush 110, 2) := by decide +kernel
theorem dX5_open_17 : decode cX5_open 17 = .ok (.if_icmp .ne 14, 3) := by decide +kernel
theorem dX5_open_20 : decode cX5_open 20 = .ok (.aload_n 0, 1) := by decide +kernel
theorem dX5_open_21 : decode cX5_open 21 = .ok (.getfield 30, 3) := by decide +kernel
theorem dX5_open_24 : decode cX5_open 24 = .ok (.iload_n 1, 1) := by decide +kernel
theorem dX5_open_25 : decode cX5_open 25 = .ok (.invokestatic 128, 3) := by decide +kernel
theorem dX5_open_28 : decode cX5_open 28 = .ok (.invokevirtual 138, 3) := by decide +kernel
theorem dX5_open_31 : decode cX5_open 31 = .ok (.iload_n 2, 1) := by decide +kernel
theorem dX5_open_32 : decode cX5_open 32 = .ok (.ireturn, 1) := by decide +kernel
set_option maxRecDepth 20000 in
theorem ggX5_canClose_X5_needLine : GoodIn wsX5_canClose wsX5_needLine := goodIn_ca (goodIn_r _ [6, 7, 8, 9, 10, 11, 12, 13, 14, 15, 109, 110, 111, 112, 113, 114, 120, 121, 122, 123, 124, 125, 126, 127, 128, 129] (by decide +kernel) (by decide +kernel)) (goodIn_sub (fun _ h => List.mem_cons_of_mem _ (List.mem_append_left _ (List.mem_append_right _ h))) (by decide +kernel))
set_option maxRecDepth 20000 in
theorem gX5_canClose_X5_needLine : GoodIn wsX5_canClose (wsV RX5 105 RX5 yX5_needLine wsX5_needLine) := goodIn_app (goodIn_of _ (by decide +kernel)) ggX5_canClose_X5_needLine
set_option maxRecDepth 20000 in
theorem ggX5_canClose_X4_closeReason : GoodIn wsX5_canClose wsX4_closeReason := goodIn_ca (goodIn_r _ [20, 21, 22, 23, 24, 25, 5, 26, 27, 28, 29, 13, 30, 31, 32, 11, 12, 14, 15, 33, 34, 35, 36, 37, 38, 39, 40, 41, 42, 43, 44, 45, 46, 47, 48, 49, 50, 51, 52, 53, 54, 55, 56, 57, 58, 59, 60, 61, 62, 63, 64, 65, 66, 67, 68, 69, 70, 71, 72, 73, 74, 75, 76, 77, 78, 79, 80, 81, 82, 83, 84, 85, 86, 87, 88, 89, 90, 91, 92, 93, 94, 95, 96, 97, 98, 99, 100, 101, 102, 103, 104, 105, 106, 107, 108, 115, 116, 117, 118, 119, 120, 121, 122, 123, 124, 125, 126, 127, 128, 129, 130, 131, 132] (by decide +kernel) (by decide +kernel)) (goodIn_sub (fun _ h => List.mem_cons_of_mem _ (List.mem_append_right _ h)) (by decide +kernel))
set_option maxRecDepth 20000 in
theorem gX5_canClose_X4_closeReason : GoodIn wsX5_canClose (wsV RX5 124 RX4 yX4_closeReason wsX4_closeReason) := goodIn_app (goodIn_of _ (by decide +kernel)) ggX5_canClose_X4_closeReason
theorem dX5_canClose_0 : decode cX5_canClose 0 = .ok (.aload_n 0, 1) := by decide +kernel
theorem dX5_canClose_1 : decode cX5_canClose 1 = .ok (.iload_n 1, 1) := by decide +kernel
theorem dX5_canClose_2 : decode cX5_canClose 2 = .ok (.invokevirtual 105, 3) := by decide +kernel
theorem dX5_canClose_5 : decode cX5_canClose 5 = .ok (.aload_n 0, 1) := by decide +kernel
theorem dX5_canClose_6 : decode cX5_canClose 6 = .ok (.getfield 30, 3) := by decide +kernel
theorem dX5_canClose_9 : decode cX5_canClose 9 = .ok (.iload_n 1, 1) := by decide +kernel
theorem dX5_canClose_10 : decode cX5_canClose 10 = .ok (.aload_n 0, 1) := by decide +kernel
theorem dX5_canClose_11 : decode cX5_canClose 11 = .ok (.getfield 30, 3) := by decide +kernel
theorem dX5_canClose_14 : decode cX5_canClose 14 = .ok (.getfield 120, 3) := by decide +kernel
theorem dX5_canClose_17 : decode cX5_canClose 17 = .ok (.invokevirtual 124, 3) := by decide +kernel
theorem dX5_canClose_20 : decode cX5_canClose 20 = .ok (.ireturn, 1) := by decide +kernel
set_option maxRecDepth 20000 in
theorem ggX5_canOpen_X5_needLine : GoodIn wsX5_canOpen wsX5_needLine := goodIn_ca (goodIn_r _ [6, 7, 8, 9, 10, 11, 12, 13, 14, 15, 54, 55, 56, 57, 58, 59, 60, 61, 62, 63, 64, 65, 66, 67, 68, 69] (by decide +kernel) (by decide +kernel)) (goodIn_sub (fun _ h => List.mem_cons_of_mem _ (List.mem_append_left _ (List.mem_append_right _ h))) (by decide +kernel))
set_option maxRecDepth 20000 in
theorem gX5_canOpen_X5_needLine : GoodIn wsX5_canOpen (wsV RX5 105 RX5 yX5_needLine wsX5_needLine) := goodIn_app (goodIn_of _ (by decide +kernel)) ggX5_canOpen_X5_needLine
set_option maxRecDepth 20000 in
theorem ggX5_canOpen_X4_openReason : GoodIn wsX5_canOpen wsX4_openReason := goodIn_ca (goodIn_r _ [20, 21, 22, 23, 24, 5, 25, 26, 27, 28, 29, 30, 31, 32, 33, 34, 35, 36, 37, 38, 39, 40, 41, 42, 43, 13, 44, 45, 46, 47, 48, 49, 50, 15, 51, 52, 53, 11, 12, 14, 70, 71, 72, 73, 74, 60, 61, 62, 63, 64, 65, 66, 67, 68, 69, 75, 76, 77] (by decide +kernel) (by decide +kernel)) (goodIn_sub (fun _ h => List.mem_cons_of_mem _ (List.mem_append_right _ h)) (by decide +kernel))
set_option maxRecDepth 20000 in
theorem gX5_canOpen_X4_openReason : GoodIn wsX5_canOpen (wsV RX5 134 RX4 yX4_openReason wsX4_openReason) := goodIn_app (goodIn_of _ (by decide +kernel)) ggX5_canOpen_X4_openReason
theorem dX5_canOpen_0 : decode cX5_canOpen 0 = .ok (.aload_n 0, 1) := by decide +kernel
theorem dX5_canOpen_1 : decode cX5_canOpen 1 = .ok (.iload_n 1, 1) := by decide +kernel
theorem dX5_canOpen_2 : decode cX5_canOpen 2 = .ok (.invokevirtual 105, 3) := by decide +kernel
theorem dX5_canOpen_5 : decode cX5_canOpen 5 = .ok (.aload_n 0, 1) := by decide +kernel
theorem dX5_canOpen_6 : decode cX5_canOpen 6 = .ok (.getfield 30, 3) := by decide +kernel
theorem dX5_canOpen_9 : decode cX5_canOpen 9 = .ok (.iload_n 1, 1) := by decide +kernel
theorem dX5_canOpen_10 : decode cX5_canOpen 10 = .ok (.invokevirtual 134, 3) := by decide +kernel
theorem dX5_canOpen_13 : decode cX5_canOpen 13 = .ok (.ireturn, 1) := by decide +kernel
set_option maxRecDepth 20000 in
theorem ggX5_overloaded_X5_needLine : GoodIn wsX5_overloaded wsX5_needLine := goodIn_ca (goodIn_r _ [9, 10, 11, 12, 13, 14, 15, 16, 17, 18, 114, 115, 116, 117, 118, 119, 125, 126, 127, 128, 129, 130, 131, 132, 133, 134] (by decide +kernel) (by decide +kernel)) (goodIn_sub (fun _ h => List.mem_cons_of_mem _ (List.mem_append_left _ (List.mem_append_right _ h))) (by decide +kernel))
set_option maxRecDepth 20000 in
theorem gX5_overloaded_X5_needLine : GoodIn wsX5_overloaded (wsV RX5 105 RX5 yX5_needLine wsX5_needLine) := goodIn_app (goodIn_of _ (by decide +kernel)) ggX5_overloaded_X5_needLine
set_option maxRecDepth 20000 in
theorem ggX5_overloaded_X4_closeReason : GoodIn wsX5_overloaded wsX4_closeReason := goodIn_ca (goodIn_r _ [23, 24, 25, 26, 27, 28, 8, 29, 30, 31, 32, 16, 33, 34, 35, 14, 15, 17, 18, 36, 37, 38, 39, 40, 41, 42, 43, 44, 45, 46, 47, 48, 49, 50, 51, 52, 53, 54, 55, 56, 57, 58, 59, 60, 61, 62, 63, 64, 65, 66, 67, 68, 69, 70, 71, 72, 73, 74, 75, 76, 77, 78, 79, 80, 81, 82, 83, 84, 85, 86, 87, 88, 89, 90, 91, 92, 93, 94, 95, 96, 97, 98, 99, 100, 101, 102, 103, 104, 105, 106, 107, 108, 109, 110, 111, 120, 121, 122, 123, 124, 125, 126, 127, 128, 129, 130, 131, 132, 133, 134, 135, 136, 137] (by decide +kernel) (by decide +kernel)) (goodIn_sub (fun _ h => List.mem_cons_of_mem _ (List.mem_append_right _ h)) (by decide +kernel))
set_option maxRecDepth 20000 in
theorem gX5_overloaded_X4_closeReason : GoodIn wsX5_overloaded (wsV RX5 124 RX4 yX4_closeReason wsX4_closeReason) := goodIn_app (goodIn_of _ (by decide +kernel)) ggX5_overloaded_X4_closeReason
set_option maxRecDepth 20000 in
theorem ggX5_overloaded_X5_bit : GoodIn wsX5_overloaded wsX5_bit := goodIn_r _ [41] (by decide +kernel) (by decide +kernel)
set_option maxRecDepth 20000 in
theorem gX5_overloaded_X5_bit : GoodIn wsX5_overloaded (va_wsS RX5 128 yX5_bit wsX5_bit) := goodIn_app (goodIn_of _ (by decide +kernel)) ggX5_overloaded_X5_bit
set_option maxRecDepth 20000 in
theorem ggX5_overloaded_X0_firstOverloaded : GoodIn wsX5_overloaded wsX0_firstOverloaded := goodIn_ca (goodIn_r _ [91, 92, 93, 94, 95, 96, 90, 97, 28, 8, 29, 98, 99, 100, 101, 102, 103, 104, 16, 105, 70, 71, 106, 52, 53, 54, 18, 34, 55, 107, 108, 109, 110, 111, 35, 14, 15, 17, 135, 136, 137, 125, 126, 127, 128, 129, 130, 131, 132, 133, 134] (by decide +kernel) (by decide +kernel)) (goodIn_sub (fun _ h => List.mem_cons_of_mem _ (List.mem_append_right _ h)) (by decide +kernel))
set_option maxRecDepth 20000 in
theorem gX5_overloaded_X0_firstOverloaded : GoodIn wsX5_overloaded (wsV RX5 143 RX0 yX0_firstOverloaded wsX0_firstOverloaded) := goodIn_app (goodIn_of _ (by decide +kernel)) ggX5_overloaded_X0_firstOverloaded
theorem dX5_overloaded_0 : decode cX5_overloaded 0 = .ok (.aload_n 0, 1) := by decide +kernel
theorem dX5_overloaded_1 : decode cX5_overloaded 1 = .ok (.iload_n 1, 1) := by decide +kernel
theorem dX5_overloaded_2 : decode cX5_overloaded 2 = .ok (.invokevirtual 105, 3) := by decide +kernel
theorem dX5_overloaded_5 : decode cX5_overloaded 5 = .ok (.aload_n 0, 1) := by decide +kernel
theorem dX5_overloaded_6 : decode cX5_overloaded 6 = .ok (.getfield 30, 3) := by decide +kernel
theorem dX5_overloaded_9 : decode cX5_overloaded 9 = .ok (.iload_n 1, 1) := by decide +kernel
theorem dX5_overloaded_10 : decode cX5_overloaded 10 = .ok (.aload_n 0, 1) := by decide +kernel
theorem dX5_overloaded_11 : decode cX5_overloaded 11 = .ok (.getfield 30, 3) := by decide +kernel
theorem dX5_overloaded_14 : decode cX5_overloaded 14 = .ok (.getfield 120, 3) := by decide +kernel
theorem dX5_overloaded_17 : decode cX5_overloaded 17 = .ok (.invokevirtual 124, 3) := by decide +kernel
theorem dX5_overloaded_20 : decode cX5_overloaded 20 = .ok (.bipush 108, 2) := by decide +kernel
theorem dX5_overloaded_22 : decode cX5_overloaded 22 = .ok (.if_icmp .eq 13, 3) := by decide +kernel
theorem dX5_overloaded_25 : decode cX5_overloaded 25 = .ok (.new 100, 3) := by decide +kernel
theorem dX5_overloaded_28 : decode cX5_overloaded 28 = .ok (.dup, 1) := by decide +kernel
theorem dX5_overloaded_29 : decode cX5_overloaded 29 = .ok (.ldc 141, 2) := by decide +kernel
theorem dX5_overloaded_31 : decode cX5_overloaded 31 = .ok (.invokespecial 104, 3) := by decide +kernel
theorem dX5_overloaded_34 : decode cX5_overloaded 34 = .ok (.athrow, 1) := by decide +kernel
theorem dX5_overloaded_35 : decode cX5_overloaded 35 = .ok (.aload_n 0, 1) := by decide +kernel
theorem dX5_overloaded_36 : decode cX5_overloaded 36 = .ok (.getfield 21, 3) := by decide +kernel
theorem dX5_overloaded_39 : decode cX5_overloaded 39 = .ok (.aload_n 0, 1) := by decide +kernel
theorem dX5_overloaded_40 : decode cX5_overloaded 40 = .ok (.getfield 30, 3) := by decide +kernel
theorem dX5_overloaded_43 : decode cX5_overloaded 43 = .ok (.getfield 120, 3) := by decide +kernel
theorem dX5_overloaded_46 : decode cX5_overloaded 46 = .ok (.iload_n 1, 1) := by decide +kernel
theorem dX5_overloaded_47 : decode cX5_overloaded 47 = .ok (.invokestatic 128, 3) := by decide +kernel
theorem dX5_overloaded_50 : decode cX5_overloaded 50 = .ok (.ior, 1) := by decide +kernel
theorem dX5_overloaded_51 : decode cX5_overloaded 51 = .ok (.invokevirtual 143, 3) := by decide +kernel
theorem dX5_overloaded_54 : decode cX5_overloaded 54 = .ok (.ireturn, 1) := by decide +kernel
set_option maxRecDepth 20000 in
theorem ggX5_fault_X5_needLine : GoodIn wsX5_fault wsX5_needLine := goodIn_ca (goodIn_r _ [11, 12, 13, 5, 14, 15, 16, 17, 18, 19, 120, 121, 122, 123, 124, 125, 131, 132, 133, 134, 135, 136, 137, 138, 139, 140] (by decide +kernel) (by decide +kernel)) (goodIn_sub (fun _ h => List.mem_cons_of_mem _ (List.mem_append_left _ (List.mem_append_left _ (List.mem_append_right _ h)))) (by decide +kernel))
set_option maxRecDepth 20000 in
theorem gX5_fault_X5_needLine : GoodIn wsX5_fault (wsV RX5 105 RX5 yX5_needLine wsX5_needLine) := goodIn_app (goodIn_of _ (by decide +kernel)) ggX5_fault_X5_needLine
set_option maxRecDepth 20000 in
theorem ggX5_fault_X5_has : GoodIn wsX5_fault wsX5_has := goodIn_r _ [22] (by decide +kernel) (by decide +kernel)
set_option maxRecDepth 20000 in
theorem gX5_fault_X5_has : GoodIn wsX5_fault (va_wsS RX5 149 yX5_has wsX5_has) := goodIn_app (goodIn_of _ (by decide +kernel)) ggX5_fault_X5_has
set_option maxRecDepth 20000 in
theorem ggX5_fault_X3_answerTo : GoodIn wsX5_fault wsX3_answerTo := goodIn_ca (goodIn_ca (goodIn_r _ [27, 28, 29, 30, 31, 32, 33, 34, 21, 10, 22, 35, 36, 37, 38, 39, 40, 41, 42, 17, 43, 19, 44, 45, 46, 47, 48, 26, 49, 50, 51, 52, 53, 54, 55, 56, 57, 58, 59, 15, 16, 18, 60, 61, 62, 63, 64, 65, 66, 67, 68, 69, 70, 71, 72, 73, 74, 75, 76, 77, 78, 79, 80, 81, 82, 83, 84, 85, 86, 87, 88, 89, 90, 91, 92, 93, 94, 95, 96, 97, 98, 99, 100, 101, 102, 103, 104, 105, 106, 141, 142, 143, 144, 145, 146, 147, 148, 131, 132, 133, 134, 135, 136, 137, 138, 139, 140] (by decide +kernel) (by decide +kernel)) (goodIn_sub (fun _ h => List.mem_cons_of_mem _ (List.mem_append_left _ (List.mem_append_right _ h))) (by decide +kernel))) (goodIn_sub (fun _ h => List.mem_cons_of_mem _ (List.mem_append_right _ h)) (by decide +kernel))
set_option maxRecDepth 20000 in
theorem gX5_fault_X3_answerTo : GoodIn wsX5_fault (wsV RX5 155 RX3 yX3_answerTo wsX3_answerTo) := goodIn_app (goodIn_of _ (by decide +kernel)) ggX5_fault_X3_answerTo
set_option maxRecDepth 20000 in
theorem ggX5_fault_X5_bit : GoodIn wsX5_fault wsX5_bit := goodIn_r _ [65] (by decide +kernel) (by decide +kernel)
set_option maxRecDepth 20000 in
theorem gX5_fault_X5_bit : GoodIn wsX5_fault (va_wsS RX5 128 yX5_bit wsX5_bit) := goodIn_app (goodIn_of _ (by decide +kernel)) ggX5_fault_X5_bit
set_option maxRecDepth 20000 in
theorem ggX5_fault_X1_sourceOfLine : GoodIn wsX5_fault wsX1_sourceOfLine := goodIn_ca (goodIn_r _ [54, 55, 56, 57, 17, 58, 44, 59, 15, 16, 18, 19, 60, 61, 62, 63, 64, 10, 65, 66, 67, 68, 69, 70, 71, 72, 73, 74, 21, 22, 75, 41, 42, 43, 45, 76, 77, 78, 79, 80, 131, 132, 133, 134, 135, 136, 137, 138, 139, 140] (by decide +kernel) (by decide +kernel)) (goodIn_sub (fun _ h => List.mem_cons_of_mem _ (List.mem_append_left _ (List.mem_append_right _ h))) (by decide +kernel))
set_option maxRecDepth 20000 in
theorem gX5_fault_X1_sourceOfLine : GoodIn wsX5_fault (wsV RX5 159 RX1 yX1_sourceOfLine wsX1_sourceOfLine) := goodIn_app (goodIn_of _ (by decide +kernel)) ggX5_fault_X1_sourceOfLine
set_option maxRecDepth 20000 in
theorem ggX5_fault_X1_linesAt : GoodIn wsX5_fault wsX1_linesAt := goodIn_ca (goodIn_r _ [112, 19, 44, 45, 21, 10, 22, 64, 65, 131, 132, 133, 134, 135, 136, 137, 138, 139, 140] (by decide +kernel) (by decide +kernel)) (goodIn_sub (fun _ h => List.mem_cons_of_mem _ (List.mem_append_left _ (List.mem_append_right _ h))) (by decide +kernel))
set_option maxRecDepth 20000 in
theorem gX5_fault_X1_linesAt : GoodIn wsX5_fault (wsV RX5 162 RX1 yX1_linesAt wsX1_linesAt) := goodIn_app (goodIn_of _ (by decide +kernel)) ggX5_fault_X1_linesAt
set_option maxRecDepth 20000 in
theorem ggX5_fault_X4_lockOut : GoodIn wsX5_fault wsX4_lockOut := goodIn_r _ [117, 118, 119, 126, 127, 128, 129, 130] (by decide +kernel) (by decide +kernel)
set_option maxRecDepth 20000 in
theorem gX5_fault_X4_lockOut : GoodIn wsX5_fault (wsV RX5 165 RX4 yX4_lockOut wsX4_lockOut) := goodIn_app (goodIn_of _ (by decide +kernel)) ggX5_fault_X4_lockOut
theorem dX5_fault_0 : decode cX5_fault 0 = .ok (.aload_n 0, 1) := by decide +kernel
theorem dX5_fault_1 : decode cX5_fault 1 = .ok (.iload_n 1, 1) := by decide +kernel
theorem dX5_fault_2 : decode cX5_fault 2 = .ok (.invokevirtual 105, 3) := by decide +kernel
theorem dX5_fault_5 : decode cX5_fault 5 = .ok (.aload_n 0, 1) := by decide +kernel
theorem dX5_fault_6 : decode cX5_fault 6 = .ok (.getfield 30, 3) := by decide +kernel
theorem dX5_fault_9 : decode cX5_fault 9 = .ok (.getfield 146, 3) := by decide +kernel
theorem dX5_fault_12 : decode cX5_fault 12 = .ok (.iload_n 1, 1) := by decide +kernel
theorem dX5_fault_13 : decode cX5_fault 13 = .ok (.invokestatic 149, 3) := by decide +kernel
theorem dX5_fault_16 : decode cX5_fault 16 = .ok (.ifCond .eq 13, 3) := by decide +kernel
theorem dX5_fault_19 : decode cX5_fault 19 = .ok (.new 100, 3) := by decide +kernel
theorem dX5_fault_22 : decode cX5_fault 22 = .ok (.dup, 1) := by decide +kernel
theorem dX5_fault_23 : decode cX5_fault 23 = .ok (.ldc 153, 2) := by decide +kernel
theorem dX5_fault_25 : decode cX5_fault 25 = .ok (.invokespecial 104, 3) := by decide +kernel
theorem dX5_fault_28 : decode cX5_fault 28 = .ok (.athrow, 1) := by decide +kernel
theorem dX5_fault_29 : decode cX5_fault 29 = .ok (.aload_n 0, 1) := by decide +kernel
theorem dX5_fault_30 : decode cX5_fault 30 = .ok (.getfield 37, 3) := by decide +kernel
theorem dX5_fault_33 : decode cX5_fault 33 = .ok (.iload_n 1, 1) := by decide +kernel
theorem dX5_fault_34 : decode cX5_fault 34 = .ok (.aload_n 0, 1) := by decide +kernel
theorem dX5_fault_35 : decode cX5_fault 35 = .ok (.getfield 30, 3) := by decide +kernel
theorem dX5_fault_38 : decode cX5_fault 38 = .ok (.getfield 120, 3) := by decide +kernel
theorem dX5_fault_41 : decode cX5_fault 41 = .ok (.invokevirtual 155, 3) := by decide +kernel
theorem dX5_fault_44 : decode cX5_fault 44 = .ok (.istore_n 2, 1) := by decide +kernel
theorem dX5_fault_45 : decode cX5_fault 45 = .ok (.aload_n 0, 1) := by decide +kernel
theorem dX5_fault_46 : decode cX5_fault 46 = .ok (.getfield 30, 3) := by decide +kernel
theorem dX5_fault_49 : decode cX5_fault 49 = .ok (.dup, 1) := by decide +kernel
theorem dX5_fault_50 : decode cX5_fault 50 = .ok (.getfield 146, 3) := by decide +kernel
theorem dX5_fault_53 : decode cX5_fault 53 = .ok (.iload_n 1, 1) := by decide +kernel
theorem dX5_fault_54 : decode cX5_fault 54 = .ok (.invokestatic 128, 3) := by decide +kernel
theorem dX5_fault_57 : decode cX5_fault 57 = .ok (.ior, 1) := by decide +kernel
theorem dX5_fault_58 : decode cX5_fault 58 = .ok (.putfield 146, 3) := by decide +kernel
theorem dX5_fault_61 : decode cX5_fault 61 = .ok (.iload_n 2, 1) := by decide +kernel
theorem dX5_fault_62 : decode cX5_fault 62 = .ok (.bipush (-2), 2) := by decide +kernel
theorem dX5_fault_64 : decode cX5_fault 64 = .ok (.if_icmp .ne 47, 3) := by decide +kernel
theorem dX5_fault_67 : decode cX5_fault 67 = .ok (.aload_n 0, 1) := by decide +kernel
theorem dX5_fault_68 : decode cX5_fault 68 = .ok (.getfield 10, 3) := by decide +kernel
theorem dX5_fault_71 : decode cX5_fault 71 = .ok (.iload_n 1, 1) := by decide +kernel
theorem dX5_fault_72 : decode cX5_fault 72 = .ok (.aload_n 0, 1) := by decide +kernel
theorem dX5_fault_73 : decode cX5_fault 73 = .ok (.getfield 30, 3) := by decide +kernel
theorem dX5_fault_76 : decode cX5_fault 76 = .ok (.getfield 120, 3) := by decide +kernel
theorem dX5_fault_79 : decode cX5_fault 79 = .ok (.invokevirtual 159, 3) := by decide +kernel
theorem dX5_fault_82 : decode cX5_fault 82 = .ok (.istore_n 3, 1) := by decide +kernel
theorem dX5_fault_83 : decode cX5_fault 83 = .ok (.aload_n 0, 1) := by decide +kernel
theorem dX5_fault_84 : decode cX5_fault 84 = .ok (.getfield 30, 3) := by decide +kernel
theorem dX5_fault_87 : decode cX5_fault 87 = .ok (.aload_n 0, 1) := by decide +kernel
theorem dX5_fault_88 : decode cX5_fault 88 = .ok (.getfield 10, 3) := by decide +kernel
theorem dX5_fault_91 : decode cX5_fault 91 = .ok (.iload_n 3, 1) := by decide +kernel
theorem dX5_fault_92 : decode cX5_fault 92 = .ok (.invokestatic 128, 3) := by decide +kernel
theorem dX5_fault_95 : decode cX5_fault 95 = .ok (.aload_n 0, 1) := by decide +kernel
theorem dX5_fault_96 : decode cX5_fault 96 = .ok (.getfield 30, 3) := by decide +kernel
theorem dX5_fault_99 : decode cX5_fault 99 = .ok (.getfield 120, 3) := by decide +kernel
theorem dX5_fault_102 : decode cX5_fault 102 = .ok (.invokevirtual 162, 3) := by decide +kernel
theorem dX5_fault_105 : decode cX5_fault 105 = .ok (.invokevirtual 165, 3) := by decide +kernel
theorem dX5_fault_108 : decode cX5_fault 108 = .ok (.goto 29, 3) := by decide +kernel
theorem dX5_fault_111 : decode cX5_fault 111 = .ok (.iload_n 2, 1) := by decide +kernel
theorem dX5_fault_112 : decode cX5_fault 112 = .ok (.iconst (-1), 1) := by decide +kernel
theorem dX5_fault_113 : decode cX5_fault 113 = .ok (.if_icmp .eq 24, 3) := by decide +kernel
theorem dX5_fault_116 : decode cX5_fault 116 = .ok (.aload_n 0, 1) := by decide +kernel
theorem dX5_fault_117 : decode cX5_fault 117 = .ok (.getfield 30, 3) := by decide +kernel
theorem dX5_fault_120 : decode cX5_fault 120 = .ok (.iload_n 2, 1) := by decide +kernel
theorem dX5_fault_121 : decode cX5_fault 121 = .ok (.invokestatic 128, 3) := by decide +kernel
theorem dX5_fault_124 : decode cX5_fault 124 = .ok (.invokevirtual 165, 3) := by decide +kernel
theorem dX5_fault_127 : decode cX5_fault 127 = .ok (.aload_n 0, 1) := by decide +kernel
theorem dX5_fault_128 : decode cX5_fault 128 = .ok (.dup, 1) := by decide +kernel
theorem dX5_fault_129 : decode cX5_fault 129 = .ok (.getfield 168, 3) := by decide +kernel
theorem dX5_fault_132 : decode cX5_fault 132 = .ok (.iconst 1, 1) := by decide +kernel
theorem dX5_fault_133 : decode cX5_fault 133 = .ok (.iadd, 1) := by decide +kernel
theorem dX5_fault_134 : decode cX5_fault 134 = .ok (.putfield 168, 3) := by decide +kernel
theorem dX5_fault_137 : decode cX5_fault 137 = .ok (.iload_n 2, 1) := by decide +kernel
theorem dX5_fault_138 : decode cX5_fault 138 = .ok (.ireturn, 1) := by decide +kernel
set_option maxRecDepth 20000 in
theorem ggX5_repair_X5_needLine : GoodIn wsX5_repair wsX5_needLine := goodIn_ca (goodIn_r _ [8, 9, 10, 11, 12, 13, 14, 15, 16, 17, 24, 25, 26, 27, 28, 29, 35, 36, 37, 38, 39, 40, 41, 42, 43, 44] (by decide +kernel) (by decide +kernel)) (goodIn_sub (fun _ h => List.mem_cons_of_mem _ (List.mem_append_right _ h)) (by decide +kernel))
set_option maxRecDepth 20000 in
theorem gX5_repair_X5_needLine : GoodIn wsX5_repair (wsV RX5 105 RX5 yX5_needLine wsX5_needLine) := goodIn_app (goodIn_of _ (by decide +kernel)) ggX5_repair_X5_needLine
set_option maxRecDepth 20000 in
theorem ggX5_repair_X5_has : GoodIn wsX5_repair wsX5_has := goodIn_r _ [20] (by decide +kernel) (by decide +kernel)
set_option maxRecDepth 20000 in
theorem gX5_repair_X5_has : GoodIn wsX5_repair (va_wsS RX5 149 yX5_has wsX5_has) := goodIn_app (goodIn_of _ (by decide +kernel)) ggX5_repair_X5_has
set_option maxRecDepth 20000 in
theorem ggX5_repair_X5_bit : GoodIn wsX5_repair wsX5_bit := goodIn_r _ [23] (by decide +kernel) (by decide +kernel)
set_option maxRecDepth 20000 in
theorem gX5_repair_X5_bit : GoodIn wsX5_repair (va_wsS RX5 128 yX5_bit wsX5_bit) := goodIn_app (goodIn_of _ (by decide +kernel)) ggX5_repair_X5_bit
theorem dX5_repair_0 : decode cX5_repair 0 = .ok (.aload_n 0, 1) := by decide +kernel
theorem dX5_repair_1 : decode cX5_repair 1 = .ok (.iload_n 1, 1) := by decide +kernel
theorem dX5_repair_2 : decode cX5_repair 2 = .ok (.invokevirtual 105, 3) := by decide +kernel
theorem dX5_repair_5 : decode cX5_repair 5 = .ok (.aload_n 0, 1) := by decide +kernel
theorem dX5_repair_6 : decode cX5_repair 6 = .ok (.getfield 30, 3) := by decide +kernel
theorem dX5_repair_9 : decode cX5_repair 9 = .ok (.getfield 146, 3) := by decide +kernel
theorem dX5_repair_12 : decode cX5_repair 12 = .ok (.iload_n 1, 1) := by decide +kernel
theorem dX5_repair_13 : decode cX5_repair 13 = .ok (.invokestatic 149, 3) := by decide +kernel
theorem dX5_repair_16 : decode cX5_repair 16 = .ok (.ifCond .ne 13, 3) := by decide +kernel
theorem dX5_repair_19 : decode cX5_repair 19 = .ok (.new 100, 3) := by decide +kernel
theorem dX5_repair_22 : decode cX5_repair 22 = .ok (.dup, 1) := by decide +kernel
theorem dX5_repair_23 : decode cX5_repair 23 = .ok (.ldc 171, 2) := by decide +kernel
theorem dX5_repair_25 : decode cX5_repair 25 = .ok (.invokespecial 104, 3) := by decide +kernel
theorem dX5_repair_28 : decode cX5_repair 28 = .ok (.athrow, 1) := by decide +kernel
theorem dX5_repair_29 : decode cX5_repair 29 = .ok (.aload_n 0, 1) := by decide +kernel
theorem dX5_repair_30 : decode cX5_repair 30 = .ok (.getfield 30, 3) := by decide +kernel
theorem dX5_repair_33 : decode cX5_repair 33 = .ok (.dup, 1) := by decide +kernel
theorem dX5_repair_34 : decode cX5_repair 34 = .ok (.getfield 146, 3) := by decide +kernel
theorem dX5_repair_37 : decode cX5_repair 37 = .ok (.iload_n 1, 1) := by decide +kernel
theorem dX5_repair_38 : decode cX5_repair 38 = .ok (.invokestatic 128, 3) := by decide +kernel
theorem dX5_repair_41 : decode cX5_repair 41 = .ok (.iconst (-1), 1) := by decide +kernel
theorem dX5_repair_42 : decode cX5_repair 42 = .ok (.ixor, 1) := by decide +kernel
theorem dX5_repair_43 : decode cX5_repair 43 = .ok (.iand, 1) := by decide +kernel
theorem dX5_repair_44 : decode cX5_repair 44 = .ok (.putfield 146, 3) := by decide +kernel
theorem dX5_repair_47 : decode cX5_repair 47 = .ok (.aload_n 0, 1) := by decide +kernel
theorem dX5_repair_48 : decode cX5_repair 48 = .ok (.getfield 30, 3) := by decide +kernel
theorem dX5_repair_51 : decode cX5_repair 51 = .ok (.getfield 173, 3) := by decide +kernel
theorem dX5_repair_54 : decode cX5_repair 54 = .ok (.iload_n 1, 1) := by decide +kernel
theorem dX5_repair_55 : decode cX5_repair 55 = .ok (.invokestatic 149, 3) := by decide +kernel
theorem dX5_repair_58 : decode cX5_repair 58 = .ok (.ireturn, 1) := by decide +kernel
set_option maxRecDepth 20000 in
theorem ggX5_reset_X5_needLine : GoodIn wsX5_reset wsX5_needLine := goodIn_ca (goodIn_r _ [10, 11, 12, 13, 14, 15, 16, 17, 18, 19, 33, 34, 35, 36, 37, 38, 44, 45, 46, 47, 48, 49, 50, 51, 52, 53] (by decide +kernel) (by decide +kernel)) (goodIn_sub (fun _ h => List.mem_cons_of_mem _ (List.mem_append_right _ h)) (by decide +kernel))
set_option maxRecDepth 20000 in
theorem gX5_reset_X5_needLine : GoodIn wsX5_reset (wsV RX5 105 RX5 yX5_needLine wsX5_needLine) := goodIn_app (goodIn_of _ (by decide +kernel)) ggX5_reset_X5_needLine
set_option maxRecDepth 20000 in
theorem ggX5_reset_X5_has : GoodIn wsX5_reset wsX5_has := goodIn_r _ [22] (by decide +kernel) (by decide +kernel)
set_option maxRecDepth 20000 in
theorem gX5_reset_X5_has : GoodIn wsX5_reset (va_wsS RX5 149 yX5_has wsX5_has) := goodIn_app (goodIn_of _ (by decide +kernel)) ggX5_reset_X5_has
set_option maxRecDepth 20000 in
theorem ggX5_reset_X5_bit : GoodIn wsX5_reset wsX5_bit := goodIn_r _ [25] (by decide +kernel) (by decide +kernel)
set_option maxRecDepth 20000 in
theorem gX5_reset_X5_bit : GoodIn wsX5_reset (va_wsS RX5 128 yX5_bit wsX5_bit) := goodIn_app (goodIn_of _ (by decide +kernel)) ggX5_reset_X5_bit
set_option maxRecDepth 20000 in
theorem ggX5_reset_J6_bitCount_0f7a4 : GoodIn wsX5_reset wsJ6_bitCount_0f7a4 := goodIn_r _ [29, 30, 31, 32] (by decide +kernel) (by decide +kernel)
set_option maxRecDepth 20000 in
theorem gX5_reset_J6_bitCount_0f7a4 : GoodIn wsX5_reset (va_wsS RX5 181 yJ6_bitCount_0f7a4 wsJ6_bitCount_0f7a4) := goodIn_app (goodIn_of _ (by decide +kernel)) ggX5_reset_J6_bitCount_0f7a4
theorem dX5_reset_0 : decode cX5_reset 0 = .ok (.aload_n 0, 1) := by decide +kernel
theorem dX5_reset_1 : decode cX5_reset 1 = .ok (.iload_n 1, 1) := by decide +kernel
theorem dX5_reset_2 : decode cX5_reset 2 = .ok (.invokevirtual 105, 3) := by decide +kernel
theorem dX5_reset_5 : decode cX5_reset 5 = .ok (.aload_n 0, 1) := by decide +kernel
theorem dX5_reset_6 : decode cX5_reset 6 = .ok (.getfield 30, 3) := by decide +kernel
theorem dX5_reset_9 : decode cX5_reset 9 = .ok (.getfield 146, 3) := by decide +kernel
theorem dX5_reset_12 : decode cX5_reset 12 = .ok (.iload_n 1, 1) := by decide +kernel
theorem dX5_reset_13 : decode cX5_reset 13 = .ok (.invokestatic 149, 3) := by decide +kernel
theorem dX5_reset_16 : decode cX5_reset 16 = .ok (.ifCond .eq 13, 3) := by decide +kernel
theorem dX5_reset_19 : decode cX5_reset 19 = .ok (.new 176, 3) := by decide +kernel
theorem dX5_reset_22 : decode cX5_reset 22 = .ok (.dup, 1) := by decide +kernel
theorem dX5_reset_23 : decode cX5_reset 23 = .ok (.ldc 153, 2) := by decide +kernel
theorem dX5_reset_25 : decode cX5_reset 25 = .ok (.invokespecial 178, 3) := by decide +kernel
theorem dX5_reset_28 : decode cX5_reset 28 = .ok (.athrow, 1) := by decide +kernel
theorem dX5_reset_29 : decode cX5_reset 29 = .ok (.aload_n 0, 1) := by decide +kernel
theorem dX5_reset_30 : decode cX5_reset 30 = .ok (.getfield 30, 3) := by decide +kernel
theorem dX5_reset_33 : decode cX5_reset 33 = .ok (.getfield 173, 3) := by decide +kernel
theorem dX5_reset_36 : decode cX5_reset 36 = .ok (.iload_n 1, 1) := by decide +kernel
theorem dX5_reset_37 : decode cX5_reset 37 = .ok (.invokestatic 149, 3) := by decide +kernel
theorem dX5_reset_40 : decode cX5_reset 40 = .ok (.ifCond .ne 13, 3) := by decide +kernel
theorem dX5_reset_43 : decode cX5_reset 43 = .ok (.new 100, 3) := by decide +kernel
theorem dX5_reset_46 : decode cX5_reset 46 = .ok (.dup, 1) := by decide +kernel
theorem dX5_reset_47 : decode cX5_reset 47 = .ok (.ldc 179, 2) := by decide +kernel
theorem dX5_reset_49 : decode cX5_reset 49 = .ok (.invokespecial 104, 3) := by decide +kernel
theorem dX5_reset_52 : decode cX5_reset 52 = .ok (.athrow, 1) := by decide +kernel
theorem dX5_reset_53 : decode cX5_reset 53 = .ok (.aload_n 0, 1) := by decide +kernel
theorem dX5_reset_54 : decode cX5_reset 54 = .ok (.getfield 30, 3) := by decide +kernel
theorem dX5_reset_57 : decode cX5_reset 57 = .ok (.dup, 1) := by decide +kernel
theorem dX5_reset_58 : decode cX5_reset 58 = .ok (.getfield 173, 3) := by decide +kernel
theorem dX5_reset_61 : decode cX5_reset 61 = .ok (.iload_n 1, 1) := by decide +kernel
theorem dX5_reset_62 : decode cX5_reset 62 = .ok (.invokestatic 128, 3) := by decide +kernel
theorem dX5_reset_65 : decode cX5_reset 65 = .ok (.iconst (-1), 1) := by decide +kernel
theorem dX5_reset_66 : decode cX5_reset 66 = .ok (.ixor, 1) := by decide +kernel
theorem dX5_reset_67 : decode cX5_reset 67 = .ok (.iand, 1) := by decide +kernel
theorem dX5_reset_68 : decode cX5_reset 68 = .ok (.putfield 173, 3) := by decide +kernel
theorem dX5_reset_71 : decode cX5_reset 71 = .ok (.aload_n 0, 1) := by decide +kernel
theorem dX5_reset_72 : decode cX5_reset 72 = .ok (.getfield 30, 3) := by decide +kernel
theorem dX5_reset_75 : decode cX5_reset 75 = .ok (.getfield 173, 3) := by decide +kernel
theorem dX5_reset_78 : decode cX5_reset 78 = .ok (.invokestatic 181, 3) := by decide +kernel
theorem dX5_reset_81 : decode cX5_reset 81 = .ok (.ireturn, 1) := by decide +kernel
theorem dX5_nodes_0 : decode cX5_nodes 0 = .ok (.aload_n 0, 1) := by decide +kernel
theorem dX5_nodes_1 : decode cX5_nodes 1 = .ok (.getfield 10, 3) := by decide +kernel
theorem dX5_nodes_4 : decode cX5_nodes 4 = .ok (.getfield 186, 3) := by decide +kernel
theorem dX5_nodes_7 : decode cX5_nodes 7 = .ok (.ireturn, 1) := by decide +kernel
theorem dX5_lines_0 : decode cX5_lines 0 = .ok (.aload_n 0, 1) := by decide +kernel
theorem dX5_lines_1 : decode cX5_lines 1 = .ok (.getfield 10, 3) := by decide +kernel
theorem dX5_lines_4 : decode cX5_lines 4 = .ok (.getfield 189, 3) := by decide +kernel
theorem dX5_lines_7 : decode cX5_lines 7 = .ok (.ireturn, 1) := by decide +kernel
set_option maxRecDepth 20000 in
theorem ggX5_isSource_X5_needNode : GoodIn wsX5_isSource wsX5_needNode := goodIn_ca (goodIn_r _ [6, 7, 8, 1, 9, 10, 11, 12, 13, 14, 18, 19, 20, 21, 22, 23, 24, 25, 26, 27, 28, 29, 30, 31, 32, 33] (by decide +kernel) (by decide +kernel)) (goodIn_sub (fun _ h => List.mem_cons_of_mem _ (List.mem_append_right _ h)) (by decide +kernel))
set_option maxRecDepth 20000 in
theorem gX5_isSource_X5_needNode : GoodIn wsX5_isSource (wsV RX5 71 RX5 yX5_needNode wsX5_needNode) := goodIn_app (goodIn_of _ (by decide +kernel)) ggX5_isSource_X5_needNode
set_option maxRecDepth 20000 in
theorem ggX5_isSource_X5_has : GoodIn wsX5_isSource wsX5_has := goodIn_r _ [17] (by decide +kernel) (by decide +kernel)
set_option maxRecDepth 20000 in
theorem gX5_isSource_X5_has : GoodIn wsX5_isSource (va_wsS RX5 149 yX5_has wsX5_has) := goodIn_app (goodIn_of _ (by decide +kernel)) ggX5_isSource_X5_has
theorem dX5_isSource_0 : decode cX5_isSource 0 = .ok (.aload_n 0, 1) := by decide +kernel
theorem dX5_isSource_1 : decode cX5_isSource 1 = .ok (.iload_n 1, 1) := by decide +kernel
theorem dX5_isSource_2 : decode cX5_isSource 2 = .ok (.invokevirtual 71, 3) := by decide +kernel
theorem dX5_isSource_5 : decode cX5_isSource 5 = .ok (.aload_n 0, 1) := by decide +kernel
theorem dX5_isSource_6 : decode cX5_isSource 6 = .ok (.getfield 10, 3) := by decide +kernel
theorem dX5_isSource_9 : decode cX5_isSource 9 = .ok (.getfield 192, 3) := by decide +kernel
theorem dX5_isSource_12 : decode cX5_isSource 12 = .ok (.iload_n 1, 1) := by decide +kernel
theorem dX5_isSource_13 : decode cX5_isSource 13 = .ok (.invokestatic 149, 3) := by decide +kernel
theorem dX5_isSource_16 : decode cX5_isSource 16 = .ok (.ireturn, 1) := by decide +kernel
set_option maxRecDepth 20000 in
theorem ggX5_loadOf_X5_needNode : GoodIn wsX5_loadOf wsX5_needNode := goodIn_ca (goodIn_r _ [6, 7, 8, 1, 9, 10, 11, 12, 13, 14, 20, 21, 22, 23, 24, 25, 26, 27, 28, 29, 30, 31, 32, 33, 34, 35] (by decide +kernel) (by decide +kernel)) (goodIn_sub (fun _ h => List.mem_cons_of_mem _ (List.mem_append_left _ (List.mem_append_right _ h))) (by decide +kernel))
set_option maxRecDepth 20000 in
theorem gX5_loadOf_X5_needNode : GoodIn wsX5_loadOf (wsV RX5 71 RX5 yX5_needNode wsX5_needNode) := goodIn_app (goodIn_of _ (by decide +kernel)) ggX5_loadOf_X5_needNode
set_option maxRecDepth 20000 in
theorem ggX5_loadOf_X1_loadAt : GoodIn wsX5_loadOf wsX1_loadAt := goodIn_ca (goodIn_r _ [18, 14, 19, 26, 27, 28, 29, 30, 31, 32, 33, 34, 35] (by decide +kernel) (by decide +kernel)) (goodIn_sub (fun _ h => List.mem_cons_of_mem _ (List.mem_append_right _ h)) (by decide +kernel))
set_option maxRecDepth 20000 in
theorem gX5_loadOf_X1_loadAt : GoodIn wsX5_loadOf (wsV RX5 89 RX1 yX1_loadAt wsX1_loadAt) := goodIn_app (goodIn_of _ (by decide +kernel)) ggX5_loadOf_X1_loadAt
theorem dX5_loadOf_0 : decode cX5_loadOf 0 = .ok (.aload_n 0, 1) := by decide +kernel
theorem dX5_loadOf_1 : decode cX5_loadOf 1 = .ok (.iload_n 1, 1) := by decide +kernel
theorem dX5_loadOf_2 : decode cX5_loadOf 2 = .ok (.invokevirtual 71, 3) := by decide +kernel
theorem dX5_loadOf_5 : decode cX5_loadOf 5 = .ok (.aload_n 0, 1) := by decide +kernel
theorem dX5_loadOf_6 : decode cX5_loadOf 6 = .ok (.getfield 10, 3) := by decide +kernel
theorem dX5_loadOf_9 : decode cX5_loadOf 9 = .ok (.iload_n 1, 1) := by decide +kernel
theorem dX5_loadOf_10 : decode cX5_loadOf 10 = .ok (.invokevirtual 89, 3) := by decide +kernel
theorem dX5_loadOf_13 : decode cX5_loadOf 13 = .ok (.ireturn, 1) := by decide +kernel
set_option maxRecDepth 20000 in
theorem ggX5_weight_X5_needNode : GoodIn wsX5_weight wsX5_needNode := goodIn_ca (goodIn_r _ [6, 7, 8, 1, 9, 10, 11, 12, 13, 14, 33, 34, 35, 36, 37, 38, 39, 40, 41, 42, 43, 44, 45, 46, 47, 48] (by decide +kernel) (by decide +kernel)) (goodIn_sub (fun _ h => List.mem_cons_of_mem _ (List.mem_append_left _ (List.mem_append_left _ (List.mem_append_right _ h)))) (by decide +kernel))
set_option maxRecDepth 20000 in
theorem gX5_weight_X5_needNode : GoodIn wsX5_weight (wsV RX5 71 RX5 yX5_needNode wsX5_needNode) := goodIn_app (goodIn_of _ (by decide +kernel)) ggX5_weight_X5_needNode
set_option maxRecDepth 20000 in
theorem ggX5_weight_X5_needBus : GoodIn wsX5_weight wsX5_needBus := goodIn_ca (goodIn_r _ [18, 19, 20, 1, 21, 22, 5, 23, 33, 34, 35, 36, 37, 38, 39, 40, 41, 42, 43, 44, 45, 46, 47, 48] (by decide +kernel) (by decide +kernel)) (goodIn_sub (fun _ h => List.mem_cons_of_mem _ (List.mem_append_left _ (List.mem_append_right _ h))) (by decide +kernel))
set_option maxRecDepth 20000 in
theorem gX5_weight_X5_needBus : GoodIn wsX5_weight (wsV RX5 86 RX5 yX5_needBus wsX5_needBus) := goodIn_app (goodIn_of _ (by decide +kernel)) ggX5_weight_X5_needBus
set_option maxRecDepth 20000 in
theorem ggX5_weight_X5_bit : GoodIn wsX5_weight wsX5_bit := goodIn_r _ [26] (by decide +kernel) (by decide +kernel)
set_option maxRecDepth 20000 in
theorem gX5_weight_X5_bit : GoodIn wsX5_weight (va_wsS RX5 128 yX5_bit wsX5_bit) := goodIn_app (goodIn_of _ (by decide +kernel)) ggX5_weight_X5_bit
set_option maxRecDepth 20000 in
theorem ggX5_weight_X1_weightIn : GoodIn wsX5_weight wsX1_weightIn := goodIn_ca (goodIn_r _ [30, 14, 31, 32, 22, 5, 23, 39, 40, 41, 42, 43, 44, 45, 46, 47, 48] (by decide +kernel) (by decide +kernel)) (goodIn_sub (fun _ h => List.mem_cons_of_mem _ (List.mem_append_right _ h)) (by decide +kernel))
set_option maxRecDepth 20000 in
theorem gX5_weight_X1_weightIn : GoodIn wsX5_weight (wsV RX5 195 RX1 yX1_weightIn wsX1_weightIn) := goodIn_app (goodIn_of _ (by decide +kernel)) ggX5_weight_X1_weightIn
