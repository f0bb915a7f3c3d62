theorem dX5_init_50 : decode cX5_init 50 = .ok (.new 34, 3) := by decide +kernel
theorem dX5_init_53 : decode cX5_init 53 = .ok (.dup, 1) := by decide +kernel
theorem dX5_init_54 : decode cX5_init 54 = .ok (.aload_n 0, 1) := by decide +kernel
theorem dX5_init_55 : decode cX5_init 55 = .ok (.getfield 10, 3) := by decide +kernel
theorem dX5_init_58 : decode cX5_init 58 = .ok (.aload_n 0, 1) := by decide +kernel
theorem dX5_init_59 : decode cX5_init 59 = .ok (.getfield 21, 3) := by decide +kernel
theorem dX5_init_62 : decode cX5_init 62 = .ok (.invokespecial 36, 3) := by decide +kernel
theorem dX5_init_65 : decode cX5_init 65 = .ok (.putfield 37, 3) := by decide +kernel
theorem dX5_init_68 : decode cX5_init 68 = .ok (.aload_n 0, 1) := by decide +kernel
theorem dX5_init_69 : decode cX5_init 69 = .ok (.new 41, 3) := by decide +kernel
theorem dX5_init_72 : decode cX5_init 72 = .ok (.dup, 1) := by decide +kernel
theorem dX5_init_73 : decode cX5_init 73 = .ok (.aload_n 0, 1) := by decide +kernel
theorem dX5_init_74 : decode cX5_init 74 = .ok (.getfield 10, 3) := by decide +kernel
theorem dX5_init_77 : decode cX5_init 77 = .ok (.aload_n 0, 1) := by decide +kernel
theorem dX5_init_78 : decode cX5_init 78 = .ok (.getfield 30, 3) := by decide +kernel
theorem dX5_init_81 : decode cX5_init 81 = .ok (.invokespecial 43, 3) := by decide +kernel
theorem dX5_init_84 : decode cX5_init 84 = .ok (.putfield 46, 3) := by decide +kernel
theorem dX5_init_87 : decode cX5_init 87 = .ok (.return_, 1) := by decide +kernel
set_option maxRecDepth 20000 in
theorem ggX5_addSource_X1_addNode : GoodIn wsX5_addSource wsX1_addNode := goodIn_ca (goodIn_r _ [8, 9, 10, 11, 12, 13, 14, 15, 16, 28, 29, 30, 31, 32, 33, 34, 35, 36, 37] (by decide +kernel) (by decide +kernel)) (goodIn_sub (fun _ h => List.mem_cons_of_mem _ (List.mem_append_left _ (List.mem_append_right _ h))) (by decide +kernel))
set_option maxRecDepth 20000 in
theorem gX5_addSource_X1_addNode : GoodIn wsX5_addSource (wsV RX5 57 RX1 yX1_addNode wsX1_addNode) := goodIn_app (goodIn_of _ (by decide +kernel)) ggX5_addSource_X1_addNode
set_option maxRecDepth 20000 in
theorem ggX5_addSource_X5_added : GoodIn wsX5_addSource wsX5_added := goodIn_ca (goodIn_r _ [19, 20, 21] (by decide +kernel) (by decide +kernel)) (goodIn_sub (fun _ h => List.mem_cons_of_mem _ (List.mem_append_right _ h)) (by decide +kernel))
set_option maxRecDepth 20000 in
theorem gX5_addSource_X5_added : GoodIn wsX5_addSource (va_wsS RX5 61 yX5_added wsX5_added) := goodIn_app (goodIn_of _ (by decide +kernel)) ggX5_addSource_X5_added
theorem dX5_addSource_0 : decode cX5_addSource 0 = .ok (.iload_n 1, 1) := by decide +kernel
theorem dX5_addSource_1 : decode cX5_addSource 1 = .ok (.iconst 1, 1) := by decide +kernel
theorem dX5_addSource_2 : decode cX5_addSource 2 = .ok (.if_icmp .lt 10, 3) := by decide +kernel
theorem dX5_addSource_5 : decode cX5_addSource 5 = .ok (.iload_n 1, 1) := by decide +kernel
theorem dX5_addSource_6 : decode cX5_addSource 6 = .ok (.sipush 999, 3) := by decide +kernel
theorem dX5_addSource_9 : decode cX5_addSource 9 = .ok (.if_icmp .le 13, 3) := by decide +kernel
theorem dX5_addSource_12 : decode cX5_addSource 12 = .ok (.new 50, 3) := by decide +kernel
theorem dX5_addSource_15 : decode cX5_addSource 15 = .ok (.dup, 1) := by decide +kernel
theorem dX5_addSource_16 : decode cX5_addSource 16 = .ok (.ldc 52, 2) := by decide +kernel
theorem dX5_addSource_18 : decode cX5_addSource 18 = .ok (.invokespecial 54, 3) := by decide +kernel
theorem dX5_addSource_21 : decode cX5_addSource 21 = .ok (.athrow, 1) := by decide +kernel
theorem dX5_addSource_22 : decode cX5_addSource 22 = .ok (.aload_n 0, 1) := by decide +kernel
theorem dX5_addSource_23 : decode cX5_addSource 23 = .ok (.getfield 10, 3) := by decide +kernel
theorem dX5_addSource_26 : decode cX5_addSource 26 = .ok (.iload_n 1, 1) := by decide +kernel
theorem dX5_addSource_27 : decode cX5_addSource 27 = .ok (.iconst 0, 1) := by decide +kernel
theorem dX5_addSource_28 : decode cX5_addSource 28 = .ok (.iconst 0, 1) := by decide +kernel
theorem dX5_addSource_29 : decode cX5_addSource 29 = .ok (.invokevirtual 57, 3) := by decide +kernel
theorem dX5_addSource_32 : decode cX5_addSource 32 = .ok (.invokestatic 61, 3) := by decide +kernel
theorem dX5_addSource_35 : decode cX5_addSource 35 = .ok (.ireturn, 1) := by decide +kernel
set_option maxRecDepth 20000 in
theorem ggX5_addBus_X5_needLoad : GoodIn wsX5_addBus wsX5_needLoad := goodIn_ca (goodIn_r _ [7, 1, 2] (by decide +kernel) (by decide +kernel)) (goodIn_sub (fun _ h => List.mem_cons_of_mem _ (List.mem_append_left _ (List.mem_append_left _ (List.mem_append_right _ h)))) (by decide +kernel))
set_option maxRecDepth 20000 in
theorem gX5_addBus_X5_needLoad : GoodIn wsX5_addBus (va_wsS RX5 65 yX5_needLoad wsX5_needLoad) := goodIn_app (goodIn_of _ (by decide +kernel)) ggX5_addBus_X5_needLoad
set_option maxRecDepth 20000 in
theorem ggX5_addBus_X1_addNode : GoodIn wsX5_addBus wsX1_addNode := goodIn_ca (goodIn_r _ [12, 13, 14, 15, 16, 17, 18, 6, 19, 31, 32, 33, 34, 35, 36, 37, 38, 39, 40] (by decide +kernel) (by decide +kernel)) (goodIn_sub (fun _ h => List.mem_cons_of_mem _ (List.mem_append_left _ (List.mem_append_right _ h))) (by decide +kernel))
set_option maxRecDepth 20000 in
theorem gX5_addBus_X1_addNode : GoodIn wsX5_addBus (wsV RX5 57 RX1 yX1_addNode wsX1_addNode) := goodIn_app (goodIn_of _ (by decide +kernel)) ggX5_addBus_X1_addNode
set_option maxRecDepth 20000 in
theorem ggX5_addBus_X5_added : GoodIn wsX5_addBus wsX5_added := goodIn_ca (goodIn_r _ [22, 23, 24] (by decide +kernel) (by decide +kernel)) (goodIn_sub (fun _ h => List.mem_cons_of_mem _ (List.mem_append_right _ h)) (by decide +kernel))
set_option maxRecDepth 20000 in
theorem gX5_addBus_X5_added : GoodIn wsX5_addBus (va_wsS RX5 61 yX5_added wsX5_added) := goodIn_app (goodIn_of _ (by decide +kernel)) ggX5_addBus_X5_added
theorem dX5_addBus_0 : decode cX5_addBus 0 = .ok (.iload_n 1, 1) := by decide +kernel
theorem dX5_addBus_1 : decode cX5_addBus 1 = .ok (.invokestatic 65, 3) := by decide +kernel
theorem dX5_addBus_4 : decode cX5_addBus 4 = .ok (.iload_n 2, 1) := by decide +kernel
theorem dX5_addBus_5 : decode cX5_addBus 5 = .ok (.ifCond .lt 9, 3) := by decide +kernel
theorem dX5_addBus_8 : decode cX5_addBus 8 = .ok (.iload_n 2, 1) := by decide +kernel
theorem dX5_addBus_9 : decode cX5_addBus 9 = .ok (.bipush 9, 2) := by decide +kernel
theorem dX5_addBus_11 : decode cX5_addBus 11 = .ok (.if_icmp .le 13, 3) := by decide +kernel
theorem dX5_addBus_14 : decode cX5_addBus 14 = .ok (.new 50, 3) := by decide +kernel
theorem dX5_addBus_17 : decode cX5_addBus 17 = .ok (.dup, 1) := by decide +kernel
theorem dX5_addBus_18 : decode cX5_addBus 18 = .ok (.ldc 69, 2) := by decide +kernel
theorem dX5_addBus_20 : decode cX5_addBus 20 = .ok (.invokespecial 54, 3) := by decide +kernel
theorem dX5_addBus_23 : decode cX5_addBus 23 = .ok (.athrow, 1) := by decide +kernel
theorem dX5_addBus_24 : decode cX5_addBus 24 = .ok (.aload_n 0, 1) := by decide +kernel
theorem dX5_addBus_25 : decode cX5_addBus 25 = .ok (.getfield 10, 3) := by decide +kernel
theorem dX5_addBus_28 : decode cX5_addBus 28 = .ok (.iconst 0, 1) := by decide +kernel
theorem dX5_addBus_29 : decode cX5_addBus 29 = .ok (.iload_n 1, 1) := by decide +kernel
theorem dX5_addBus_30 : decode cX5_addBus 30 = .ok (.iload_n 2, 1) := by decide +kernel
theorem dX5_addBus_31 : decode cX5_addBus 31 = .ok (.invokevirtual 57, 3) := by decide +kernel
theorem dX5_addBus_34 : decode cX5_addBus 34 = .ok (.invokestatic 61, 3) := by decide +kernel
theorem dX5_addBus_37 : decode cX5_addBus 37 = .ok (.ireturn, 1) := by decide +kernel
set_option maxRecDepth 20000 in
theorem ggX5_addLine_X5_needNode : GoodIn wsX5_addLine wsX5_needNode := goodIn_ca (goodIn_r _ [9, 10, 11, 3, 12, 13, 14, 15, 16, 17, 47, 48, 49, 50, 51, 52, 53, 54, 55, 56, 57, 58, 59, 60, 61, 62] (by decide +kernel) (by decide +kernel)) (goodIn_sub (fun _ h => List.mem_cons_of_mem _ (List.mem_append_left _ (List.mem_append_left _ (List.mem_append_right _ h)))) (by decide +kernel))
set_option maxRecDepth 20000 in
theorem gX5_addLine_X5_needNode : GoodIn wsX5_addLine (wsV RX5 71 RX5 yX5_needNode wsX5_needNode) := goodIn_app (goodIn_of _ (by decide +kernel)) ggX5_addLine_X5_needNode
set_option maxRecDepth 20000 in
theorem ggX5_addLine_X1_addLineBetween : GoodIn wsX5_addLine wsX1_addLineBetween := goodIn_ca (goodIn_r _ [21, 22, 23, 24, 25, 26, 27, 8, 28, 53, 54, 55, 56, 57, 58, 59, 60, 61, 62] (by decide +kernel) (by decide +kernel)) (goodIn_sub (fun _ h => List.mem_cons_of_mem _ (List.mem_append_left _ (List.mem_append_right _ h))) (by decide +kernel))
set_option maxRecDepth 20000 in
theorem gX5_addLine_X1_addLineBetween : GoodIn wsX5_addLine (wsV RX5 78 RX1 yX1_addLineBetween wsX1_addLineBetween) := goodIn_app (goodIn_of _ (by decide +kernel)) ggX5_addLine_X1_addLineBetween
set_option maxRecDepth 20000 in
theorem ggX5_addLine_X5_added : GoodIn wsX5_addLine wsX5_added := goodIn_ca (goodIn_r _ [31, 32, 33] (by decide +kernel) (by decide +kernel)) (goodIn_sub (fun _ h => List.mem_cons_of_mem _ (List.mem_append_right _ h)) (by decide +kernel))
set_option maxRecDepth 20000 in
theorem gX5_addLine_X5_added : GoodIn wsX5_addLine (va_wsS RX5 61 yX5_added wsX5_added) := goodIn_app (goodIn_of _ (by decide +kernel)) ggX5_addLine_X5_added
set_option maxRecDepth 20000 in
theorem ggX5_addLine_X3_setUp : GoodIn wsX5_addLine wsX3_setUp := goodIn_ca (goodIn_r _ [38, 39, 40, 41, 42, 43, 44, 45, 15, 46, 22, 63, 64, 65, 66, 67, 53, 54, 55, 56, 57, 58, 59, 60, 61, 62] (by decide +kernel) (by decide +kernel)) (goodIn_sub (fun _ h => List.mem_cons_of_mem _ (List.mem_append_left _ (List.mem_append_right _ h))) (by decide +kernel))
set_option maxRecDepth 20000 in
theorem gX5_addLine_X3_setUp : GoodIn wsX5_addLine (wsV RX5 82 RX3 yX3_setUp wsX3_setUp) := goodIn_app (goodIn_of _ (by decide +kernel)) ggX5_addLine_X3_setUp
theorem dX5_addLine_0 : decode cX5_addLine 0 = .ok (.aload_n 0, 1) := by decide +kernel
theorem dX5_addLine_1 : decode cX5_addLine 1 = .ok (.iload_n 1, 1) := by decide +kernel
theorem dX5_addLine_2 : decode cX5_addLine 2 = .ok (.invokevirtual 71, 3) := by decide +kernel
theorem dX5_addLine_5 : decode cX5_addLine 5 = .ok (.aload_n 0, 1) := by decide +kernel
theorem dX5_addLine_6 : decode cX5_addLine 6 = .ok (.iload_n 2, 1) := by decide +kernel
theorem dX5_addLine_7 : decode cX5_addLine 7 = .ok (.invokevirtual 71, 3) := by decide +kernel
theorem dX5_addLine_10 : decode cX5_addLine 10 = .ok (.iload_n 1, 1) := by decide +kernel
theorem dX5_addLine_11 : decode cX5_addLine 11 = .ok (.iload_n 2, 1) := by decide +kernel
theorem dX5_addLine_12 : decode cX5_addLine 12 = .ok (.if_icmp .ne 13, 3) := by decide +kernel
theorem dX5_addLine_15 : decode cX5_addLine 15 = .ok (.new 50, 3) := by decide +kernel
theorem dX5_addLine_18 : decode cX5_addLine 18 = .ok (.dup, 1) := by decide +kernel
theorem dX5_addLine_19 : decode cX5_addLine 19 = .ok (.ldc 74, 2) := by decide +kernel
theorem dX5_addLine_21 : decode cX5_addLine 21 = .ok (.invokespecial 54, 3) := by decide +kernel
theorem dX5_addLine_24 : decode cX5_addLine 24 = .ok (.athrow, 1) := by decide +kernel
theorem dX5_addLine_25 : decode cX5_addLine 25 = .ok (.iload_n 3, 1) := by decide +kernel
theorem dX5_addLine_26 : decode cX5_addLine 26 = .ok (.iconst 1, 1) := by decide +kernel
theorem dX5_addLine_27 : decode cX5_addLine 27 = .ok (.if_icmp .lt 10, 3) := by decide +kernel
theorem dX5_addLine_30 : decode cX5_addLine 30 = .ok (.iload_n 3, 1) := by decide +kernel
theorem dX5_addLine_31 : decode cX5_addLine 31 = .ok (.sipush 999, 3) := by decide +kernel
theorem dX5_addLine_34 : decode cX5_addLine 34 = .ok (.if_icmp .le 13, 3) := by decide +kernel
theorem dX5_addLine_37 : decode cX5_addLine 37 = .ok (.new 50, 3) := by decide +kernel
theorem dX5_addLine_40 : decode cX5_addLine 40 = .ok (.dup, 1) := by decide +kernel
theorem dX5_addLine_41 : decode cX5_addLine 41 = .ok (.ldc 76, 2) := by decide +kernel
theorem dX5_addLine_43 : decode cX5_addLine 43 = .ok (.invokespecial 54, 3) := by decide +kernel
theorem dX5_addLine_46 : decode cX5_addLine 46 = .ok (.athrow, 1) := by decide +kernel
theorem dX5_addLine_47 : decode cX5_addLine 47 = .ok (.aload_n 0, 1) := by decide +kernel
theorem dX5_addLine_48 : decode cX5_addLine 48 = .ok (.getfield 10, 3) := by decide +kernel
theorem dX5_addLine_51 : decode cX5_addLine 51 = .ok (.iload_n 1, 1) := by decide +kernel
theorem dX5_addLine_52 : decode cX5_addLine 52 = .ok (.iload_n 2, 1) := by decide +kernel
theorem dX5_addLine_53 : decode cX5_addLine 53 = .ok (.iload_n 3, 1) := by decide +kernel
theorem dX5_addLine_54 : decode cX5_addLine 54 = .ok (.iload 4, 2) := by decide +kernel
theorem dX5_addLine_56 : decode cX5_addLine 56 = .ok (.invokevirtual 78, 3) := by decide +kernel
theorem dX5_addLine_59 : decode cX5_addLine 59 = .ok (.invokestatic 61, 3) := by decide +kernel
theorem dX5_addLine_62 : decode cX5_addLine 62 = .ok (.istore 5, 2) := by decide +kernel
theorem dX5_addLine_64 : decode cX5_addLine 64 = .ok (.aload_n 0, 1) := by decide +kernel
theorem dX5_addLine_65 : decode cX5_addLine 65 = .ok (.getfield 37, 3) := by decide +kernel
theorem dX5_addLine_68 : decode cX5_addLine 68 = .ok (.iload 5, 2) := by decide +kernel
theorem dX5_addLine_70 : decode cX5_addLine 70 = .ok (.iload_n 3, 1) := by decide +kernel
theorem dX5_addLine_71 : decode cX5_addLine 71 = .ok (.iconst 1, 1) := by decide +kernel
theorem dX5_addLine_72 : decode cX5_addLine 72 = .ok (.iconst 0, 1) := by decide +kernel
theorem dX5_addLine_73 : decode cX5_addLine 73 = .ok (.invokevirtual 82, 3) := by decide +kernel
theorem dX5_addLine_76 : decode cX5_addLine 76 = .ok (.iload 5, 2) := by decide +kernel
theorem dX5_addLine_78 : decode cX5_addLine 78 = .ok (.ireturn, 1) := by decide +kernel
set_option maxRecDepth 20000 in
theorem ggX5_setLoad_X5_needNode : GoodIn wsX5_setLoad wsX5_needNode := goodIn_ca (goodIn_r _ [9, 10, 11, 3, 12, 13, 14, 15, 16, 17, 116, 117, 118, 119, 120, 121, 122, 123, 124, 125, 126, 127, 128, 129, 130, 131] (by decide +kernel) (by decide +kernel)) (goodIn_sub (fun _ h => List.mem_cons_of_mem _ (List.mem_append_left _ (List.mem_append_left _ (List.mem_append_left _ (List.mem_append_right _ h))))) (by decide +kernel))
set_option maxRecDepth 20000 in
theorem gX5_setLoad_X5_needNode : GoodIn wsX5_setLoad (wsV RX5 71 RX5 yX5_needNode wsX5_needNode) := goodIn_app (goodIn_of _ (by decide +kernel)) ggX5_setLoad_X5_needNode
set_option maxRecDepth 20000 in
theorem ggX5_setLoad_X5_needLoad : GoodIn wsX5_setLoad wsX5_needLoad := goodIn_ca (goodIn_r _ [20, 21, 22] (by decide +kernel) (by decide +kernel)) (goodIn_sub (fun _ h => List.mem_cons_of_mem _ (List.mem_append_left _ (List.mem_append_left _ (List.mem_append_right _ h)))) (by decide +kernel))
set_option maxRecDepth 20000 in
theorem gX5_setLoad_X5_needLoad : GoodIn wsX5_setLoad (va_wsS RX5 65 yX5_needLoad wsX5_needLoad) := goodIn_app (goodIn_of _ (by decide +kernel)) ggX5_setLoad_X5_needLoad
set_option maxRecDepth 20000 in
theorem ggX5_setLoad_X5_needBus : GoodIn wsX5_setLoad wsX5_needBus := goodIn_ca (goodIn_r _ [26, 27, 28, 3, 29, 30, 8, 31, 116, 117, 118, 119, 120, 121, 122, 123, 124, 125, 126, 127, 128, 129, 130, 131] (by decide +kernel) (by decide +kernel)) (goodIn_sub (fun _ h => List.mem_cons_of_mem _ (List.mem_append_left _ (List.mem_append_right _ h))) (by decide +kernel))
set_option maxRecDepth 20000 in
theorem gX5_setLoad_X5_needBus : GoodIn wsX5_setLoad (wsV RX5 86 RX5 yX5_needBus wsX5_needBus) := goodIn_app (goodIn_of _ (by decide +kernel)) ggX5_setLoad_X5_needBus
set_option maxRecDepth 20000 in
theorem ggX5_setLoad_X1_loadAt : GoodIn wsX5_setLoad wsX1_loadAt := goodIn_ca (goodIn_r _ [35, 17, 36, 122, 123, 124, 125, 126, 127, 128, 129, 130, 131] (by decide +kernel) (by decide +kernel)) (goodIn_sub (fun _ h => List.mem_cons_of_mem _ (List.mem_append_right _ h)) (by decide +kernel))
set_option maxRecDepth 20000 in
theorem gX5_setLoad_X1_loadAt : GoodIn wsX5_setLoad (wsV RX5 89 RX1 yX1_loadAt wsX1_loadAt) := goodIn_app (goodIn_of _ (by decide +kernel)) ggX5_setLoad_X1_loadAt
set_option maxRecDepth 20000 in
theorem ggX5_setLoad_X1_putLoad : GoodIn wsX5_setLoad wsX1_putLoad := goodIn_ca (goodIn_r _ [40, 36, 41, 13, 14, 15, 16, 17, 122, 123, 124, 125, 126, 127, 128, 129, 130, 131] (by decide +kernel) (by decide +kernel)) (goodIn_sub (fun _ h => List.mem_cons_of_mem _ (List.mem_append_right _ h)) (by decide +kernel))
set_option maxRecDepth 20000 in
theorem gX5_setLoad_X1_putLoad : GoodIn wsX5_setLoad (wsV RX5 92 RX1 yX1_putLoad wsX1_putLoad) := goodIn_app (goodIn_of _ (by decide +kernel)) ggX5_setLoad_X1_putLoad
set_option maxRecDepth 20000 in
theorem ggX5_setLoad_X4_keepLimits : GoodIn wsX5_setLoad wsX4_keepLimits := goodIn_ca (goodIn_r _ [46, 47, 48, 49, 30, 8, 31, 50, 51, 52, 15, 53, 54, 55, 56, 57, 58, 59, 60, 61, 62, 63, 64, 65, 66, 67, 68, 69, 70, 71, 72, 73, 74, 75, 76, 77, 78, 79, 17, 36, 80, 81, 82, 83, 84, 85, 86, 87, 88, 89, 41, 13, 14, 16, 90, 91, 92, 93, 94, 95, 96, 97, 98, 99, 100, 101, 102, 103, 104, 105, 33, 34, 35, 106, 107, 108, 109, 110, 111, 112, 113, 114, 115, 132, 133, 134, 135, 136, 122, 123, 124, 125, 126, 127, 128, 129, 130, 131, 137, 138, 139] (by decide +kernel) (by decide +kernel)) (goodIn_sub (fun _ h => List.mem_cons_of_mem _ (List.mem_append_right _ h)) (by decide +kernel))
set_option maxRecDepth 20000 in
theorem gX5_setLoad_X4_keepLimits : GoodIn wsX5_setLoad (wsV RX5 96 RX4 yX4_keepLimits wsX4_keepLimits) := goodIn_app (goodIn_of _ (by decide +kernel)) ggX5_setLoad_X4_keepLimits
theorem dX5_setLoad_0 : decode cX5_setLoad 0 = .ok (.aload_n 0, 1) := by decide +kernel
theorem dX5_setLoad_1 : decode cX5_setLoad 1 = .ok (.iload_n 1, 1) := by decide +kernel
theorem dX5_setLoad_2 : decode cX5_setLoad 2 = .ok (.invokevirtual 71, 3) := by decide +kernel
theorem dX5_setLoad_5 : decode cX5_setLoad 5 = .ok (.iload_n 2, 1) := by decide +kernel
theorem dX5_setLoad_6 : decode cX5_setLoad 6 = .ok (.invokestatic 65, 3) := by decide +kernel
theorem dX5_setLoad_9 : decode cX5_setLoad 9 = .ok (.aload_n 0, 1) := by decide +kernel
theorem dX5_setLoad_10 : decode cX5_setLoad 10 = .ok (.iload_n 1, 1) := by decide +kernel
theorem dX5_setLoad_11 : decode cX5_setLoad 11 = .ok (.invokevirtual 86, 3) := by decide +kernel
theorem dX5_setLoad_14 : decode cX5_setLoad 14 = .ok (.aload_n 0, 1) := by decide +kernel
theorem dX5_setLoad_15 : decode cX5_setLoad 15 = .ok (.getfield 10, 3) := by decide +kernel
theorem dX5_setLoad_18 : decode cX5_setLoad 18 = .ok (.iload_n 1, 1) := by decide +kernel
theorem dX5_setLoad_19 : decode cX5_setLoad 19 = .ok (.invokevirtual 89, 3) := by decide +kernel
theorem dX5_setLoad_22 : decode cX5_setLoad 22 = .ok (.istore_n 3, 1) := by decide +kernel
theorem dX5_setLoad_23 : decode cX5_setLoad 23 = .ok (.aload_n 0, 1) := by decide +kernel
theorem dX5_setLoad_24 : decode cX5_setLoad 24 = .ok (.getfield 10, 3) := by decide +kernel
theorem dX5_setLoad_27 : decode cX5_setLoad 27 = .ok (.iload_n 1, 1) := by decide +kernel
theorem dX5_setLoad_28 : decode cX5_setLoad 28 = .ok (.iload_n 2, 1) := by decide +kernel
theorem dX5_setLoad_29 : decode cX5_setLoad 29 = .ok (.invokevirtual 92, 3) := by decide +kernel
theorem dX5_setLoad_32 : decode cX5_setLoad 32 = .ok (.aload_n 0, 1) := by decide +kernel
theorem dX5_setLoad_33 : decode cX5_setLoad 33 = .ok (.getfield 30, 3) := by decide +kernel
theorem dX5_setLoad_36 : decode cX5_setLoad 36 = .ok (.invokevirtual 96, 3) := by decide +kernel
theorem dX5_setLoad_39 : decode cX5_setLoad 39 = .ok (.ifCond .ne 22, 3) := by decide +kernel
theorem dX5_setLoad_42 : decode cX5_setLoad 42 = .ok (.aload_n 0, 1) := by decide +kernel
theorem dX5_setLoad_43 : decode cX5_setLoad 43 = .ok (.getfield 10, 3) := by decide +kernel
theorem dX5_setLoad_46 : decode cX5_setLoad 46 = .ok (.iload_n 1, 1) := by decide +kernel
theorem dX5_setLoad_47 : decode cX5_setLoad 47 = .ok (.iload_n 3, 1) := by decide +kernel
theorem dX5_setLoad_48 : decode cX5_setLoad 48 = .ok (.invokevirtual 92, 3) := by decide +kernel
theorem dX5_setLoad_51 : decode cX5_setLoad 51 = .ok (.new 100, 3) := by decide +kernel
theorem dX5_setLoad_54 : decode cX5_setLoad 54 = .ok (.dup, 1) := by decide +kernel
theorem dX5_setLoad_55 : decode cX5_setLoad 55 = .ok (.ldc 102, 2) := by decide +kernel
theorem dX5_setLoad_57 : decode cX5_setLoad 57 = .ok (.invokespecial 104, 3) := by decide +kernel
theorem dX5_setLoad_60 : decode cX5_setLoad 60 = .ok (.athrow, 1) := by decide +kernel
theorem dX5_setLoad_61 : decode cX5_setLoad 61 = .ok (.iload_n 3, 1) := by decide +kernel
theorem dX5_setLoad_62 : decode cX5_setLoad 62 = .ok (.ireturn, 1) := by decide +kernel
set_option maxRecDepth 20000 in
theorem ggX5_setRelay_X5_needLine : GoodIn wsX5_setRelay wsX5_needLine := goodIn_ca (goodIn_r _ [8, 9, 10, 11, 12, 13, 14, 15, 16, 17, 41, 42, 43, 44, 45, 46, 47, 48, 49, 50, 51, 52, 53, 54, 55, 56] (by decide +kernel) (by decide +kernel)) (goodIn_sub (fun _ h => List.mem_cons_of_mem _ (List.mem_append_left _ (List.mem_append_left _ (List.mem_append_right _ h)))) (by decide +kernel))
set_option maxRecDepth 20000 in
theorem gX5_setRelay_X5_needLine : GoodIn wsX5_setRelay (wsV RX5 105 RX5 yX5_needLine wsX5_needLine) := goodIn_app (goodIn_of _ (by decide +kernel)) ggX5_setRelay_X5_needLine
set_option maxRecDepth 20000 in
theorem ggX5_setRelay_X5_needBreaker : GoodIn wsX5_setRelay wsX5_needBreaker := goodIn_ca (goodIn_r _ [21, 22, 23, 11, 24, 25, 7, 26, 41, 42, 43, 44, 45, 46, 47, 48, 49, 50, 51, 52, 53, 54, 55, 56] (by decide +kernel) (by decide +kernel)) (goodIn_sub (fun _ h => List.mem_cons_of_mem _ (List.mem_append_left _ (List.mem_append_right _ h))) (by decide +kernel))
set_option maxRecDepth 20000 in
theorem gX5_setRelay_X5_needBreaker : GoodIn wsX5_setRelay (wsV RX5 114 RX5 yX5_needBreaker wsX5_needBreaker) := goodIn_app (goodIn_of _ (by decide +kernel)) ggX5_setRelay_X5_needBreaker
set_option maxRecDepth 20000 in
theorem ggX5_setRelay_X3_pickupAt : GoodIn wsX5_setRelay wsX3_pickupAt := goodIn_ca (goodIn_r _ [31, 32, 33, 34, 13, 14, 15, 16, 17, 57, 58, 59, 60, 61, 47, 48, 49, 50, 51, 52, 53, 54, 55, 56] (by decide +kernel) (by decide +kernel)) (goodIn_sub (fun _ h => List.mem_cons_of_mem _ (List.mem_append_right _ h)) (by decide +kernel))
set_option maxRecDepth 20000 in
theorem gX5_setRelay_X3_pickupAt : GoodIn wsX5_setRelay (wsV RX5 117 RX3 yX3_pickupAt wsX3_pickupAt) := goodIn_app (goodIn_of _ (by decide +kernel)) ggX5_setRelay_X3_pickupAt
set_option maxRecDepth 20000 in
theorem ggX5_setRelay_X3_setUp : GoodIn wsX5_setRelay wsX3_setUp := goodIn_ca (goodIn_r _ [38, 32, 33, 39, 40, 34, 13, 14, 15, 16, 17, 57, 58, 59, 60, 61, 47, 48, 49, 50, 51, 52, 53, 54, 55, 56] (by decide +kernel) (by decide +kernel)) (goodIn_sub (fun _ h => List.mem_cons_of_mem _ (List.mem_append_right _ h)) (by decide +kernel))
set_option maxRecDepth 20000 in
theorem gX5_setRelay_X3_setUp : GoodIn wsX5_setRelay (wsV RX5 82 RX3 yX3_setUp wsX3_setUp) := goodIn_app (goodIn_of _ (by decide +kernel)) ggX5_setRelay_X3_setUp
theorem dX5_setRelay_0 : decode cX5_setRelay 0 = .ok (.aload_n 0, 1) := by decide +kernel
theorem dX5_setRelay_1 : decode cX5_setRelay 1 = .ok (.iload_n 1, 1) := by decide +kernel
theorem dX5_setRelay_2 : decode cX5_setRelay 2 = .ok (.invokevirtual 105, 3) := by decide +kernel
theorem dX5_setRelay_5 : decode cX5_setRelay 5 = .ok (.iload_n 2, 1) := by decide +kernel
theorem dX5_setRelay_6 : decode cX5_setRelay 6 = .ok (.iconst 1, 1) := by decide +kernel
theorem dX5_setRelay_7 : decode cX5_setRelay 7 = .ok (.if_icmp .lt 10, 3) := by decide +kernel
theorem dX5_setRelay_10 : decode cX5_setRelay 10 = .ok (.iload_n 2, 1) := by decide +kernel
theorem dX5_setRelay_11 : decode cX5_setRelay 11 = .ok (.sipush 999, 3) := by decide +kernel
theorem dX5_setRelay_14 : decode cX5_setRelay 14 = .ok (.if_icmp .le 13, 3) := by decide +kernel
theorem dX5_setRelay_17 : decode cX5_setRelay 17 = .ok (.new 50, 3) := by decide +kernel
theorem dX5_setRelay_20 : decode cX5_setRelay 20 = .ok (.dup, 1) := by decide +kernel
theorem dX5_setRelay_21 : decode cX5_setRelay 21 = .ok (.ldc 108, 2) := by decide +kernel
theorem dX5_setRelay_23 : decode cX5_setRelay 23 = .ok (.invokespecial 54, 3) := by decide +kernel
theorem dX5_setRelay_26 : decode cX5_setRelay 26 = .ok (.athrow, 1) := by decide +kernel
theorem dX5_setRelay_27 : decode cX5_setRelay 27 = .ok (.iload_n 3, 1) := by decide +kernel
theorem dX5_setRelay_28 : decode cX5_setRelay 28 = .ok (.iconst 1, 1) := by decide +kernel
theorem dX5_setRelay_29 : decode cX5_setRelay 29 = .ok (.if_icmp .lt 9, 3) := by decide +kernel
theorem dX5_setRelay_32 : decode cX5_setRelay 32 = .ok (.iload_n 3, 1) := by decide +kernel
theorem dX5_setRelay_33 : decode cX5_setRelay 33 = .ok (.bipush 10, 2) := by decide +kernel
theorem dX5_setRelay_35 : decode cX5_setRelay 35 = .ok (.if_icmp .le 13, 3) := by decide +kernel
theorem dX5_setRelay_38 : decode cX5_setRelay 38 = .ok (.new 50, 3) := by decide +kernel
theorem dX5_setRelay_41 : decode cX5_setRelay 41 = .ok (.dup, 1) := by decide +kernel
theorem dX5_setRelay_42 : decode cX5_setRelay 42 = .ok (.ldc 110, 2) := by decide +kernel
theorem dX5_setRelay_44 : decode cX5_setRelay 44 = .ok (.invokespecial 54, 3) := by decide +kernel
theorem dX5_setRelay_47 : decode cX5_setRelay 47 = .ok (.athrow, 1) := by decide +kernel
theorem dX5_setRelay_48 : decode cX5_setRelay 48 = .ok (.iload 4, 2) := by decide +kernel
theorem dX5_setRelay_50 : decode cX5_setRelay 50 = .ok (.ifCond .eq 19, 3) := by decide +kernel
theorem dX5_setRelay_53 : decode cX5_setRelay 53 = .ok (.iload 4, 2) := by decide +kernel
theorem dX5_setRelay_55 : decode cX5_setRelay 55 = .ok (.iload_n 2, 1) := by decide +kernel
theorem dX5_setRelay_56 : decode cX5_setRelay 56 = .ok (.if_icmp .gt 13, 3) := by decide +kernel
theorem dX5_setRelay_59 : decode cX5_setRelay 59 = .ok (.new 50, 3) := by decide +kernel
theorem dX5_setRelay_62 : decode cX5_setRelay 62 = .ok (.dup, 1) := by decide +kernel
theorem dX5_setRelay_63 : decode cX5_setRelay 63 = .ok (.ldc 112, 2) := by decide +kernel
theorem dX5_setRelay_65 : decode cX5_setRelay 65 = .ok (.invokespecial 54, 3) := by decide +kernel
theorem dX5_setRelay_68 : decode cX5_setRelay 68 = .ok (.athrow, 1) := by decide +kernel
theorem dX5_setRelay_69 : decode cX5_setRelay 69 = .ok (.aload_n 0, 1) := by decide +kernel
theorem dX5_setRelay_70 : decode cX5_setRelay 70 = .ok (.iload_n 1, 1) := by decide +kernel
theorem dX5_setRelay_71 : decode cX5_setRelay 71 = .ok (.invokevirtual 114, 3) := by decide +kernel
theorem dX5_setRelay_74 : decode cX5_setRelay 74 = .ok (.aload_n 0, 1) := by decide +kernel
theorem dX5_setRelay_75 : decode cX5_setRelay 75 = .ok (.getfield 37, 3) := by decide +kernel
theorem dX5_setRelay_78 : decode cX5_setRelay 78 = .ok (.iload_n 1, 1) := by decide +kernel
theorem dX5_setRelay_79 : decode cX5_setRelay 79 = .ok (.invokevirtual 117, 3) := by decide +kernel
theorem dX5_setRelay_82 : decode cX5_setRelay 82 = .ok (.istore 5, 2) := by decide +kernel
theorem dX5_setRelay_84 : decode cX5_setRelay 84 = .ok (.aload_n 0, 1) := by decide +kernel
theorem dX5_setRelay_85 : decode cX5_setRelay 85 = .ok (.getfield 37, 3) := by decide +kernel
theorem dX5_setRelay_88 : decode cX5_setRelay 88 = .ok (.iload_n 1, 1) := by decide +kernel
theorem dX5_setRelay_89 : decode cX5_setRelay 89 = .ok (.iload_n 2, 1) := by decide +kernel
theorem dX5_setRelay_90 : decode cX5_setRelay 90 = .ok (.iload_n 3, 1) := by decide +kernel
theorem dX5_setRelay_91 : decode cX5_setRelay 91 = .ok (.iload 4, 2) := by decide +kernel
theorem dX5_setRelay_93 : decode cX5_setRelay 93 = .ok (.invokevirtual 82, 3) := by decide +kernel
theorem dX5_setRelay_96 : decode cX5_setRelay 96 = .ok (.iload 5, 2) := by decide +kernel
theorem dX5_setRelay_98 : decode cX5_setRelay 98 = .ok (.ireturn, 1) := by decide +kernel
set_option maxRecDepth 20000 in
theorem ggX5_close_X5_needLine : GoodIn wsX5_close wsX5_needLine := goodIn_ca (goodIn_r _ [6, 7, 8, 9, 10, 11, 12, 13, 14, 15, 115, 116, 117, 118, 119, 120, 126, 127, 128, 129, 130, 131, 132, 133, 134, 135] (by decide +kernel) (by decide +kernel)) (goodIn_sub (fun _ h => List.mem_cons_of_mem _ (List.mem_append_left _ (List.mem_append_right _ h))) (by decide +kernel))
set_option maxRecDepth 20000 in
theorem gX5_close_X5_needLine : GoodIn wsX5_close (wsV RX5 105 RX5 yX5_needLine wsX5_needLine) := goodIn_app (goodIn_of _ (by decide +kernel)) ggX5_close_X5_needLine
set_option maxRecDepth 20000 in
theorem ggX5_close_X4_closeReason : GoodIn wsX5_close wsX4_closeReason := goodIn_ca (goodIn_r _ [20, 21, 22, 23, 24, 25, 5, 26, 27, 28, 29, 13, 30, 31, 32, 11, 12, 14, 15, 33, 34, 35, 36, 37, 38, 39, 40, 41, 42, 43, 44, 45, 46, 47, 48, 49, 50, 51, 52, 53, 54, 55, 56, 57, 58, 59, 60, 61, 62, 63, 64, 65, 66, 67, 68, 69, 70, 71, 72, 73, 74, 75, 76, 77, 78, 79, 80, 81, 82, 83, 84, 85, 86, 87, 88, 89, 90, 91, 92, 93, 94, 95, 96, 97, 98, 99, 100, 101, 102, 103, 104, 105, 106, 107, 108, 121, 122, 123, 124, 125, 126, 127, 128, 129, 130, 131, 132, 133, 134, 135, 136, 137, 138] (by decide +kernel) (by decide +kernel)) (goodIn_sub (fun _ h => List.mem_cons_of_mem _ (List.mem_append_right _ h)) (by decide +kernel))
set_option maxRecDepth 20000 in
theorem gX5_close_X4_closeReason : GoodIn wsX5_close (wsV RX5 124 RX4 yX4_closeReason wsX4_closeReason) := goodIn_app (goodIn_of _ (by decide +kernel)) ggX5_close_X4_closeReason
set_option maxRecDepth 20000 in
theorem ggX5_close_X5_bit : GoodIn wsX5_close wsX5_bit := goodIn_r _ [38] (by decide +kernel) (by decide +kernel)
set_option maxRecDepth 20000 in
theorem gX5_close_X5_bit : GoodIn wsX5_close (va_wsS RX5 128 yX5_bit wsX5_bit) := goodIn_app (goodIn_of _ (by decide +kernel)) ggX5_close_X5_bit
set_option maxRecDepth 20000 in
theorem ggX5_close_X4_closeAll : GoodIn wsX5_close wsX4_closeAll := goodIn_r _ [113, 114, 121, 122, 123, 124, 125] (by decide +kernel) (by decide +kernel)
set_option maxRecDepth 20000 in
theorem gX5_close_X4_closeAll : GoodIn wsX5_close (wsV RX5 131 RX4 yX4_closeAll wsX4_closeAll) := goodIn_app (goodIn_of _ (by decide +kernel)) ggX5_close_X4_closeAll
theorem dX5_close_0 : decode cX5_close 0 = .ok (.aload_n 0, 1) := by decide +kernel
theorem dX5_close_1 : decode cX5_close 1 = .ok (.iload_n 1, 1) := by decide +kernel
theorem dX5_close_2 : decode cX5_close 2 = .ok (.invokevirtual 105, 3) := by decide +kernel
theorem dX5_close_5 : decode cX5_close 5 = .ok (.aload_n 0, 1) := by decide +kernel
theorem dX5_close_6 : decode cX5_close 6 = .ok (.getfield 30, 3) := by decide +kernel
theorem dX5_close_9 : decode cX5_close 9 = .ok (.iload_n 1, 1) := by decide +kernel
theorem dX5_close_10 : decode cX5_close 10 = .ok (.aload_n 0, 1) := by decide +kernel
theorem dX5_close_11 : decode cX5_close 11 = .ok (.getfield 30, 3) := by decide +kernel
theorem dX5_close_14 : decode cX5_close 14 = .ok (.getfield 120, 3) := by decide +kernel
theorem dX5_close_17 : decode cX5_close 17 = .ok (.invokevirtual 124, 3) := by decide +kernel
theorem dX5_close_20 : decode cX5_close 20 = .ok (.istore_n 2, 1) := by decide +kernel
theorem dX5_close_21 : decode cX5_close 21 = .ok (.iload_n 2, 1) := by decide +kernel
theorem dX5_close_22 : decode cX5_close 22 = .ok (.bipush 110, 2) := by decide +kernel
theorem dX5_close_24 : decode cX5_close 24 = .ok (.if_icmp .ne 14, 3) := by decide +kernel
theorem dX5_close_27 : decode cX5_close 27 = .ok (.aload_n 0, 1) := by decide +kernel
theorem dX5_close_28 : decode cX5_close 28 = .ok (.getfield 30, 3) := by decide +kernel
theorem dX5_close_31 : decode cX5_close 31 = .ok (.iload_n 1, 1) := by decide +kernel
theorem dX5_close_32 : decode cX5_close 32 = .ok (.invokestatic 128, 3) := by decide +kernel
theorem dX5_close_35 : decode cX5_close 35 = .ok (.invokevirtual 131, 3) := by decide +kernel
theorem dX5_close_38 : decode cX5_close 38 = .ok (.iload_n 2, 1) := by decide +kernel
theorem dX5_close_39 : decode cX5_close 39 = .ok (.ireturn, 1) := by decide +kernel
set_option maxRecDepth 20000 in
theorem ggX5_open_X5_needLine : GoodIn wsX5_open wsX5_needLine := goodIn_ca (goodIn_r _ [6, 7, 8, 9, 10, 11, 12, 13, 14, 15, 61, 62, 63, 64, 65, 66, 67, 68, 69, 70, 71, 72, 73, 74, 75, 76] (by decide +kernel) (by decide +kernel)) (goodIn_sub (fun _ h => List.mem_cons_of_mem _ (List.mem_append_left _ (List.mem_append_right _ h))) (by decide +kernel))
set_option maxRecDepth 20000 in
theorem gX5_open_X5_needLine : GoodIn wsX5_open (wsV RX5 105 RX5 yX5_needLine wsX5_needLine) := goodIn_app (goodIn_of _ (by decide +kernel)) ggX5_open_X5_needLine
set_option maxRecDepth 20000 in
theorem ggX5_open_X4_openReason : GoodIn wsX5_open wsX4_openReason := goodIn_ca (goodIn_r _ [20, 21, 22, 23, 24, 5, 25, 26, 27, 28, 29, 30, 31, 32, 33, 34, 35, 36, 37, 38, 39, 40, 41, 42, 43, 13, 44, 45, 46, 47, 48, 49, 50, 15, 51, 52, 53, 11, 12, 14, 77, 78, 79, 80, 81, 67, 68, 69, 70, 71, 72, 73, 74, 75, 76, 82, 83, 84] (by decide +kernel) (by decide +kernel)) (goodIn_sub (fun _ h => List.mem_cons_of_mem _ (List.mem_append_right _ h)) (by decide +kernel))
set_option maxRecDepth 20000 in
theorem gX5_open_X4_openReason : GoodIn wsX5_open (wsV RX5 134 RX4 yX4_openReason wsX4_openReason) := goodIn_app (goodIn_of _ (by decide +kernel)) ggX5_open_X4_openReason
set_option maxRecDepth 20000 in
theorem ggX5_open_X5_bit : GoodIn wsX5_open wsX5_bit := goodIn_r _ [56] (by decide +kernel) (by decide +kernel)
set_option maxRecDepth 20000 in
theorem gX5_open_X5_bit : GoodIn wsX5_open (va_wsS RX5 128 yX5_bit wsX5_bit) := goodIn_app (goodIn_of _ (by decide +kernel)) ggX5_open_X5_bit
set_option maxRecDepth 20000 in
theorem ggX5_open_X4_openAll : GoodIn wsX5_open wsX4_openAll := goodIn_r _ [60, 21, 77, 78, 79, 80, 81] (by decide +kernel) (by decide +kernel)
set_option maxRecDepth 20000 in
theorem gX5_open_X4_openAll : GoodIn wsX5_open (wsV RX5 138 RX4 yX4_openAll wsX4_openAll) := goodIn_app (goodIn_of _ (by decide +kernel)) ggX5_open_X4_openAll
theorem dX5_open_0 : decode cX5_open 0 = .ok (.aload_n 0, 1) := by decide +kernel
theorem dX5_open_1 : decode cX5_open 1 = .ok (.iload_n 1, 1) := by decide +kernel
theorem dX5_open_2 : decode cX5_open 2 = .ok (.invokevirtual 105, 3) := by decide +kernel
theorem dX5_open_5 : decode cX5_open 5 = .ok (.aload_n 0, 1) := by decide +kernel
theorem dX5_open_6 : decode cX5_open 6 = .ok (.getfield 30, 3) := by decide +kernel
theorem dX5_open_9 : decode cX5_open 9 = .ok (.iload_n 1, 1) := by decide +kernel
theorem dX5_open_10 : decode cX5_open 10 = .ok (.invokevirtual 134, 3) := by decide +kernel
theorem dX5_open_13 : decode cX5_open 13 = .ok (.istore_n 2, 1) := by decide +kernel
theorem dX5_open_14 : decode cX5_open 14 = .ok (.iload_n 2, 1) := by decide +kernel
theorem dX5_open_15 : decode cX5_open 15 = .ok (.bipush 110, 2) := by decide +kernel
theorem dX5_open_17 : decode cX5_open 17 = .ok (.if_icmp .ne 14, 3) := by decide +kernel
theorem dX5_open_20 : decode cX5_open 20 = .ok (.aload_n 0, 1) := by decide +kernel
theorem dX5_open_21 : decode cX5_open 21 = .ok (.getfield 30, 3) := by decide +kernel
theorem dX5_open_24 : decode cX5_open 24 = .ok (.iload_n 1, 1) := by decide +kernel
theorem dX5_open_25 : decode cX5_open 25 = .ok (.invokestatic 128, 3) := by decide +kernel
theorem dX5_open_28 : decode cX5_open 28 = .ok (.invokevirtual 138, 3) := by decide +kernel
theorem dX5_open_31 : decode cX5_open 31 = .ok (.iload_n 2, 1) := by decide +kernel
theorem dX5_open_32 : decode cX5_open 32 = .ok (.ireturn, 1) := by decide +kernel
set_option maxRecDepth 20000 in
theorem ggX5_canClose_X5_needLine : GoodIn wsX5_canClose wsX5_needLine := goodIn_ca (goodIn_r _ [6, 7, 8, 9, 10, 11, 12, 13, 14, 15, 109, 110, 111, 112, 113, 114, 120, 121, 122, 123, 124, 125, 126, 127, 128, 129] (by decide +kernel) (by decide +kernel)) (goodIn_sub (fun _ h => List.mem_cons_of_mem _ (List.mem_append_left _ (List.mem_append_right _ h))) (by decide +kernel))
set_option maxRecDepth 20000 in
theorem gX5_canClose_X5_needLine : GoodIn wsX5_canClose (wsV RX5 105 RX5 yX5_needLine wsX5_needLine) := goodIn_app (goodIn_of _ (by decide +kernel)) ggX5_canClose_X5_needLine
set_option maxRecDepth 20000 in
theorem ggX5_canClose_X4_closeReason : GoodIn wsX5_canClose wsX4_closeReason := goodIn_ca (goodIn_r _ [20, 21, 22, 23, 24, 25, 5, 26, 27, 28, 29, 13, 30, 31, 32, 11, 12, 14, 15, 33, 34, 35, 36, 37, 38, 39, 40, 41, 42, 43, 44, 45, 46, 47, 48, 49, 50, 51, 52, 53, 54, 55, 56, 57, 58, 59, 60, 61, 62, 63, 64, 65, 66, 67, 68, 69, 70, 71, 72, 73, 74, 75, 76, 77, 78, 79, 80, 81, 82, 83, 84, 85, 86, 87, 88, 89, 90, 91, 92, 93, 94, 95, 96, 97, 98, 99, 100, 101, 102, 103, 104, 105, 106, 107, 108, 115, 116, 117, 118, 119, 120, 121, 122, 123, 124, 125, 126, 127, 128, 129, 130, 131, 132] (by decide +kernel) (by decide +kernel)) (goodIn_sub (fun _ h => List.mem_cons_of_mem _ (List.mem_append_right _ h)) (by decide +kernel))
set_option maxRecDepth 20000 in
theorem gX5_canClose_X4_closeReason : GoodIn wsX5_canClose (wsV RX5 124 RX4 yX4_closeReason wsX4_closeReason) := goodIn_app (goodIn_of _ (by decide +kernel)) ggX5_canClose_X4_closeReason
theorem dX5_canClose_0 : decode cX5_canClose 0 = .ok (.aload_n 0, 1) := by decide +kernel
theorem dX5_canClose_1 : decode cX5_canClose 1 = .ok (.iload_n 1, 1) := by decide +kernel
theorem dX5_canClose_2 : decode cX5_canClose 2 = .ok (.invokevirtual 105, 3) := by decide +kernel
theorem dX5_canClose_5 : decode cX5_canClose 5 = .ok (.aload_n 0, 1) := by decide +kernel
theorem dX5_canClose_6 : decode cX5_canClose 6 = .ok (.getfield 30, 3) := by decide +kernel
theorem dX5_canClose_9 : decode cX5_canClose 9 = .ok (.iload_n 1, 1) := by decide +kernel
theorem dX5_canClose_10 : decode cX5_canClose 10 = .ok (.aload_n 0, 1) := by decide +kernel
theorem dX5_canClose_11 : decode cX5_canClose 11 = .ok (.getfield 30, 3) := by decide +kernel
theorem dX5_canClose_14 : decode cX5_canClose 14 = .ok (.getfield 120, 3) := by decide +kernel
theorem dX5_canClose_17 : decode cX5_canClose 17 = .ok (.invokevirtual 124, 3) := by decide +kernel
theorem dX5_canClose_20 : decode cX5_canClose 20 = .ok (.ireturn, 1) := by decide +kernel
set_option maxRecDepth 20000 in
theorem ggX5_canOpen_X5_needLine : GoodIn wsX5_canOpen wsX5_needLine := goodIn_ca (goodIn_r _ [6, 7, 8, 9, 10, 11, 12, 13, 14, 15, 54, 55, 56, 57, 58, 59, 60, 61, 62, 63, 64, 65, 66, 67, 68, 69] (by decide +kernel) (by decide +kernel)) (goodIn_sub (fun _ h => List.mem_cons_of_mem _ (List.mem_append_left _ (List.mem_append_right _ h))) (by decide +kernel))
set_option maxRecDepth 20000 in
theorem gX5_canOpen_X5_needLine : GoodIn wsX5_canOpen (wsV RX5 105 RX5 yX5_needLine wsX5_needLine) := goodIn_app (goodIn_of _ (by decide +kernel)) ggX5_canOpen_X5_needLine
set_option maxRecDepth 20000 in
theorem ggX5_canOpen_X4_openReason : GoodIn wsX5_canOpen wsX4_openReason := goodIn_ca (goodIn_r _ [20, 21, 22, 23, 24, 5, 25, 26, 27, 28, 29, 30, 31, 32, 33, 34, 35, 36, 37, 38, 39, 40, 41, 42, 43, 13, 44, 45, 46, 47, 48, 49, 50, 15, 51, 52, 53, 11, 12, 14, 70, 71, 72, 73, 74, 60, 61, 62, 63, 64, 65, 66, 67, 68, 69, 75, 76, 77] (by decide +kernel) (by decide +kernel)) (goodIn_sub (fun _ h => List.mem_cons_of_mem _ (List.mem_append_right _ h)) (by decide +kernel))
set_option maxRecDepth 20000 in
theorem gX5_canOpen_X4_openReason : GoodIn wsX5_canOpen (wsV RX5 134 RX4 yX4_openReason wsX4_openReason) := goodIn_app (goodIn_of _ (by decide +kernel)) ggX5_canOpen_X4_openReason
theorem dX5_canOpen_0 : decode cX5_canOpen 0 = .ok (.aload_n 0, 1) := by decide +kernel
theorem dX5_canOpen_1 : decode cX5_canOpen 1 = .ok (.iload_n 1, 1) := by decide +kernel
theorem dX5_canOpen_2 : decode cX5_canOpen 2 = .ok (.invokevirtual 105, 3) := by decide +kernel
theorem dX5_canOpen_5 : decode cX5_canOpen 5 = .ok (.aload_n 0, 1) := by decide +kernel
theorem dX5_canOpen_6 : decode cX5_canOpen 6 = .ok (.getfield 30, 3) := by decide +kernel
theorem dX5_canOpen_9 : decode cX5_canOpen 9 = .ok (.iload_n 1, 1) := by decide +kernel
theorem dX5_canOpen_10 : decode cX5_canOpen 10 = .ok (.invokevirtual 134, 3) := by decide +kernel
theorem dX5_canOpen_13 : decode cX5_canOpen 13 = .ok (.ireturn, 1) := by decide +kernel
set_option maxRecDepth 20000 in
theorem ggX5_fault_X5_needLine : GoodIn wsX5_fault wsX5_needLine := goodIn_ca (goodIn_r _ [11, 12, 13, 5, 14, 15, 16, 17, 18, 19, 120, 121, 122, 123, 124, 125, 131, 132, 133, 134, 135, 136, 137, 138, 139, 140] (by decide +kernel) (by decide +kernel)) (goodIn_sub (fun _ h => List.mem_cons_of_mem _ (List.mem_append_left _ (List.mem_append_left _ (List.mem_append_right _ h)))) (by decide +kernel))
set_option maxRecDepth 20000 in
theorem gX5_fault_X5_needLine : GoodIn wsX5_fault (wsV RX5 105 RX5 yX5_needLine wsX5_needLine) := goodIn_app (goodIn_of _ (by decide +kernel)) ggX5_fault_X5_needLine
set_option maxRecDepth 20000 in
theorem ggX5_fault_X5_has : GoodIn wsX5_fault wsX5_has := goodIn_r _ [22] (by decide +kernel) (by decide +kernel)
set_option maxRecDepth 20000 in
theorem gX5_fault_X5_has : GoodIn wsX5_fault (va_wsS RX5 149 yX5_has wsX5_has) := goodIn_app (goodIn_of _ (by decide +kernel)) ggX5_fault_X5_has
set_option maxRecDepth 20000 in
theorem ggX5_fault_X3_answerTo : GoodIn wsX5_fault wsX3_answerTo := goodIn_ca (goodIn_ca (goodIn_r _ [27, 28, 29, 30, 31, 32, 33, 34, 21, 10, 22, 35, 36, 37, 38, 39, 40, 41, 42, 17, 43, 19, 44, 45, 46, 47, 48, 26, 49, 50, 51, 52, 53, 54, 55, 56, 57, 58, 59, 15, 16, 18, 60, 61, 62, 63, 64, 65, 66, 67, 68, 69, 70, 71, 72, 73, 74, 75, 76, 77, 78, 79, 80, 81, 82, 83, 84, 85, 86, 87, 88, 89, 90, 91, 92, 93, 94, 95, 96, 97, 98, 99, 100, 101, 102, 103, 104, 105, 106, 141, 142, 143, 144, 145, 146, 147, 148, 131, 132, 133, 134, 135, 136, 137, 138, 139, 140] (by decide +kernel) (by decide +kernel)) (goodIn_sub (fun _ h => List.mem_cons_of_mem _ (List.mem_append_left _ (List.mem_append_right _ h))) (by decide +kernel))) (goodIn_sub (fun _ h => List.mem_cons_of_mem _ (List.mem_append_right _ h)) (by decide +kernel))
set_option maxRecDepth 20000 in
theorem gX5_fault_X3_answerTo : GoodIn wsX5_fault (wsV RX5 155 RX3 yX3_answerTo wsX3_answerTo) := goodIn_app (goodIn_of _ (by decide +kernel)) ggX5_fault_X3_answerTo
set_option maxRecDepth 20000 in
theorem ggX5_fault_X5_bit : GoodIn wsX5_fault wsX5_bit := goodIn_r _ [65] (by decide +kernel) (by decide +kernel)
set_option maxRecDepth 20000 in
theorem gX5_fault_X5_bit : GoodIn wsX5_fault (va_wsS RX5 128 yX5_bit wsX5_bit) := goodIn_app (goodIn_of _ (by decide +kernel)) ggX5_fault_X5_bit
set_option maxRecDepth 20000 in
theorem ggX5_fault_X1_sourceOfLine : GoodIn wsX5_fault wsX1_sourceOfLine := goodIn_ca (goodIn_r _ [54, 55, 56, 57, 17, 58, 44, 59, 15, 16, 18, 19, 60, 61, 62, 63, 64, 10, 65, 66, 67, 68, 69, 70, 71, 72, 73, 74, 21, 22, 75, 41, 42, 43, 45, 76, 77, 78, 79, 80, 131, 132, 133, 134, 135, 136, 137, 138, 139, 140] (by decide +kernel) (by decide +kernel)) (goodIn_sub (fun _ h => List.mem_cons_of_mem _ (List.mem_append_left _ (List.mem_append_right _ h))) (by decide +kernel))
set_option maxRecDepth 20000 in
theorem gX5_fault_X1_sourceOfLine : GoodIn wsX5_fault (wsV RX5 159 RX1 yX1_sourceOfLine wsX1_sourceOfLine) := goodIn_app (goodIn_of _ (by decide +kernel)) ggX5_fault_X1_sourceOfLine
set_option maxRecDepth 20000 in
theorem ggX5_fault_X1_linesAt : GoodIn wsX5_fault wsX1_linesAt := goodIn_ca (goodIn_r _ [112, 19, 44, 45, 21, 10, 22, 64, 65, 131, 132, 133, 134, 135, 136, 137, 138, 139, 140] (by decide +kernel) (by decide +kernel)) (goodIn_sub (fun _ h => List.mem_cons_of_mem _ (List.mem_append_left _ (List.mem_append_right _ h))) (by decide +kernel))
set_option maxRecDepth 20000 in
theorem gX5_fault_X1_linesAt : GoodIn wsX5_fault (wsV RX5 162 RX1 yX1_linesAt wsX1_linesAt) := goodIn_app (goodIn_of _ (by decide +kernel)) ggX5_fault_X1_linesAt
set_option maxRecDepth 20000 in
theorem ggX5_fault_X4_lockOut : GoodIn wsX5_fault wsX4_lockOut := goodIn_r _ [117, 118, 119, 126, 127, 128, 129, 130] (by decide +kernel) (by decide +kernel)
set_option maxRecDepth 20000 in
theorem gX5_fault_X4_lockOut : GoodIn wsX5_fault (wsV RX5 165 RX4 yX4_lockOut wsX4_lockOut) := goodIn_app (goodIn_of _ (by decide +kernel)) ggX5_fault_X4_lockOut
theorem dX5_fault_0 : decode cX5_fault 0 = .ok (.aload_n 0, 1) := by decide +kernel
theorem dX5_fault_1 : decode cX5_fault 1 = .ok (.iload_n 1, 1) := by decide +kernel
theorem dX5_fault_2 : decode cX5_fault 2 = .ok (.invokevirtual 105, 3) := by decide +kernel
theorem dX5_fault_5 : decode cX5_fault 5 = .ok (.aload_n 0, 1) := by decide +kernel
theorem dX5_fault_6 : decode cX5_fault 6 = .ok (.getfield 30, 3) := by decide +kernel
theorem dX5_fault_9 : decode cX5_fault 9 = .ok (.getfield 146, 3) := by decide +kernel
theorem dX5_fault_12 : decode cX5_fault 12 = .ok (.iload_n 1, 1) := by decide +kernel
theorem dX5_fault_13 : decode cX5_fault 13 = .ok (.invokestatic 149, 3) := by decide +kernel
theorem dX5_fault_16 : decode cX5_fault 16 = .ok (.ifCond .eq 13, 3) := by decide +kernel
theorem dX5_fault_19 : decode cX5_fault 19 = .ok (.new 100, 3) := by decide +kernel
theorem dX5_fault_22 : decode cX5_fault 22 = .ok (.dup, 1) := by decide +kernel
theorem dX5_fault_23 : decode cX5_fault 23 = .ok (.ldc 153, 2) := by decide +kernel
theorem dX5_fault_25 : decode cX5_fault 25 = .ok (.invokespecial 104, 3) := by decide +kernel
theorem dX5_fault_28 : decode cX5_fault 28 = .ok (.athrow, 1) := by decide +kernel
theorem dX5_fault_29 : decode cX5_fault 29 = .ok (.aload_n 0, 1) := by decide +kernel
theorem dX5_fault_30 : decode cX5_fault 30 = .ok (.getfield 37, 3) := by decide +kernel
theorem dX5_fault_33 : decode cX5_fault 33 = .ok (.iload_n 1, 1) := by decide +kernel
theorem dX5_fault_34 : decode cX5_fault 34 = .ok (.aload_n 0, 1) := by decide +kernel
theorem dX5_fault_35 : decode cX5_fault 35 = .ok (.getfield 30, 3) := by decide +kernel
theorem dX5_fault_38 : decode cX5_fault 38 = .ok (.getfield 120, 3) := by decide +kernel
theorem dX5_fault_41 : decode cX5_fault 41 = .ok (.invokevirtual 155, 3) := by decide +kernel
theorem dX5_fault_44 : decode cX5_fault 44 = .ok (.istore_n 2, 1) := by decide +kernel
theorem dX5_fault_45 : decode cX5_fault 45 = .ok (.aload_n 0, 1) := by decide +kernel
theorem dX5_fault_46 : decode cX5_fault 46 = .ok (.getfield 30, 3) := by decide +kernel
theorem dX5_fault_49 : decode cX5_fault 49 = .ok (.dup, 1) := by decide +kernel
theorem dX5_fault_50 : decode cX5_fault 50 = .ok (.getfield 146, 3) := by decide +kernel
theorem dX5_fault_53 : decode cX5_fault 53 = .ok (.iload_n 1, 1) := by decide +kernel
theorem dX5_fault_54 : decode cX5_fault 54 = .ok (.invokestatic 128, 3) := by decide +kernel
theorem dX5_fault_57 : decode cX5_fault 57 = .ok (.ior, 1) := by decide +kernel
theorem dX5_fault_58 : decode cX5_fault 58 = .ok (.putfield 146, 3) := by decide +kernel
theorem dX5_fault_61 : decode cX5_fault 61 = .ok (.iload_n 2, 1) := by decide +kernel
theorem dX5_fault_62 : decode cX5_fault 62 = .ok (.bipush (-2), 2) := by decide +kernel
theorem dX5_fault_64 : decode cX5_fault 64 = .ok (.if_icmp .ne 47, 3) := by decide +kernel
theorem dX5_fault_67 : decode cX5_fault 67 = .ok (.aload_n 0, 1) := by decide +kernel
theorem dX5_fault_68 : decode cX5_fault 68 = .ok (.getfield 10, 3) := by decide +kernel
theorem dX5_fault_71 : decode cX5_fault 71 = .ok (.iload_n 1, 1) := by decide +kernel
theorem dX5_fault_72 : decode cX5_fault 72 = .ok (.aload_n 0, 1) := by decide +kernel
theorem dX5_fault_73 : decode cX5_fault 73 = .ok (.getfield 30, 3) := by decide +kernel
theorem dX5_fault_76 : decode cX5_fault 76 = .ok (.getfield 120, 3) := by decide +kernel
theorem dX5_fault_79 : decode cX5_fault 79 = .ok (.invokevirtual 159, 3) := by decide +kernel
theorem dX5_fault_82 : decode cX5_fault 82 = .ok (.istore_n 3, 1) := by decide +kernel
theorem dX5_fault_83 : decode cX5_fault 83 = .ok (.aload_n 0, 1) := by decide +kernel
theorem dX5_fault_84 : decode cX5_fault 84 = .ok (.getfield 30, 3) := by decide +kernel
theorem dX5_fault_87 : decode cX5_fault 87 = .ok (.aload_n 0, 1) := by decide +kernel
theorem dX5_fault_88 : decode cX5_fault 88 = .ok (.getfield 10, 3) := by decide +kernel
theorem dX5_fault_91 : decode cX5_fault 91 = .ok (.iload_n 3, 1) := by decide +kernel
theorem dX5_fault_92 : decode cX5_fault 92 = .ok (.invokestatic 128, 3) := by decide +kernel
theorem dX5_fault_95 : decode cX5_fault 95 = .ok (.aload_n 0, 1) := by decide +kernel
theorem dX5_fault_96 : decode cX5_fault 96 = .ok (.getfield 30, 3) := by decide +kernel
theorem dX5_fault_99 : decode cX5_fault 99 = .ok (.getfield 120, 3) := by decide +kernel
theorem dX5_fault_102 : decode cX5_fault 102 = .ok (.invokevirtual 162, 3) := by decide +kernel
theorem dX5_fault_105 : decode cX5_fault 105 = .ok (.invokevirtual 165, 3) := by decide +kernel
theorem dX5_fault_108 : decode cX5_fault 108 = .ok (.goto 29, 3) := by decide +kernel
theorem dX5_fault_111 : decode cX5_fault 111 = .ok (.iload_n 2, 1) := by decide +kernel
theorem dX5_fault_112 : decode cX5_fault 112 = .ok (.iconst (-1), 1) := by decide +kernel
theorem dX5_fault_113 : decode cX5_fault 113 = .ok (.if_icmp .eq 24, 3) := by decide +kernel
theorem dX5_fault_116 : decode cX5_fault 116 = .ok (.aload_n 0, 1) := by decide +kernel
theorem dX5_fault_117 : decode cX5_fault 117 = .ok (.getfield 30, 3) := by decide +kernel
theorem dX5_fault_120 : decode cX5_fault 120 = .ok (.iload_n 2, 1) := by decide +kernel
theorem dX5_fault_121 : decode cX5_fault 121 = .ok (.invokestatic 128, 3) := by decide +kernel
theorem dX5_fault_124 : decode cX5_fault 124 = .ok (.invokevirtual 165, 3) := by decide +kernel
theorem dX5_fault_127 : decode cX5_fault 127 = .ok (.aload_n 0, 1) := by decide +kernel
theorem dX5_fault_128 : decode cX5_fault 128 = .ok (.dup, 1) := by decide +kernel
theorem dX5_fault_129 : decode cX5_fault 129 = .ok (.getfield 168, 3) := by decide +kernel
theorem dX5_fault_132 : decode cX5_fault 132 = .ok (.iconst 1, 1) := by decide +kernel
theorem dX5_fault_133 : decode cX5_fault 133 = .ok (.iadd, 1) := by decide +kernel
theorem dX5_fault_134 : decode cX5_fault 134 = .ok (.putfield 168, 3) := by decide +kernel
theorem dX5_fault_137 : decode cX5_fault 137 = .ok (.iload_n 2, 1) := by decide +kernel
theorem dX5_fault_138 : decode cX5_fault 138 = .ok (.ireturn, 1) := by decide +kernel
set_option maxRecDepth 20000 in
theorem ggX5_repair_X5_needLine : GoodIn wsX5_repair wsX5_needLine := goodIn_ca (goodIn_r _ [8, 9, 10, 11, 12, 13, 14, 15, 16, 17, 24, 25, 26, 27, 28, 29, 35, 36, 37, 38, 39, 40, 41, 42, 43, 44] (by decide +kernel) (by decide +kernel)) (goodIn_sub (fun _ h => List.mem_cons_of_mem _ (List.mem_append_right _ h)) (by decide +kernel))
set_option maxRecDepth 20000 in
theorem gX5_repair_X5_needLine : GoodIn wsX5_repair (wsV RX5 105 RX5 yX5_needLine wsX5_needLine) := goodIn_app (goodIn_of _ (by decide +kernel)) ggX5_repair_X5_needLine
set_option maxRecDepth 20000 in
theorem ggX5_repair_X5_has : GoodIn wsX5_repair wsX5_has := goodIn_r _ [20] (by decide +kernel) (by decide +kernel)
set_option maxRecDepth 20000 in
theorem gX5_repair_X5_has : GoodIn wsX5_repair (va_wsS RX5 149 yX5_has wsX5_has) := goodIn_app (goodIn_of _ (by decide +kernel)) ggX5_repair_X5_has
set_option maxRecDepth 20000 in
theorem ggX5_repair_X5_bit : GoodIn wsX5_repair wsX5_bit := goodIn_r _ [23] (by decide +kernel) (by decide +kernel)
set_option maxRecDepth 20000 in
theorem gX5_repair_X5_bit : GoodIn wsX5_repair (va_wsS RX5 128 yX5_bit wsX5_bit) := goodIn_app (goodIn_of _ (by decide +kernel)) ggX5_repair_X5_bit
theorem dX5_repair_0 : decode cX5_repair 0 = .ok (.aload_n 0, 1) := by decide +kernel
theorem dX5_repair_1 : decode cX5_repair 1 = .ok (.iload_n 1, 1) := by decide +kernel
theorem dX5_repair_2 : decode cX5_repair 2 = .ok (.invokevirtual 105, 3) := by decide +kernel
theorem dX5_repair_5 : decode cX5_repair 5 = .ok (.aload_n 0, 1) := by decide +kernel
theorem dX5_repair_6 : decode cX5_repair 6 = .ok (.getfield 30, 3) := by decide +kernel
theorem dX5_repair_9 : decode cX5_repair 9 = .ok (.getfield 146, 3) := by decide +kernel
theorem dX5_repair_12 : decode cX5_repair 12 = .ok (.iload_n 1, 1) := by decide +kernel
theorem dX5_repair_13 : decode cX5_repair 13 = .ok (.invokestatic 149, 3) := by decide +kernel
theorem dX5_repair_16 : decode cX5_repair 16 = .ok (.ifCond .ne 13, 3) := by decide +kernel
theorem dX5_repair_19 : decode cX5_repair 19 = .ok (.new 100, 3) := by decide +kernel
theorem dX5_repair_22 : decode cX5_repair 22 = .ok (.dup, 1) := by decide +kernel
theorem dX5_repair_23 : decode cX5_repair 23 = .ok (.ldc 171, 2) := by decide +kernel
theorem dX5_repair_25 : decode cX5_repair 25 = .ok (.invokespecial 104, 3) := by decide +kernel
theorem dX5_repair_28 : decode cX5_repair 28 = .ok (.athrow, 1) := by decide +kernel
theorem dX5_repair_29 : decode cX5_repair 29 = .ok (.aload_n 0, 1) := by decide +kernel
theorem dX5_repair_30 : decode cX5_repair 30 = .ok (.getfield 30, 3) := by decide +kernel
theorem dX5_repair_33 : decode cX5_repair 33 = .ok (.dup, 1) := by decide +kernel
theorem dX5_repair_34 : decode cX5_repair 34 = .ok (.getfield 146, 3) := by decide +kernel
theorem dX5_repair_37 : decode cX5_repair 37 = .ok (.iload_n 1, 1) := by decide +kernel
theorem dX5_repair_38 : decode cX5_repair 38 = .ok (.invokestatic 128, 3) := by decide +kernel
theorem dX5_repair_41 : decode cX5_repair 41 = .ok (.iconst (-1), 1) := by decide +kernel
theorem dX5_repair_42 : decode cX5_repair 42 = .ok (.ixor, 1) := by decide +kernel
theorem dX5_repair_43 : decode cX5_repair 43 = .ok (.iand, 1) := by decide +kernel
theorem dX5_repair_44 : decode cX5_repair 44 = .ok (.putfield 146, 3) := by decide +kernel
theorem dX5_repair_47 : decode cX5_repair 47 = .ok (.aload_n 0, 1) := by decide +kernel
theorem dX5_repair_48 : decode cX5_repair 48 = .ok (.getfield 30, 3) := by decide +kernel
theorem dX5_repair_51 : decode cX5_repair 51 = .ok (.getfield 173, 3) := by decide +kernel
theorem dX5_repair_54 : decode cX5_repair 54 = .ok (.iload_n 1, 1) := by decide +kernel
theorem dX5_repair_55 : decode cX5_repair 55 = .ok (.invokestatic 149, 3) := by decide +kernel
theorem dX5_repair_58 : decode cX5_repair 58 = .ok (.ireturn, 1) := by decide +kernel
set_option maxRecDepth 20000 in
theorem ggX5_reset_X5_needLine : GoodIn wsX5_reset wsX5_needLine := goodIn_ca (goodIn_r _ [10, 11, 12, 13, 14, 15, 16, 17, 18, 19, 33, 34, 35, 36, 37, 38, 44, 45, 46, 47, 48, 49, 50, 51, 52, 53] (by decide +kernel) (by decide +kernel)) (goodIn_sub (fun _ h => List.mem_cons_of_mem _ (List.mem_append_right _ h)) (by decide +kernel))
set_option maxRecDepth 20000 in
theorem gX5_reset_X5_needLine : GoodIn wsX5_reset (wsV RX5 105 RX5 yX5_needLine wsX5_needLine) := goodIn_app (goodIn_of _ (by decide +kernel)) ggX5_reset_X5_needLine
set_option maxRecDepth 20000 in
theorem ggX5_reset_X5_has : GoodIn wsX5_reset wsX5_has := goodIn_r _ [22] (by decide +kernel) (by decide +kernel)
set_option maxRecDepth 20000 in
theorem gX5_reset_X5_has : GoodIn wsX5_reset (va_wsS RX5 149 yX5_has wsX5_has) := goodIn_app (goodIn_of _ (by decide +kernel)) ggX5_reset_X5_has
set_option maxRecDepth 20000 in
theorem ggX5_reset_X5_bit : GoodIn wsX5_reset wsX5_bit := goodIn_r _ [25] (by decide +kernel) (by decide +kernel)
set_option maxRecDepth 20000 in
theorem gX5_reset_X5_bit : GoodIn wsX5_reset (va_wsS RX5 128 yX5_bit wsX5_bit) := goodIn_app (goodIn_of _ (by decide +kernel)) ggX5_reset_X5_bit
set_option maxRecDepth 20000 in
theorem ggX5_reset_J6_bitCount_0f7a4 : GoodIn wsX5_reset wsJ6_bitCount_0f7a4 := goodIn_r _ [29, 30, 31, 32] (by decide +kernel) (by decide +kernel)
set_option maxRecDepth 20000 in
theorem gX5_reset_J6_bitCount_0f7a4 : GoodIn wsX5_reset (va_wsS RX5 181 yJ6_bitCount_0f7a4 wsJ6_bitCount_0f7a4) := goodIn_app (goodIn_of _ (by decide +kernel)) ggX5_reset_J6_bitCount_0f7a4
theorem dX5_reset_0 : decode cX5_reset 0 = .ok (.aload_n 0, 1) := by decide +kernel
theorem dX5_reset_1 : decode cX5_reset 1 = .ok (.iload_n 1, 1) := by decide +kernel
theorem dX5_reset_2 : decode cX5_reset 2 = .ok (.invokevirtual 105, 3) := by decide +kernel
theorem dX5_reset_5 : decode cX5_reset 5 = .ok (.aload_n 0, 1) := by decide +kernel
theorem dX5_reset_6 : decode cX5_reset 6 = .ok (.getfield 30, 3) := by decide +kernel
theorem dX5_reset_9 : decode cX5_reset 9 = .ok (.getfield 146, 3) := by decide +kernel
theorem dX5_reset_12 : decode cX5_reset 12 = .ok (.iload_n 1, 1) := by decide +kernel
theorem dX5_reset_13 : decode cX5_reset 13 = .ok (.invokestatic 149, 3) := by decide +kernel
theorem dX5_reset_16 : decode cX5_reset 16 = .ok (.ifCond .eq 13, 3) := by decide +kernel
theorem dX5_reset_19 : decode cX5_reset 19 = .ok (.new 176, 3) := by decide +kernel
theorem dX5_reset_22 : decode cX5_reset 22 = .ok (.dup, 1) := by decide +kernel
theorem dX5_reset_23 : decode cX5_reset 23 = .ok (.ldc 153, 2) := by decide +kernel
theorem dX5_reset_25 : decode cX5_reset 25 = .ok (.invokespecial 178, 3) := by decide +kernel
theorem dX5_reset_28 : decode cX5_reset 28 = .ok (.athrow, 1) := by decide +kernel
theorem dX5_reset_29 : decode cX5_reset 29 = .ok (.aload_n 0, 1) := by decide +kernel
theorem dX5_reset_30 : decode cX5_reset 30 = .ok (.getfield 30, 3) := by decide +kernel
theorem dX5_reset_33 : decode cX5_reset 33 = .ok (.getfield 173, 3) := by decide +kernel
theorem dX5_reset_36 : decode cX5_reset 36 = .ok (.iload_n 1, 1) := by decide +kernel
theorem dX5_reset_37 : decode cX5_reset 37 = .ok (.invokestatic 149, 3) := by decide +kernel
theorem dX5_reset_40 : decode cX5_reset 40 = .ok (.ifCond .ne 13, 3) := by decide +kernel
theorem dX5_reset_43 : decode cX5_reset 43 = .ok (.new 100, 3) := by decide +kernel
theorem dX5_reset_46 : decode cX5_reset 46 = .ok (.dup, 1) := by decide +kernel
theorem dX5_reset_47 : decode cX5_reset 47 = .ok (.ldc 179, 2) := by decide +kernel
theorem dX5_reset_49 : decode cX5_reset 49 = .ok (.invokespecial 104, 3) := by decide +kernel
theorem dX5_reset_52 : decode cX5_reset 52 = .ok (.athrow, 1) := by decide +kernel
theorem dX5_reset_53 : decode cX5_reset 53 = .ok (.aload_n 0, 1) := by decide +kernel
theorem dX5_reset_54 : decode cX5_reset 54 = .ok (.getfield 30, 3) := by decide +kernel
theorem dX5_reset_57 : decode cX5_reset 57 = .ok (.dup, 1) := by decide +kernel
theorem dX5_reset_58 : decode cX5_reset 58 = .ok (.getfield 173, 3) := by decide +kernel
theorem dX5_reset_61 : decode cX5_reset 61 = .ok (.iload_n 1, 1) := by decide +kernel
theorem dX5_reset_62 : decode cX5_reset 62 = .ok (.invokestatic 128, 3) := by decide +kernel
theorem dX5_reset_65 : decode cX5_reset 65 = .ok (.iconst (-1), 1) := by decide +kernel
theorem dX5_reset_66 : decode cX5_reset 66 = .ok (.ixor, 1) := by decide +kernel
theorem dX5_reset_67 : decode cX5_reset 67 = .ok (.iand, 1) := by decide +kernel
theorem dX5_reset_68 : decode cX5_reset 68 = .ok (.putfield 173, 3) := by decide +kernel
theorem dX5_reset_71 : decode cX5_reset 71 = .ok (.aload_n 0, 1) := by decide +kernel
theorem dX5_reset_72 : decode cX5_reset 72 = .ok (.getfield 30, 3) := by decide +kernel
theorem dX5_reset_75 : decode cX5_reset 75 = .ok (.getfield 173, 3) := by decide +kernel
theorem dX5_reset_78 : decode cX5_reset 78 = .ok (.invokestatic 181, 3) := by decide +kernel
theorem dX5_reset_81 : decode cX5_reset 81 = .ok (.ireturn, 1) := by decide +kernel
theorem dX5_nodes_0 : decode cX5_nodes 0 = .ok (.aload_n 0, 1) := by decide +kernel
theorem dX5_nodes_1 : decode cX5_nodes 1 = .ok (.getfield 10, 3) := by decide +kernel
theorem dX5_nodes_4 : decode cX5_nodes 4 = .ok (.getfield 186, 3) := by decide +kernel
theorem dX5_nodes_7 : decode cX5_nodes 7 = .ok (.ireturn, 1) := by decide +kernel
theorem dX5_lines_0 : decode cX5_lines 0 = .ok (.aload_n 0, 1) := by decide +kernel
theorem dX5_lines_1 : decode cX5_lines 1 = .ok (.getfield 10, 3) := by decide +kernel
theorem dX5_lines_4 : decode cX5_lines 4 = .ok (.getfield 189, 3) := by decide +kernel
theorem dX5_lines_7 : decode cX5_lines 7 = .ok (.ireturn, 1) := by decide +kernel
set_option maxRecDepth 20000 in
theorem ggX5_isSource_X5_needNode : GoodIn wsX5_isSource wsX5_needNode := goodIn_ca (goodIn_r _ [6, 7, 8, 1, 9, 10, 11, 12, 13, 14, 18, 19, 20, 21, 22, 23, 24, 25, 26, 27, 28, 29, 30, 31, 32, 33] (by decide +kernel) (by decide +kernel)) (goodIn_sub (fun _ h => List.mem_cons_of_mem _ (List.mem_append_right _ h)) (by decide +kernel))
set_option maxRecDepth 20000 in
theorem gX5_isSource_X5_needNode : GoodIn wsX5_isSource (wsV RX5 71 RX5 yX5_needNode wsX5_needNode) := goodIn_app (goodIn_of _ (by decide +kernel)) ggX5_isSource_X5_needNode
set_option maxRecDepth 20000 in
theorem ggX5_isSource_X5_has : GoodIn wsX5_isSource wsX5_has := goodIn_r _ [17] (by decide +kernel) (by decide +kernel)
set_option maxRecDepth 20000 in
theorem gX5_isSource_X5_has : GoodIn wsX5_isSource (va_wsS RX5 149 yX5_has wsX5_has) := goodIn_app (goodIn_of _ (by decide +kernel)) ggX5_isSource_X5_has
theorem dX5_isSource_0 : decode cX5_isSource 0 = .ok (.aload_n 0, 1) := by decide +kernel
theorem dX5_isSource_1 : decode cX5_isSource 1 = .ok (.iload_n 1, 1) := by decide +kernel
theorem dX5_isSource_2 : decode cX5_isSource 2 = .ok (.invokevirtual 71, 3) := by decide +kernel
theorem dX5_isSource_5 : decode cX5_isSource 5 = .ok (.aload_n 0, 1) := by decide +kernel
theorem dX5_isSource_6 : decode cX5_isSource 6 = .ok (.getfield 10, 3) := by decide +kernel
theorem dX5_isSource_9 : decode cX5_isSource 9 = .ok (.getfield 192, 3) := by decide +kernel
theorem dX5_isSource_12 : decode cX5_isSource 12 = .ok (.iload_n 1, 1) := by decide +kernel
theorem dX5_isSource_13 : decode cX5_isSource 13 = .ok (.invokestatic 149, 3) := by decide +kernel
theorem dX5_isSource_16 : decode cX5_isSource 16 = .ok (.ireturn, 1) := by decide +kernel
set_option maxRecDepth 20000 in
theorem ggX5_loadOf_X5_needNode : GoodIn wsX5_loadOf wsX5_needNode := goodIn_ca (goodIn_r _ [6, 7, 8, 1, 9, 10, 11, 12, 13, 14, 20, 21, 22, 23, 24, 25, 26, 27, 28, 29, 30, 31, 32, 33, 34, 35] (by decide +kernel) (by decide +kernel)) (goodIn_sub (fun _ h => List.mem_cons_of_mem _ (List.mem_append_left _ (List.mem_append_right _ h))) (by decide +kernel))
set_option maxRecDepth 20000 in
theorem gX5_loadOf_X5_needNode : GoodIn wsX5_loadOf (wsV RX5 71 RX5 yX5_needNode wsX5_needNode) := goodIn_app (goodIn_of _ (by decide +kernel)) ggX5_loadOf_X5_needNode
set_option maxRecDepth 20000 in
theorem ggX5_loadOf_X1_loadAt : GoodIn wsX5_loadOf wsX1_loadAt := goodIn_ca (goodIn_r _ [18, 14, 19, 26, 27, 28, 29, 30, 31, 32, 33, 34, 35] (by decide +kernel) (by decide +kernel)) (goodIn_sub (fun _ h => List.mem_cons_of_mem _ (List.mem_append_right _ h)) (by decide +kernel))
set_option maxRecDepth 20000 in
theorem gX5_loadOf_X1_loadAt : GoodIn wsX5_loadOf (wsV RX5 89 RX1 yX1_loadAt wsX1_loadAt) := goodIn_app (goodIn_of _ (by decide +kernel)) ggX5_loadOf_X1_loadAt
theorem dX5_loadOf_0 : decode cX5_loadOf 0 = .ok (.aload_n 0, 1) := by decide +kernel
theorem dX5_loadOf_1 : decode cX5_loadOf 1 = .ok (.iload_n 1, 1) := by decide +kernel
theorem dX5_loadOf_2 : decode cX5_loadOf 2 = .ok (.invokevirtual 71, 3) := by decide +kernel
theorem dX5_loadOf_5 : decode cX5_loadOf 5 = .ok (.aload_n 0, 1) := by decide +kernel
theorem dX5_loadOf_6 : decode cX5_loadOf 6 = .ok (.getfield 10, 3) := by decide +kernel
theorem dX5_loadOf_9 : decode cX5_loadOf 9 = .ok (.iload_n 1, 1) := by decide +kernel
theorem dX5_loadOf_10 : decode cX5_loadOf 10 = .ok (.invokevirtual 89, 3) := by decide +kernel
theorem dX5_loadOf_13 : decode cX5_loadOf 13 = .ok (.ireturn, 1) := by decide +kernel
set_option maxRecDepth 20000 in
theorem ggX5_weight_X5_needNode : GoodIn wsX5_weight wsX5_needNode := goodIn_ca (goodIn_r _ [6, 7, 8, 1, 9, 10, 11, 12, 13, 14, 33, 34, 35, 36, 37, 38, 39, 40, 41, 42, 43, 44, 45, 46, 47, 48] (by decide +kernel) (by decide +kernel)) (goodIn_sub (fun _ h => List.mem_cons_of_mem _ (List.mem_append_left _ (List.mem_append_left _ (List.mem_append_right _ h)))) (by decide +kernel))
set_option maxRecDepth 20000 in
theorem gX5_weight_X5_needNode : GoodIn wsX5_weight (wsV RX5 71 RX5 yX5_needNode wsX5_needNode) := goodIn_app (goodIn_of _ (by decide +kernel)) ggX5_weight_X5_needNode
set_option maxRecDepth 20000 in
theorem ggX5_weight_X5_needBus : GoodIn wsX5_weight wsX5_needBus := goodIn_ca (goodIn_r _ [18, 19, 20, 1, 21, 22, 5, 23, 33, 34, 35, 36, 37, 38, 39, 40, 41, 42, 43, 44, 45, 46, 47, 48] (by decide +kernel) (by decide +kernel)) (goodIn_sub (fun _ h => List.mem_cons_of_mem _ (List.mem_append_left _ (List.mem_append_right _ h))) (by decide +kernel))
set_option maxRecDepth 20000 in
theorem gX5_weight_X5_needBus : GoodIn wsX5_weight (wsV RX5 86 RX5 yX5_needBus wsX5_needBus) := goodIn_app (goodIn_of _ (by decide +kernel)) ggX5_weight_X5_needBus
set_option maxRecDepth 20000 in
theorem ggX5_weight_X5_bit : GoodIn wsX5_weight wsX5_bit := goodIn_r _ [26] (by decide +kernel) (by decide +kernel)
set_option maxRecDepth 20000 in
theorem gX5_weight_X5_bit : GoodIn wsX5_weight (va_wsS RX5 128 yX5_bit wsX5_bit) := goodIn_app (goodIn_of _ (by decide +kernel)) ggX5_weight_X5_bit
set_option maxRecDepth 20000 in
theorem ggX5_weight_X1_weightIn : GoodIn wsX5_weight wsX1_weightIn := goodIn_ca (goodIn_r _ [30, 14, 31, 32, 22, 5, 23, 39, 40, 41, 42, 43, 44, 45, 46, 47, 48] (by decide +kernel) (by decide +kernel)) (goodIn_sub (fun _ h => List.mem_cons_of_mem _ (List.mem_append_right _ h)) (by decide +kernel))
set_option maxRecDepth 20000 in
theorem gX5_weight_X1_weightIn : GoodIn wsX5_weight (wsV RX5 195 RX1 yX1_weightIn wsX1_weightIn) := goodIn_app (goodIn_of _ (by decide +kernel)) ggX5_weight_X1_weightIn
theorem dX5_weight_0 : decode cX5_weight 0 = .ok (.aload_n 0, 1) := by decide +kernel
theorem dX5_weight_1 : decode cX5_weight 1 = .ok (.iload_n 1, 1) := by decide +kernel
theorem dX5_weight_2 : decode cX5_weight 2 = .ok (.invokevirtual 71, 3) := by decide +kernel
theorem dX5_weight_5 : decode cX5_weight 5 = .ok (.aload_n 0, 1) := by decide +kernel
theorem dX5_weight_6 : decode cX5_weight 6 = .ok (.iload_n 1, 1) := by decide +kernel
theorem dX5_weight_7 : decode cX5_weight 7 = .ok (.invokevirtual 86, 3) := by decide +kernel
theorem dX5_weight_10 : decode cX5_weight 10 = .ok (.aload_n 0, 1) := by decide +kernel
theorem dX5_weight_11 : decode cX5_weight 11 = .ok (.getfield 10, 3) := by decide +kernel
theorem dX5_weight_14 : decode cX5_weight 14 = .ok (.iload_n 1, 1) := by decide +kernel
theorem dX5_weight_15 : decode cX5_weight 15 = .ok (.invokestatic 128, 3) := by decide +kernel
theorem dX5_weight_18 : decode cX5_weight 18 = .ok (.invokevirtual 195, 3) := by decide +kernel
theorem dX5_weight_21 : decode cX5_weight 21 = .ok (.ireturn, 1) := by decide +kernel
set_option maxRecDepth 20000 in
theorem ggX5_isClosed_X5_needLine : GoodIn wsX5_isClosed wsX5_needLine := goodIn_ca (goodIn_r _ [6, 7, 8, 9, 10, 11, 12, 13, 14, 15, 19, 20, 21, 22, 23, 24, 30, 31, 32, 33, 34, 35, 36, 37, 38, 39] (by decide +kernel) (by decide +kernel)) (goodIn_sub (fun _ h => List.mem_cons_of_mem _ (List.mem_append_right _ h)) (by decide +kernel))
set_option maxRecDepth 20000 in
theorem gX5_isClosed_X5_needLine : GoodIn wsX5_isClosed (wsV RX5 105 RX5 yX5_needLine wsX5_needLine) := goodIn_app (goodIn_of _ (by decide +kernel)) ggX5_isClosed_X5_needLine
set_option maxRecDepth 20000 in
theorem ggX5_isClosed_X5_has : GoodIn wsX5_isClosed wsX5_has := goodIn_r _ [18] (by decide +kernel) (by decide +kernel)
set_option maxRecDepth 20000 in
theorem gX5_isClosed_X5_has : GoodIn wsX5_isClosed (va_wsS RX5 149 yX5_has wsX5_has) := goodIn_app (goodIn_of _ (by decide +kernel)) ggX5_isClosed_X5_has
theorem dX5_isClosed_0 : decode cX5_isClosed 0 = .ok (.aload_n 0, 1) := by decide +kernel
theorem dX5_isClosed_1 : decode cX5_isClosed 1 = .ok (.iload_n 1, 1) := by decide +kernel
theorem dX5_isClosed_2 : decode cX5_isClosed 2 = .ok (.invokevirtual 105, 3) := by decide +kernel
theorem dX5_isClosed_5 : decode cX5_isClosed 5 = .ok (.aload_n 0, 1) := by decide +kernel
theorem dX5_isClosed_6 : decode cX5_isClosed 6 = .ok (.getfield 30, 3) := by decide +kernel
theorem dX5_isClosed_9 : decode cX5_isClosed 9 = .ok (.getfield 120, 3) := by decide +kernel
theorem dX5_isClosed_12 : decode cX5_isClosed 12 = .ok (.iload_n 1, 1) := by decide +kernel
theorem dX5_isClosed_13 : decode cX5_isClosed 13 = .ok (.invokestatic 149, 3) := by decide +kernel
theorem dX5_isClosed_16 : decode cX5_isClosed 16 = .ok (.ireturn, 1) := by decide +kernel
set_option maxRecDepth 20000 in
theorem ggX5_isLocked_X5_needLine : GoodIn wsX5_isLocked wsX5_needLine := goodIn_ca (goodIn_r _ [6, 7, 8, 9, 10, 11, 12, 13, 14, 15, 19, 20, 21, 22, 23, 24, 30, 31, 32, 33, 34, 35, 36, 37, 38, 39] (by decide +kernel) (by decide +kernel)) (goodIn_sub (fun _ h => List.mem_cons_of_mem _ (List.mem_append_right _ h)) (by decide +kernel))
set_option maxRecDepth 20000 in
theorem gX5_isLocked_X5_needLine : GoodIn wsX5_isLocked (wsV RX5 105 RX5 yX5_needLine wsX5_needLine) := goodIn_app (goodIn_of _ (by decide +kernel)) ggX5_isLocked_X5_needLine
set_option maxRecDepth 20000 in
theorem ggX5_isLocked_X5_has : GoodIn wsX5_isLocked wsX5_has := goodIn_r _ [18] (by decide +kernel) (by decide +kernel)
set_option maxRecDepth 20000 in
theorem gX5_isLocked_X5_has : GoodIn wsX5_isLocked (va_wsS RX5 149 yX5_has wsX5_has) := goodIn_app (goodIn_of _ (by decide +kernel)) ggX5_isLocked_X5_has
theorem dX5_isLocked_0 : decode cX5_isLocked 0 = .ok (.aload_n 0, 1) := by decide +kernel
theorem dX5_isLocked_1 : decode cX5_isLocked 1 = .ok (.iload_n 1, 1) := by decide +kernel
theorem dX5_isLocked_2 : decode cX5_isLocked 2 = .ok (.invokevirtual 105, 3) := by decide +kernel
theorem dX5_isLocked_5 : decode cX5_isLocked 5 = .ok (.aload_n 0, 1) := by decide +kernel
theorem dX5_isLocked_6 : decode cX5_isLocked 6 = .ok (.getfield 30, 3) := by decide +kernel
theorem dX5_isLocked_9 : decode cX5_isLocked 9 = .ok (.getfield 173, 3) := by decide +kernel
theorem dX5_isLocked_12 : decode cX5_isLocked 12 = .ok (.iload_n 1, 1) := by decide +kernel
theorem dX5_isLocked_13 : decode cX5_isLocked 13 = .ok (.invokestatic 149, 3) := by decide +kernel
theorem dX5_isLocked_16 : decode cX5_isLocked 16 = .ok (.ireturn, 1) := by decide +kernel
set_option maxRecDepth 20000 in
theorem ggX5_hasFault_X5_needLine : GoodIn wsX5_hasFault wsX5_needLine := goodIn_ca (goodIn_r _ [6, 7, 8, 9, 10, 11, 12, 13, 14, 15, 19, 20, 21, 22, 23, 24, 30, 31, 32, 33, 34, 35, 36, 37, 38, 39] (by decide +kernel) (by decide +kernel)) (goodIn_sub (fun _ h => List.mem_cons_of_mem _ (List.mem_append_right _ h)) (by decide +kernel))
set_option maxRecDepth 20000 in
theorem gX5_hasFault_X5_needLine : GoodIn wsX5_hasFault (wsV RX5 105 RX5 yX5_needLine wsX5_needLine) := goodIn_app (goodIn_of _ (by decide +kernel)) ggX5_hasFault_X5_needLine
set_option maxRecDepth 20000 in
theorem ggX5_hasFault_X5_has : GoodIn wsX5_hasFault wsX5_has := goodIn_r _ [18] (by decide +kernel) (by decide +kernel)
set_option maxRecDepth 20000 in
theorem gX5_hasFault_X5_has : GoodIn wsX5_hasFault (va_wsS RX5 149 yX5_has wsX5_has) := goodIn_app (goodIn_of _ (by decide +kernel)) ggX5_hasFault_X5_has
theorem dX5_hasFault_0 : decode cX5_hasFault 0 = .ok (.aload_n 0, 1) := by decide +kernel
theorem dX5_hasFault_1 : decode cX5_hasFault 1 = .ok (.iload_n 1, 1) := by decide +kernel
theorem dX5_hasFault_2 : decode cX5_hasFault 2 = .ok (.invokevirtual 105, 3) := by decide +kernel
theorem dX5_hasFault_5 : decode cX5_hasFault 5 = .ok (.aload_n 0, 1) := by decide +kernel
theorem dX5_hasFault_6 : decode cX5_hasFault 6 = .ok (.getfield 30, 3) := by decide +kernel
theorem dX5_hasFault_9 : decode cX5_hasFault 9 = .ok (.getfield 146, 3) := by decide +kernel
theorem dX5_hasFault_12 : decode cX5_hasFault 12 = .ok (.iload_n 1, 1) := by decide +kernel
theorem dX5_hasFault_13 : decode cX5_hasFault 13 = .ok (.invokestatic 149, 3) := by decide +kernel
theorem dX5_hasFault_16 : decode cX5_hasFault 16 = .ok (.ireturn, 1) := by decide +kernel
set_option maxRecDepth 20000 in
theorem ggX5_islandOf_X5_needNode : GoodIn wsX5_islandOf wsX5_needNode := goodIn_ca (goodIn_r _ [5, 6, 7, 8, 9, 10, 11, 12, 13, 14, 45, 46, 47, 48, 49, 50, 51, 52, 53, 54, 55, 56, 57, 58, 59, 60] (by decide +kernel) (by decide +kernel)) (goodIn_sub (fun _ h => List.mem_cons_of_mem _ (List.mem_append_left _ (List.mem_append_right _ h))) (by decide +kernel))
set_option maxRecDepth 20000 in
theorem gX5_islandOf_X5_needNode : GoodIn wsX5_islandOf (wsV RX5 71 RX5 yX5_needNode wsX5_needNode) := goodIn_app (goodIn_of _ (by decide +kernel)) ggX5_islandOf_X5_needNode
set_option maxRecDepth 20000 in
theorem ggX5_islandOf_X5_islandAt : GoodIn wsX5_islandOf wsX5_islandAt := goodIn_ca (goodIn_r _ [18, 8, 19, 20, 21, 22, 12, 23, 24, 4, 25, 26, 27, 28, 29, 30, 31, 32, 33, 34, 35, 36, 37, 38, 39, 40, 41, 42, 43, 45, 46, 47, 48, 49, 50, 61, 62, 63, 64, 65, 51, 52, 53, 54, 55, 56, 57, 58, 59, 60] (by decide +kernel) (by decide +kernel)) (goodIn_sub (fun _ h => List.mem_cons_of_mem _ (List.mem_append_right _ h)) (by decide +kernel))
set_option maxRecDepth 20000 in
theorem gX5_islandOf_X5_islandAt : GoodIn wsX5_islandOf (wsV RX5 198 RX5 yX5_islandAt wsX5_islandAt) := goodIn_app (goodIn_of _ (by decide +kernel)) ggX5_islandOf_X5_islandAt
set_option maxRecDepth 20000 in
theorem ggX5_islandOf_X5_lowestIn : GoodIn wsX5_islandOf wsX5_lowestIn := goodIn_r _ [27, 28, 29, 4, 30] (by decide +kernel) (by decide +kernel)
set_option maxRecDepth 20000 in
theorem gX5_islandOf_X5_lowestIn : GoodIn wsX5_islandOf (va_wsS RX5 201 yX5_lowestIn wsX5_lowestIn) := goodIn_app (goodIn_of _ (by decide +kernel)) ggX5_islandOf_X5_lowestIn
theorem dX5_islandOf_0 : decode cX5_islandOf 0 = .ok (.aload_n 0, 1) := by decide +kernel
theorem dX5_islandOf_1 : decode cX5_islandOf 1 = .ok (.iload_n 1, 1) := by decide +kernel
theorem dX5_islandOf_2 : decode cX5_islandOf 2 = .ok (.invokevirtual 71, 3) := by decide +kernel
theorem dX5_islandOf_5 : decode cX5_islandOf 5 = .ok (.aload_n 0, 1) := by decide +kernel
theorem dX5_islandOf_6 : decode cX5_islandOf 6 = .ok (.iload_n 1, 1) := by decide +kernel
theorem dX5_islandOf_7 : decode cX5_islandOf 7 = .ok (.invokevirtual 198, 3) := by decide +kernel
theorem dX5_islandOf_10 : decode cX5_islandOf 10 = .ok (.invokestatic 201, 3) := by decide +kernel
theorem dX5_islandOf_13 : decode cX5_islandOf 13 = .ok (.ireturn, 1) := by decide +kernel
set_option maxRecDepth 20000 in
theorem ggX5_islandByRounds_X5_needNode : GoodIn wsX5_islandByRounds wsX5_needNode := goodIn_ca (goodIn_r _ [7, 8, 9, 1, 10, 11, 12, 13, 14, 15, 33, 34, 35, 36, 37, 38, 44, 45, 46, 47, 48, 49, 50, 51, 52, 53] (by decide +kernel) (by decide +kernel)) (goodIn_sub (fun _ h => List.mem_cons_of_mem _ (List.mem_append_left _ (List.mem_append_right _ h))) (by decide +kernel))
set_option maxRecDepth 20000 in
theorem gX5_islandByRounds_X5_needNode : GoodIn wsX5_islandByRounds (wsV RX5 71 RX5 yX5_needNode wsX5_needNode) := goodIn_app (goodIn_of _ (by decide +kernel)) ggX5_islandByRounds_X5_needNode
set_option maxRecDepth 20000 in
theorem ggX5_islandByRounds_X1_islandGrownFrom : GoodIn wsX5_islandByRounds wsX1_islandGrownFrom := goodIn_ca (goodIn_r _ [19, 20, 21, 22, 23, 6, 24, 25, 26, 44, 45, 46, 47, 48, 49, 50, 51, 52, 53] (by decide +kernel) (by decide +kernel)) (goodIn_sub (fun _ h => List.mem_cons_of_mem _ (List.mem_append_right _ h)) (by decide +kernel))
set_option maxRecDepth 20000 in
theorem gX5_islandByRounds_X1_islandGrownFrom : GoodIn wsX5_islandByRounds (wsV RX5 204 RX1 yX1_islandGrownFrom wsX1_islandGrownFrom) := goodIn_app (goodIn_of _ (by decide +kernel)) ggX5_islandByRounds_X1_islandGrownFrom
set_option maxRecDepth 20000 in
theorem ggX5_islandByRounds_X5_lowestIn : GoodIn wsX5_islandByRounds wsX5_lowestIn := goodIn_r _ [29, 30, 31, 6, 32] (by decide +kernel) (by decide +kernel)
set_option maxRecDepth 20000 in
theorem gX5_islandByRounds_X5_lowestIn : GoodIn wsX5_islandByRounds (va_wsS RX5 201 yX5_lowestIn wsX5_lowestIn) := goodIn_app (goodIn_of _ (by decide +kernel)) ggX5_islandByRounds_X5_lowestIn
theorem dX5_islandByRounds_0 : decode cX5_islandByRounds 0 = .ok (.aload_n 0, 1) := by decide +kernel
theorem dX5_islandByRounds_1 : decode cX5_islandByRounds 1 = .ok (.iload_n 1, 1) := by decide +kernel
theorem dX5_islandByRounds_2 : decode cX5_islandByRounds 2 = .ok (.invokevirtual 71, 3) := by decide +kernel
theorem dX5_islandByRounds_5 : decode cX5_islandByRounds 5 = .ok (.aload_n 0, 1) := by decide +kernel
theorem dX5_islandByRounds_6 : decode cX5_islandByRounds 6 = .ok (.getfield 10, 3) := by decide +kernel
theorem dX5_islandByRounds_9 : decode cX5_islandByRounds 9 = .ok (.iload_n 1, 1) := by decide +kernel
theorem dX5_islandByRounds_10 : decode cX5_islandByRounds 10 = .ok (.aload_n 0, 1) := by decide +kernel
theorem dX5_islandByRounds_11 : decode cX5_islandByRounds 11 = .ok (.getfield 30, 3) := by decide +kernel
theorem dX5_islandByRounds_14 : decode cX5_islandByRounds 14 = .ok (.getfield 120, 3) := by decide +kernel
theorem dX5_islandByRounds_17 : decode cX5_islandByRounds 17 = .ok (.invokevirtual 204, 3) := by decide +kernel
theorem dX5_islandByRounds_20 : decode cX5_islandByRounds 20 = .ok (.invokestatic 201, 3) := by decide +kernel
theorem dX5_islandByRounds_23 : decode cX5_islandByRounds 23 = .ok (.ireturn, 1) := by decide +kernel
set_option maxRecDepth 20000 in
theorem ggX5_islands_X5_islandAt : GoodIn wsX5_islands wsX5_islandAt := goodIn_ca (goodIn_r _ [6, 1, 7, 8, 9, 10, 11, 12, 13, 5, 14, 15, 16, 17, 18, 19, 20, 21, 22, 23, 24, 25, 26, 27, 28, 29, 30, 31, 32, 34, 35, 36, 37, 38, 39, 50, 51, 52, 53, 54, 40, 41, 42, 43, 44, 45, 46, 47, 48, 49] (by decide +kernel) (by decide +kernel)) (goodIn_sub (fun _ h => List.mem_cons_of_mem _ (List.mem_append_right _ h)) (by decide +kernel))
set_option maxRecDepth 20000 in
theorem gX5_islands_X5_islandAt : GoodIn wsX5_islands (wsV RX5 198 RX5 yX5_islandAt wsX5_islandAt) := goodIn_app (goodIn_of _ (by decide +kernel)) ggX5_islands_X5_islandAt
set_option maxRecDepth 20000 in
theorem ggX5_islands_X5_lowestIn : GoodIn wsX5_islands wsX5_lowestIn := goodIn_r _ [16, 17, 18, 5, 19] (by decide +kernel) (by decide +kernel)
set_option maxRecDepth 20000 in
theorem gX5_islands_X5_lowestIn : GoodIn wsX5_islands (va_wsS RX5 201 yX5_lowestIn wsX5_lowestIn) := goodIn_app (goodIn_of _ (by decide +kernel)) ggX5_islands_X5_lowestIn
theorem dX5_islands_0 : decode cX5_islands 0 = .ok (.iconst 0, 1) := by decide +kernel
theorem dX5_islands_1 : decode cX5_islands 1 = .ok (.istore_n 1, 1) := by decide +kernel
theorem dX5_islands_2 : decode cX5_islands 2 = .ok (.iconst 0, 1) := by decide +kernel
theorem dX5_islands_3 : decode cX5_islands 3 = .ok (.istore_n 2, 1) := by decide +kernel
theorem dX5_islands_4 : decode cX5_islands 4 = .ok (.iload_n 2, 1) := by decide +kernel
theorem dX5_islands_5 : decode cX5_islands 5 = .ok (.aload_n 0, 1) := by decide +kernel
theorem dX5_islands_6 : decode cX5_islands 6 = .ok (.getfield 10, 3) := by decide +kernel
theorem dX5_islands_9 : decode cX5_islands 9 = .ok (.getfield 186, 3) := by decide +kernel
theorem dX5_islands_12 : decode cX5_islands 12 = .ok (.if_icmp .ge 24, 3) := by decide +kernel
theorem dX5_islands_15 : decode cX5_islands 15 = .ok (.aload_n 0, 1) := by decide +kernel
theorem dX5_islands_16 : decode cX5_islands 16 = .ok (.iload_n 2, 1) := by decide +kernel
theorem dX5_islands_17 : decode cX5_islands 17 = .ok (.invokevirtual 198, 3) := by decide +kernel
theorem dX5_islands_20 : decode cX5_islands 20 = .ok (.invokestatic 201, 3) := by decide +kernel
theorem dX5_islands_23 : decode cX5_islands 23 = .ok (.iload_n 2, 1) := by decide +kernel
theorem dX5_islands_24 : decode cX5_islands 24 = .ok (.if_icmp .ne 6, 3) := by decide +kernel
theorem dX5_islands_27 : decode cX5_islands 27 = .ok (.iinc 1 1, 3) := by decide +kernel
theorem dX5_islands_30 : decode cX5_islands 30 = .ok (.iinc 2 1, 3) := by decide +kernel
theorem dX5_islands_33 : decode cX5_islands 33 = .ok (.goto (-29), 3) := by decide +kernel
theorem dX5_islands_36 : decode cX5_islands 36 = .ok (.iload_n 1, 1) := by decide +kernel
theorem dX5_islands_37 : decode cX5_islands 37 = .ok (.ireturn, 1) := by decide +kernel
set_option maxRecDepth 20000 in
theorem ggX5_isLive_X5_needNode : GoodIn wsX5_isLive wsX5_needNode := goodIn_ca (goodIn_r _ [6, 7, 8, 1, 9, 10, 11, 12, 13, 14, 49, 50, 51, 52, 53, 54, 55, 56, 57, 58, 59, 60, 61, 62, 63, 64] (by decide +kernel) (by decide +kernel)) (goodIn_sub (fun _ h => List.mem_cons_of_mem _ (List.mem_append_left _ (List.mem_append_right _ h))) (by decide +kernel))
set_option maxRecDepth 20000 in
theorem gX5_isLive_X5_needNode : GoodIn wsX5_isLive (wsV RX5 71 RX5 yX5_needNode wsX5_needNode) := goodIn_app (goodIn_of _ (by decide +kernel)) ggX5_isLive_X5_needNode
set_option maxRecDepth 20000 in
theorem ggX5_isLive_X5_islandAt : GoodIn wsX5_isLive wsX5_islandAt := goodIn_ca (goodIn_r _ [18, 1, 19, 20, 21, 22, 12, 23, 24, 5, 25, 26, 27, 28, 29, 30, 31, 32, 33, 34, 35, 36, 37, 38, 39, 40, 41, 42, 43, 49, 50, 51, 52, 53, 54, 65, 66, 67, 68, 69, 55, 56, 57, 58, 59, 60, 61, 62, 63, 64] (by decide +kernel) (by decide +kernel)) (goodIn_sub (fun _ h => List.mem_cons_of_mem _ (List.mem_append_right _ h)) (by decide +kernel))
set_option maxRecDepth 20000 in
theorem gX5_isLive_X5_islandAt : GoodIn wsX5_isLive (wsV RX5 198 RX5 yX5_islandAt wsX5_islandAt) := goodIn_app (goodIn_of _ (by decide +kernel)) ggX5_isLive_X5_islandAt
set_option maxRecDepth 20000 in
theorem ggX5_isLive_X1_sourceIn : GoodIn wsX5_isLive wsX1_sourceIn := goodIn_r _ [47, 48, 26, 5, 27, 28, 29, 30, 55, 56, 57, 58, 59, 60, 61, 62, 63, 64] (by decide +kernel) (by decide +kernel)
set_option maxRecDepth 20000 in
theorem gX5_isLive_X1_sourceIn : GoodIn wsX5_isLive (wsV RX5 207 RX1 yX1_sourceIn wsX1_sourceIn) := goodIn_app (goodIn_of _ (by decide +kernel)) ggX5_isLive_X1_sourceIn
theorem dX5_isLive_0 : decode cX5_isLive 0 = .ok (.aload_n 0, 1) := by decide +kernel
theorem dX5_isLive_1 : decode cX5_isLive 1 = .ok (.iload_n 1, 1) := by decide +kernel
theorem dX5_isLive_2 : decode cX5_isLive 2 = .ok (.invokevirtual 71, 3) := by decide +kernel
theorem dX5_isLive_5 : decode cX5_isLive 5 = .ok (.aload_n 0, 1) := by decide +kernel
theorem dX5_isLive_6 : decode cX5_isLive 6 = .ok (.getfield 10, 3) := by decide +kernel
theorem dX5_isLive_9 : decode cX5_isLive 9 = .ok (.aload_n 0, 1) := by decide +kernel
theorem dX5_isLive_10 : decode cX5_isLive 10 = .ok (.iload_n 1, 1) := by decide +kernel
theorem dX5_isLive_11 : decode cX5_isLive 11 = .ok (.invokevirtual 198, 3) := by decide +kernel
theorem dX5_isLive_14 : decode cX5_isLive 14 = .ok (.invokevirtual 207, 3) := by decide +kernel
theorem dX5_isLive_17 : decode cX5_isLive 17 = .ok (.iconst (-1), 1) := by decide +kernel
theorem dX5_isLive_18 : decode cX5_isLive 18 = .ok (.if_icmp .eq 7, 3) := by decide +kernel
theorem dX5_isLive_21 : decode cX5_isLive 21 = .ok (.iconst 1, 1) := by decide +kernel
theorem dX5_isLive_22 : decode cX5_isLive 22 = .ok (.goto 4, 3) := by decide +kernel
theorem dX5_isLive_25 : decode cX5_isLive 25 = .ok (.iconst 0, 1) := by decide +kernel
theorem dX5_isLive_26 : decode cX5_isLive 26 = .ok (.ireturn, 1) := by decide +kernel
set_option maxRecDepth 20000 in
theorem ggX5_sourceOf_X5_needNode : GoodIn wsX5_sourceOf wsX5_needNode := goodIn_ca (goodIn_r _ [8, 9, 10, 3, 11, 12, 13, 14, 15, 16, 51, 52, 53, 54, 55, 56, 57, 58, 59, 60, 61, 62, 63, 64, 65, 66] (by decide +kernel) (by decide +kernel)) (goodIn_sub (fun _ h => List.mem_cons_of_mem _ (List.mem_append_left _ (List.mem_append_right _ h))) (by decide +kernel))
set_option maxRecDepth 20000 in
theorem gX5_sourceOf_X5_needNode : GoodIn wsX5_sourceOf (wsV RX5 71 RX5 yX5_needNode wsX5_needNode) := goodIn_app (goodIn_of _ (by decide +kernel)) ggX5_sourceOf_X5_needNode
set_option maxRecDepth 20000 in
theorem ggX5_sourceOf_X5_islandAt : GoodIn wsX5_sourceOf wsX5_islandAt := goodIn_ca (goodIn_r _ [20, 3, 21, 22, 23, 24, 14, 25, 26, 7, 27, 28, 29, 30, 31, 32, 33, 34, 35, 36, 37, 38, 39, 40, 41, 42, 43, 44, 45, 51, 52, 53, 54, 55, 56, 67, 68, 69, 70, 71, 57, 58, 59, 60, 61, 62, 63, 64, 65, 66] (by decide +kernel) (by decide +kernel)) (goodIn_sub (fun _ h => List.mem_cons_of_mem _ (List.mem_append_right _ h)) (by decide +kernel))
set_option maxRecDepth 20000 in
theorem gX5_sourceOf_X5_islandAt : GoodIn wsX5_sourceOf (wsV RX5 198 RX5 yX5_islandAt wsX5_islandAt) := goodIn_app (goodIn_of _ (by decide +kernel)) ggX5_sourceOf_X5_islandAt
set_option maxRecDepth 20000 in
theorem ggX5_sourceOf_X1_sourceIn : GoodIn wsX5_sourceOf wsX1_sourceIn := goodIn_r _ [49, 50, 28, 7, 29, 30, 31, 32, 57, 58, 59, 60, 61, 62, 63, 64, 65, 66] (by decide +kernel) (by decide +kernel)
set_option maxRecDepth 20000 in
theorem gX5_sourceOf_X1_sourceIn : GoodIn wsX5_sourceOf (wsV RX5 207 RX1 yX1_sourceIn wsX1_sourceIn) := goodIn_app (goodIn_of _ (by decide +kernel)) ggX5_sourceOf_X1_sourceIn
theorem dX5_sourceOf_0 : decode cX5_sourceOf 0 = .ok (.aload_n 0, 1) := by decide +kernel
theorem dX5_sourceOf_1 : decode cX5_sourceOf 1 = .ok (.iload_n 1, 1) := by decide +kernel
theorem dX5_sourceOf_2 : decode cX5_sourceOf 2 = .ok (.invokevirtual 71, 3) := by decide +kernel
theorem dX5_sourceOf_5 : decode cX5_sourceOf 5 = .ok (.aload_n 0, 1) := by decide +kernel
theorem dX5_sourceOf_6 : decode cX5_sourceOf 6 = .ok (.getfield 10, 3) := by decide +kernel
theorem dX5_sourceOf_9 : decode cX5_sourceOf 9 = .ok (.aload_n 0, 1) := by decide +kernel
theorem dX5_sourceOf_10 : decode cX5_sourceOf 10 = .ok (.iload_n 1, 1) := by decide +kernel
theorem dX5_sourceOf_11 : decode cX5_sourceOf 11 = .ok (.invokevirtual 198, 3) := by decide +kernel
theorem dX5_sourceOf_14 : decode cX5_sourceOf 14 = .ok (.invokevirtual 207, 3) := by decide +kernel
theorem dX5_sourceOf_17 : decode cX5_sourceOf 17 = .ok (.istore_n 2, 1) := by decide +kernel
theorem dX5_sourceOf_18 : decode cX5_sourceOf 18 = .ok (.iload_n 2, 1) := by decide +kernel
theorem dX5_sourceOf_19 : decode cX5_sourceOf 19 = .ok (.iconst (-1), 1) := by decide +kernel
theorem dX5_sourceOf_20 : decode cX5_sourceOf 20 = .ok (.if_icmp .ne 13, 3) := by decide +kernel
theorem dX5_sourceOf_23 : decode cX5_sourceOf 23 = .ok (.new 100, 3) := by decide +kernel
theorem dX5_sourceOf_26 : decode cX5_sourceOf 26 = .ok (.dup, 1) := by decide +kernel
theorem dX5_sourceOf_27 : decode cX5_sourceOf 27 = .ok (.ldc 210, 2) := by decide +kernel
theorem dX5_sourceOf_29 : decode cX5_sourceOf 29 = .ok (.invokespecial 104, 3) := by decide +kernel
theorem dX5_sourceOf_32 : decode cX5_sourceOf 32 = .ok (.athrow, 1) := by decide +kernel
theorem dX5_sourceOf_33 : decode cX5_sourceOf 33 = .ok (.iload_n 2, 1) := by decide +kernel
theorem dX5_sourceOf_34 : decode cX5_sourceOf 34 = .ok (.ireturn, 1) := by decide +kernel
set_option maxRecDepth 20000 in
theorem ggX5_islandLoad_X5_needNode : GoodIn wsX5_islandLoad wsX5_needNode := goodIn_ca (goodIn_r _ [6, 7, 8, 1, 9, 10, 11, 12, 13, 14, 49, 50, 51, 52, 53, 54, 55, 56, 57, 58, 59, 60, 61, 62, 63, 64] (by decide +kernel) (by decide +kernel)) (goodIn_sub (fun _ h => List.mem_cons_of_mem _ (List.mem_append_left _ (List.mem_append_right _ h))) (by decide +kernel))
set_option maxRecDepth 20000 in
theorem gX5_islandLoad_X5_needNode : GoodIn wsX5_islandLoad (wsV RX5 71 RX5 yX5_needNode wsX5_needNode) := goodIn_app (goodIn_of _ (by decide +kernel)) ggX5_islandLoad_X5_needNode
set_option maxRecDepth 20000 in
theorem ggX5_islandLoad_X5_islandAt : GoodIn wsX5_islandLoad wsX5_islandAt := goodIn_ca (goodIn_r _ [18, 1, 19, 20, 21, 22, 12, 23, 24, 5, 25, 26, 27, 28, 29, 30, 31, 32, 33, 34, 35, 36, 37, 38, 39, 40, 41, 42, 43, 49, 50, 51, 52, 53, 54, 65, 66, 67, 68, 69, 55, 56, 57, 58, 59, 60, 61, 62, 63, 64] (by decide +kernel) (by decide +kernel)) (goodIn_sub (fun _ h => List.mem_cons_of_mem _ (List.mem_append_right _ h)) (by decide +kernel))
set_option maxRecDepth 20000 in
theorem gX5_islandLoad_X5_islandAt : GoodIn wsX5_islandLoad (wsV RX5 198 RX5 yX5_islandAt wsX5_islandAt) := goodIn_app (goodIn_of _ (by decide +kernel)) ggX5_islandLoad_X5_islandAt
set_option maxRecDepth 20000 in
theorem ggX5_islandLoad_X1_loadIn : GoodIn wsX5_islandLoad wsX1_loadIn := goodIn_ca (goodIn_r _ [47, 14, 48, 36, 5, 37, 55, 56, 57, 58, 59, 60, 61, 62, 63, 64] (by decide +kernel) (by decide +kernel)) (goodIn_sub (fun _ h => List.mem_cons_of_mem _ (List.mem_append_right _ h)) (by decide +kernel))
set_option maxRecDepth 20000 in
theorem gX5_islandLoad_X1_loadIn : GoodIn wsX5_islandLoad (wsV RX5 212 RX1 yX1_loadIn wsX1_loadIn) := goodIn_app (goodIn_of _ (by decide +kernel)) ggX5_islandLoad_X1_loadIn
theorem dX5_islandLoad_0 : decode cX5_islandLoad 0 = .ok (.aload_n 0, 1) := by decide +kernel
theorem dX5_islandLoad_1 : decode cX5_islandLoad 1 = .ok (.iload_n 1, 1) := by decide +kernel
theorem dX5_islandLoad_2 : decode cX5_islandLoad 2 = .ok (.invokevirtual 71, 3) := by decide +kernel
theorem dX5_islandLoad_5 : decode cX5_islandLoad 5 = .ok (.aload_n 0, 1) := by decide +kernel
theorem dX5_islandLoad_6 : decode cX5_islandLoad 6 = .ok (.getfield 10, 3) := by decide +kernel
theorem dX5_islandLoad_9 : decode cX5_islandLoad 9 = .ok (.aload_n 0, 1) := by decide +kernel
theorem dX5_islandLoad_10 : decode cX5_islandLoad 10 = .ok (.iload_n 1, 1) := by decide +kernel
theorem dX5_islandLoad_11 : decode cX5_islandLoad 11 = .ok (.invokevirtual 198, 3) := by decide +kernel
theorem dX5_islandLoad_14 : decode cX5_islandLoad 14 = .ok (.invokevirtual 212, 3) := by decide +kernel
theorem dX5_islandLoad_17 : decode cX5_islandLoad 17 = .ok (.ireturn, 1) := by decide +kernel
set_option maxRecDepth 20000 in
theorem ggX5_current_X5_needLine : GoodIn wsX5_current wsX5_needLine := goodIn_ca (goodIn_r _ [7, 8, 9, 10, 11, 12, 13, 14, 15, 16, 47, 48, 49, 50, 51, 52, 58, 59, 60, 61, 62, 63, 64, 65, 66, 67] (by decide +kernel) (by decide +kernel)) (goodIn_sub (fun _ h => List.mem_cons_of_mem _ (List.mem_append_left _ (List.mem_append_right _ h))) (by decide +kernel))
set_option maxRecDepth 20000 in
theorem gX5_current_X5_needLine : GoodIn wsX5_current (wsV RX5 105 RX5 yX5_needLine wsX5_needLine) := goodIn_app (goodIn_of _ (by decide +kernel)) ggX5_current_X5_needLine
set_option maxRecDepth 20000 in
theorem ggX5_current_X0_currentIn : GoodIn wsX5_current wsX0_currentIn := goodIn_ca (goodIn_r _ [21, 22, 23, 24, 25, 26, 20, 27, 28, 6, 29, 30, 31, 32, 33, 34, 35, 36, 14, 37, 38, 39, 40, 41, 42, 43, 16, 44, 45, 46, 12, 13, 15, 68, 69, 70, 58, 59, 60, 61, 62, 63, 64, 65, 66, 67] (by decide +kernel) (by decide +kernel)) (goodIn_sub (fun _ h => List.mem_cons_of_mem _ (List.mem_append_right _ h)) (by decide +kernel))
set_option maxRecDepth 20000 in
theorem gX5_current_X0_currentIn : GoodIn wsX5_current (wsV RX5 215 RX0 yX0_currentIn wsX0_currentIn) := goodIn_app (goodIn_of _ (by decide +kernel)) ggX5_current_X0_currentIn
theorem dX5_current_0 : decode cX5_current 0 = .ok (.aload_n 0, 1) := by decide +kernel
theorem dX5_current_1 : decode cX5_current 1 = .ok (.iload_n 1, 1) := by decide +kernel
theorem dX5_current_2 : decode cX5_current 2 = .ok (.invokevirtual 105, 3) := by decide +kernel
theorem dX5_current_5 : decode cX5_current 5 = .ok (.aload_n 0, 1) := by decide +kernel
theorem dX5_current_6 : decode cX5_current 6 = .ok (.getfield 21, 3) := by decide +kernel
theorem dX5_current_9 : decode cX5_current 9 = .ok (.iload_n 1, 1) := by decide +kernel
theorem dX5_current_10 : decode cX5_current 10 = .ok (.aload_n 0, 1) := by decide +kernel
theorem dX5_current_11 : decode cX5_current 11 = .ok (.getfield 30, 3) := by decide +kernel
theorem dX5_current_14 : decode cX5_current 14 = .ok (.getfield 120, 3) := by decide +kernel
theorem dX5_current_17 : decode cX5_current 17 = .ok (.invokevirtual 215, 3) := by decide +kernel
theorem dX5_current_20 : decode cX5_current 20 = .ok (.ireturn, 1) := by decide +kernel
set_option maxRecDepth 20000 in
theorem ggX5_currentByCutting_X5_needLine : GoodIn wsX5_currentByCutting wsX5_needLine := goodIn_ca (goodIn_r _ [7, 8, 9, 1, 10, 11, 12, 13, 14, 15, 63, 64, 65, 66, 67, 68, 74, 75, 76, 77, 78, 79, 80, 81, 82, 83] (by decide +kernel) (by decide +kernel)) (goodIn_sub (fun _ h => List.mem_cons_of_mem _ (List.mem_append_left _ (List.mem_append_right _ h))) (by decide +kernel))
set_option maxRecDepth 20000 in
theorem gX5_currentByCutting_X5_needLine : GoodIn wsX5_currentByCutting (wsV RX5 105 RX5 yX5_needLine wsX5_needLine) := goodIn_app (goodIn_of _ (by decide +kernel)) ggX5_currentByCutting_X5_needLine
set_option maxRecDepth 20000 in
theorem ggX5_currentByCutting_X1_loadCutOffBy : GoodIn wsX5_currentByCutting wsX1_loadCutOffBy := goodIn_ca (goodIn_r _ [19, 20, 6, 21, 22, 23, 24, 13, 25, 26, 27, 28, 29, 30, 31, 11, 12, 14, 15, 32, 33, 34, 35, 36, 37, 38, 39, 40, 41, 42, 43, 44, 45, 46, 47, 48, 49, 50, 51, 52, 53, 54, 55, 56, 57, 58, 59, 60, 61, 62, 74, 75, 76, 77, 78, 79, 80, 81, 82, 83] (by decide +kernel) (by decide +kernel)) (goodIn_sub (fun _ h => List.mem_cons_of_mem _ (List.mem_append_right _ h)) (by decide +kernel))
set_option maxRecDepth 20000 in
theorem gX5_currentByCutting_X1_loadCutOffBy : GoodIn wsX5_currentByCutting (wsV RX5 218 RX1 yX1_loadCutOffBy wsX1_loadCutOffBy) := goodIn_app (goodIn_of _ (by decide +kernel)) ggX5_currentByCutting_X1_loadCutOffBy
theorem dX5_currentByCutting_0 : decode cX5_currentByCutting 0 = .ok (.aload_n 0, 1) := by decide +kernel
theorem dX5_currentByCutting_1 : decode cX5_currentByCutting 1 = .ok (.iload_n 1, 1) := by decide +kernel
theorem dX5_currentByCutting_2 : decode cX5_currentByCutting 2 = .ok (.invokevirtual 105, 3) := by decide +kernel
theorem dX5_currentByCutting_5 : decode cX5_currentByCutting 5 = .ok (.aload_n 0, 1) := by decide +kernel
theorem dX5_currentByCutting_6 : decode cX5_currentByCutting 6 = .ok (.getfield 10, 3) := by decide +kernel
theorem dX5_currentByCutting_9 : decode cX5_currentByCutting 9 = .ok (.iload_n 1, 1) := by decide +kernel
theorem dX5_currentByCutting_10 : decode cX5_currentByCutting 10 = .ok (.aload_n 0, 1) := by decide +kernel
theorem dX5_currentByCutting_11 : decode cX5_currentByCutting 11 = .ok (.getfield 30, 3) := by decide +kernel
theorem dX5_currentByCutting_14 : decode cX5_currentByCutting 14 = .ok (.getfield 120, 3) := by decide +kernel
theorem dX5_currentByCutting_17 : decode cX5_currentByCutting 17 = .ok (.invokevirtual 218, 3) := by decide +kernel
theorem dX5_currentByCutting_20 : decode cX5_currentByCutting 20 = .ok (.ireturn, 1) := by decide +kernel
set_option maxRecDepth 20000 in
theorem ggX5_distance_X5_needLine : GoodIn wsX5_distance wsX5_needLine := goodIn_ca (goodIn_r _ [5, 6, 7, 8, 9, 10, 11, 12, 13, 14, 42, 43, 44, 45, 46, 47, 48, 49, 50, 51, 52, 53, 54, 55, 56, 57] (by decide +kernel) (by decide +kernel)) (goodIn_sub (fun _ h => List.mem_cons_of_mem _ (List.mem_append_left _ (List.mem_append_left _ (List.mem_append_right _ h)))) (by decide +kernel))
set_option maxRecDepth 20000 in
theorem gX5_distance_X5_needLine : GoodIn wsX5_distance (wsV RX5 105 RX5 yX5_needLine wsX5_needLine) := goodIn_app (goodIn_of _ (by decide +kernel)) ggX5_distance_X5_needLine
set_option maxRecDepth 20000 in
theorem ggX5_distance_X5_lengthOfPathTo : GoodIn wsX5_distance wsX5_lengthOfPathTo := goodIn_ca (goodIn_ca (goodIn_r _ [18, 19, 20, 21, 22, 23, 24, 25, 26, 27, 28, 29, 4, 30, 31, 32, 33, 34, 35, 36, 37, 38, 12, 39, 14, 40, 41, 42, 43, 44, 45, 46, 47, 58, 59, 60, 61, 62, 63, 64, 65, 48, 49, 50, 51, 52, 53, 54, 55, 56, 57] (by decide +kernel) (by decide +kernel)) (goodIn_sub (fun _ h => List.mem_cons_of_mem _ (List.mem_append_left _ (List.mem_append_right _ h))) (by decide +kernel))) (goodIn_sub (fun _ h => List.mem_cons_of_mem _ (List.mem_append_right _ h)) (by decide +kernel))
set_option maxRecDepth 20000 in
theorem gX5_distance_X5_lengthOfPathTo : GoodIn wsX5_distance (wsV RX5 221 RX5 yX5_lengthOfPathTo wsX5_lengthOfPathTo) := goodIn_app (goodIn_of _ (by decide +kernel)) ggX5_distance_X5_lengthOfPathTo
theorem dX5_distance_0 : decode cX5_distance 0 = .ok (.aload_n 0, 1) := by decide +kernel
theorem dX5_distance_1 : decode cX5_distance 1 = .ok (.iload_n 1, 1) := by decide +kernel
theorem dX5_distance_2 : decode cX5_distance 2 = .ok (.invokevirtual 105, 3) := by decide +kernel
theorem dX5_distance_5 : decode cX5_distance 5 = .ok (.aload_n 0, 1) := by decide +kernel
theorem dX5_distance_6 : decode cX5_distance 6 = .ok (.iload_n 1, 1) := by decide +kernel
theorem dX5_distance_7 : decode cX5_distance 7 = .ok (.invokevirtual 221, 3) := by decide +kernel
theorem dX5_distance_10 : decode cX5_distance 10 = .ok (.ireturn, 1) := by decide +kernel
set_option maxRecDepth 20000 in
theorem ggX5_pathAt_X5_needLine : GoodIn wsX5_pathAt wsX5_needLine := goodIn_ca (goodIn_r _ [8, 9, 10, 11, 12, 13, 14, 15, 16, 17, 48, 49, 50, 51, 52, 53, 54, 55, 56, 57, 58, 59, 60, 61, 62, 63] (by decide +kernel) (by decide +kernel)) (goodIn_sub (fun _ h => List.mem_cons_of_mem _ (List.mem_append_left _ (List.mem_append_left _ (List.mem_append_right _ h)))) (by decide +kernel))
set_option maxRecDepth 20000 in
theorem gX5_pathAt_X5_needLine : GoodIn wsX5_pathAt (wsV RX5 105 RX5 yX5_needLine wsX5_needLine) := goodIn_app (goodIn_of _ (by decide +kernel)) ggX5_pathAt_X5_needLine
set_option maxRecDepth 20000 in
theorem ggX5_pathAt_X5_lengthOfPathTo : GoodIn wsX5_pathAt wsX5_lengthOfPathTo := goodIn_ca (goodIn_ca (goodIn_r _ [21, 22, 23, 3, 24, 25, 26, 27, 28, 29, 30, 31, 7, 32, 33, 34, 35, 36, 37, 38, 39, 40, 15, 41, 17, 42, 43, 48, 49, 50, 51, 52, 53, 64, 65, 66, 67, 68, 69, 70, 71, 54, 55, 56, 57, 58, 59, 60, 61, 62, 63] (by decide +kernel) (by decide +kernel)) (goodIn_sub (fun _ h => List.mem_cons_of_mem _ (List.mem_append_left _ (List.mem_append_right _ h))) (by decide +kernel))) (goodIn_sub (fun _ h => List.mem_cons_of_mem _ (List.mem_append_right _ h)) (by decide +kernel))
set_option maxRecDepth 20000 in
theorem gX5_pathAt_X5_lengthOfPathTo : GoodIn wsX5_pathAt (wsV RX5 221 RX5 yX5_lengthOfPathTo wsX5_lengthOfPathTo) := goodIn_app (goodIn_of _ (by decide +kernel)) ggX5_pathAt_X5_lengthOfPathTo
set_option maxRecDepth 20000 in
theorem ggX5_pathAt_X0_lineOnPath : GoodIn wsX5_pathAt wsX0_lineOnPath := goodIn_ca (goodIn_r _ [47, 37, 69, 70, 71] (by decide +kernel) (by decide +kernel)) (goodIn_sub (fun _ h => List.mem_cons_of_mem _ (List.mem_append_right _ h)) (by decide +kernel))
set_option maxRecDepth 20000 in
theorem gX5_pathAt_X0_lineOnPath : GoodIn wsX5_pathAt (wsV RX5 229 RX0 yX0_lineOnPath wsX0_lineOnPath) := goodIn_app (goodIn_of _ (by decide +kernel)) ggX5_pathAt_X0_lineOnPath
theorem dX5_pathAt_0 : decode cX5_pathAt 0 = .ok (.aload_n 0, 1) := by decide +kernel
theorem dX5_pathAt_1 : decode cX5_pathAt 1 = .ok (.iload_n 1, 1) := by decide +kernel
theorem dX5_pathAt_2 : decode cX5_pathAt 2 = .ok (.invokevirtual 105, 3) := by decide +kernel
theorem dX5_pathAt_5 : decode cX5_pathAt 5 = .ok (.aload_n 0, 1) := by decide +kernel
theorem dX5_pathAt_6 : decode cX5_pathAt 6 = .ok (.iload_n 1, 1) := by decide +kernel
theorem dX5_pathAt_7 : decode cX5_pathAt 7 = .ok (.invokevirtual 221, 3) := by decide +kernel
theorem dX5_pathAt_10 : decode cX5_pathAt 10 = .ok (.istore_n 3, 1) := by decide +kernel
theorem dX5_pathAt_11 : decode cX5_pathAt 11 = .ok (.iload_n 2, 1) := by decide +kernel
theorem dX5_pathAt_12 : decode cX5_pathAt 12 = .ok (.ifCond .lt 8, 3) := by decide +kernel
theorem dX5_pathAt_15 : decode cX5_pathAt 15 = .ok (.iload_n 2, 1) := by decide +kernel
theorem dX5_pathAt_16 : decode cX5_pathAt 16 = .ok (.iload_n 3, 1) := by decide +kernel
theorem dX5_pathAt_17 : decode cX5_pathAt 17 = .ok (.if_icmp .lt 13, 3) := by decide +kernel
theorem dX5_pathAt_20 : decode cX5_pathAt 20 = .ok (.new 224, 3) := by decide +kernel
theorem dX5_pathAt_23 : decode cX5_pathAt 23 = .ok (.dup, 1) := by decide +kernel
theorem dX5_pathAt_24 : decode cX5_pathAt 24 = .ok (.ldc 226, 2) := by decide +kernel
theorem dX5_pathAt_26 : decode cX5_pathAt 26 = .ok (.invokespecial 228, 3) := by decide +kernel
theorem dX5_pathAt_29 : decode cX5_pathAt 29 = .ok (.athrow, 1) := by decide +kernel
theorem dX5_pathAt_30 : decode cX5_pathAt 30 = .ok (.aload_n 0, 1) := by decide +kernel
theorem dX5_pathAt_31 : decode cX5_pathAt 31 = .ok (.getfield 21, 3) := by decide +kernel
theorem dX5_pathAt_34 : decode cX5_pathAt 34 = .ok (.iload_n 2, 1) := by decide +kernel
theorem dX5_pathAt_35 : decode cX5_pathAt 35 = .ok (.invokevirtual 229, 3) := by decide +kernel
theorem dX5_pathAt_38 : decode cX5_pathAt 38 = .ok (.ireturn, 1) := by decide +kernel
set_option maxRecDepth 20000 in
theorem ggX5_faultCurrent_X5_needLine : GoodIn wsX5_faultCurrent wsX5_needLine := goodIn_ca (goodIn_r _ [7, 8, 9, 10, 11, 12, 13, 14, 15, 16, 89, 90, 91, 92, 93, 94, 100, 101, 102, 103, 104, 105, 106, 107, 108, 109] (by decide +kernel) (by decide +kernel)) (goodIn_sub (fun _ h => List.mem_cons_of_mem _ (List.mem_append_left _ (List.mem_append_left _ (List.mem_append_left _ (List.mem_append_right _ h))))) (by decide +kernel))
set_option maxRecDepth 20000 in
theorem gX5_faultCurrent_X5_needLine : GoodIn wsX5_faultCurrent (wsV RX5 105 RX5 yX5_needLine wsX5_needLine) := goodIn_app (goodIn_of _ (by decide +kernel)) ggX5_faultCurrent_X5_needLine
set_option maxRecDepth 20000 in
theorem ggX5_faultCurrent_X5_lengthOfPathTo : GoodIn wsX5_faultCurrent wsX5_lengthOfPathTo := goodIn_ca (goodIn_ca (goodIn_r _ [20, 21, 22, 23, 2, 24, 25, 26, 27, 28, 29, 30, 6, 31, 32, 33, 34, 35, 36, 37, 38, 39, 14, 40, 16, 41, 42, 89, 90, 91, 92, 93, 94, 95, 96, 97, 98, 99, 110, 111, 112, 100, 101, 102, 103, 104, 105, 106, 107, 108, 109] (by decide +kernel) (by decide +kernel)) (goodIn_sub (fun _ h => List.mem_cons_of_mem _ (List.mem_append_left _ (List.mem_append_left _ (List.mem_append_right _ h)))) (by decide +kernel))) (goodIn_sub (fun _ h => List.mem_cons_of_mem _ (List.mem_append_left _ (List.mem_append_right _ h))) (by decide +kernel))
set_option maxRecDepth 20000 in
theorem gX5_faultCurrent_X5_lengthOfPathTo : GoodIn wsX5_faultCurrent (wsV RX5 221 RX5 yX5_lengthOfPathTo wsX5_lengthOfPathTo) := goodIn_app (goodIn_of _ (by decide +kernel)) ggX5_faultCurrent_X5_lengthOfPathTo
set_option maxRecDepth 20000 in
theorem ggX5_faultCurrent_X3_currentOfFault : GoodIn wsX5_faultCurrent wsX3_currentOfFault := goodIn_ca (goodIn_ca (goodIn_r _ [47, 48, 49, 50, 51, 14, 52, 53, 54, 55, 56, 41, 57, 12, 13, 15, 16, 58, 59, 60, 61, 62, 6, 63, 64, 65, 66, 67, 68, 69, 70, 71, 72, 30, 31, 73, 38, 39, 40, 42, 74, 75, 76, 77, 78, 79, 80, 81, 82, 83, 84, 85, 86, 87, 88, 113, 114, 115, 116, 117, 100, 101, 102, 103, 104, 105, 106, 107, 108, 109] (by decide +kernel) (by decide +kernel)) (goodIn_sub (fun _ h => List.mem_cons_of_mem _ (List.mem_append_right _ h)) (by decide +kernel))) (goodIn_sub (fun _ h => List.mem_cons_of_mem _ (List.mem_append_left _ (List.mem_append_right _ h))) (by decide +kernel))
set_option maxRecDepth 20000 in
theorem gX5_faultCurrent_X3_currentOfFault : GoodIn wsX5_faultCurrent (wsV RX5 232 RX3 yX3_currentOfFault wsX3_currentOfFault) := goodIn_app (goodIn_of _ (by decide +kernel)) ggX5_faultCurrent_X3_currentOfFault
theorem dX5_faultCurrent_0 : decode cX5_faultCurrent 0 = .ok (.aload_n 0, 1) := by decide +kernel
theorem dX5_faultCurrent_1 : decode cX5_faultCurrent 1 = .ok (.iload_n 1, 1) := by decide +kernel
theorem dX5_faultCurrent_2 : decode cX5_faultCurrent 2 = .ok (.invokevirtual 105, 3) := by decide +kernel
theorem dX5_faultCurrent_5 : decode cX5_faultCurrent 5 = .ok (.aload_n 0, 1) := by decide +kernel
theorem dX5_faultCurrent_6 : decode cX5_faultCurrent 6 = .ok (.iload_n 1, 1) := by decide +kernel
theorem dX5_faultCurrent_7 : decode cX5_faultCurrent 7 = .ok (.invokevirtual 221, 3) := by decide +kernel
theorem dX5_faultCurrent_10 : decode cX5_faultCurrent 10 = .ok (.istore_n 2, 1) := by decide +kernel
theorem dX5_faultCurrent_11 : decode cX5_faultCurrent 11 = .ok (.aload_n 0, 1) := by decide +kernel
theorem dX5_faultCurrent_12 : decode cX5_faultCurrent 12 = .ok (.getfield 37, 3) := by decide +kernel
theorem dX5_faultCurrent_15 : decode cX5_faultCurrent 15 = .ok (.iload_n 1, 1) := by decide +kernel
theorem dX5_faultCurrent_16 : decode cX5_faultCurrent 16 = .ok (.iload_n 2, 1) := by decide +kernel
theorem dX5_faultCurrent_17 : decode cX5_faultCurrent 17 = .ok (.aload_n 0, 1) := by decide +kernel
theorem dX5_faultCurrent_18 : decode cX5_faultCurrent 18 = .ok (.getfield 30, 3) := by decide +kernel
theorem dX5_faultCurrent_21 : decode cX5_faultCurrent 21 = .ok (.getfield 120, 3) := by decide +kernel
theorem dX5_faultCurrent_24 : decode cX5_faultCurrent 24 = .ok (.invokevirtual 232, 3) := by decide +kernel
theorem dX5_faultCurrent_27 : decode cX5_faultCurrent 27 = .ok (.ireturn, 1) := by decide +kernel
set_option maxRecDepth 20000 in
theorem ggX5_tripTime_X5_needLine : GoodIn wsX5_tripTime wsX5_needLine := goodIn_ca (goodIn_r _ [9, 10, 11, 12, 13, 14, 15, 16, 17, 18, 38, 39, 40, 41, 42, 43, 44, 45, 46, 47, 48, 49, 50, 51, 52, 53] (by decide +kernel) (by decide +kernel)) (goodIn_sub (fun _ h => List.mem_cons_of_mem _ (List.mem_append_left _ (List.mem_append_left _ (List.mem_append_left _ (List.mem_append_right _ h))))) (by decide +kernel))
set_option maxRecDepth 20000 in
theorem gX5_tripTime_X5_needLine : GoodIn wsX5_tripTime (wsV RX5 105 RX5 yX5_needLine wsX5_needLine) := goodIn_app (goodIn_of _ (by decide +kernel)) ggX5_tripTime_X5_needLine
set_option maxRecDepth 20000 in
theorem ggX5_tripTime_X5_needBreaker : GoodIn wsX5_tripTime wsX5_needBreaker := goodIn_ca (goodIn_r _ [22, 23, 24, 12, 25, 26, 8, 27, 38, 39, 40, 41, 42, 43, 44, 45, 46, 47, 48, 49, 50, 51, 52, 53] (by decide +kernel) (by decide +kernel)) (goodIn_sub (fun _ h => List.mem_cons_of_mem _ (List.mem_append_left _ (List.mem_append_left _ (List.mem_append_right _ h)))) (by decide +kernel))
set_option maxRecDepth 20000 in
theorem gX5_tripTime_X5_needBreaker : GoodIn wsX5_tripTime (wsV RX5 114 RX5 yX5_needBreaker wsX5_needBreaker) := goodIn_app (goodIn_of _ (by decide +kernel)) ggX5_tripTime_X5_needBreaker
set_option maxRecDepth 20000 in
theorem ggX5_tripTime_X3_timeFor : GoodIn wsX5_tripTime wsX3_timeFor := goodIn_ca (goodIn_ca (goodIn_r _ [32, 33, 34, 35, 36, 37, 14, 15, 16, 17, 18, 26, 8, 27, 54, 55, 56, 57, 58, 44, 45, 46, 47, 48, 49, 50, 51, 52, 53] (by decide +kernel) (by decide +kernel)) (goodIn_sub (fun _ h => List.mem_cons_of_mem _ (List.mem_append_left _ (List.mem_append_right _ h))) (by decide +kernel))) (goodIn_sub (fun _ h => List.mem_cons_of_mem _ (List.mem_append_right _ h)) (by decide +kernel))
set_option maxRecDepth 20000 in
theorem gX5_tripTime_X3_timeFor : GoodIn wsX5_tripTime (wsV RX5 238 RX3 yX3_timeFor wsX3_timeFor) := goodIn_app (goodIn_of _ (by decide +kernel)) ggX5_tripTime_X3_timeFor
theorem dX5_tripTime_0 : decode cX5_tripTime 0 = .ok (.aload_n 0, 1) := by decide +kernel
theorem dX5_tripTime_1 : decode cX5_tripTime 1 = .ok (.iload_n 1, 1) := by decide +kernel
theorem dX5_tripTime_2 : decode cX5_tripTime 2 = .ok (.invokevirtual 105, 3) := by decide +kernel
theorem dX5_tripTime_5 : decode cX5_tripTime 5 = .ok (.iload_n 2, 1) := by decide +kernel
theorem dX5_tripTime_6 : decode cX5_tripTime 6 = .ok (.iconst 1, 1) := by decide +kernel
theorem dX5_tripTime_7 : decode cX5_tripTime 7 = .ok (.if_icmp .lt 9, 3) := by decide +kernel
theorem dX5_tripTime_10 : decode cX5_tripTime 10 = .ok (.iload_n 2, 1) := by decide +kernel
theorem dX5_tripTime_11 : decode cX5_tripTime 11 = .ok (.ldc 235, 2) := by decide +kernel
theorem dX5_tripTime_13 : decode cX5_tripTime 13 = .ok (.if_icmp .le 13, 3) := by decide +kernel
theorem dX5_tripTime_16 : decode cX5_tripTime 16 = .ok (.new 50, 3) := by decide +kernel
theorem dX5_tripTime_19 : decode cX5_tripTime 19 = .ok (.dup, 1) := by decide +kernel
theorem dX5_tripTime_20 : decode cX5_tripTime 20 = .ok (.ldc 236, 2) := by decide +kernel
theorem dX5_tripTime_22 : decode cX5_tripTime 22 = .ok (.invokespecial 54, 3) := by decide +kernel
theorem dX5_tripTime_25 : decode cX5_tripTime 25 = .ok (.athrow, 1) := by decide +kernel
theorem dX5_tripTime_26 : decode cX5_tripTime 26 = .ok (.aload_n 0, 1) := by decide +kernel
theorem dX5_tripTime_27 : decode cX5_tripTime 27 = .ok (.iload_n 1, 1) := by decide +kernel
theorem dX5_tripTime_28 : decode cX5_tripTime 28 = .ok (.invokevirtual 114, 3) := by decide +kernel
theorem dX5_tripTime_31 : decode cX5_tripTime 31 = .ok (.aload_n 0, 1) := by decide +kernel
theorem dX5_tripTime_32 : decode cX5_tripTime 32 = .ok (.getfield 37, 3) := by decide +kernel
theorem dX5_tripTime_35 : decode cX5_tripTime 35 = .ok (.iload_n 1, 1) := by decide +kernel
theorem dX5_tripTime_36 : decode cX5_tripTime 36 = .ok (.iload_n 2, 1) := by decide +kernel
theorem dX5_tripTime_37 : decode cX5_tripTime 37 = .ok (.invokevirtual 238, 3) := by decide +kernel
theorem dX5_tripTime_40 : decode cX5_tripTime 40 = .ok (.ireturn, 1) := by decide +kernel
set_option maxRecDepth 20000 in
theorem ggX5_wouldTrip_X5_needLine : GoodIn wsX5_wouldTrip wsX5_needLine := goodIn_ca (goodIn_r _ [7, 8, 9, 10, 11, 12, 13, 14, 15, 16, 103, 104, 105, 106, 107, 108, 114, 115, 116, 117, 118, 119, 120, 121, 122, 123] (by decide +kernel) (by decide +kernel)) (goodIn_sub (fun _ h => List.mem_cons_of_mem _ (List.mem_append_left _ (List.mem_append_left _ (List.mem_append_right _ h)))) (by decide +kernel))
set_option maxRecDepth 20000 in
theorem gX5_wouldTrip_X5_needLine : GoodIn wsX5_wouldTrip (wsV RX5 105 RX5 yX5_needLine wsX5_needLine) := goodIn_app (goodIn_of _ (by decide +kernel)) ggX5_wouldTrip_X5_needLine
set_option maxRecDepth 20000 in
theorem ggX5_wouldTrip_X3_answerTo : GoodIn wsX5_wouldTrip wsX3_answerTo := goodIn_ca (goodIn_ca (goodIn_r _ [21, 22, 23, 24, 25, 26, 27, 28, 29, 6, 30, 31, 32, 33, 34, 35, 36, 37, 38, 14, 39, 16, 40, 41, 42, 43, 44, 20, 45, 46, 47, 48, 49, 50, 51, 52, 53, 54, 55, 12, 13, 15, 56, 57, 58, 59, 60, 61, 62, 63, 64, 65, 66, 67, 68, 69, 70, 71, 72, 73, 74, 75, 76, 77, 78, 79, 80, 81, 82, 83, 84, 85, 86, 87, 88, 89, 90, 91, 92, 93, 94, 95, 96, 97, 98, 99, 100, 101, 102, 124, 125, 126, 127, 128, 129, 130, 131, 114, 115, 116, 117, 118, 119, 120, 121, 122, 123] (by decide +kernel) (by decide +kernel)) (goodIn_sub (fun _ h => List.mem_cons_of_mem _ (List.mem_append_left _ (List.mem_append_right _ h))) (by decide +kernel))) (goodIn_sub (fun _ h => List.mem_cons_of_mem _ (List.mem_append_right _ h)) (by decide +kernel))
set_option maxRecDepth 20000 in
theorem gX5_wouldTrip_X3_answerTo : GoodIn wsX5_wouldTrip (wsV RX5 155 RX3 yX3_answerTo wsX3_answerTo) := goodIn_app (goodIn_of _ (by decide +kernel)) ggX5_wouldTrip_X3_answerTo
theorem dX5_wouldTrip_0 : decode cX5_wouldTrip 0 = .ok (.aload_n 0, 1) := by decide +kernel
theorem dX5_wouldTrip_1 : decode cX5_wouldTrip 1 = .ok (.iload_n 1, 1) := by decide +kernel
theorem dX5_wouldTrip_2 : decode cX5_wouldTrip 2 = .ok (.invokevirtual 105, 3) := by decide +kernel
theorem dX5_wouldTrip_5 : decode cX5_wouldTrip 5 = .ok (.aload_n 0, 1) := by decide +kernel
theorem dX5_wouldTrip_6 : decode cX5_wouldTrip 6 = .ok (.getfield 37, 3) := by decide +kernel
theorem dX5_wouldTrip_9 : decode cX5_wouldTrip 9 = .ok (.iload_n 1, 1) := by decide +kernel
theorem dX5_wouldTrip_10 : decode cX5_wouldTrip 10 = .ok (.aload_n 0, 1) := by decide +kernel
theorem dX5_wouldTrip_11 : decode cX5_wouldTrip 11 = .ok (.getfield 30, 3) := by decide +kernel
theorem dX5_wouldTrip_14 : decode cX5_wouldTrip 14 = .ok (.getfield 120, 3) := by decide +kernel
theorem dX5_wouldTrip_17 : decode cX5_wouldTrip 17 = .ok (.invokevirtual 155, 3) := by decide +kernel
theorem dX5_wouldTrip_20 : decode cX5_wouldTrip 20 = .ok (.ireturn, 1) := by decide +kernel
set_option maxRecDepth 20000 in
theorem ggX5_isSelective_X5_needLine : GoodIn wsX5_isSelective wsX5_needLine := goodIn_ca (goodIn_r _ [7, 8, 9, 10, 11, 12, 13, 14, 15, 16, 103, 104, 105, 106, 107, 108, 114, 115, 116, 117, 118, 119, 120, 121, 122, 123] (by decide +kernel) (by decide +kernel)) (goodIn_sub (fun _ h => List.mem_cons_of_mem _ (List.mem_append_left _ (List.mem_append_left _ (List.mem_append_right _ h)))) (by decide +kernel))
set_option maxRecDepth 20000 in
theorem gX5_isSelective_X5_needLine : GoodIn wsX5_isSelective (wsV RX5 105 RX5 yX5_needLine wsX5_needLine) := goodIn_app (goodIn_of _ (by decide +kernel)) ggX5_isSelective_X5_needLine
set_option maxRecDepth 20000 in
theorem ggX5_isSelective_X3_answerTo : GoodIn wsX5_isSelective wsX3_answerTo := goodIn_ca (goodIn_ca (goodIn_r _ [21, 22, 23, 24, 25, 26, 27, 28, 29, 6, 30, 31, 32, 33, 34, 35, 36, 37, 38, 14, 39, 16, 40, 41, 42, 43, 44, 20, 45, 46, 47, 48, 49, 50, 51, 52, 53, 54, 55, 12, 13, 15, 56, 57, 58, 59, 60, 61, 62, 63, 64, 65, 66, 67, 68, 69, 70, 71, 72, 73, 74, 75, 76, 77, 78, 79, 80, 81, 82, 83, 84, 85, 86, 87, 88, 89, 90, 91, 92, 93, 94, 95, 96, 97, 98, 99, 100, 101, 102, 124, 125, 126, 127, 128, 129, 130, 131, 114, 115, 116, 117, 118, 119, 120, 121, 122, 123] (by decide +kernel) (by decide +kernel)) (goodIn_sub (fun _ h => List.mem_cons_of_mem _ (List.mem_append_left _ (List.mem_append_right _ h))) (by decide +kernel))) (goodIn_sub (fun _ h => List.mem_cons_of_mem _ (List.mem_append_right _ h)) (by decide +kernel))
set_option maxRecDepth 20000 in
theorem gX5_isSelective_X3_answerTo : GoodIn wsX5_isSelective (wsV RX5 155 RX3 yX3_answerTo wsX3_answerTo) := goodIn_app (goodIn_of _ (by decide +kernel)) ggX5_isSelective_X3_answerTo
theorem dX5_isSelective_0 : decode cX5_isSelective 0 = .ok (.aload_n 0, 1) := by decide +kernel
theorem dX5_isSelective_1 : decode cX5_isSelective 1 = .ok (.iload_n 1, 1) := by decide +kernel
theorem dX5_isSelective_2 : decode cX5_isSelective 2 = .ok (.invokevirtual 105, 3) := by decide +kernel
theorem dX5_isSelective_5 : decode cX5_isSelective 5 = .ok (.aload_n 0, 1) := by decide +kernel
theorem dX5_isSelective_6 : decode cX5_isSelective 6 = .ok (.getfield 37, 3) := by decide +kernel
theorem dX5_isSelective_9 : decode cX5_isSelective 9 = .ok (.iload_n 1, 1) := by decide +kernel
theorem dX5_isSelective_10 : decode cX5_isSelective 10 = .ok (.aload_n 0, 1) := by decide +kernel
theorem dX5_isSelective_11 : decode cX5_isSelective 11 = .ok (.getfield 30, 3) := by decide +kernel
theorem dX5_isSelective_14 : decode cX5_isSelective 14 = .ok (.getfield 120, 3) := by decide +kernel
theorem dX5_isSelective_17 : decode cX5_isSelective 17 = .ok (.invokevirtual 155, 3) := by decide +kernel
theorem dX5_isSelective_20 : decode cX5_isSelective 20 = .ok (.iload_n 1, 1) := by decide +kernel
theorem dX5_isSelective_21 : decode cX5_isSelective 21 = .ok (.if_icmp .ne 7, 3) := by decide +kernel
theorem dX5_isSelective_24 : decode cX5_isSelective 24 = .ok (.iconst 1, 1) := by decide +kernel
theorem dX5_isSelective_25 : decode cX5_isSelective 25 = .ok (.goto 4, 3) := by decide +kernel
theorem dX5_isSelective_28 : decode cX5_isSelective 28 = .ok (.iconst 0, 1) := by decide +kernel
theorem dX5_isSelective_29 : decode cX5_isSelective 29 = .ok (.ireturn, 1) := by decide +kernel
set_option maxRecDepth 20000 in
theorem ggX5_margin_X5_needLine : GoodIn wsX5_margin wsX5_needLine := goodIn_ca (goodIn_r _ [11, 12, 13, 14, 15, 16, 17, 18, 19, 20, 111, 112, 113, 114, 115, 116, 122, 123, 124, 125, 126, 127, 128, 129, 130, 131] (by decide +kernel) (by decide +kernel)) (goodIn_sub (fun _ h => List.mem_cons_of_mem _ (List.mem_append_left _ (List.mem_append_left _ (List.mem_append_right _ h)))) (by decide +kernel))
set_option maxRecDepth 20000 in
theorem gX5_margin_X5_needLine : GoodIn wsX5_margin (wsV RX5 105 RX5 yX5_needLine wsX5_needLine) := goodIn_app (goodIn_of _ (by decide +kernel)) ggX5_margin_X5_needLine
set_option maxRecDepth 20000 in
theorem ggX5_margin_X3_answerTo : GoodIn wsX5_margin wsX3_answerTo := goodIn_ca (goodIn_ca (goodIn_r _ [25, 26, 27, 28, 29, 30, 31, 32, 33, 10, 34, 35, 36, 37, 38, 39, 40, 41, 42, 18, 43, 20, 44, 45, 46, 47, 48, 24, 49, 50, 51, 52, 53, 54, 55, 56, 57, 58, 59, 16, 17, 19, 60, 61, 62, 63, 64, 65, 66, 67, 68, 69, 70, 71, 72, 73, 74, 75, 76, 77, 78, 79, 80, 81, 82, 83, 84, 85, 86, 87, 88, 89, 90, 91, 92, 93, 94, 95, 96, 97, 98, 99, 100, 101, 102, 103, 104, 105, 106, 132, 133, 134, 135, 136, 137, 138, 139, 122, 123, 124, 125, 126, 127, 128, 129, 130, 131] (by decide +kernel) (by decide +kernel)) (goodIn_sub (fun _ h => List.mem_cons_of_mem _ (List.mem_append_left _ (List.mem_append_right _ h))) (by decide +kernel))) (goodIn_sub (fun _ h => List.mem_cons_of_mem _ (List.mem_append_right _ h)) (by decide +kernel))
set_option maxRecDepth 20000 in
theorem gX5_margin_X3_answerTo : GoodIn wsX5_margin (wsV RX5 155 RX3 yX3_answerTo wsX3_answerTo) := goodIn_app (goodIn_of _ (by decide +kernel)) ggX5_margin_X3_answerTo
set_option maxRecDepth 20000 in
theorem ggX5_margin_X3_leadOf : GoodIn wsX5_margin wsX3_leadOf := goodIn_ca (goodIn_ca (goodIn_r _ [110, 26, 27, 28, 29, 30, 31, 32, 33, 10, 34, 35, 36, 37, 38, 39, 40, 41, 42, 18, 43, 20, 44, 45, 46, 47, 48, 24, 49, 50, 51, 52, 53, 54, 55, 56, 57, 58, 59, 16, 17, 19, 60, 61, 62, 63, 64, 65, 66, 67, 68, 69, 70, 71, 72, 73, 74, 75, 76, 77, 78, 79, 80, 81, 82, 83, 84, 85, 86, 87, 88, 89, 90, 91, 92, 93, 94, 95, 96, 97, 98, 99, 100, 101, 102, 103, 104, 105, 106, 132, 133, 134, 135, 136, 137, 138, 139, 122, 123, 124, 125, 126, 127, 128, 129, 130, 131] (by decide +kernel) (by decide +kernel)) (goodIn_sub (fun _ h => List.mem_cons_of_mem _ (List.mem_append_left _ (List.mem_append_right _ h))) (by decide +kernel))) (goodIn_sub (fun _ h => List.mem_cons_of_mem _ (List.mem_append_right _ h)) (by decide +kernel))
set_option maxRecDepth 20000 in
theorem gX5_margin_X3_leadOf : GoodIn wsX5_margin (wsV RX5 243 RX3 yX3_leadOf wsX3_leadOf) := goodIn_app (goodIn_of _ (by decide +kernel)) ggX5_margin_X3_leadOf
theorem dX5_margin_0 : decode cX5_margin 0 = .ok (.aload_n 0, 1) := by decide +kernel
theorem dX5_margin_1 : decode cX5_margin 1 = .ok (.iload_n 1, 1) := by decide +kernel
theorem dX5_margin_2 : decode cX5_margin 2 = .ok (.invokevirtual 105, 3) := by decide +kernel
theorem dX5_margin_5 : decode cX5_margin 5 = .ok (.aload_n 0, 1) := by decide +kernel
theorem dX5_margin_6 : decode cX5_margin 6 = .ok (.getfield 37, 3) := by decide +kernel
