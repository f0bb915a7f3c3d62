theorem dX6_setRelay_13 : decode cX6_setRelay 13 = .ok (.ireturn, 1) := by decide +kernel
theorem dX6_setRelay_14 : decode cX6_setRelay 14 = .ok (.iload_n 2, 1) := by decide +kernel
theorem dX6_setRelay_15 : decode cX6_setRelay 15 = .ok (.iconst 1, 1) := by decide +kernel
theorem dX6_setRelay_16 : decode cX6_setRelay 16 = .ok (.sipush 999, 3) := by decide +kernel
theorem dX6_setRelay_19 : decode cX6_setRelay 19 = .ok (.invokestatic 75, 3) := by decide +kernel
theorem dX6_setRelay_22 : decode cX6_setRelay 22 = .ok (.ifCond .eq 24, 3) := by decide +kernel
theorem dX6_setRelay_25 : decode cX6_setRelay 25 = .ok (.iload_n 3, 1) := by decide +kernel
theorem dX6_setRelay_26 : decode cX6_setRelay 26 = .ok (.iconst 1, 1) := by decide +kernel
theorem dX6_setRelay_27 : decode cX6_setRelay 27 = .ok (.bipush 10, 2) := by decide +kernel
theorem dX6_setRelay_29 : decode cX6_setRelay 29 = .ok (.invokestatic 75, 3) := by decide +kernel
theorem dX6_setRelay_32 : decode cX6_setRelay 32 = .ok (.ifCond .eq 14, 3) := by decide +kernel
theorem dX6_setRelay_35 : decode cX6_setRelay 35 = .ok (.iload 4, 2) := by decide +kernel
theorem dX6_setRelay_37 : decode cX6_setRelay 37 = .ok (.ifCond .eq 15, 3) := by decide +kernel
theorem dX6_setRelay_40 : decode cX6_setRelay 40 = .ok (.iload 4, 2) := by decide +kernel
theorem dX6_setRelay_42 : decode cX6_setRelay 42 = .ok (.iload_n 2, 1) := by decide +kernel
theorem dX6_setRelay_43 : decode cX6_setRelay 43 = .ok (.if_icmp .gt 9, 3) := by decide +kernel
theorem dX6_setRelay_46 : decode cX6_setRelay 46 = .ok (.aload_n 0, 1) := by decide +kernel
theorem dX6_setRelay_47 : decode cX6_setRelay 47 = .ok (.iconst 2, 1) := by decide +kernel
theorem dX6_setRelay_48 : decode cX6_setRelay 48 = .ok (.invokevirtual 82, 3) := by decide +kernel
theorem dX6_setRelay_51 : decode cX6_setRelay 51 = .ok (.ireturn, 1) := by decide +kernel
theorem dX6_setRelay_52 : decode cX6_setRelay 52 = .ok (.aload_n 0, 1) := by decide +kernel
theorem dX6_setRelay_53 : decode cX6_setRelay 53 = .ok (.getfield 41, 3) := by decide +kernel
theorem dX6_setRelay_56 : decode cX6_setRelay 56 = .ok (.iload_n 1, 1) := by decide +kernel
theorem dX6_setRelay_57 : decode cX6_setRelay 57 = .ok (.baload, 1) := by decide +kernel
theorem dX6_setRelay_58 : decode cX6_setRelay 58 = .ok (.ifCond .ne 9, 3) := by decide +kernel
theorem dX6_setRelay_61 : decode cX6_setRelay 61 = .ok (.aload_n 0, 1) := by decide +kernel
theorem dX6_setRelay_62 : decode cX6_setRelay 62 = .ok (.iconst 3, 1) := by decide +kernel
theorem dX6_setRelay_63 : decode cX6_setRelay 63 = .ok (.invokevirtual 82, 3) := by decide +kernel
theorem dX6_setRelay_66 : decode cX6_setRelay 66 = .ok (.ireturn, 1) := by decide +kernel
theorem dX6_setRelay_67 : decode cX6_setRelay 67 = .ok (.aload_n 0, 1) := by decide +kernel
theorem dX6_setRelay_68 : decode cX6_setRelay 68 = .ok (.iconst 0, 1) := by decide +kernel
theorem dX6_setRelay_69 : decode cX6_setRelay 69 = .ok (.putfield 68, 3) := by decide +kernel
theorem dX6_setRelay_72 : decode cX6_setRelay 72 = .ok (.aload_n 0, 1) := by decide +kernel
theorem dX6_setRelay_73 : decode cX6_setRelay 73 = .ok (.getfield 32, 3) := by decide +kernel
theorem dX6_setRelay_76 : decode cX6_setRelay 76 = .ok (.iload_n 1, 1) := by decide +kernel
theorem dX6_setRelay_77 : decode cX6_setRelay 77 = .ok (.iaload, 1) := by decide +kernel
theorem dX6_setRelay_78 : decode cX6_setRelay 78 = .ok (.istore 5, 2) := by decide +kernel
theorem dX6_setRelay_80 : decode cX6_setRelay 80 = .ok (.aload_n 0, 1) := by decide +kernel
theorem dX6_setRelay_81 : decode cX6_setRelay 81 = .ok (.getfield 32, 3) := by decide +kernel
theorem dX6_setRelay_84 : decode cX6_setRelay 84 = .ok (.iload_n 1, 1) := by decide +kernel
theorem dX6_setRelay_85 : decode cX6_setRelay 85 = .ok (.iload_n 2, 1) := by decide +kernel
theorem dX6_setRelay_86 : decode cX6_setRelay 86 = .ok (.iastore, 1) := by decide +kernel
theorem dX6_setRelay_87 : decode cX6_setRelay 87 = .ok (.aload_n 0, 1) := by decide +kernel
theorem dX6_setRelay_88 : decode cX6_setRelay 88 = .ok (.getfield 35, 3) := by decide +kernel
theorem dX6_setRelay_91 : decode cX6_setRelay 91 = .ok (.iload_n 1, 1) := by decide +kernel
theorem dX6_setRelay_92 : decode cX6_setRelay 92 = .ok (.iload_n 3, 1) := by decide +kernel
theorem dX6_setRelay_93 : decode cX6_setRelay 93 = .ok (.iastore, 1) := by decide +kernel
theorem dX6_setRelay_94 : decode cX6_setRelay 94 = .ok (.aload_n 0, 1) := by decide +kernel
theorem dX6_setRelay_95 : decode cX6_setRelay 95 = .ok (.getfield 38, 3) := by decide +kernel
theorem dX6_setRelay_98 : decode cX6_setRelay 98 = .ok (.iload_n 1, 1) := by decide +kernel
theorem dX6_setRelay_99 : decode cX6_setRelay 99 = .ok (.iload 4, 2) := by decide +kernel
theorem dX6_setRelay_101 : decode cX6_setRelay 101 = .ok (.iastore, 1) := by decide +kernel
theorem dX6_setRelay_102 : decode cX6_setRelay 102 = .ok (.iload 5, 2) := by decide +kernel
theorem dX6_setRelay_104 : decode cX6_setRelay 104 = .ok (.ireturn, 1) := by decide +kernel
set_option maxRecDepth 20000 in
theorem ggX6_close_X6_isLine : GoodIn wsX6_close wsX6_isLine := goodIn_r _ [6, 7, 8, 9, 5, 10, 55, 56, 57, 58, 59, 60, 61, 62, 63, 64, 65, 66, 67, 68, 69, 70, 71, 72, 73, 74, 75, 76, 77, 78, 79, 80, 81] (by decide +kernel) (by decide +kernel)
set_option maxRecDepth 20000 in
theorem gX6_close_X6_isLine : GoodIn wsX6_close (wsV RX6 113 RX6 yX6_isLine wsX6_isLine) := goodIn_app (goodIn_of _ (by decide +kernel)) ggX6_close_X6_isLine
set_option maxRecDepth 20000 in
theorem ggX6_close_X6_isThere : GoodIn wsX6_close wsX6_isThere := goodIn_r _ [14, 15, 55, 56, 57, 58, 59, 60, 61, 62, 63, 64, 65, 66, 67, 68, 69, 70, 71, 72, 73, 74, 75, 76, 77, 78, 79, 80, 81] (by decide +kernel) (by decide +kernel)
set_option maxRecDepth 20000 in
theorem gX6_close_X6_isThere : GoodIn wsX6_close (wsV RX6 116 RX6 yX6_isThere wsX6_isThere) := goodIn_app (goodIn_of _ (by decide +kernel)) ggX6_close_X6_isThere
set_option maxRecDepth 20000 in
theorem ggX6_close_X6_reason : GoodIn wsX6_close wsX6_reason := goodIn_ca (goodIn_r _ [19, 1, 20, 21, 22, 23, 24, 25, 26, 27, 28, 29, 5, 30, 31, 7, 32, 33, 34, 35, 36, 37, 38, 39, 40, 41, 42, 43, 44, 45, 46, 47, 48, 49, 50, 51, 52, 53, 54, 55, 56, 57, 58, 59, 60, 61, 62, 63, 64, 65, 66, 67, 68, 69, 70, 71, 72, 73, 74, 75, 76, 77, 78, 79, 80, 81] (by decide +kernel) (by decide +kernel)) (goodIn_sub (fun _ h => List.mem_cons_of_mem _ (List.mem_append_right _ h)) (by decide +kernel))
set_option maxRecDepth 20000 in
theorem gX6_close_X6_reason : GoodIn wsX6_close (wsV RX6 120 RX6 yX6_reason wsX6_reason) := goodIn_app (goodIn_of _ (by decide +kernel)) ggX6_close_X6_reason
theorem dX6_close_0 : decode cX6_close 0 = .ok (.aload_n 0, 1) := by decide +kernel
theorem dX6_close_1 : decode cX6_close 1 = .ok (.aload_n 0, 1) := by decide +kernel
theorem dX6_close_2 : decode cX6_close 2 = .ok (.iload_n 1, 1) := by decide +kernel
theorem dX6_close_3 : decode cX6_close 3 = .ok (.invokevirtual 113, 3) := by decide +kernel
theorem dX6_close_6 : decode cX6_close 6 = .ok (.invokevirtual 116, 3) := by decide +kernel
theorem dX6_close_9 : decode cX6_close 9 = .ok (.ifCond .ne 5, 3) := by decide +kernel
theorem dX6_close_12 : decode cX6_close 12 = .ok (.iconst 0, 1) := by decide +kernel
theorem dX6_close_13 : decode cX6_close 13 = .ok (.ireturn, 1) := by decide +kernel
theorem dX6_close_14 : decode cX6_close 14 = .ok (.aload_n 0, 1) := by decide +kernel
theorem dX6_close_15 : decode cX6_close 15 = .ok (.iload_n 1, 1) := by decide +kernel
theorem dX6_close_16 : decode cX6_close 16 = .ok (.invokevirtual 120, 3) := by decide +kernel
theorem dX6_close_19 : decode cX6_close 19 = .ok (.istore_n 2, 1) := by decide +kernel
theorem dX6_close_20 : decode cX6_close 20 = .ok (.iload_n 2, 1) := by decide +kernel
theorem dX6_close_21 : decode cX6_close 21 = .ok (.bipush 110, 2) := by decide +kernel
theorem dX6_close_23 : decode cX6_close 23 = .ok (.if_icmp .ne 10, 3) := by decide +kernel
theorem dX6_close_26 : decode cX6_close 26 = .ok (.aload_n 0, 1) := by decide +kernel
theorem dX6_close_27 : decode cX6_close 27 = .ok (.getfield 44, 3) := by decide +kernel
theorem dX6_close_30 : decode cX6_close 30 = .ok (.iload_n 1, 1) := by decide +kernel
theorem dX6_close_31 : decode cX6_close 31 = .ok (.iconst 1, 1) := by decide +kernel
theorem dX6_close_32 : decode cX6_close 32 = .ok (.bastore, 1) := by decide +kernel
theorem dX6_close_33 : decode cX6_close 33 = .ok (.iload_n 2, 1) := by decide +kernel
theorem dX6_close_34 : decode cX6_close 34 = .ok (.ireturn, 1) := by decide +kernel
set_option maxRecDepth 20000 in
theorem ggX6_open_X6_isLine : GoodIn wsX6_open wsX6_isLine := goodIn_r _ [6, 7, 8, 9, 5, 10, 47, 48, 49, 50, 51, 52, 53, 54, 55, 56, 57, 58, 59, 60, 61, 62, 63, 64, 65, 66, 67, 68, 69, 70, 71, 72, 73] (by decide +kernel) (by decide +kernel)
set_option maxRecDepth 20000 in
theorem gX6_open_X6_isLine : GoodIn wsX6_open (wsV RX6 113 RX6 yX6_isLine wsX6_isLine) := goodIn_app (goodIn_of _ (by decide +kernel)) ggX6_open_X6_isLine
set_option maxRecDepth 20000 in
theorem ggX6_open_X6_isThere : GoodIn wsX6_open wsX6_isThere := goodIn_r _ [14, 15, 47, 48, 49, 50, 51, 52, 53, 54, 55, 56, 57, 58, 59, 60, 61, 62, 63, 64, 65, 66, 67, 68, 69, 70, 71, 72, 73] (by decide +kernel) (by decide +kernel)
set_option maxRecDepth 20000 in
theorem gX6_open_X6_isThere : GoodIn wsX6_open (wsV RX6 116 RX6 yX6_isThere wsX6_isThere) := goodIn_app (goodIn_of _ (by decide +kernel)) ggX6_open_X6_isThere
set_option maxRecDepth 20000 in
theorem ggX6_open_X6_reasonToOpen : GoodIn wsX6_open wsX6_reasonToOpen := goodIn_ca (goodIn_r _ [19, 1, 20, 21, 22, 23, 5, 24, 25, 26, 27, 28, 29, 30, 31, 32, 33, 34, 35, 36, 7, 37, 38, 39, 40, 41, 42, 43, 44, 45, 46, 47, 48, 49, 50, 51, 52, 53, 54, 55, 56, 57, 58, 59, 60, 61, 62, 63, 64, 65, 66, 67, 68, 69, 70, 71, 72, 73] (by decide +kernel) (by decide +kernel)) (goodIn_sub (fun _ h => List.mem_cons_of_mem _ (List.mem_append_right _ h)) (by decide +kernel))
set_option maxRecDepth 20000 in
theorem gX6_open_X6_reasonToOpen : GoodIn wsX6_open (wsV RX6 124 RX6 yX6_reasonToOpen wsX6_reasonToOpen) := goodIn_app (goodIn_of _ (by decide +kernel)) ggX6_open_X6_reasonToOpen
theorem dX6_open_0 : decode cX6_open 0 = .ok (.aload_n 0, 1) := by decide +kernel
theorem dX6_open_1 : decode cX6_open 1 = .ok (.aload_n 0, 1) := by decide +kernel
theorem dX6_open_2 : decode cX6_open 2 = .ok (.iload_n 1, 1) := by decide +kernel
theorem dX6_open_3 : decode cX6_open 3 = .ok (.invokevirtual 113, 3) := by decide +kernel
theorem dX6_open_6 : decode cX6_open 6 = .ok (.invokevirtual 116, 3) := by decide +kernel
theorem dX6_open_9 : decode cX6_open 9 = .ok (.ifCond .ne 5, 3) := by decide +kernel
theorem dX6_open_12 : decode cX6_open 12 = .ok (.iconst 0, 1) := by decide +kernel
theorem dX6_open_13 : decode cX6_open 13 = .ok (.ireturn, 1) := by decide +kernel
theorem dX6_open_14 : decode cX6_open 14 = .ok (.aload_n 0, 1) := by decide +kernel
theorem dX6_open_15 : decode cX6_open 15 = .ok (.iload_n 1, 1) := by decide +kernel
theorem dX6_open_16 : decode cX6_open 16 = .ok (.invokevirtual 124, 3) := by decide +kernel
theorem dX6_open_19 : decode cX6_open 19 = .ok (.istore_n 2, 1) := by decide +kernel
theorem dX6_open_20 : decode cX6_open 20 = .ok (.iload_n 2, 1) := by decide +kernel
theorem dX6_open_21 : decode cX6_open 21 = .ok (.bipush 110, 2) := by decide +kernel
theorem dX6_open_23 : decode cX6_open 23 = .ok (.if_icmp .ne 10, 3) := by decide +kernel
theorem dX6_open_26 : decode cX6_open 26 = .ok (.aload_n 0, 1) := by decide +kernel
theorem dX6_open_27 : decode cX6_open 27 = .ok (.getfield 44, 3) := by decide +kernel
theorem dX6_open_30 : decode cX6_open 30 = .ok (.iload_n 1, 1) := by decide +kernel
theorem dX6_open_31 : decode cX6_open 31 = .ok (.iconst 0, 1) := by decide +kernel
theorem dX6_open_32 : decode cX6_open 32 = .ok (.bastore, 1) := by decide +kernel
theorem dX6_open_33 : decode cX6_open 33 = .ok (.iload_n 2, 1) := by decide +kernel
theorem dX6_open_34 : decode cX6_open 34 = .ok (.ireturn, 1) := by decide +kernel
set_option maxRecDepth 20000 in
theorem ggX6_canClose_X6_isLine : GoodIn wsX6_canClose wsX6_isLine := goodIn_r _ [5, 6, 7, 8, 4, 9, 55, 56, 57, 58, 59, 60, 61, 62, 63, 64, 65, 66, 67, 68, 69, 70, 71, 72, 73, 74, 75, 76, 77, 78, 79, 80, 81] (by decide +kernel) (by decide +kernel)
set_option maxRecDepth 20000 in
theorem gX6_canClose_X6_isLine : GoodIn wsX6_canClose (wsV RX6 113 RX6 yX6_isLine wsX6_isLine) := goodIn_app (goodIn_of _ (by decide +kernel)) ggX6_canClose_X6_isLine
set_option maxRecDepth 20000 in
theorem ggX6_canClose_X6_isThere : GoodIn wsX6_canClose wsX6_isThere := goodIn_r _ [13, 14, 55, 56, 57, 58, 59, 60, 61, 62, 63, 64, 65, 66, 67, 68, 69, 70, 71, 72, 73, 74, 75, 76, 77, 78, 79, 80, 81] (by decide +kernel) (by decide +kernel)
set_option maxRecDepth 20000 in
theorem gX6_canClose_X6_isThere : GoodIn wsX6_canClose (wsV RX6 116 RX6 yX6_isThere wsX6_isThere) := goodIn_app (goodIn_of _ (by decide +kernel)) ggX6_canClose_X6_isThere
set_option maxRecDepth 20000 in
theorem ggX6_canClose_X6_reason : GoodIn wsX6_canClose wsX6_reason := goodIn_ca (goodIn_r _ [18, 19, 20, 21, 22, 23, 24, 25, 26, 27, 28, 29, 4, 30, 31, 6, 32, 33, 34, 35, 36, 37, 38, 39, 40, 41, 42, 43, 44, 45, 46, 47, 48, 49, 50, 51, 52, 53, 54, 55, 56, 57, 58, 59, 60, 61, 62, 63, 64, 65, 66, 67, 68, 69, 70, 71, 72, 73, 74, 75, 76, 77, 78, 79, 80, 81] (by decide +kernel) (by decide +kernel)) (goodIn_sub (fun _ h => List.mem_cons_of_mem _ (List.mem_append_right _ h)) (by decide +kernel))
set_option maxRecDepth 20000 in
theorem gX6_canClose_X6_reason : GoodIn wsX6_canClose (wsV RX6 120 RX6 yX6_reason wsX6_reason) := goodIn_app (goodIn_of _ (by decide +kernel)) ggX6_canClose_X6_reason
theorem dX6_canClose_0 : decode cX6_canClose 0 = .ok (.aload_n 0, 1) := by decide +kernel
theorem dX6_canClose_1 : decode cX6_canClose 1 = .ok (.aload_n 0, 1) := by decide +kernel
theorem dX6_canClose_2 : decode cX6_canClose 2 = .ok (.iload_n 1, 1) := by decide +kernel
theorem dX6_canClose_3 : decode cX6_canClose 3 = .ok (.invokevirtual 113, 3) := by decide +kernel
theorem dX6_canClose_6 : decode cX6_canClose 6 = .ok (.invokevirtual 116, 3) := by decide +kernel
theorem dX6_canClose_9 : decode cX6_canClose 9 = .ok (.ifCond .eq 11, 3) := by decide +kernel
theorem dX6_canClose_12 : decode cX6_canClose 12 = .ok (.aload_n 0, 1) := by decide +kernel
theorem dX6_canClose_13 : decode cX6_canClose 13 = .ok (.iload_n 1, 1) := by decide +kernel
theorem dX6_canClose_14 : decode cX6_canClose 14 = .ok (.invokevirtual 120, 3) := by decide +kernel
theorem dX6_canClose_17 : decode cX6_canClose 17 = .ok (.goto 4, 3) := by decide +kernel
theorem dX6_canClose_20 : decode cX6_canClose 20 = .ok (.iconst 0, 1) := by decide +kernel
theorem dX6_canClose_21 : decode cX6_canClose 21 = .ok (.ireturn, 1) := by decide +kernel
set_option maxRecDepth 20000 in
theorem ggX6_canOpen_X6_isLine : GoodIn wsX6_canOpen wsX6_isLine := goodIn_r _ [5, 6, 7, 8, 4, 9, 47, 48, 49, 50, 51, 52, 53, 54, 55, 56, 57, 58, 59, 60, 61, 62, 63, 64, 65, 66, 67, 68, 69, 70, 71, 72, 73] (by decide +kernel) (by decide +kernel)
set_option maxRecDepth 20000 in
theorem gX6_canOpen_X6_isLine : GoodIn wsX6_canOpen (wsV RX6 113 RX6 yX6_isLine wsX6_isLine) := goodIn_app (goodIn_of _ (by decide +kernel)) ggX6_canOpen_X6_isLine
set_option maxRecDepth 20000 in
theorem ggX6_canOpen_X6_isThere : GoodIn wsX6_canOpen wsX6_isThere := goodIn_r _ [13, 14, 47, 48, 49, 50, 51, 52, 53, 54, 55, 56, 57, 58, 59, 60, 61, 62, 63, 64, 65, 66, 67, 68, 69, 70, 71, 72, 73] (by decide +kernel) (by decide +kernel)
set_option maxRecDepth 20000 in
theorem gX6_canOpen_X6_isThere : GoodIn wsX6_canOpen (wsV RX6 116 RX6 yX6_isThere wsX6_isThere) := goodIn_app (goodIn_of _ (by decide +kernel)) ggX6_canOpen_X6_isThere
set_option maxRecDepth 20000 in
theorem ggX6_canOpen_X6_reasonToOpen : GoodIn wsX6_canOpen wsX6_reasonToOpen := goodIn_ca (goodIn_r _ [18, 19, 20, 21, 22, 23, 4, 24, 25, 26, 27, 28, 29, 30, 31, 32, 33, 34, 35, 36, 6, 37, 38, 39, 40, 41, 42, 43, 44, 45, 46, 47, 48, 49, 50, 51, 52, 53, 54, 55, 56, 57, 58, 59, 60, 61, 62, 63, 64, 65, 66, 67, 68, 69, 70, 71, 72, 73] (by decide +kernel) (by decide +kernel)) (goodIn_sub (fun _ h => List.mem_cons_of_mem _ (List.mem_append_right _ h)) (by decide +kernel))
set_option maxRecDepth 20000 in
theorem gX6_canOpen_X6_reasonToOpen : GoodIn wsX6_canOpen (wsV RX6 124 RX6 yX6_reasonToOpen wsX6_reasonToOpen) := goodIn_app (goodIn_of _ (by decide +kernel)) ggX6_canOpen_X6_reasonToOpen
theorem dX6_canOpen_0 : decode cX6_canOpen 0 = .ok (.aload_n 0, 1) := by decide +kernel
theorem dX6_canOpen_1 : decode cX6_canOpen 1 = .ok (.aload_n 0, 1) := by decide +kernel
theorem dX6_canOpen_2 : decode cX6_canOpen 2 = .ok (.iload_n 1, 1) := by decide +kernel
theorem dX6_canOpen_3 : decode cX6_canOpen 3 = .ok (.invokevirtual 113, 3) := by decide +kernel
theorem dX6_canOpen_6 : decode cX6_canOpen 6 = .ok (.invokevirtual 116, 3) := by decide +kernel
theorem dX6_canOpen_9 : decode cX6_canOpen 9 = .ok (.ifCond .eq 11, 3) := by decide +kernel
theorem dX6_canOpen_12 : decode cX6_canOpen 12 = .ok (.aload_n 0, 1) := by decide +kernel
theorem dX6_canOpen_13 : decode cX6_canOpen 13 = .ok (.iload_n 1, 1) := by decide +kernel
theorem dX6_canOpen_14 : decode cX6_canOpen 14 = .ok (.invokevirtual 124, 3) := by decide +kernel
theorem dX6_canOpen_17 : decode cX6_canOpen 17 = .ok (.goto 4, 3) := by decide +kernel
theorem dX6_canOpen_20 : decode cX6_canOpen 20 = .ok (.iconst 0, 1) := by decide +kernel
theorem dX6_canOpen_21 : decode cX6_canOpen 21 = .ok (.ireturn, 1) := by decide +kernel
set_option maxRecDepth 20000 in
theorem ggX6_overloaded_X6_isLine : GoodIn wsX6_overloaded wsX6_isLine := goodIn_r _ [5, 6, 7, 8, 4, 9, 59, 60, 61, 62, 63, 64, 65, 66, 67, 68, 69, 70, 71, 72, 73, 74, 75, 76, 77, 78, 79, 80, 81, 82, 83, 84, 85] (by decide +kernel) (by decide +kernel)
set_option maxRecDepth 20000 in
theorem gX6_overloaded_X6_isLine : GoodIn wsX6_overloaded (wsV RX6 113 RX6 yX6_isLine wsX6_isLine) := goodIn_app (goodIn_of _ (by decide +kernel)) ggX6_overloaded_X6_isLine
set_option maxRecDepth 20000 in
theorem ggX6_overloaded_X6_isThere : GoodIn wsX6_overloaded wsX6_isThere := goodIn_r _ [13, 14, 59, 60, 61, 62, 63, 64, 65, 66, 67, 68, 69, 70, 71, 72, 73, 74, 75, 76, 77, 78, 79, 80, 81, 82, 83, 84, 85] (by decide +kernel) (by decide +kernel)
set_option maxRecDepth 20000 in
theorem gX6_overloaded_X6_isThere : GoodIn wsX6_overloaded (wsV RX6 116 RX6 yX6_isThere wsX6_isThere) := goodIn_app (goodIn_of _ (by decide +kernel)) ggX6_overloaded_X6_isThere
set_option maxRecDepth 20000 in
theorem ggX6_overloaded_X6_reason : GoodIn wsX6_overloaded wsX6_reason := goodIn_ca (goodIn_r _ [18, 19, 20, 21, 22, 23, 24, 25, 26, 27, 28, 29, 4, 30, 31, 6, 32, 33, 34, 35, 36, 37, 38, 39, 40, 41, 42, 43, 44, 45, 46, 47, 48, 49, 50, 51, 52, 53, 54, 59, 60, 61, 62, 63, 64, 65, 66, 67, 68, 69, 70, 71, 72, 73, 74, 75, 76, 77, 78, 79, 80, 81, 82, 83, 84, 85] (by decide +kernel) (by decide +kernel)) (goodIn_sub (fun _ h => List.mem_cons_of_mem _ (List.mem_append_right _ h)) (by decide +kernel))
set_option maxRecDepth 20000 in
theorem gX6_overloaded_X6_reason : GoodIn wsX6_overloaded (wsV RX6 120 RX6 yX6_reason wsX6_reason) := goodIn_app (goodIn_of _ (by decide +kernel)) ggX6_overloaded_X6_reason
set_option maxRecDepth 20000 in
theorem ggX6_overloaded_X6_tooMuch : GoodIn wsX6_overloaded wsX6_tooMuch := goodIn_ca (goodIn_r _ [49, 6, 19, 50, 51, 52, 53, 4, 54, 22, 23, 24, 27, 28, 29, 30, 31, 32, 33, 34, 35, 36, 41, 42, 43, 44, 45, 59, 60, 61, 62, 63, 64, 65, 66, 67, 68, 69, 70, 71, 72, 73, 74, 75, 76, 77, 78, 79, 80, 81, 82, 83, 84, 85] (by decide +kernel) (by decide +kernel)) (goodIn_sub (fun _ h => List.mem_cons_of_mem _ (List.mem_append_right _ h)) (by decide +kernel))
set_option maxRecDepth 20000 in
theorem gX6_overloaded_X6_tooMuch : GoodIn wsX6_overloaded (wsV RX6 107 RX6 yX6_tooMuch wsX6_tooMuch) := goodIn_app (goodIn_of _ (by decide +kernel)) ggX6_overloaded_X6_tooMuch
set_option maxRecDepth 20000 in
theorem ggX6_overloaded_X6_fails : GoodIn wsX6_overloaded wsX6_fails := goodIn_r _ [58, 14, 59, 60, 61, 62, 63, 64, 65, 66, 67, 68, 69, 70, 71, 72, 73, 74, 75, 76, 77, 78, 79, 80, 81, 82, 83, 84, 85] (by decide +kernel) (by decide +kernel)
set_option maxRecDepth 20000 in
theorem gX6_overloaded_X6_fails : GoodIn wsX6_overloaded (wsV RX6 82 RX6 yX6_fails wsX6_fails) := goodIn_app (goodIn_of _ (by decide +kernel)) ggX6_overloaded_X6_fails
theorem dX6_overloaded_0 : decode cX6_overloaded 0 = .ok (.aload_n 0, 1) := by decide +kernel
theorem dX6_overloaded_1 : decode cX6_overloaded 1 = .ok (.aload_n 0, 1) := by decide +kernel
theorem dX6_overloaded_2 : decode cX6_overloaded 2 = .ok (.iload_n 1, 1) := by decide +kernel
theorem dX6_overloaded_3 : decode cX6_overloaded 3 = .ok (.invokevirtual 113, 3) := by decide +kernel
theorem dX6_overloaded_6 : decode cX6_overloaded 6 = .ok (.invokevirtual 116, 3) := by decide +kernel
theorem dX6_overloaded_9 : decode cX6_overloaded 9 = .ok (.ifCond .ne 5, 3) := by decide +kernel
theorem dX6_overloaded_12 : decode cX6_overloaded 12 = .ok (.iconst 0, 1) := by decide +kernel
theorem dX6_overloaded_13 : decode cX6_overloaded 13 = .ok (.ireturn, 1) := by decide +kernel
theorem dX6_overloaded_14 : decode cX6_overloaded 14 = .ok (.aload_n 0, 1) := by decide +kernel
theorem dX6_overloaded_15 : decode cX6_overloaded 15 = .ok (.iload_n 1, 1) := by decide +kernel
theorem dX6_overloaded_16 : decode cX6_overloaded 16 = .ok (.invokevirtual 120, 3) := by decide +kernel
theorem dX6_overloaded_19 : decode cX6_overloaded 19 = .ok (.bipush 108, 2) := by decide +kernel
theorem dX6_overloaded_21 : decode cX6_overloaded 21 = .ok (.if_icmp .ne 11, 3) := by decide +kernel
theorem dX6_overloaded_24 : decode cX6_overloaded 24 = .ok (.aload_n 0, 1) := by decide +kernel
theorem dX6_overloaded_25 : decode cX6_overloaded 25 = .ok (.iload_n 1, 1) := by decide +kernel
theorem dX6_overloaded_26 : decode cX6_overloaded 26 = .ok (.invokevirtual 107, 3) := by decide +kernel
theorem dX6_overloaded_29 : decode cX6_overloaded 29 = .ok (.goto 8, 3) := by decide +kernel
theorem dX6_overloaded_32 : decode cX6_overloaded 32 = .ok (.aload_n 0, 1) := by decide +kernel
theorem dX6_overloaded_33 : decode cX6_overloaded 33 = .ok (.iconst 2, 1) := by decide +kernel
theorem dX6_overloaded_34 : decode cX6_overloaded 34 = .ok (.invokevirtual 82, 3) := by decide +kernel
theorem dX6_overloaded_37 : decode cX6_overloaded 37 = .ok (.ireturn, 1) := by decide +kernel
set_option maxRecDepth 20000 in
theorem ggX6_finds_X6_paints : GoodIn wsX6_finds wsX6_paints := goodIn_ca (goodIn_r _ [14, 5, 3, 7, 2, 4, 8, 20, 21, 22, 23, 24, 25, 26, 27, 28, 29, 30, 31, 32, 33, 34, 35, 36, 37, 38, 39, 40, 41, 42, 43, 44, 45, 46] (by decide +kernel) (by decide +kernel)) (goodIn_sub (fun _ h => List.mem_cons_of_mem _ (List.mem_append_right _ h)) (by decide +kernel))
set_option maxRecDepth 20000 in
theorem gX6_finds_X6_paints : GoodIn wsX6_finds (wsV RX6 90 RX6 yX6_paints wsX6_paints) := goodIn_app (goodIn_of _ (by decide +kernel)) ggX6_finds_X6_paints
set_option maxRecDepth 20000 in
theorem ggX6_finds_X6_source : GoodIn wsX6_finds wsX6_source := goodIn_ca (goodIn_r _ [18, 5, 19, 3, 20, 21, 22, 23, 24, 25, 26, 27, 28, 29, 30, 31, 32, 33, 34, 35, 36, 37, 38, 39, 40, 41, 42, 43, 44, 45, 46] (by decide +kernel) (by decide +kernel)) (goodIn_sub (fun _ h => List.mem_cons_of_mem _ (List.mem_append_right _ h)) (by decide +kernel))
set_option maxRecDepth 20000 in
theorem gX6_finds_X6_source : GoodIn wsX6_finds (wsV RX6 94 RX6 yX6_source wsX6_source) := goodIn_app (goodIn_of _ (by decide +kernel)) ggX6_finds_X6_source
theorem dX6_finds_0 : decode cX6_finds 0 = .ok (.aload_n 0, 1) := by decide +kernel
theorem dX6_finds_1 : decode cX6_finds 1 = .ok (.iconst 0, 1) := by decide +kernel
theorem dX6_finds_2 : decode cX6_finds 2 = .ok (.putfield 127, 3) := by decide +kernel
theorem dX6_finds_5 : decode cX6_finds 5 = .ok (.aload_n 0, 1) := by decide +kernel
theorem dX6_finds_6 : decode cX6_finds 6 = .ok (.getfield 44, 3) := by decide +kernel
theorem dX6_finds_9 : decode cX6_finds 9 = .ok (.iload_n 1, 1) := by decide +kernel
theorem dX6_finds_10 : decode cX6_finds 10 = .ok (.baload, 1) := by decide +kernel
theorem dX6_finds_11 : decode cX6_finds 11 = .ok (.ifCond .ne 5, 3) := by decide +kernel
theorem dX6_finds_14 : decode cX6_finds 14 = .ok (.iconst 0, 1) := by decide +kernel
theorem dX6_finds_15 : decode cX6_finds 15 = .ok (.ireturn, 1) := by decide +kernel
theorem dX6_finds_16 : decode cX6_finds 16 = .ok (.aload_n 0, 1) := by decide +kernel
theorem dX6_finds_17 : decode cX6_finds 17 = .ok (.iconst (-1), 1) := by decide +kernel
theorem dX6_finds_18 : decode cX6_finds 18 = .ok (.iconst (-1), 1) := by decide +kernel
theorem dX6_finds_19 : decode cX6_finds 19 = .ok (.invokevirtual 90, 3) := by decide +kernel
theorem dX6_finds_22 : decode cX6_finds 22 = .ok (.aload_n 0, 1) := by decide +kernel
theorem dX6_finds_23 : decode cX6_finds 23 = .ok (.aload_n 0, 1) := by decide +kernel
theorem dX6_finds_24 : decode cX6_finds 24 = .ok (.getfield 53, 3) := by decide +kernel
theorem dX6_finds_27 : decode cX6_finds 27 = .ok (.aload_n 0, 1) := by decide +kernel
theorem dX6_finds_28 : decode cX6_finds 28 = .ok (.getfield 23, 3) := by decide +kernel
theorem dX6_finds_31 : decode cX6_finds 31 = .ok (.iload_n 1, 1) := by decide +kernel
theorem dX6_finds_32 : decode cX6_finds 32 = .ok (.iaload, 1) := by decide +kernel
theorem dX6_finds_33 : decode cX6_finds 33 = .ok (.iaload, 1) := by decide +kernel
theorem dX6_finds_34 : decode cX6_finds 34 = .ok (.invokevirtual 94, 3) := by decide +kernel
theorem dX6_finds_37 : decode cX6_finds 37 = .ok (.istore_n 2, 1) := by decide +kernel
theorem dX6_finds_38 : decode cX6_finds 38 = .ok (.iload_n 2, 1) := by decide +kernel
theorem dX6_finds_39 : decode cX6_finds 39 = .ok (.iconst (-1), 1) := by decide +kernel
theorem dX6_finds_40 : decode cX6_finds 40 = .ok (.if_icmp .ne 5, 3) := by decide +kernel
theorem dX6_finds_43 : decode cX6_finds 43 = .ok (.iconst 0, 1) := by decide +kernel
theorem dX6_finds_44 : decode cX6_finds 44 = .ok (.ireturn, 1) := by decide +kernel
theorem dX6_finds_45 : decode cX6_finds 45 = .ok (.iconst 0, 1) := by decide +kernel
theorem dX6_finds_46 : decode cX6_finds 46 = .ok (.istore_n 3, 1) := by decide +kernel
theorem dX6_finds_47 : decode cX6_finds 47 = .ok (.iload_n 3, 1) := by decide +kernel
theorem dX6_finds_48 : decode cX6_finds 48 = .ok (.aload_n 0, 1) := by decide +kernel
theorem dX6_finds_49 : decode cX6_finds 49 = .ok (.getfield 72, 3) := by decide +kernel
theorem dX6_finds_52 : decode cX6_finds 52 = .ok (.if_icmp .ge 16, 3) := by decide +kernel
theorem dX6_finds_55 : decode cX6_finds 55 = .ok (.aload_n 0, 1) := by decide +kernel
theorem dX6_finds_56 : decode cX6_finds 56 = .ok (.getfield 59, 3) := by decide +kernel
theorem dX6_finds_59 : decode cX6_finds 59 = .ok (.iload_n 3, 1) := by decide +kernel
theorem dX6_finds_60 : decode cX6_finds 60 = .ok (.iconst (-1), 1) := by decide +kernel
theorem dX6_finds_61 : decode cX6_finds 61 = .ok (.iastore, 1) := by decide +kernel
theorem dX6_finds_62 : decode cX6_finds 62 = .ok (.iinc 3 1, 3) := by decide +kernel
theorem dX6_finds_65 : decode cX6_finds 65 = .ok (.goto (-18), 3) := by decide +kernel
theorem dX6_finds_68 : decode cX6_finds 68 = .ok (.iconst 1, 1) := by decide +kernel
theorem dX6_finds_69 : decode cX6_finds 69 = .ok (.istore_n 3, 1) := by decide +kernel
theorem dX6_finds_70 : decode cX6_finds 70 = .ok (.iload_n 3, 1) := by decide +kernel
theorem dX6_finds_71 : decode cX6_finds 71 = .ok (.ifCond .eq 148, 3) := by decide +kernel
theorem dX6_finds_74 : decode cX6_finds 74 = .ok (.iconst 0, 1) := by decide +kernel
theorem dX6_finds_75 : decode cX6_finds 75 = .ok (.istore_n 3, 1) := by decide +kernel
theorem dX6_finds_76 : decode cX6_finds 76 = .ok (.iconst 0, 1) := by decide +kernel
theorem dX6_finds_77 : decode cX6_finds 77 = .ok (.istore 4, 2) := by decide +kernel
theorem dX6_finds_79 : decode cX6_finds 79 = .ok (.iload 4, 2) := by decide +kernel
theorem dX6_finds_81 : decode cX6_finds 81 = .ok (.aload_n 0, 1) := by decide +kernel
theorem dX6_finds_82 : decode cX6_finds 82 = .ok (.getfield 79, 3) := by decide +kernel
theorem dX6_finds_85 : decode cX6_finds 85 = .ok (.if_icmp .ge 131, 3) := by decide +kernel
theorem dX6_finds_88 : decode cX6_finds 88 = .ok (.aload_n 0, 1) := by decide +kernel
theorem dX6_finds_89 : decode cX6_finds 89 = .ok (.getfield 44, 3) := by decide +kernel
theorem dX6_finds_92 : decode cX6_finds 92 = .ok (.iload 4, 2) := by decide +kernel
theorem dX6_finds_94 : decode cX6_finds 94 = .ok (.baload, 1) := by decide +kernel
theorem dX6_finds_95 : decode cX6_finds 95 = .ok (.ifCond .ne 6, 3) := by decide +kernel
theorem dX6_finds_98 : decode cX6_finds 98 = .ok (.goto 112, 3) := by decide +kernel
theorem dX6_finds_101 : decode cX6_finds 101 = .ok (.aload_n 0, 1) := by decide +kernel
theorem dX6_finds_102 : decode cX6_finds 102 = .ok (.getfield 23, 3) := by decide +kernel
theorem dX6_finds_105 : decode cX6_finds 105 = .ok (.iload 4, 2) := by decide +kernel
theorem dX6_finds_107 : decode cX6_finds 107 = .ok (.iaload, 1) := by decide +kernel
theorem dX6_finds_108 : decode cX6_finds 108 = .ok (.iload_n 2, 1) := by decide +kernel
theorem dX6_finds_109 : decode cX6_finds 109 = .ok (.if_icmp .eq 19, 3) := by decide +kernel
theorem dX6_finds_112 : decode cX6_finds 112 = .ok (.aload_n 0, 1) := by decide +kernel
theorem dX6_finds_113 : decode cX6_finds 113 = .ok (.getfield 59, 3) := by decide +kernel
theorem dX6_finds_116 : decode cX6_finds 116 = .ok (.aload_n 0, 1) := by decide +kernel
theorem dX6_finds_117 : decode cX6_finds 117 = .ok (.getfield 23, 3) := by decide +kernel
theorem dX6_finds_120 : decode cX6_finds 120 = .ok (.iload 4, 2) := by decide +kernel
theorem dX6_finds_122 : decode cX6_finds 122 = .ok (.iaload, 1) := by decide +kernel
theorem dX6_finds_123 : decode cX6_finds 123 = .ok (.iaload, 1) := by decide +kernel
theorem dX6_finds_124 : decode cX6_finds 124 = .ok (.iconst (-1), 1) := by decide +kernel
theorem dX6_finds_125 : decode cX6_finds 125 = .ok (.if_icmp .eq 7, 3) := by decide +kernel
theorem dX6_finds_128 : decode cX6_finds 128 = .ok (.iconst 1, 1) := by decide +kernel
theorem dX6_finds_129 : decode cX6_finds 129 = .ok (.goto 4, 3) := by decide +kernel
theorem dX6_finds_132 : decode cX6_finds 132 = .ok (.iconst 0, 1) := by decide +kernel
theorem dX6_finds_133 : decode cX6_finds 133 = .ok (.istore 5, 2) := by decide +kernel
theorem dX6_finds_135 : decode cX6_finds 135 = .ok (.aload_n 0, 1) := by decide +kernel
theorem dX6_finds_136 : decode cX6_finds 136 = .ok (.getfield 26, 3) := by decide +kernel
theorem dX6_finds_139 : decode cX6_finds 139 = .ok (.iload 4, 2) := by decide +kernel
theorem dX6_finds_141 : decode cX6_finds 141 = .ok (.iaload, 1) := by decide +kernel
theorem dX6_finds_142 : decode cX6_finds 142 = .ok (.iload_n 2, 1) := by decide +kernel
theorem dX6_finds_143 : decode cX6_finds 143 = .ok (.if_icmp .eq 19, 3) := by decide +kernel
theorem dX6_finds_146 : decode cX6_finds 146 = .ok (.aload_n 0, 1) := by decide +kernel
theorem dX6_finds_147 : decode cX6_finds 147 = .ok (.getfield 59, 3) := by decide +kernel
theorem dX6_finds_150 : decode cX6_finds 150 = .ok (.aload_n 0, 1) := by decide +kernel
theorem dX6_finds_151 : decode cX6_finds 151 = .ok (.getfield 26, 3) := by decide +kernel
theorem dX6_finds_154 : decode cX6_finds 154 = .ok (.iload 4, 2) := by decide +kernel
theorem dX6_finds_156 : decode cX6_finds 156 = .ok (.iaload, 1) := by decide +kernel
theorem dX6_finds_157 : decode cX6_finds 157 = .ok (.iaload, 1) := by decide +kernel
theorem dX6_finds_158 : decode cX6_finds 158 = .ok (.iconst (-1), 1) := by decide +kernel
theorem dX6_finds_159 : decode cX6_finds 159 = .ok (.if_icmp .eq 7, 3) := by decide +kernel
theorem dX6_finds_162 : decode cX6_finds 162 = .ok (.iconst 1, 1) := by decide +kernel
theorem dX6_finds_163 : decode cX6_finds 163 = .ok (.goto 4, 3) := by decide +kernel
theorem dX6_finds_166 : decode cX6_finds 166 = .ok (.iconst 0, 1) := by decide +kernel
theorem dX6_finds_167 : decode cX6_finds 167 = .ok (.istore 6, 2) := by decide +kernel
theorem dX6_finds_169 : decode cX6_finds 169 = .ok (.iload 5, 2) := by decide +kernel
theorem dX6_finds_171 : decode cX6_finds 171 = .ok (.iload 6, 2) := by decide +kernel
theorem dX6_finds_173 : decode cX6_finds 173 = .ok (.if_icmp .ne 6, 3) := by decide +kernel
theorem dX6_finds_176 : decode cX6_finds 176 = .ok (.goto 34, 3) := by decide +kernel
theorem dX6_finds_179 : decode cX6_finds 179 = .ok (.aload_n 0, 1) := by decide +kernel
theorem dX6_finds_180 : decode cX6_finds 180 = .ok (.getfield 59, 3) := by decide +kernel
theorem dX6_finds_183 : decode cX6_finds 183 = .ok (.iload 5, 2) := by decide +kernel
theorem dX6_finds_185 : decode cX6_finds 185 = .ok (.ifCond .eq 13, 3) := by decide +kernel
theorem dX6_finds_188 : decode cX6_finds 188 = .ok (.aload_n 0, 1) := by decide +kernel
theorem dX6_finds_189 : decode cX6_finds 189 = .ok (.getfield 26, 3) := by decide +kernel
theorem dX6_finds_192 : decode cX6_finds 192 = .ok (.iload 4, 2) := by decide +kernel
theorem dX6_finds_194 : decode cX6_finds 194 = .ok (.iaload, 1) := by decide +kernel
theorem dX6_finds_195 : decode cX6_finds 195 = .ok (.goto 10, 3) := by decide +kernel
theorem dX6_finds_198 : decode cX6_finds 198 = .ok (.aload_n 0, 1) := by decide +kernel
theorem dX6_finds_199 : decode cX6_finds 199 = .ok (.getfield 23, 3) := by decide +kernel
theorem dX6_finds_202 : decode cX6_finds 202 = .ok (.iload 4, 2) := by decide +kernel
theorem dX6_finds_204 : decode cX6_finds 204 = .ok (.iaload, 1) := by decide +kernel
theorem dX6_finds_205 : decode cX6_finds 205 = .ok (.iload 4, 2) := by decide +kernel
theorem dX6_finds_207 : decode cX6_finds 207 = .ok (.iastore, 1) := by decide +kernel
theorem dX6_finds_208 : decode cX6_finds 208 = .ok (.iconst 1, 1) := by decide +kernel
theorem dX6_finds_209 : decode cX6_finds 209 = .ok (.istore_n 3, 1) := by decide +kernel
theorem dX6_finds_210 : decode cX6_finds 210 = .ok (.iinc 4 1, 3) := by decide +kernel
theorem dX6_finds_213 : decode cX6_finds 213 = .ok (.goto (-134), 3) := by decide +kernel
theorem dX6_finds_216 : decode cX6_finds 216 = .ok (.goto (-146), 3) := by decide +kernel
theorem dX6_finds_219 : decode cX6_finds 219 = .ok (.aload_n 0, 1) := by decide +kernel
theorem dX6_finds_220 : decode cX6_finds 220 = .ok (.getfield 59, 3) := by decide +kernel
theorem dX6_finds_223 : decode cX6_finds 223 = .ok (.aload_n 0, 1) := by decide +kernel
theorem dX6_finds_224 : decode cX6_finds 224 = .ok (.getfield 23, 3) := by decide +kernel
theorem dX6_finds_227 : decode cX6_finds 227 = .ok (.iload_n 1, 1) := by decide +kernel
theorem dX6_finds_228 : decode cX6_finds 228 = .ok (.iaload, 1) := by decide +kernel
theorem dX6_finds_229 : decode cX6_finds 229 = .ok (.iaload, 1) := by decide +kernel
theorem dX6_finds_230 : decode cX6_finds 230 = .ok (.iload_n 1, 1) := by decide +kernel
theorem dX6_finds_231 : decode cX6_finds 231 = .ok (.if_icmp .ne 12, 3) := by decide +kernel
theorem dX6_finds_234 : decode cX6_finds 234 = .ok (.aload_n 0, 1) := by decide +kernel
theorem dX6_finds_235 : decode cX6_finds 235 = .ok (.getfield 23, 3) := by decide +kernel
theorem dX6_finds_238 : decode cX6_finds 238 = .ok (.iload_n 1, 1) := by decide +kernel
theorem dX6_finds_239 : decode cX6_finds 239 = .ok (.iaload, 1) := by decide +kernel
theorem dX6_finds_240 : decode cX6_finds 240 = .ok (.goto 9, 3) := by decide +kernel
theorem dX6_finds_243 : decode cX6_finds 243 = .ok (.aload_n 0, 1) := by decide +kernel
theorem dX6_finds_244 : decode cX6_finds 244 = .ok (.getfield 26, 3) := by decide +kernel
theorem dX6_finds_247 : decode cX6_finds 247 = .ok (.iload_n 1, 1) := by decide +kernel
theorem dX6_finds_248 : decode cX6_finds 248 = .ok (.iaload, 1) := by decide +kernel
theorem dX6_finds_249 : decode cX6_finds 249 = .ok (.istore 4, 2) := by decide +kernel
theorem dX6_finds_251 : decode cX6_finds 251 = .ok (.iload 4, 2) := by decide +kernel
theorem dX6_finds_253 : decode cX6_finds 253 = .ok (.iload_n 2, 1) := by decide +kernel
theorem dX6_finds_254 : decode cX6_finds 254 = .ok (.if_icmp .eq 97, 3) := by decide +kernel
theorem dX6_finds_257 : decode cX6_finds 257 = .ok (.aload_n 0, 1) := by decide +kernel
theorem dX6_finds_258 : decode cX6_finds 258 = .ok (.getfield 59, 3) := by decide +kernel
theorem dX6_finds_261 : decode cX6_finds 261 = .ok (.iload 4, 2) := by decide +kernel
theorem dX6_finds_263 : decode cX6_finds 263 = .ok (.iaload, 1) := by decide +kernel
theorem dX6_finds_264 : decode cX6_finds 264 = .ok (.istore 5, 2) := by decide +kernel
theorem dX6_finds_266 : decode cX6_finds 266 = .ok (.aload_n 0, 1) := by decide +kernel
theorem dX6_finds_267 : decode cX6_finds 267 = .ok (.getfield 127, 3) := by decide +kernel
theorem dX6_finds_270 : decode cX6_finds 270 = .ok (.istore 6, 2) := by decide +kernel
theorem dX6_finds_272 : decode cX6_finds 272 = .ok (.iload 6, 2) := by decide +kernel
theorem dX6_finds_274 : decode cX6_finds 274 = .ok (.ifCond .le 25, 3) := by decide +kernel
theorem dX6_finds_277 : decode cX6_finds 277 = .ok (.aload_n 0, 1) := by decide +kernel
theorem dX6_finds_278 : decode cX6_finds 278 = .ok (.getfield 56, 3) := by decide +kernel
theorem dX6_finds_281 : decode cX6_finds 281 = .ok (.iload 6, 2) := by decide +kernel
theorem dX6_finds_283 : decode cX6_finds 283 = .ok (.aload_n 0, 1) := by decide +kernel
theorem dX6_finds_284 : decode cX6_finds 284 = .ok (.getfield 56, 3) := by decide +kernel
theorem dX6_finds_287 : decode cX6_finds 287 = .ok (.iload 6, 2) := by decide +kernel
theorem dX6_finds_289 : decode cX6_finds 289 = .ok (.iconst 1, 1) := by decide +kernel
theorem dX6_finds_290 : decode cX6_finds 290 = .ok (.isub, 1) := by decide +kernel
theorem dX6_finds_291 : decode cX6_finds 291 = .ok (.iaload, 1) := by decide +kernel
theorem dX6_finds_292 : decode cX6_finds 292 = .ok (.iastore, 1) := by decide +kernel
theorem dX6_finds_293 : decode cX6_finds 293 = .ok (.iinc 6 (-1), 3) := by decide +kernel
theorem dX6_finds_296 : decode cX6_finds 296 = .ok (.goto (-24), 3) := by decide +kernel
theorem dX6_finds_299 : decode cX6_finds 299 = .ok (.aload_n 0, 1) := by decide +kernel
theorem dX6_finds_300 : decode cX6_finds 300 = .ok (.getfield 56, 3) := by decide +kernel
theorem dX6_finds_303 : decode cX6_finds 303 = .ok (.iconst 0, 1) := by decide +kernel
theorem dX6_finds_304 : decode cX6_finds 304 = .ok (.iload 5, 2) := by decide +kernel
theorem dX6_finds_306 : decode cX6_finds 306 = .ok (.iastore, 1) := by decide +kernel
theorem dX6_finds_307 : decode cX6_finds 307 = .ok (.aload_n 0, 1) := by decide +kernel
theorem dX6_finds_308 : decode cX6_finds 308 = .ok (.dup, 1) := by decide +kernel
theorem dX6_finds_309 : decode cX6_finds 309 = .ok (.getfield 127, 3) := by decide +kernel
theorem dX6_finds_312 : decode cX6_finds 312 = .ok (.iconst 1, 1) := by decide +kernel
theorem dX6_finds_313 : decode cX6_finds 313 = .ok (.iadd, 1) := by decide +kernel
theorem dX6_finds_314 : decode cX6_finds 314 = .ok (.putfield 127, 3) := by decide +kernel
theorem dX6_finds_317 : decode cX6_finds 317 = .ok (.aload_n 0, 1) := by decide +kernel
theorem dX6_finds_318 : decode cX6_finds 318 = .ok (.getfield 23, 3) := by decide +kernel
theorem dX6_finds_321 : decode cX6_finds 321 = .ok (.iload 5, 2) := by decide +kernel
theorem dX6_finds_323 : decode cX6_finds 323 = .ok (.iaload, 1) := by decide +kernel
theorem dX6_finds_324 : decode cX6_finds 324 = .ok (.iload 4, 2) := by decide +kernel
theorem dX6_finds_326 : decode cX6_finds 326 = .ok (.if_icmp .ne 13, 3) := by decide +kernel
theorem dX6_finds_329 : decode cX6_finds 329 = .ok (.aload_n 0, 1) := by decide +kernel
theorem dX6_finds_330 : decode cX6_finds 330 = .ok (.getfield 26, 3) := by decide +kernel
theorem dX6_finds_333 : decode cX6_finds 333 = .ok (.iload 5, 2) := by decide +kernel
theorem dX6_finds_335 : decode cX6_finds 335 = .ok (.iaload, 1) := by decide +kernel
theorem dX6_finds_336 : decode cX6_finds 336 = .ok (.goto 10, 3) := by decide +kernel
theorem dX6_finds_339 : decode cX6_finds 339 = .ok (.aload_n 0, 1) := by decide +kernel
theorem dX6_finds_340 : decode cX6_finds 340 = .ok (.getfield 23, 3) := by decide +kernel
theorem dX6_finds_343 : decode cX6_finds 343 = .ok (.iload 5, 2) := by decide +kernel
theorem dX6_finds_345 : decode cX6_finds 345 = .ok (.iaload, 1) := by decide +kernel
theorem dX6_finds_346 : decode cX6_finds 346 = .ok (.istore 4, 2) := by decide +kernel
theorem dX6_finds_348 : decode cX6_finds 348 = .ok (.goto (-97), 3) := by decide +kernel
theorem dX6_finds_351 : decode cX6_finds 351 = .ok (.iconst 1, 1) := by decide +kernel
theorem dX6_finds_352 : decode cX6_finds 352 = .ok (.ireturn, 1) := by decide +kernel
theorem dX6_sourceOfPath_0 : decode cX6_sourceOfPath 0 = .ok (.aload_n 0, 1) := by decide +kernel
theorem dX6_sourceOfPath_1 : decode cX6_sourceOfPath 1 = .ok (.getfield 56, 3) := by decide +kernel
theorem dX6_sourceOfPath_4 : decode cX6_sourceOfPath 4 = .ok (.iconst 0, 1) := by decide +kernel
theorem dX6_sourceOfPath_5 : decode cX6_sourceOfPath 5 = .ok (.iaload, 1) := by decide +kernel
theorem dX6_sourceOfPath_6 : decode cX6_sourceOfPath 6 = .ok (.istore_n 1, 1) := by decide +kernel
theorem dX6_sourceOfPath_7 : decode cX6_sourceOfPath 7 = .ok (.aload_n 0, 1) := by decide +kernel
theorem dX6_sourceOfPath_8 : decode cX6_sourceOfPath 8 = .ok (.getfield 7, 3) := by decide +kernel
theorem dX6_sourceOfPath_11 : decode cX6_sourceOfPath 11 = .ok (.aload_n 0, 1) := by decide +kernel
theorem dX6_sourceOfPath_12 : decode cX6_sourceOfPath 12 = .ok (.getfield 23, 3) := by decide +kernel
theorem dX6_sourceOfPath_15 : decode cX6_sourceOfPath 15 = .ok (.iload_n 1, 1) := by decide +kernel
theorem dX6_sourceOfPath_16 : decode cX6_sourceOfPath 16 = .ok (.iaload, 1) := by decide +kernel
theorem dX6_sourceOfPath_17 : decode cX6_sourceOfPath 17 = .ok (.baload, 1) := by decide +kernel
theorem dX6_sourceOfPath_18 : decode cX6_sourceOfPath 18 = .ok (.ifCond .eq 12, 3) := by decide +kernel
theorem dX6_sourceOfPath_21 : decode cX6_sourceOfPath 21 = .ok (.aload_n 0, 1) := by decide +kernel
theorem dX6_sourceOfPath_22 : decode cX6_sourceOfPath 22 = .ok (.getfield 23, 3) := by decide +kernel
theorem dX6_sourceOfPath_25 : decode cX6_sourceOfPath 25 = .ok (.iload_n 1, 1) := by decide +kernel
theorem dX6_sourceOfPath_26 : decode cX6_sourceOfPath 26 = .ok (.iaload, 1) := by decide +kernel
theorem dX6_sourceOfPath_27 : decode cX6_sourceOfPath 27 = .ok (.goto 9, 3) := by decide +kernel
theorem dX6_sourceOfPath_30 : decode cX6_sourceOfPath 30 = .ok (.aload_n 0, 1) := by decide +kernel
theorem dX6_sourceOfPath_31 : decode cX6_sourceOfPath 31 = .ok (.getfield 26, 3) := by decide +kernel
theorem dX6_sourceOfPath_34 : decode cX6_sourceOfPath 34 = .ok (.iload_n 1, 1) := by decide +kernel
theorem dX6_sourceOfPath_35 : decode cX6_sourceOfPath 35 = .ok (.iaload, 1) := by decide +kernel
theorem dX6_sourceOfPath_36 : decode cX6_sourceOfPath 36 = .ok (.ireturn, 1) := by decide +kernel
theorem dX6_time_0 : decode cX6_time 0 = .ok (.iload_n 2, 1) := by decide +kernel
theorem dX6_time_1 : decode cX6_time 1 = .ok (.aload_n 0, 1) := by decide +kernel
theorem dX6_time_2 : decode cX6_time 2 = .ok (.getfield 32, 3) := by decide +kernel
theorem dX6_time_5 : decode cX6_time 5 = .ok (.iload_n 1, 1) := by decide +kernel
theorem dX6_time_6 : decode cX6_time 6 = .ok (.iaload, 1) := by decide +kernel
theorem dX6_time_7 : decode cX6_time 7 = .ok (.if_icmp .gt 5, 3) := by decide +kernel
theorem dX6_time_10 : decode cX6_time 10 = .ok (.iconst (-1), 1) := by decide +kernel
theorem dX6_time_11 : decode cX6_time 11 = .ok (.ireturn, 1) := by decide +kernel
theorem dX6_time_12 : decode cX6_time 12 = .ok (.aload_n 0, 1) := by decide +kernel
theorem dX6_time_13 : decode cX6_time 13 = .ok (.getfield 38, 3) := by decide +kernel
theorem dX6_time_16 : decode cX6_time 16 = .ok (.iload_n 1, 1) := by decide +kernel
theorem dX6_time_17 : decode cX6_time 17 = .ok (.iaload, 1) := by decide +kernel
theorem dX6_time_18 : decode cX6_time 18 = .ok (.ifCond .le 17, 3) := by decide +kernel
theorem dX6_time_21 : decode cX6_time 21 = .ok (.aload_n 0, 1) := by decide +kernel
theorem dX6_time_22 : decode cX6_time 22 = .ok (.getfield 38, 3) := by decide +kernel
theorem dX6_time_25 : decode cX6_time 25 = .ok (.iload_n 1, 1) := by decide +kernel
theorem dX6_time_26 : decode cX6_time 26 = .ok (.iaload, 1) := by decide +kernel
theorem dX6_time_27 : decode cX6_time 27 = .ok (.iload_n 2, 1) := by decide +kernel
theorem dX6_time_28 : decode cX6_time 28 = .ok (.if_icmp .gt 7, 3) := by decide +kernel
theorem dX6_time_31 : decode cX6_time 31 = .ok (.iconst 1, 1) := by decide +kernel
theorem dX6_time_32 : decode cX6_time 32 = .ok (.goto 30, 3) := by decide +kernel
theorem dX6_time_35 : decode cX6_time 35 = .ok (.aload_n 0, 1) := by decide +kernel
theorem dX6_time_36 : decode cX6_time 36 = .ok (.getfield 35, 3) := by decide +kernel
theorem dX6_time_39 : decode cX6_time 39 = .ok (.iload_n 1, 1) := by decide +kernel
theorem dX6_time_40 : decode cX6_time 40 = .ok (.iaload, 1) := by decide +kernel
theorem dX6_time_41 : decode cX6_time 41 = .ok (.aload_n 0, 1) := by decide +kernel
theorem dX6_time_42 : decode cX6_time 42 = .ok (.getfield 32, 3) := by decide +kernel
theorem dX6_time_45 : decode cX6_time 45 = .ok (.iload_n 1, 1) := by decide +kernel
theorem dX6_time_46 : decode cX6_time 46 = .ok (.iaload, 1) := by decide +kernel
theorem dX6_time_47 : decode cX6_time 47 = .ok (.imul, 1) := by decide +kernel
theorem dX6_time_48 : decode cX6_time 48 = .ok (.bipush 10, 2) := by decide +kernel
theorem dX6_time_50 : decode cX6_time 50 = .ok (.imul, 1) := by decide +kernel
theorem dX6_time_51 : decode cX6_time 51 = .ok (.iload_n 2, 1) := by decide +kernel
theorem dX6_time_52 : decode cX6_time 52 = .ok (.aload_n 0, 1) := by decide +kernel
theorem dX6_time_53 : decode cX6_time 53 = .ok (.getfield 32, 3) := by decide +kernel
theorem dX6_time_56 : decode cX6_time 56 = .ok (.iload_n 1, 1) := by decide +kernel
theorem dX6_time_57 : decode cX6_time 57 = .ok (.iaload, 1) := by decide +kernel
theorem dX6_time_58 : decode cX6_time 58 = .ok (.isub, 1) := by decide +kernel
theorem dX6_time_59 : decode cX6_time 59 = .ok (.idiv, 1) := by decide +kernel
theorem dX6_time_60 : decode cX6_time 60 = .ok (.iconst 2, 1) := by decide +kernel
theorem dX6_time_61 : decode cX6_time 61 = .ok (.iadd, 1) := by decide +kernel
theorem dX6_time_62 : decode cX6_time 62 = .ok (.ireturn, 1) := by decide +kernel
set_option maxRecDepth 20000 in
theorem ggX6_drawn_X6_sourceOfPath : GoodIn wsX6_drawn wsX6_sourceOfPath := goodIn_ca (goodIn_r _ [7, 8, 9, 10, 11, 12, 13, 14, 15, 16, 17, 18, 19, 20, 21, 22, 23, 24, 25, 26, 27, 28, 29, 30, 31, 32, 33, 34, 35, 36, 37, 38] (by decide +kernel) (by decide +kernel)) (goodIn_sub (fun _ h => List.mem_cons_of_mem _ (List.mem_append_left _ (List.mem_append_right _ h))) (by decide +kernel))
set_option maxRecDepth 20000 in
theorem gX6_drawn_X6_sourceOfPath : GoodIn wsX6_drawn (wsV RX6 130 RX6 yX6_sourceOfPath wsX6_sourceOfPath) := goodIn_app (goodIn_of _ (by decide +kernel)) ggX6_drawn_X6_sourceOfPath
theorem dX6_drawn_0 : decode cX6_drawn 0 = .ok (.aload_n 0, 1) := by decide +kernel
theorem dX6_drawn_1 : decode cX6_drawn 1 = .ok (.getfield 13, 3) := by decide +kernel
theorem dX6_drawn_4 : decode cX6_drawn 4 = .ok (.aload_n 0, 1) := by decide +kernel
theorem dX6_drawn_5 : decode cX6_drawn 5 = .ok (.invokevirtual 130, 3) := by decide +kernel
theorem dX6_drawn_8 : decode cX6_drawn 8 = .ok (.iaload, 1) := by decide +kernel
theorem dX6_drawn_9 : decode cX6_drawn 9 = .ok (.bipush 10, 2) := by decide +kernel
theorem dX6_drawn_11 : decode cX6_drawn 11 = .ok (.imul, 1) := by decide +kernel
theorem dX6_drawn_12 : decode cX6_drawn 12 = .ok (.aload_n 0, 1) := by decide +kernel
theorem dX6_drawn_13 : decode cX6_drawn 13 = .ok (.getfield 127, 3) := by decide +kernel
theorem dX6_drawn_16 : decode cX6_drawn 16 = .ok (.idiv, 1) := by decide +kernel
theorem dX6_drawn_17 : decode cX6_drawn 17 = .ok (.ireturn, 1) := by decide +kernel
set_option maxRecDepth 20000 in
theorem ggX6_tripped_X6_finds : GoodIn wsX6_tripped wsX6_finds := goodIn_ca (goodIn_r _ [8, 1, 9, 10, 11, 12, 13, 14, 15, 2, 16, 17, 18, 7, 19, 20, 21, 22, 23, 24, 41, 42, 43, 44, 45, 46, 47, 48, 49, 50, 51, 52, 53, 54, 55, 56, 57, 58, 59, 60, 61, 62, 63, 64, 65, 66, 67] (by decide +kernel) (by decide +kernel)) (goodIn_sub (fun _ h => List.mem_cons_of_mem _ (List.mem_append_left _ (List.mem_append_right _ h))) (by decide +kernel))
set_option maxRecDepth 20000 in
theorem gX6_tripped_X6_finds : GoodIn wsX6_tripped (wsV RX6 134 RX6 yX6_finds wsX6_finds) := goodIn_app (goodIn_of _ (by decide +kernel)) ggX6_tripped_X6_finds
set_option maxRecDepth 20000 in
theorem ggX6_tripped_X6_drawn : GoodIn wsX6_tripped wsX6_drawn := goodIn_ca (goodIn_ca (goodIn_r _ [28, 29, 1, 30, 31, 32, 7, 33, 2, 24, 11, 15, 41, 42, 43, 44, 45, 46, 47, 48, 49, 50, 51, 52, 53, 54, 55, 56, 57, 58, 59, 60, 61, 62, 63, 64, 65, 66, 67] (by decide +kernel) (by decide +kernel)) (goodIn_sub (fun _ h => List.mem_cons_of_mem _ (List.mem_append_left _ (List.mem_append_right _ h))) (by decide +kernel))) (goodIn_sub (fun _ h => List.mem_cons_of_mem _ (List.mem_append_right _ h)) (by decide +kernel))
set_option maxRecDepth 20000 in
theorem gX6_tripped_X6_drawn : GoodIn wsX6_tripped (wsV RX6 137 RX6 yX6_drawn wsX6_drawn) := goodIn_app (goodIn_of _ (by decide +kernel)) ggX6_tripped_X6_drawn
set_option maxRecDepth 20000 in
theorem ggX6_tripped_X6_time : GoodIn wsX6_tripped wsX6_time := goodIn_ca (goodIn_ca (goodIn_r _ [37, 38, 39, 40, 41, 42, 43, 44, 45, 46, 47, 48, 49, 50, 51, 52, 53, 54, 55, 56, 57, 58, 59, 60, 61, 62, 63, 64, 65, 66, 67] (by decide +kernel) (by decide +kernel)) (goodIn_sub (fun _ h => List.mem_cons_of_mem _ (List.mem_append_left _ (List.mem_append_right _ h))) (by decide +kernel))) (goodIn_sub (fun _ h => List.mem_cons_of_mem _ (List.mem_append_right _ h)) (by decide +kernel))
set_option maxRecDepth 20000 in
theorem gX6_tripped_X6_time : GoodIn wsX6_tripped (wsV RX6 140 RX6 yX6_time wsX6_time) := goodIn_app (goodIn_of _ (by decide +kernel)) ggX6_tripped_X6_time
theorem dX6_tripped_0 : decode cX6_tripped 0 = .ok (.aload_n 0, 1) := by decide +kernel
theorem dX6_tripped_1 : decode cX6_tripped 1 = .ok (.iload_n 1, 1) := by decide +kernel
theorem dX6_tripped_2 : decode cX6_tripped 2 = .ok (.invokevirtual 134, 3) := by decide +kernel
theorem dX6_tripped_5 : decode cX6_tripped 5 = .ok (.ifCond .ne 5, 3) := by decide +kernel
theorem dX6_tripped_8 : decode cX6_tripped 8 = .ok (.iconst (-1), 1) := by decide +kernel
theorem dX6_tripped_9 : decode cX6_tripped 9 = .ok (.ireturn, 1) := by decide +kernel
theorem dX6_tripped_10 : decode cX6_tripped 10 = .ok (.bipush (-2), 2) := by decide +kernel
theorem dX6_tripped_12 : decode cX6_tripped 12 = .ok (.istore_n 2, 1) := by decide +kernel
theorem dX6_tripped_13 : decode cX6_tripped 13 = .ok (.iconst 0, 1) := by decide +kernel
theorem dX6_tripped_14 : decode cX6_tripped 14 = .ok (.istore_n 3, 1) := by decide +kernel
theorem dX6_tripped_15 : decode cX6_tripped 15 = .ok (.iload_n 3, 1) := by decide +kernel
theorem dX6_tripped_16 : decode cX6_tripped 16 = .ok (.aload_n 0, 1) := by decide +kernel
theorem dX6_tripped_17 : decode cX6_tripped 17 = .ok (.getfield 127, 3) := by decide +kernel
theorem dX6_tripped_20 : decode cX6_tripped 20 = .ok (.if_icmp .ge 70, 3) := by decide +kernel
theorem dX6_tripped_23 : decode cX6_tripped 23 = .ok (.aload_n 0, 1) := by decide +kernel
theorem dX6_tripped_24 : decode cX6_tripped 24 = .ok (.getfield 56, 3) := by decide +kernel
theorem dX6_tripped_27 : decode cX6_tripped 27 = .ok (.iload_n 3, 1) := by decide +kernel
theorem dX6_tripped_28 : decode cX6_tripped 28 = .ok (.iaload, 1) := by decide +kernel
theorem dX6_tripped_29 : decode cX6_tripped 29 = .ok (.istore 4, 2) := by decide +kernel
theorem dX6_tripped_31 : decode cX6_tripped 31 = .ok (.aload_n 0, 1) := by decide +kernel
theorem dX6_tripped_32 : decode cX6_tripped 32 = .ok (.getfield 41, 3) := by decide +kernel
theorem dX6_tripped_35 : decode cX6_tripped 35 = .ok (.iload 4, 2) := by decide +kernel
theorem dX6_tripped_37 : decode cX6_tripped 37 = .ok (.baload, 1) := by decide +kernel
theorem dX6_tripped_38 : decode cX6_tripped 38 = .ok (.ifCond .eq 16, 3) := by decide +kernel
theorem dX6_tripped_41 : decode cX6_tripped 41 = .ok (.aload_n 0, 1) := by decide +kernel
theorem dX6_tripped_42 : decode cX6_tripped 42 = .ok (.iload 4, 2) := by decide +kernel
theorem dX6_tripped_44 : decode cX6_tripped 44 = .ok (.aload_n 0, 1) := by decide +kernel
theorem dX6_tripped_45 : decode cX6_tripped 45 = .ok (.invokevirtual 137, 3) := by decide +kernel
theorem dX6_tripped_48 : decode cX6_tripped 48 = .ok (.invokevirtual 140, 3) := by decide +kernel
theorem dX6_tripped_51 : decode cX6_tripped 51 = .ok (.goto 4, 3) := by decide +kernel
theorem dX6_tripped_54 : decode cX6_tripped 54 = .ok (.iconst (-1), 1) := by decide +kernel
theorem dX6_tripped_55 : decode cX6_tripped 55 = .ok (.istore 5, 2) := by decide +kernel
theorem dX6_tripped_57 : decode cX6_tripped 57 = .ok (.iload 5, 2) := by decide +kernel
theorem dX6_tripped_59 : decode cX6_tripped 59 = .ok (.iconst (-1), 1) := by decide +kernel
theorem dX6_tripped_60 : decode cX6_tripped 60 = .ok (.if_icmp .eq 24, 3) := by decide +kernel
theorem dX6_tripped_63 : decode cX6_tripped 63 = .ok (.iload_n 2, 1) := by decide +kernel
theorem dX6_tripped_64 : decode cX6_tripped 64 = .ok (.ifCond .lt 17, 3) := by decide +kernel
theorem dX6_tripped_67 : decode cX6_tripped 67 = .ok (.iload 5, 2) := by decide +kernel
theorem dX6_tripped_69 : decode cX6_tripped 69 = .ok (.aload_n 0, 1) := by decide +kernel
theorem dX6_tripped_70 : decode cX6_tripped 70 = .ok (.iload_n 2, 1) := by decide +kernel
theorem dX6_tripped_71 : decode cX6_tripped 71 = .ok (.aload_n 0, 1) := by decide +kernel
theorem dX6_tripped_72 : decode cX6_tripped 72 = .ok (.invokevirtual 137, 3) := by decide +kernel
theorem dX6_tripped_75 : decode cX6_tripped 75 = .ok (.invokevirtual 140, 3) := by decide +kernel
theorem dX6_tripped_78 : decode cX6_tripped 78 = .ok (.if_icmp .gt 6, 3) := by decide +kernel
theorem dX6_tripped_81 : decode cX6_tripped 81 = .ok (.iload 4, 2) := by decide +kernel
theorem dX6_tripped_83 : decode cX6_tripped 83 = .ok (.istore_n 2, 1) := by decide +kernel
theorem dX6_tripped_84 : decode cX6_tripped 84 = .ok (.iinc 3 1, 3) := by decide +kernel
theorem dX6_tripped_87 : decode cX6_tripped 87 = .ok (.goto (-72), 3) := by decide +kernel
theorem dX6_tripped_90 : decode cX6_tripped 90 = .ok (.iload_n 2, 1) := by decide +kernel
theorem dX6_tripped_91 : decode cX6_tripped 91 = .ok (.ireturn, 1) := by decide +kernel
set_option maxRecDepth 20000 in
theorem ggX6_fault_X6_isLine : GoodIn wsX6_fault wsX6_isLine := goodIn_r _ [11, 2, 12, 13, 10, 14, 68, 69, 70, 71, 72, 73, 74, 75, 76, 77, 78, 79, 80, 81, 82, 83, 84, 85, 86, 87, 88, 89, 90, 91, 92, 93, 94] (by decide +kernel) (by decide +kernel)
set_option maxRecDepth 20000 in
theorem gX6_fault_X6_isLine : GoodIn wsX6_fault (wsV RX6 113 RX6 yX6_isLine wsX6_isLine) := goodIn_app (goodIn_of _ (by decide +kernel)) ggX6_fault_X6_isLine
set_option maxRecDepth 20000 in
theorem ggX6_fault_X6_isThere : GoodIn wsX6_fault wsX6_isThere := goodIn_r _ [18, 19, 68, 69, 70, 71, 72, 73, 74, 75, 76, 77, 78, 79, 80, 81, 82, 83, 84, 85, 86, 87, 88, 89, 90, 91, 92, 93, 94] (by decide +kernel) (by decide +kernel)
set_option maxRecDepth 20000 in
theorem gX6_fault_X6_isThere : GoodIn wsX6_fault (wsV RX6 116 RX6 yX6_isThere wsX6_isThere) := goodIn_app (goodIn_of _ (by decide +kernel)) ggX6_fault_X6_isThere
set_option maxRecDepth 20000 in
theorem ggX6_fault_X6_fails : GoodIn wsX6_fault wsX6_fails := goodIn_r _ [23, 19, 68, 69, 70, 71, 72, 73, 74, 75, 76, 77, 78, 79, 80, 81, 82, 83, 84, 85, 86, 87, 88, 89, 90, 91, 92, 93, 94] (by decide +kernel) (by decide +kernel)
set_option maxRecDepth 20000 in
theorem gX6_fault_X6_fails : GoodIn wsX6_fault (wsV RX6 82 RX6 yX6_fails wsX6_fails) := goodIn_app (goodIn_of _ (by decide +kernel)) ggX6_fault_X6_fails
set_option maxRecDepth 20000 in
theorem ggX6_fault_X6_tripped : GoodIn wsX6_fault wsX6_tripped := goodIn_ca (goodIn_ca (goodIn_r _ [27, 28, 29, 30, 31, 32, 33, 10, 34, 3, 35, 4, 36, 37, 2, 5, 38, 39, 40, 41, 42, 43, 44, 45, 46, 47, 48, 49, 50, 51, 52, 53, 54, 55, 56, 57, 58, 59, 60, 61, 62, 68, 69, 70, 71, 72, 73, 74, 75, 76, 77, 78, 79, 80, 81, 82, 83, 84, 85, 86, 87, 88, 89, 90, 91, 92, 93, 94] (by decide +kernel) (by decide +kernel)) (goodIn_sub (fun _ h => List.mem_cons_of_mem _ (List.mem_append_left _ (List.mem_append_right _ h))) (by decide +kernel))) (goodIn_sub (fun _ h => List.mem_cons_of_mem _ (List.mem_append_right _ h)) (by decide +kernel))
set_option maxRecDepth 20000 in
theorem gX6_fault_X6_tripped : GoodIn wsX6_fault (wsV RX6 143 RX6 yX6_tripped wsX6_tripped) := goodIn_app (goodIn_of _ (by decide +kernel)) ggX6_fault_X6_tripped
set_option maxRecDepth 20000 in
theorem ggX6_fault_X6_sourceOfPath : GoodIn wsX6_fault wsX6_sourceOfPath := goodIn_ca (goodIn_r _ [55, 29, 46, 4, 5, 68, 69, 70, 71, 72, 73, 74, 75, 76, 77, 78, 79, 80, 81, 82, 83, 84, 85, 86, 87, 88, 89, 90, 91, 92, 93, 94] (by decide +kernel) (by decide +kernel)) (goodIn_sub (fun _ h => List.mem_cons_of_mem _ (List.mem_append_left _ (List.mem_append_right _ h))) (by decide +kernel))
set_option maxRecDepth 20000 in
theorem gX6_fault_X6_sourceOfPath : GoodIn wsX6_fault (wsV RX6 130 RX6 yX6_sourceOfPath wsX6_sourceOfPath) := goodIn_app (goodIn_of _ (by decide +kernel)) ggX6_fault_X6_sourceOfPath
set_option maxRecDepth 20000 in
theorem ggX6_fault_X6_locks : GoodIn wsX6_fault wsX6_locks := goodIn_ca (goodIn_r _ [66, 3, 67, 68, 69, 70, 71, 72, 73, 74, 75, 76, 77, 78, 79, 80, 81, 82, 83, 84, 85, 86, 87, 88, 89, 90, 91, 92, 93, 94] (by decide +kernel) (by decide +kernel)) (goodIn_sub (fun _ h => List.mem_cons_of_mem _ (List.mem_append_left _ (List.mem_append_right _ h))) (by decide +kernel))
set_option maxRecDepth 20000 in
theorem gX6_fault_X6_locks : GoodIn wsX6_fault (wsV RX6 146 RX6 yX6_locks wsX6_locks) := goodIn_app (goodIn_of _ (by decide +kernel)) ggX6_fault_X6_locks
theorem dX6_fault_0 : decode cX6_fault 0 = .ok (.aload_n 0, 1) := by decide +kernel
theorem dX6_fault_1 : decode cX6_fault 1 = .ok (.aload_n 0, 1) := by decide +kernel
theorem dX6_fault_2 : decode cX6_fault 2 = .ok (.iload_n 1, 1) := by decide +kernel
theorem dX6_fault_3 : decode cX6_fault 3 = .ok (.invokevirtual 113, 3) := by decide +kernel
theorem dX6_fault_6 : decode cX6_fault 6 = .ok (.invokevirtual 116, 3) := by decide +kernel
theorem dX6_fault_9 : decode cX6_fault 9 = .ok (.ifCond .ne 5, 3) := by decide +kernel
theorem dX6_fault_12 : decode cX6_fault 12 = .ok (.iconst 0, 1) := by decide +kernel
theorem dX6_fault_13 : decode cX6_fault 13 = .ok (.ireturn, 1) := by decide +kernel
theorem dX6_fault_14 : decode cX6_fault 14 = .ok (.aload_n 0, 1) := by decide +kernel
theorem dX6_fault_15 : decode cX6_fault 15 = .ok (.getfield 50, 3) := by decide +kernel
theorem dX6_fault_18 : decode cX6_fault 18 = .ok (.iload_n 1, 1) := by decide +kernel
theorem dX6_fault_19 : decode cX6_fault 19 = .ok (.baload, 1) := by decide +kernel
theorem dX6_fault_20 : decode cX6_fault 20 = .ok (.ifCond .eq 9, 3) := by decide +kernel
theorem dX6_fault_23 : decode cX6_fault 23 = .ok (.aload_n 0, 1) := by decide +kernel
theorem dX6_fault_24 : decode cX6_fault 24 = .ok (.iconst 2, 1) := by decide +kernel
theorem dX6_fault_25 : decode cX6_fault 25 = .ok (.invokevirtual 82, 3) := by decide +kernel
theorem dX6_fault_28 : decode cX6_fault 28 = .ok (.ireturn, 1) := by decide +kernel
theorem dX6_fault_29 : decode cX6_fault 29 = .ok (.aload_n 0, 1) := by decide +kernel
theorem dX6_fault_30 : decode cX6_fault 30 = .ok (.iload_n 1, 1) := by decide +kernel
theorem dX6_fault_31 : decode cX6_fault 31 = .ok (.invokevirtual 143, 3) := by decide +kernel
theorem dX6_fault_34 : decode cX6_fault 34 = .ok (.istore_n 2, 1) := by decide +kernel
theorem dX6_fault_35 : decode cX6_fault 35 = .ok (.aload_n 0, 1) := by decide +kernel
theorem dX6_fault_36 : decode cX6_fault 36 = .ok (.getfield 50, 3) := by decide +kernel
theorem dX6_fault_39 : decode cX6_fault 39 = .ok (.iload_n 1, 1) := by decide +kernel
theorem dX6_fault_40 : decode cX6_fault 40 = .ok (.iconst 1, 1) := by decide +kernel
theorem dX6_fault_41 : decode cX6_fault 41 = .ok (.bastore, 1) := by decide +kernel
theorem dX6_fault_42 : decode cX6_fault 42 = .ok (.iload_n 2, 1) := by decide +kernel
theorem dX6_fault_43 : decode cX6_fault 43 = .ok (.bipush (-2), 2) := by decide +kernel
theorem dX6_fault_45 : decode cX6_fault 45 = .ok (.if_icmp .ne 64, 3) := by decide +kernel
theorem dX6_fault_48 : decode cX6_fault 48 = .ok (.aload_n 0, 1) := by decide +kernel
theorem dX6_fault_49 : decode cX6_fault 49 = .ok (.invokevirtual 130, 3) := by decide +kernel
theorem dX6_fault_52 : decode cX6_fault 52 = .ok (.istore_n 3, 1) := by decide +kernel
theorem dX6_fault_53 : decode cX6_fault 53 = .ok (.iconst 0, 1) := by decide +kernel
theorem dX6_fault_54 : decode cX6_fault 54 = .ok (.istore 4, 2) := by decide +kernel
theorem dX6_fault_56 : decode cX6_fault 56 = .ok (.iload 4, 2) := by decide +kernel
theorem dX6_fault_58 : decode cX6_fault 58 = .ok (.aload_n 0, 1) := by decide +kernel
theorem dX6_fault_59 : decode cX6_fault 59 = .ok (.getfield 79, 3) := by decide +kernel
theorem dX6_fault_62 : decode cX6_fault 62 = .ok (.if_icmp .ge 47, 3) := by decide +kernel
theorem dX6_fault_65 : decode cX6_fault 65 = .ok (.aload_n 0, 1) := by decide +kernel
theorem dX6_fault_66 : decode cX6_fault 66 = .ok (.getfield 44, 3) := by decide +kernel
theorem dX6_fault_69 : decode cX6_fault 69 = .ok (.iload 4, 2) := by decide +kernel
theorem dX6_fault_71 : decode cX6_fault 71 = .ok (.baload, 1) := by decide +kernel
theorem dX6_fault_72 : decode cX6_fault 72 = .ok (.ifCond .eq 31, 3) := by decide +kernel
theorem dX6_fault_75 : decode cX6_fault 75 = .ok (.aload_n 0, 1) := by decide +kernel
theorem dX6_fault_76 : decode cX6_fault 76 = .ok (.getfield 23, 3) := by decide +kernel
theorem dX6_fault_79 : decode cX6_fault 79 = .ok (.iload 4, 2) := by decide +kernel
theorem dX6_fault_81 : decode cX6_fault 81 = .ok (.iaload, 1) := by decide +kernel
theorem dX6_fault_82 : decode cX6_fault 82 = .ok (.iload_n 3, 1) := by decide +kernel
theorem dX6_fault_83 : decode cX6_fault 83 = .ok (.if_icmp .eq 14, 3) := by decide +kernel
theorem dX6_fault_86 : decode cX6_fault 86 = .ok (.aload_n 0, 1) := by decide +kernel
theorem dX6_fault_87 : decode cX6_fault 87 = .ok (.getfield 26, 3) := by decide +kernel
theorem dX6_fault_90 : decode cX6_fault 90 = .ok (.iload 4, 2) := by decide +kernel
theorem dX6_fault_92 : decode cX6_fault 92 = .ok (.iaload, 1) := by decide +kernel
theorem dX6_fault_93 : decode cX6_fault 93 = .ok (.iload_n 3, 1) := by decide +kernel
theorem dX6_fault_94 : decode cX6_fault 94 = .ok (.if_icmp .ne 9, 3) := by decide +kernel
theorem dX6_fault_97 : decode cX6_fault 97 = .ok (.aload_n 0, 1) := by decide +kernel
theorem dX6_fault_98 : decode cX6_fault 98 = .ok (.iload 4, 2) := by decide +kernel
theorem dX6_fault_100 : decode cX6_fault 100 = .ok (.invokevirtual 146, 3) := by decide +kernel
theorem dX6_fault_103 : decode cX6_fault 103 = .ok (.iinc 4 1, 3) := by decide +kernel
theorem dX6_fault_106 : decode cX6_fault 106 = .ok (.goto (-50), 3) := by decide +kernel
theorem dX6_fault_109 : decode cX6_fault 109 = .ok (.iload_n 2, 1) := by decide +kernel
theorem dX6_fault_110 : decode cX6_fault 110 = .ok (.ifCond .lt 18, 3) := by decide +kernel
theorem dX6_fault_113 : decode cX6_fault 113 = .ok (.aload_n 0, 1) := by decide +kernel
theorem dX6_fault_114 : decode cX6_fault 114 = .ok (.iload_n 2, 1) := by decide +kernel
theorem dX6_fault_115 : decode cX6_fault 115 = .ok (.invokevirtual 146, 3) := by decide +kernel
theorem dX6_fault_118 : decode cX6_fault 118 = .ok (.aload_n 0, 1) := by decide +kernel
theorem dX6_fault_119 : decode cX6_fault 119 = .ok (.dup, 1) := by decide +kernel
theorem dX6_fault_120 : decode cX6_fault 120 = .ok (.getfield 150, 3) := by decide +kernel
theorem dX6_fault_123 : decode cX6_fault 123 = .ok (.iconst 1, 1) := by decide +kernel
theorem dX6_fault_124 : decode cX6_fault 124 = .ok (.iadd, 1) := by decide +kernel
theorem dX6_fault_125 : decode cX6_fault 125 = .ok (.putfield 150, 3) := by decide +kernel
theorem dX6_fault_128 : decode cX6_fault 128 = .ok (.iload_n 2, 1) := by decide +kernel
theorem dX6_fault_129 : decode cX6_fault 129 = .ok (.ireturn, 1) := by decide +kernel
theorem dX6_locks_0 : decode cX6_locks 0 = .ok (.aload_n 0, 1) := by decide +kernel
theorem dX6_locks_1 : decode cX6_locks 1 = .ok (.getfield 44, 3) := by decide +kernel
theorem dX6_locks_4 : decode cX6_locks 4 = .ok (.iload_n 1, 1) := by decide +kernel
theorem dX6_locks_5 : decode cX6_locks 5 = .ok (.iconst 0, 1) := by decide +kernel
theorem dX6_locks_6 : decode cX6_locks 6 = .ok (.bastore, 1) := by decide +kernel
theorem dX6_locks_7 : decode cX6_locks 7 = .ok (.aload_n 0, 1) := by decide +kernel
theorem dX6_locks_8 : decode cX6_locks 8 = .ok (.getfield 47, 3) := by decide +kernel
theorem dX6_locks_11 : decode cX6_locks 11 = .ok (.iload_n 1, 1) := by decide +kernel
theorem dX6_locks_12 : decode cX6_locks 12 = .ok (.iconst 1, 1) := by decide +kernel
theorem dX6_locks_13 : decode cX6_locks 13 = .ok (.bastore, 1) := by decide +kernel
theorem dX6_locks_14 : decode cX6_locks 14 = .ok (.return_, 1) := by decide +kernel
set_option maxRecDepth 20000 in
theorem ggX6_repair_X6_isLine : GoodIn wsX6_repair wsX6_isLine := goodIn_r _ [8, 9, 10, 11, 7, 12, 17, 18, 19, 20, 21, 22, 23, 24, 25, 26, 27, 28, 29, 30, 31, 32, 33, 34, 35, 36, 37, 38, 39, 40, 41, 42, 43] (by decide +kernel) (by decide +kernel)
set_option maxRecDepth 20000 in
theorem gX6_repair_X6_isLine : GoodIn wsX6_repair (wsV RX6 113 RX6 yX6_isLine wsX6_isLine) := goodIn_app (goodIn_of _ (by decide +kernel)) ggX6_repair_X6_isLine
set_option maxRecDepth 20000 in
theorem ggX6_repair_X6_isThere : GoodIn wsX6_repair wsX6_isThere := goodIn_r _ [16, 2, 17, 18, 19, 20, 21, 22, 23, 24, 25, 26, 27, 28, 29, 30, 31, 32, 33, 34, 35, 36, 37, 38, 39, 40, 41, 42, 43] (by decide +kernel) (by decide +kernel)
set_option maxRecDepth 20000 in
theorem gX6_repair_X6_isThere : GoodIn wsX6_repair (wsV RX6 116 RX6 yX6_isThere wsX6_isThere) := goodIn_app (goodIn_of _ (by decide +kernel)) ggX6_repair_X6_isThere
theorem dX6_repair_0 : decode cX6_repair 0 = .ok (.aload_n 0, 1) := by decide +kernel
theorem dX6_repair_1 : decode cX6_repair 1 = .ok (.aload_n 0, 1) := by decide +kernel
theorem dX6_repair_2 : decode cX6_repair 2 = .ok (.iload_n 1, 1) := by decide +kernel
theorem dX6_repair_3 : decode cX6_repair 3 = .ok (.invokevirtual 113, 3) := by decide +kernel
theorem dX6_repair_6 : decode cX6_repair 6 = .ok (.invokevirtual 116, 3) := by decide +kernel
theorem dX6_repair_9 : decode cX6_repair 9 = .ok (.ifCond .ne 5, 3) := by decide +kernel
theorem dX6_repair_12 : decode cX6_repair 12 = .ok (.iconst 0, 1) := by decide +kernel
theorem dX6_repair_13 : decode cX6_repair 13 = .ok (.ireturn, 1) := by decide +kernel
theorem dX6_repair_14 : decode cX6_repair 14 = .ok (.aload_n 0, 1) := by decide +kernel
theorem dX6_repair_15 : decode cX6_repair 15 = .ok (.aload_n 0, 1) := by decide +kernel
theorem dX6_repair_16 : decode cX6_repair 16 = .ok (.getfield 50, 3) := by decide +kernel
theorem dX6_repair_19 : decode cX6_repair 19 = .ok (.iload_n 1, 1) := by decide +kernel
theorem dX6_repair_20 : decode cX6_repair 20 = .ok (.baload, 1) := by decide +kernel
theorem dX6_repair_21 : decode cX6_repair 21 = .ok (.ifCond .eq 7, 3) := by decide +kernel
theorem dX6_repair_24 : decode cX6_repair 24 = .ok (.iconst 0, 1) := by decide +kernel
theorem dX6_repair_25 : decode cX6_repair 25 = .ok (.goto 4, 3) := by decide +kernel
theorem dX6_repair_28 : decode cX6_repair 28 = .ok (.iconst 2, 1) := by decide +kernel
theorem dX6_repair_29 : decode cX6_repair 29 = .ok (.putfield 68, 3) := by decide +kernel
theorem dX6_repair_32 : decode cX6_repair 32 = .ok (.aload_n 0, 1) := by decide +kernel
theorem dX6_repair_33 : decode cX6_repair 33 = .ok (.getfield 50, 3) := by decide +kernel
theorem dX6_repair_36 : decode cX6_repair 36 = .ok (.iload_n 1, 1) := by decide +kernel
theorem dX6_repair_37 : decode cX6_repair 37 = .ok (.iconst 0, 1) := by decide +kernel
theorem dX6_repair_38 : decode cX6_repair 38 = .ok (.bastore, 1) := by decide +kernel
theorem dX6_repair_39 : decode cX6_repair 39 = .ok (.aload_n 0, 1) := by decide +kernel
theorem dX6_repair_40 : decode cX6_repair 40 = .ok (.getfield 68, 3) := by decide +kernel
theorem dX6_repair_43 : decode cX6_repair 43 = .ok (.ifCond .ne 16, 3) := by decide +kernel
theorem dX6_repair_46 : decode cX6_repair 46 = .ok (.aload_n 0, 1) := by decide +kernel
theorem dX6_repair_47 : decode cX6_repair 47 = .ok (.getfield 47, 3) := by decide +kernel
theorem dX6_repair_50 : decode cX6_repair 50 = .ok (.iload_n 1, 1) := by decide +kernel
theorem dX6_repair_51 : decode cX6_repair 51 = .ok (.baload, 1) := by decide +kernel
theorem dX6_repair_52 : decode cX6_repair 52 = .ok (.ifCond .eq 7, 3) := by decide +kernel
theorem dX6_repair_55 : decode cX6_repair 55 = .ok (.iconst 1, 1) := by decide +kernel
theorem dX6_repair_56 : decode cX6_repair 56 = .ok (.goto 4, 3) := by decide +kernel
theorem dX6_repair_59 : decode cX6_repair 59 = .ok (.iconst 0, 1) := by decide +kernel
theorem dX6_repair_60 : decode cX6_repair 60 = .ok (.ireturn, 1) := by decide +kernel
set_option maxRecDepth 20000 in
theorem ggX6_reset_X6_isLine : GoodIn wsX6_reset wsX6_isLine := goodIn_r _ [8, 3, 9, 10, 7, 11, 21, 22, 23, 24, 25, 26, 27, 28, 29, 30, 31, 32, 33, 34, 35, 36, 37, 38, 39, 40, 41, 42, 43, 44, 45, 46, 47] (by decide +kernel) (by decide +kernel)
set_option maxRecDepth 20000 in
theorem gX6_reset_X6_isLine : GoodIn wsX6_reset (wsV RX6 113 RX6 yX6_isLine wsX6_isLine) := goodIn_app (goodIn_of _ (by decide +kernel)) ggX6_reset_X6_isLine
set_option maxRecDepth 20000 in
theorem ggX6_reset_X6_isThere : GoodIn wsX6_reset wsX6_isThere := goodIn_r _ [15, 16, 21, 22, 23, 24, 25, 26, 27, 28, 29, 30, 31, 32, 33, 34, 35, 36, 37, 38, 39, 40, 41, 42, 43, 44, 45, 46, 47] (by decide +kernel) (by decide +kernel)
set_option maxRecDepth 20000 in
theorem gX6_reset_X6_isThere : GoodIn wsX6_reset (wsV RX6 116 RX6 yX6_isThere wsX6_isThere) := goodIn_app (goodIn_of _ (by decide +kernel)) ggX6_reset_X6_isThere
set_option maxRecDepth 20000 in
theorem ggX6_reset_X6_fails : GoodIn wsX6_reset wsX6_fails := goodIn_r _ [20, 16, 21, 22, 23, 24, 25, 26, 27, 28, 29, 30, 31, 32, 33, 34, 35, 36, 37, 38, 39, 40, 41, 42, 43, 44, 45, 46, 47] (by decide +kernel) (by decide +kernel)
set_option maxRecDepth 20000 in
theorem gX6_reset_X6_fails : GoodIn wsX6_reset (wsV RX6 82 RX6 yX6_fails wsX6_fails) := goodIn_app (goodIn_of _ (by decide +kernel)) ggX6_reset_X6_fails
theorem dX6_reset_0 : decode cX6_reset 0 = .ok (.aload_n 0, 1) := by decide +kernel
theorem dX6_reset_1 : decode cX6_reset 1 = .ok (.aload_n 0, 1) := by decide +kernel
theorem dX6_reset_2 : decode cX6_reset 2 = .ok (.iload_n 1, 1) := by decide +kernel
theorem dX6_reset_3 : decode cX6_reset 3 = .ok (.invokevirtual 113, 3) := by decide +kernel
theorem dX6_reset_6 : decode cX6_reset 6 = .ok (.invokevirtual 116, 3) := by decide +kernel
theorem dX6_reset_9 : decode cX6_reset 9 = .ok (.ifCond .ne 5, 3) := by decide +kernel
theorem dX6_reset_12 : decode cX6_reset 12 = .ok (.iconst 0, 1) := by decide +kernel
theorem dX6_reset_13 : decode cX6_reset 13 = .ok (.ireturn, 1) := by decide +kernel
theorem dX6_reset_14 : decode cX6_reset 14 = .ok (.aload_n 0, 1) := by decide +kernel
theorem dX6_reset_15 : decode cX6_reset 15 = .ok (.getfield 50, 3) := by decide +kernel
theorem dX6_reset_18 : decode cX6_reset 18 = .ok (.iload_n 1, 1) := by decide +kernel
theorem dX6_reset_19 : decode cX6_reset 19 = .ok (.baload, 1) := by decide +kernel
theorem dX6_reset_20 : decode cX6_reset 20 = .ok (.ifCond .eq 9, 3) := by decide +kernel
theorem dX6_reset_23 : decode cX6_reset 23 = .ok (.aload_n 0, 1) := by decide +kernel
theorem dX6_reset_24 : decode cX6_reset 24 = .ok (.iconst 2, 1) := by decide +kernel
theorem dX6_reset_25 : decode cX6_reset 25 = .ok (.invokevirtual 82, 3) := by decide +kernel
theorem dX6_reset_28 : decode cX6_reset 28 = .ok (.ireturn, 1) := by decide +kernel
theorem dX6_reset_29 : decode cX6_reset 29 = .ok (.aload_n 0, 1) := by decide +kernel
theorem dX6_reset_30 : decode cX6_reset 30 = .ok (.getfield 47, 3) := by decide +kernel
theorem dX6_reset_33 : decode cX6_reset 33 = .ok (.iload_n 1, 1) := by decide +kernel
theorem dX6_reset_34 : decode cX6_reset 34 = .ok (.baload, 1) := by decide +kernel
theorem dX6_reset_35 : decode cX6_reset 35 = .ok (.ifCond .ne 9, 3) := by decide +kernel
theorem dX6_reset_38 : decode cX6_reset 38 = .ok (.aload_n 0, 1) := by decide +kernel
theorem dX6_reset_39 : decode cX6_reset 39 = .ok (.iconst 3, 1) := by decide +kernel
theorem dX6_reset_40 : decode cX6_reset 40 = .ok (.invokevirtual 82, 3) := by decide +kernel
theorem dX6_reset_43 : decode cX6_reset 43 = .ok (.ireturn, 1) := by decide +kernel
theorem dX6_reset_44 : decode cX6_reset 44 = .ok (.aload_n 0, 1) := by decide +kernel
theorem dX6_reset_45 : decode cX6_reset 45 = .ok (.getfield 47, 3) := by decide +kernel
theorem dX6_reset_48 : decode cX6_reset 48 = .ok (.iload_n 1, 1) := by decide +kernel
theorem dX6_reset_49 : decode cX6_reset 49 = .ok (.iconst 0, 1) := by decide +kernel
theorem dX6_reset_50 : decode cX6_reset 50 = .ok (.bastore, 1) := by decide +kernel
theorem dX6_reset_51 : decode cX6_reset 51 = .ok (.iconst 0, 1) := by decide +kernel
theorem dX6_reset_52 : decode cX6_reset 52 = .ok (.istore_n 2, 1) := by decide +kernel
theorem dX6_reset_53 : decode cX6_reset 53 = .ok (.iconst 0, 1) := by decide +kernel
theorem dX6_reset_54 : decode cX6_reset 54 = .ok (.istore_n 3, 1) := by decide +kernel
theorem dX6_reset_55 : decode cX6_reset 55 = .ok (.iload_n 3, 1) := by decide +kernel
theorem dX6_reset_56 : decode cX6_reset 56 = .ok (.aload_n 0, 1) := by decide +kernel
theorem dX6_reset_57 : decode cX6_reset 57 = .ok (.getfield 79, 3) := by decide +kernel
theorem dX6_reset_60 : decode cX6_reset 60 = .ok (.if_icmp .ge 26, 3) := by decide +kernel
theorem dX6_reset_63 : decode cX6_reset 63 = .ok (.iload_n 2, 1) := by decide +kernel
theorem dX6_reset_64 : decode cX6_reset 64 = .ok (.aload_n 0, 1) := by decide +kernel
theorem dX6_reset_65 : decode cX6_reset 65 = .ok (.getfield 47, 3) := by decide +kernel
theorem dX6_reset_68 : decode cX6_reset 68 = .ok (.iload_n 3, 1) := by decide +kernel
theorem dX6_reset_69 : decode cX6_reset 69 = .ok (.baload, 1) := by decide +kernel
theorem dX6_reset_70 : decode cX6_reset 70 = .ok (.ifCond .eq 7, 3) := by decide +kernel
theorem dX6_reset_73 : decode cX6_reset 73 = .ok (.iconst 1, 1) := by decide +kernel
theorem dX6_reset_74 : decode cX6_reset 74 = .ok (.goto 4, 3) := by decide +kernel
theorem dX6_reset_77 : decode cX6_reset 77 = .ok (.iconst 0, 1) := by decide +kernel
theorem dX6_reset_78 : decode cX6_reset 78 = .ok (.iadd, 1) := by decide +kernel
theorem dX6_reset_79 : decode cX6_reset 79 = .ok (.istore_n 2, 1) := by decide +kernel
theorem dX6_reset_80 : decode cX6_reset 80 = .ok (.iinc 3 1, 3) := by decide +kernel
theorem dX6_reset_83 : decode cX6_reset 83 = .ok (.goto (-28), 3) := by decide +kernel
theorem dX6_reset_86 : decode cX6_reset 86 = .ok (.iload_n 2, 1) := by decide +kernel
theorem dX6_reset_87 : decode cX6_reset 87 = .ok (.ireturn, 1) := by decide +kernel
theorem dX6_nodes_0 : decode cX6_nodes 0 = .ok (.aload_n 0, 1) := by decide +kernel
theorem dX6_nodes_1 : decode cX6_nodes 1 = .ok (.iconst 0, 1) := by decide +kernel
theorem dX6_nodes_2 : decode cX6_nodes 2 = .ok (.putfield 68, 3) := by decide +kernel
theorem dX6_nodes_5 : decode cX6_nodes 5 = .ok (.aload_n 0, 1) := by decide +kernel
theorem dX6_nodes_6 : decode cX6_nodes 6 = .ok (.getfield 72, 3) := by decide +kernel
theorem dX6_nodes_9 : decode cX6_nodes 9 = .ok (.ireturn, 1) := by decide +kernel
theorem dX6_lines_0 : decode cX6_lines 0 = .ok (.aload_n 0, 1) := by decide +kernel
theorem dX6_lines_1 : decode cX6_lines 1 = .ok (.iconst 0, 1) := by decide +kernel
theorem dX6_lines_2 : decode cX6_lines 2 = .ok (.putfield 68, 3) := by decide +kernel
theorem dX6_lines_5 : decode cX6_lines 5 = .ok (.aload_n 0, 1) := by decide +kernel
theorem dX6_lines_6 : decode cX6_lines 6 = .ok (.getfield 79, 3) := by decide +kernel
theorem dX6_lines_9 : decode cX6_lines 9 = .ok (.ireturn, 1) := by decide +kernel
set_option maxRecDepth 20000 in
theorem ggX6_isSource_X6_isNode : GoodIn wsX6_isSource wsX6_isNode := goodIn_r _ [6, 7, 8, 9, 5, 10, 16, 17, 18, 19, 20, 21, 22, 23, 24, 25, 26, 27, 28, 29, 30, 31, 32, 33, 34, 35, 36, 37, 38, 39, 40, 41, 42] (by decide +kernel) (by decide +kernel)
set_option maxRecDepth 20000 in
theorem gX6_isSource_X6_isNode : GoodIn wsX6_isSource (wsV RX6 86 RX6 yX6_isNode wsX6_isNode) := goodIn_app (goodIn_of _ (by decide +kernel)) ggX6_isSource_X6_isNode
set_option maxRecDepth 20000 in
theorem ggX6_isSource_X6_isThere : GoodIn wsX6_isSource wsX6_isThere := goodIn_r _ [14, 15, 16, 17, 18, 19, 20, 21, 22, 23, 24, 25, 26, 27, 28, 29, 30, 31, 32, 33, 34, 35, 36, 37, 38, 39, 40, 41, 42] (by decide +kernel) (by decide +kernel)
set_option maxRecDepth 20000 in
theorem gX6_isSource_X6_isThere : GoodIn wsX6_isSource (wsV RX6 116 RX6 yX6_isThere wsX6_isThere) := goodIn_app (goodIn_of _ (by decide +kernel)) ggX6_isSource_X6_isThere
theorem dX6_isSource_0 : decode cX6_isSource 0 = .ok (.aload_n 0, 1) := by decide +kernel
theorem dX6_isSource_1 : decode cX6_isSource 1 = .ok (.aload_n 0, 1) := by decide +kernel
theorem dX6_isSource_2 : decode cX6_isSource 2 = .ok (.iload_n 1, 1) := by decide +kernel
theorem dX6_isSource_3 : decode cX6_isSource 3 = .ok (.invokevirtual 86, 3) := by decide +kernel
theorem dX6_isSource_6 : decode cX6_isSource 6 = .ok (.invokevirtual 116, 3) := by decide +kernel
theorem dX6_isSource_9 : decode cX6_isSource 9 = .ok (.ifCond .eq 16, 3) := by decide +kernel
theorem dX6_isSource_12 : decode cX6_isSource 12 = .ok (.aload_n 0, 1) := by decide +kernel
theorem dX6_isSource_13 : decode cX6_isSource 13 = .ok (.getfield 7, 3) := by decide +kernel
theorem dX6_isSource_16 : decode cX6_isSource 16 = .ok (.iload_n 1, 1) := by decide +kernel
theorem dX6_isSource_17 : decode cX6_isSource 17 = .ok (.baload, 1) := by decide +kernel
theorem dX6_isSource_18 : decode cX6_isSource 18 = .ok (.ifCond .eq 7, 3) := by decide +kernel
theorem dX6_isSource_21 : decode cX6_isSource 21 = .ok (.iconst 1, 1) := by decide +kernel
theorem dX6_isSource_22 : decode cX6_isSource 22 = .ok (.goto 4, 3) := by decide +kernel
theorem dX6_isSource_25 : decode cX6_isSource 25 = .ok (.iconst 0, 1) := by decide +kernel
theorem dX6_isSource_26 : decode cX6_isSource 26 = .ok (.ireturn, 1) := by decide +kernel
set_option maxRecDepth 20000 in
theorem ggX6_loadOf_X6_isNode : GoodIn wsX6_loadOf wsX6_isNode := goodIn_r _ [6, 7, 8, 9, 5, 10, 16, 17, 18, 19, 20, 21, 22, 23, 24, 25, 26, 27, 28, 29, 30, 31, 32, 33, 34, 35, 36, 37, 38, 39, 40, 41, 42] (by decide +kernel) (by decide +kernel)
set_option maxRecDepth 20000 in
theorem gX6_loadOf_X6_isNode : GoodIn wsX6_loadOf (wsV RX6 86 RX6 yX6_isNode wsX6_isNode) := goodIn_app (goodIn_of _ (by decide +kernel)) ggX6_loadOf_X6_isNode
set_option maxRecDepth 20000 in
theorem ggX6_loadOf_X6_isThere : GoodIn wsX6_loadOf wsX6_isThere := goodIn_r _ [14, 15, 16, 17, 18, 19, 20, 21, 22, 23, 24, 25, 26, 27, 28, 29, 30, 31, 32, 33, 34, 35, 36, 37, 38, 39, 40, 41, 42] (by decide +kernel) (by decide +kernel)
set_option maxRecDepth 20000 in
theorem gX6_loadOf_X6_isThere : GoodIn wsX6_loadOf (wsV RX6 116 RX6 yX6_isThere wsX6_isThere) := goodIn_app (goodIn_of _ (by decide +kernel)) ggX6_loadOf_X6_isThere
theorem dX6_loadOf_0 : decode cX6_loadOf 0 = .ok (.aload_n 0, 1) := by decide +kernel
theorem dX6_loadOf_1 : decode cX6_loadOf 1 = .ok (.aload_n 0, 1) := by decide +kernel
theorem dX6_loadOf_2 : decode cX6_loadOf 2 = .ok (.iload_n 1, 1) := by decide +kernel
theorem dX6_loadOf_3 : decode cX6_loadOf 3 = .ok (.invokevirtual 86, 3) := by decide +kernel
theorem dX6_loadOf_6 : decode cX6_loadOf 6 = .ok (.invokevirtual 116, 3) := by decide +kernel
theorem dX6_loadOf_9 : decode cX6_loadOf 9 = .ok (.ifCond .eq 12, 3) := by decide +kernel
theorem dX6_loadOf_12 : decode cX6_loadOf 12 = .ok (.aload_n 0, 1) := by decide +kernel
theorem dX6_loadOf_13 : decode cX6_loadOf 13 = .ok (.getfield 17, 3) := by decide +kernel
theorem dX6_loadOf_16 : decode cX6_loadOf 16 = .ok (.iload_n 1, 1) := by decide +kernel
theorem dX6_loadOf_17 : decode cX6_loadOf 17 = .ok (.iaload, 1) := by decide +kernel
theorem dX6_loadOf_18 : decode cX6_loadOf 18 = .ok (.goto 4, 3) := by decide +kernel
theorem dX6_loadOf_21 : decode cX6_loadOf 21 = .ok (.iconst 0, 1) := by decide +kernel
theorem dX6_loadOf_22 : decode cX6_loadOf 22 = .ok (.ireturn, 1) := by decide +kernel
set_option maxRecDepth 20000 in
theorem ggX6_weight_X6_isNode : GoodIn wsX6_weight wsX6_isNode := goodIn_r _ [8, 9, 10, 11, 7, 12, 22, 23, 24, 25, 26, 27, 28, 29, 30, 31, 32, 33, 34, 35, 36, 37, 38, 39, 40, 41, 42, 43, 44, 45, 46, 47, 48] (by decide +kernel) (by decide +kernel)
set_option maxRecDepth 20000 in
theorem gX6_weight_X6_isNode : GoodIn wsX6_weight (wsV RX6 86 RX6 yX6_isNode wsX6_isNode) := goodIn_app (goodIn_of _ (by decide +kernel)) ggX6_weight_X6_isNode
set_option maxRecDepth 20000 in
theorem ggX6_weight_X6_isThere : GoodIn wsX6_weight wsX6_isThere := goodIn_r _ [16, 17, 22, 23, 24, 25, 26, 27, 28, 29, 30, 31, 32, 33, 34, 35, 36, 37, 38, 39, 40, 41, 42, 43, 44, 45, 46, 47, 48] (by decide +kernel) (by decide +kernel)
set_option maxRecDepth 20000 in
theorem gX6_weight_X6_isThere : GoodIn wsX6_weight (wsV RX6 116 RX6 yX6_isThere wsX6_isThere) := goodIn_app (goodIn_of _ (by decide +kernel)) ggX6_weight_X6_isThere
set_option maxRecDepth 20000 in
theorem ggX6_weight_X6_fails : GoodIn wsX6_weight wsX6_fails := goodIn_r _ [21, 17, 22, 23, 24, 25, 26, 27, 28, 29, 30, 31, 32, 33, 34, 35, 36, 37, 38, 39, 40, 41, 42, 43, 44, 45, 46, 47, 48] (by decide +kernel) (by decide +kernel)
set_option maxRecDepth 20000 in
theorem gX6_weight_X6_fails : GoodIn wsX6_weight (wsV RX6 82 RX6 yX6_fails wsX6_fails) := goodIn_app (goodIn_of _ (by decide +kernel)) ggX6_weight_X6_fails
theorem dX6_weight_0 : decode cX6_weight 0 = .ok (.aload_n 0, 1) := by decide +kernel
theorem dX6_weight_1 : decode cX6_weight 1 = .ok (.aload_n 0, 1) := by decide +kernel
theorem dX6_weight_2 : decode cX6_weight 2 = .ok (.iload_n 1, 1) := by decide +kernel
theorem dX6_weight_3 : decode cX6_weight 3 = .ok (.invokevirtual 86, 3) := by decide +kernel
theorem dX6_weight_6 : decode cX6_weight 6 = .ok (.invokevirtual 116, 3) := by decide +kernel
theorem dX6_weight_9 : decode cX6_weight 9 = .ok (.ifCond .ne 5, 3) := by decide +kernel
theorem dX6_weight_12 : decode cX6_weight 12 = .ok (.iconst 0, 1) := by decide +kernel
theorem dX6_weight_13 : decode cX6_weight 13 = .ok (.ireturn, 1) := by decide +kernel
theorem dX6_weight_14 : decode cX6_weight 14 = .ok (.aload_n 0, 1) := by decide +kernel
theorem dX6_weight_15 : decode cX6_weight 15 = .ok (.getfield 7, 3) := by decide +kernel
theorem dX6_weight_18 : decode cX6_weight 18 = .ok (.iload_n 1, 1) := by decide +kernel
theorem dX6_weight_19 : decode cX6_weight 19 = .ok (.baload, 1) := by decide +kernel
theorem dX6_weight_20 : decode cX6_weight 20 = .ok (.ifCond .eq 11, 3) := by decide +kernel
theorem dX6_weight_23 : decode cX6_weight 23 = .ok (.aload_n 0, 1) := by decide +kernel
theorem dX6_weight_24 : decode cX6_weight 24 = .ok (.iconst 2, 1) := by decide +kernel
theorem dX6_weight_25 : decode cX6_weight 25 = .ok (.invokevirtual 82, 3) := by decide +kernel
theorem dX6_weight_28 : decode cX6_weight 28 = .ok (.goto 16, 3) := by decide +kernel
theorem dX6_weight_31 : decode cX6_weight 31 = .ok (.aload_n 0, 1) := by decide +kernel
theorem dX6_weight_32 : decode cX6_weight 32 = .ok (.getfield 17, 3) := by decide +kernel
theorem dX6_weight_35 : decode cX6_weight 35 = .ok (.iload_n 1, 1) := by decide +kernel
theorem dX6_weight_36 : decode cX6_weight 36 = .ok (.iaload, 1) := by decide +kernel
theorem dX6_weight_37 : decode cX6_weight 37 = .ok (.aload_n 0, 1) := by decide +kernel
theorem dX6_weight_38 : decode cX6_weight 38 = .ok (.getfield 20, 3) := by decide +kernel
theorem dX6_weight_41 : decode cX6_weight 41 = .ok (.iload_n 1, 1) := by decide +kernel
theorem dX6_weight_42 : decode cX6_weight 42 = .ok (.iaload, 1) := by decide +kernel
theorem dX6_weight_43 : decode cX6_weight 43 = .ok (.imul, 1) := by decide +kernel
theorem dX6_weight_44 : decode cX6_weight 44 = .ok (.ireturn, 1) := by decide +kernel
set_option maxRecDepth 20000 in
theorem ggX6_isClosed_X6_isLine : GoodIn wsX6_isClosed wsX6_isLine := goodIn_r _ [6, 7, 8, 9, 5, 10, 16, 17, 18, 19, 20, 21, 22, 23, 24, 25, 26, 27, 28, 29, 30, 31, 32, 33, 34, 35, 36, 37, 38, 39, 40, 41, 42] (by decide +kernel) (by decide +kernel)
set_option maxRecDepth 20000 in
theorem gX6_isClosed_X6_isLine : GoodIn wsX6_isClosed (wsV RX6 113 RX6 yX6_isLine wsX6_isLine) := goodIn_app (goodIn_of _ (by decide +kernel)) ggX6_isClosed_X6_isLine
set_option maxRecDepth 20000 in
theorem ggX6_isClosed_X6_isThere : GoodIn wsX6_isClosed wsX6_isThere := goodIn_r _ [14, 15, 16, 17, 18, 19, 20, 21, 22, 23, 24, 25, 26, 27, 28, 29, 30, 31, 32, 33, 34, 35, 36, 37, 38, 39, 40, 41, 42] (by decide +kernel) (by decide +kernel)
set_option maxRecDepth 20000 in
theorem gX6_isClosed_X6_isThere : GoodIn wsX6_isClosed (wsV RX6 116 RX6 yX6_isThere wsX6_isThere) := goodIn_app (goodIn_of _ (by decide +kernel)) ggX6_isClosed_X6_isThere
theorem dX6_isClosed_0 : decode cX6_isClosed 0 = .ok (.aload_n 0, 1) := by decide +kernel
theorem dX6_isClosed_1 : decode cX6_isClosed 1 = .ok (.aload_n 0, 1) := by decide +kernel
theorem dX6_isClosed_2 : decode cX6_isClosed 2 = .ok (.iload_n 1, 1) := by decide +kernel
theorem dX6_isClosed_3 : decode cX6_isClosed 3 = .ok (.invokevirtual 113, 3) := by decide +kernel
theorem dX6_isClosed_6 : decode cX6_isClosed 6 = .ok (.invokevirtual 116, 3) := by decide +kernel
theorem dX6_isClosed_9 : decode cX6_isClosed 9 = .ok (.ifCond .eq 16, 3) := by decide +kernel
theorem dX6_isClosed_12 : decode cX6_isClosed 12 = .ok (.aload_n 0, 1) := by decide +kernel
theorem dX6_isClosed_13 : decode cX6_isClosed 13 = .ok (.getfield 44, 3) := by decide +kernel
theorem dX6_isClosed_16 : decode cX6_isClosed 16 = .ok (.iload_n 1, 1) := by decide +kernel
theorem dX6_isClosed_17 : decode cX6_isClosed 17 = .ok (.baload, 1) := by decide +kernel
theorem dX6_isClosed_18 : decode cX6_isClosed 18 = .ok (.ifCond .eq 7, 3) := by decide +kernel
theorem dX6_isClosed_21 : decode cX6_isClosed 21 = .ok (.iconst 1, 1) := by decide +kernel
theorem dX6_isClosed_22 : decode cX6_isClosed 22 = .ok (.goto 4, 3) := by decide +kernel
theorem dX6_isClosed_25 : decode cX6_isClosed 25 = .ok (.iconst 0, 1) := by decide +kernel
theorem dX6_isClosed_26 : decode cX6_isClosed 26 = .ok (.ireturn, 1) := by decide +kernel
set_option maxRecDepth 20000 in
theorem ggX6_isLocked_X6_isLine : GoodIn wsX6_isLocked wsX6_isLine := goodIn_r _ [6, 7, 8, 9, 5, 10, 16, 17, 18, 19, 20, 21, 22, 23, 24, 25, 26, 27, 28, 29, 30, 31, 32, 33, 34, 35, 36, 37, 38, 39, 40, 41, 42] (by decide +kernel) (by decide +kernel)
set_option maxRecDepth 20000 in
theorem gX6_isLocked_X6_isLine : GoodIn wsX6_isLocked (wsV RX6 113 RX6 yX6_isLine wsX6_isLine) := goodIn_app (goodIn_of _ (by decide +kernel)) ggX6_isLocked_X6_isLine
set_option maxRecDepth 20000 in
theorem ggX6_isLocked_X6_isThere : GoodIn wsX6_isLocked wsX6_isThere := goodIn_r _ [14, 15, 16, 17, 18, 19, 20, 21, 22, 23, 24, 25, 26, 27, 28, 29, 30, 31, 32, 33, 34, 35, 36, 37, 38, 39, 40, 41, 42] (by decide +kernel) (by decide +kernel)
set_option maxRecDepth 20000 in
theorem gX6_isLocked_X6_isThere : GoodIn wsX6_isLocked (wsV RX6 116 RX6 yX6_isThere wsX6_isThere) := goodIn_app (goodIn_of _ (by decide +kernel)) ggX6_isLocked_X6_isThere
theorem dX6_isLocked_0 : decode cX6_isLocked 0 = .ok (.aload_n 0, 1) := by decide +kernel
theorem dX6_isLocked_1 : decode cX6_isLocked 1 = .ok (.aload_n 0, 1) := by decide +kernel
theorem dX6_isLocked_2 : decode cX6_isLocked 2 = .ok (.iload_n 1, 1) := by decide +kernel
theorem dX6_isLocked_3 : decode cX6_isLocked 3 = .ok (.invokevirtual 113, 3) := by decide +kernel
theorem dX6_isLocked_6 : decode cX6_isLocked 6 = .ok (.invokevirtual 116, 3) := by decide +kernel
theorem dX6_isLocked_9 : decode cX6_isLocked 9 = .ok (.ifCond .eq 16, 3) := by decide +kernel
theorem dX6_isLocked_12 : decode cX6_isLocked 12 = .ok (.aload_n 0, 1) := by decide +kernel
theorem dX6_isLocked_13 : decode cX6_isLocked 13 = .ok (.getfield 47, 3) := by decide +kernel
theorem dX6_isLocked_16 : decode cX6_isLocked 16 = .ok (.iload_n 1, 1) := by decide +kernel
theorem dX6_isLocked_17 : decode cX6_isLocked 17 = .ok (.baload, 1) := by decide +kernel
theorem dX6_isLocked_18 : decode cX6_isLocked 18 = .ok (.ifCond .eq 7, 3) := by decide +kernel
theorem dX6_isLocked_21 : decode cX6_isLocked 21 = .ok (.iconst 1, 1) := by decide +kernel
theorem dX6_isLocked_22 : decode cX6_isLocked 22 = .ok (.goto 4, 3) := by decide +kernel
theorem dX6_isLocked_25 : decode cX6_isLocked 25 = .ok (.iconst 0, 1) := by decide +kernel
theorem dX6_isLocked_26 : decode cX6_isLocked 26 = .ok (.ireturn, 1) := by decide +kernel
set_option maxRecDepth 20000 in
theorem ggX6_hasFault_X6_isLine : GoodIn wsX6_hasFault wsX6_isLine := goodIn_r _ [6, 7, 8, 9, 5, 10, 16, 17, 18, 19, 20, 21, 22, 23, 24, 25, 26, 27, 28, 29, 30, 31, 32, 33, 34, 35, 36, 37, 38, 39, 40, 41, 42] (by decide +kernel) (by decide +kernel)
set_option maxRecDepth 20000 in
theorem gX6_hasFault_X6_isLine : GoodIn wsX6_hasFault (wsV RX6 113 RX6 yX6_isLine wsX6_isLine) := goodIn_app (goodIn_of _ (by decide +kernel)) ggX6_hasFault_X6_isLine
set_option maxRecDepth 20000 in
theorem ggX6_hasFault_X6_isThere : GoodIn wsX6_hasFault wsX6_isThere := goodIn_r _ [14, 15, 16, 17, 18, 19, 20, 21, 22, 23, 24, 25, 26, 27, 28, 29, 30, 31, 32, 33, 34, 35, 36, 37, 38, 39, 40, 41, 42] (by decide +kernel) (by decide +kernel)
set_option maxRecDepth 20000 in
theorem gX6_hasFault_X6_isThere : GoodIn wsX6_hasFault (wsV RX6 116 RX6 yX6_isThere wsX6_isThere) := goodIn_app (goodIn_of _ (by decide +kernel)) ggX6_hasFault_X6_isThere
theorem dX6_hasFault_0 : decode cX6_hasFault 0 = .ok (.aload_n 0, 1) := by decide +kernel
theorem dX6_hasFault_1 : decode cX6_hasFault 1 = .ok (.aload_n 0, 1) := by decide +kernel
theorem dX6_hasFault_2 : decode cX6_hasFault 2 = .ok (.iload_n 1, 1) := by decide +kernel
theorem dX6_hasFault_3 : decode cX6_hasFault 3 = .ok (.invokevirtual 113, 3) := by decide +kernel
theorem dX6_hasFault_6 : decode cX6_hasFault 6 = .ok (.invokevirtual 116, 3) := by decide +kernel
theorem dX6_hasFault_9 : decode cX6_hasFault 9 = .ok (.ifCond .eq 16, 3) := by decide +kernel
theorem dX6_hasFault_12 : decode cX6_hasFault 12 = .ok (.aload_n 0, 1) := by decide +kernel
theorem dX6_hasFault_13 : decode cX6_hasFault 13 = .ok (.getfield 50, 3) := by decide +kernel
theorem dX6_hasFault_16 : decode cX6_hasFault 16 = .ok (.iload_n 1, 1) := by decide +kernel
theorem dX6_hasFault_17 : decode cX6_hasFault 17 = .ok (.baload, 1) := by decide +kernel
theorem dX6_hasFault_18 : decode cX6_hasFault 18 = .ok (.ifCond .eq 7, 3) := by decide +kernel
theorem dX6_hasFault_21 : decode cX6_hasFault 21 = .ok (.iconst 1, 1) := by decide +kernel
theorem dX6_hasFault_22 : decode cX6_hasFault 22 = .ok (.goto 4, 3) := by decide +kernel
theorem dX6_hasFault_25 : decode cX6_hasFault 25 = .ok (.iconst 0, 1) := by decide +kernel
theorem dX6_hasFault_26 : decode cX6_hasFault 26 = .ok (.ireturn, 1) := by decide +kernel
set_option maxRecDepth 20000 in
theorem ggX6_isPainted_X6_paints : GoodIn wsX6_isPainted wsX6_paints := goodIn_ca (goodIn_r _ [5, 6, 7, 8, 9, 10, 11, 24, 25, 26, 27, 28, 29, 30, 31, 32, 33, 34, 35, 36, 37, 38, 39, 40, 41, 42, 43, 44, 45, 46, 47, 48, 49, 50] (by decide +kernel) (by decide +kernel)) (goodIn_sub (fun _ h => List.mem_cons_of_mem _ (List.mem_append_right _ h)) (by decide +kernel))
set_option maxRecDepth 20000 in
theorem gX6_isPainted_X6_paints : GoodIn wsX6_isPainted (wsV RX6 90 RX6 yX6_paints wsX6_paints) := goodIn_app (goodIn_of _ (by decide +kernel)) ggX6_isPainted_X6_paints
set_option maxRecDepth 20000 in
theorem ggX6_isPainted_X6_isNode : GoodIn wsX6_isPainted wsX6_isNode := goodIn_r _ [15, 6, 16, 17, 4, 18, 24, 25, 26, 27, 28, 29, 30, 31, 32, 33, 34, 35, 36, 37, 38, 39, 40, 41, 42, 43, 44, 45, 46, 47, 48, 49, 50] (by decide +kernel) (by decide +kernel)
set_option maxRecDepth 20000 in
theorem gX6_isPainted_X6_isNode : GoodIn wsX6_isPainted (wsV RX6 86 RX6 yX6_isNode wsX6_isNode) := goodIn_app (goodIn_of _ (by decide +kernel)) ggX6_isPainted_X6_isNode
set_option maxRecDepth 20000 in
theorem ggX6_isPainted_X6_isThere : GoodIn wsX6_isPainted wsX6_isThere := goodIn_r _ [22, 23, 24, 25, 26, 27, 28, 29, 30, 31, 32, 33, 34, 35, 36, 37, 38, 39, 40, 41, 42, 43, 44, 45, 46, 47, 48, 49, 50] (by decide +kernel) (by decide +kernel)
set_option maxRecDepth 20000 in
theorem gX6_isPainted_X6_isThere : GoodIn wsX6_isPainted (wsV RX6 116 RX6 yX6_isThere wsX6_isThere) := goodIn_app (goodIn_of _ (by decide +kernel)) ggX6_isPainted_X6_isThere
theorem dX6_isPainted_0 : decode cX6_isPainted 0 = .ok (.aload_n 0, 1) := by decide +kernel
theorem dX6_isPainted_1 : decode cX6_isPainted 1 = .ok (.iconst (-1), 1) := by decide +kernel
theorem dX6_isPainted_2 : decode cX6_isPainted 2 = .ok (.iconst (-1), 1) := by decide +kernel
theorem dX6_isPainted_3 : decode cX6_isPainted 3 = .ok (.invokevirtual 90, 3) := by decide +kernel
theorem dX6_isPainted_6 : decode cX6_isPainted 6 = .ok (.aload_n 0, 1) := by decide +kernel
theorem dX6_isPainted_7 : decode cX6_isPainted 7 = .ok (.aload_n 0, 1) := by decide +kernel
theorem dX6_isPainted_8 : decode cX6_isPainted 8 = .ok (.iload_n 1, 1) := by decide +kernel
theorem dX6_isPainted_9 : decode cX6_isPainted 9 = .ok (.invokevirtual 86, 3) := by decide +kernel
theorem dX6_isPainted_12 : decode cX6_isPainted 12 = .ok (.invokevirtual 116, 3) := by decide +kernel
theorem dX6_isPainted_15 : decode cX6_isPainted 15 = .ok (.ireturn, 1) := by decide +kernel
set_option maxRecDepth 20000 in
theorem ggX6_islandOf_X6_isPainted : GoodIn wsX6_islandOf wsX6_isPainted := goodIn_ca (goodIn_r _ [6, 7, 8, 9, 5, 10, 11, 1, 12, 13, 14, 15, 16, 17, 18, 19, 20, 21, 22, 23, 24, 25, 26, 27, 28, 29, 30, 31, 32, 33, 34, 35, 36, 37, 38, 39, 40, 41, 42, 43, 44, 45, 46, 47, 48, 49, 50, 51, 52, 53, 54] (by decide +kernel) (by decide +kernel)) (goodIn_sub (fun _ h => List.mem_cons_of_mem _ (List.mem_append_right _ h)) (by decide +kernel))
set_option maxRecDepth 20000 in
theorem gX6_islandOf_X6_isPainted : GoodIn wsX6_islandOf (wsV RX6 153 RX6 yX6_isPainted wsX6_isPainted) := goodIn_app (goodIn_of _ (by decide +kernel)) ggX6_islandOf_X6_isPainted
theorem dX6_islandOf_0 : decode cX6_islandOf 0 = .ok (.aload_n 0, 1) := by decide +kernel
theorem dX6_islandOf_1 : decode cX6_islandOf 1 = .ok (.iload_n 1, 1) := by decide +kernel
theorem dX6_islandOf_2 : decode cX6_islandOf 2 = .ok (.invokevirtual 153, 3) := by decide +kernel
theorem dX6_islandOf_5 : decode cX6_islandOf 5 = .ok (.ifCond .eq 12, 3) := by decide +kernel
theorem dX6_islandOf_8 : decode cX6_islandOf 8 = .ok (.aload_n 0, 1) := by decide +kernel
theorem dX6_islandOf_9 : decode cX6_islandOf 9 = .ok (.getfield 53, 3) := by decide +kernel
theorem dX6_islandOf_12 : decode cX6_islandOf 12 = .ok (.iload_n 1, 1) := by decide +kernel
theorem dX6_islandOf_13 : decode cX6_islandOf 13 = .ok (.iaload, 1) := by decide +kernel
theorem dX6_islandOf_14 : decode cX6_islandOf 14 = .ok (.goto 4, 3) := by decide +kernel
theorem dX6_islandOf_17 : decode cX6_islandOf 17 = .ok (.iconst 0, 1) := by decide +kernel
theorem dX6_islandOf_18 : decode cX6_islandOf 18 = .ok (.ireturn, 1) := by decide +kernel
set_option maxRecDepth 20000 in
theorem ggX6_islandByRounds_X6_islandOf : GoodIn wsX6_islandByRounds wsX6_islandOf := goodIn_ca (goodIn_r _ [5, 6, 7, 8, 9, 4, 10, 11, 12, 13, 14, 15, 16, 17, 18, 19, 20, 21, 22, 23, 24, 25, 26, 27, 28, 29, 30, 31, 32, 33, 34, 35, 36, 37, 38, 39, 40, 41, 42, 43, 44, 45, 46, 47, 48, 49, 50, 51, 52, 53, 54, 55, 56, 57, 58] (by decide +kernel) (by decide +kernel)) (goodIn_sub (fun _ h => List.mem_cons_of_mem _ (List.mem_append_right _ h)) (by decide +kernel))
set_option maxRecDepth 20000 in
theorem gX6_islandByRounds_X6_islandOf : GoodIn wsX6_islandByRounds (wsV RX6 156 RX6 yX6_islandOf wsX6_islandOf) := goodIn_app (goodIn_of _ (by decide +kernel)) ggX6_islandByRounds_X6_islandOf
theorem dX6_islandByRounds_0 : decode cX6_islandByRounds 0 = .ok (.aload_n 0, 1) := by decide +kernel
theorem dX6_islandByRounds_1 : decode cX6_islandByRounds 1 = .ok (.iload_n 1, 1) := by decide +kernel
theorem dX6_islandByRounds_2 : decode cX6_islandByRounds 2 = .ok (.invokevirtual 156, 3) := by decide +kernel
