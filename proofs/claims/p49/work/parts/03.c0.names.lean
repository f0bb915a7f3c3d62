theorem dX0_init_0 : decode cX0_init 0 = .ok (.aload_n 0, 1) := by decide +kernel
theorem dX0_init_1 : decode cX0_init 1 = .ok (.invokespecial 3, 3) := by decide +kernel
theorem dX0_init_4 : decode cX0_init 4 = .ok (.aload_n 0, 1) := by decide +kernel
theorem dX0_init_5 : decode cX0_init 5 = .ok (.bipush 12, 2) := by decide +kernel
theorem dX0_init_7 : decode cX0_init 7 = .ok (.newarray .int, 2) := by decide +kernel
theorem dX0_init_9 : decode cX0_init 9 = .ok (.putfield 9, 3) := by decide +kernel
theorem dX0_init_12 : decode cX0_init 12 = .ok (.aload_n 0, 1) := by decide +kernel
theorem dX0_init_13 : decode cX0_init 13 = .ok (.bipush 10, 2) := by decide +kernel
theorem dX0_init_15 : decode cX0_init 15 = .ok (.newarray .int, 2) := by decide +kernel
theorem dX0_init_17 : decode cX0_init 17 = .ok (.putfield 15, 3) := by decide +kernel
theorem dX0_init_20 : decode cX0_init 20 = .ok (.aload_n 0, 1) := by decide +kernel
theorem dX0_init_21 : decode cX0_init 21 = .ok (.aload_n 1, 1) := by decide +kernel
theorem dX0_init_22 : decode cX0_init 22 = .ok (.putfield 18, 3) := by decide +kernel
theorem dX0_init_25 : decode cX0_init 25 = .ok (.return_, 1) := by decide +kernel
set_option maxRecDepth 20000 in
theorem ggX0_currentIn_X0_measure : GoodIn wsX0_currentIn wsX0_measure := goodIn_ca (goodIn_r _ [7, 2, 1, 8, 9, 10, 11, 12, 13, 6, 14, 15, 16, 17, 18, 19, 20, 21, 22, 23, 24, 25, 26, 27, 28, 33, 34, 35, 36, 37, 38, 39, 40, 41, 42, 43, 44, 45] (by decide +kernel) (by decide +kernel)) (goodIn_sub (fun _ h => List.mem_cons_of_mem _ (List.mem_append_right _ h)) (by decide +kernel))
set_option maxRecDepth 20000 in
theorem gX0_currentIn_X0_measure : GoodIn wsX0_currentIn (wsV RX0 22 RX0 yX0_measure wsX0_measure) := goodIn_app (goodIn_of _ (by decide +kernel)) ggX0_currentIn_X0_measure
set_option maxRecDepth 20000 in
theorem ggX0_currentIn_X1_isLine : GoodIn wsX0_currentIn wsX1_isLine := goodIn_r _ [32, 26, 36, 37, 38, 39, 40, 41, 42, 43, 44, 45] (by decide +kernel) (by decide +kernel)
set_option maxRecDepth 20000 in
theorem gX0_currentIn_X1_isLine : GoodIn wsX0_currentIn (wsV RX0 26 RX1 yX1_isLine wsX1_isLine) := goodIn_app (goodIn_of _ (by decide +kernel)) ggX0_currentIn_X1_isLine
theorem dX0_currentIn_0 : decode cX0_currentIn 0 = .ok (.aload_n 0, 1) := by decide +kernel
theorem dX0_currentIn_1 : decode cX0_currentIn 1 = .ok (.iload_n 2, 1) := by decide +kernel
theorem dX0_currentIn_2 : decode cX0_currentIn 2 = .ok (.invokevirtual 22, 3) := by decide +kernel
theorem dX0_currentIn_5 : decode cX0_currentIn 5 = .ok (.aload_n 0, 1) := by decide +kernel
theorem dX0_currentIn_6 : decode cX0_currentIn 6 = .ok (.getfield 18, 3) := by decide +kernel
theorem dX0_currentIn_9 : decode cX0_currentIn 9 = .ok (.iload_n 1, 1) := by decide +kernel
theorem dX0_currentIn_10 : decode cX0_currentIn 10 = .ok (.invokevirtual 26, 3) := by decide +kernel
theorem dX0_currentIn_13 : decode cX0_currentIn 13 = .ok (.ifCond .eq 12, 3) := by decide +kernel
theorem dX0_currentIn_16 : decode cX0_currentIn 16 = .ok (.aload_n 0, 1) := by decide +kernel
theorem dX0_currentIn_17 : decode cX0_currentIn 17 = .ok (.getfield 9, 3) := by decide +kernel
theorem dX0_currentIn_20 : decode cX0_currentIn 20 = .ok (.iload_n 1, 1) := by decide +kernel
theorem dX0_currentIn_21 : decode cX0_currentIn 21 = .ok (.iaload, 1) := by decide +kernel
theorem dX0_currentIn_22 : decode cX0_currentIn 22 = .ok (.goto 4, 3) := by decide +kernel
theorem dX0_currentIn_25 : decode cX0_currentIn 25 = .ok (.iconst 0, 1) := by decide +kernel
theorem dX0_currentIn_26 : decode cX0_currentIn 26 = .ok (.ireturn, 1) := by decide +kernel
set_option maxRecDepth 20000 in
theorem ggX0_firstOverloaded_X0_measure : GoodIn wsX0_firstOverloaded wsX0_measure := goodIn_ca (goodIn_r _ [7, 1, 2, 8, 9, 10, 11, 12, 13, 6, 14, 15, 16, 17, 18, 19, 20, 21, 22, 23, 24, 25, 26, 27, 28, 38, 39, 40, 41, 42, 43, 44, 45, 46, 47, 48, 49, 50] (by decide +kernel) (by decide +kernel)) (goodIn_sub (fun _ h => List.mem_cons_of_mem _ (List.mem_append_right _ h)) (by decide +kernel))
set_option maxRecDepth 20000 in
theorem gX0_firstOverloaded_X0_measure : GoodIn wsX0_firstOverloaded (wsV RX0 22 RX0 yX0_measure wsX0_measure) := goodIn_app (goodIn_of _ (by decide +kernel)) ggX0_firstOverloaded_X0_measure
set_option maxRecDepth 20000 in
theorem ggX0_firstOverloaded_X1_ratingAt : GoodIn wsX0_firstOverloaded wsX1_ratingAt := goodIn_ca (goodIn_r _ [32, 33, 34, 35, 36, 18, 37, 26, 41, 42, 43, 44, 45, 46, 47, 48, 49, 50] (by decide +kernel) (by decide +kernel)) (goodIn_sub (fun _ h => List.mem_cons_of_mem _ (List.mem_append_right _ h)) (by decide +kernel))
set_option maxRecDepth 20000 in
theorem gX0_firstOverloaded_X1_ratingAt : GoodIn wsX0_firstOverloaded (wsV RX0 32 RX1 yX1_ratingAt wsX1_ratingAt) := goodIn_app (goodIn_of _ (by decide +kernel)) ggX0_firstOverloaded_X1_ratingAt
theorem dX0_firstOverloaded_0 : decode cX0_firstOverloaded 0 = .ok (.aload_n 0, 1) := by decide +kernel
theorem dX0_firstOverloaded_1 : decode cX0_firstOverloaded 1 = .ok (.iload_n 1, 1) := by decide +kernel
theorem dX0_firstOverloaded_2 : decode cX0_firstOverloaded 2 = .ok (.invokevirtual 22, 3) := by decide +kernel
theorem dX0_firstOverloaded_5 : decode cX0_firstOverloaded 5 = .ok (.iconst 0, 1) := by decide +kernel
theorem dX0_firstOverloaded_6 : decode cX0_firstOverloaded 6 = .ok (.istore_n 2, 1) := by decide +kernel
theorem dX0_firstOverloaded_7 : decode cX0_firstOverloaded 7 = .ok (.iload_n 2, 1) := by decide +kernel
theorem dX0_firstOverloaded_8 : decode cX0_firstOverloaded 8 = .ok (.bipush 12, 2) := by decide +kernel
theorem dX0_firstOverloaded_10 : decode cX0_firstOverloaded 10 = .ok (.if_icmp .ge 28, 3) := by decide +kernel
theorem dX0_firstOverloaded_13 : decode cX0_firstOverloaded 13 = .ok (.aload_n 0, 1) := by decide +kernel
theorem dX0_firstOverloaded_14 : decode cX0_firstOverloaded 14 = .ok (.getfield 9, 3) := by decide +kernel
theorem dX0_firstOverloaded_17 : decode cX0_firstOverloaded 17 = .ok (.iload_n 2, 1) := by decide +kernel
theorem dX0_firstOverloaded_18 : decode cX0_firstOverloaded 18 = .ok (.iaload, 1) := by decide +kernel
theorem dX0_firstOverloaded_19 : decode cX0_firstOverloaded 19 = .ok (.aload_n 0, 1) := by decide +kernel
theorem dX0_firstOverloaded_20 : decode cX0_firstOverloaded 20 = .ok (.getfield 18, 3) := by decide +kernel
theorem dX0_firstOverloaded_23 : decode cX0_firstOverloaded 23 = .ok (.iload_n 2, 1) := by decide +kernel
theorem dX0_firstOverloaded_24 : decode cX0_firstOverloaded 24 = .ok (.invokevirtual 32, 3) := by decide +kernel
theorem dX0_firstOverloaded_27 : decode cX0_firstOverloaded 27 = .ok (.if_icmp .le 5, 3) := by decide +kernel
theorem dX0_firstOverloaded_30 : decode cX0_firstOverloaded 30 = .ok (.iload_n 2, 1) := by decide +kernel
theorem dX0_firstOverloaded_31 : decode cX0_firstOverloaded 31 = .ok (.ireturn, 1) := by decide +kernel
theorem dX0_firstOverloaded_32 : decode cX0_firstOverloaded 32 = .ok (.iinc 2 1, 3) := by decide +kernel
theorem dX0_firstOverloaded_35 : decode cX0_firstOverloaded 35 = .ok (.goto (-28), 3) := by decide +kernel
theorem dX0_firstOverloaded_38 : decode cX0_firstOverloaded 38 = .ok (.iconst (-1), 1) := by decide +kernel
theorem dX0_firstOverloaded_39 : decode cX0_firstOverloaded 39 = .ok (.ireturn, 1) := by decide +kernel
set_option maxRecDepth 20000 in
theorem ggX0_measure_X5_has : GoodIn wsX0_measure wsX5_has := goodIn_r _ [5] (by decide +kernel) (by decide +kernel)
set_option maxRecDepth 20000 in
theorem gX0_measure_X5_has_n43 : GoodIn wsX0_measure (wsX5_has) := ggX0_measure_X5_has
set_option maxRecDepth 20000 in
theorem ggX0_measure_X0_drawAt : GoodIn wsX0_measure wsX0_drawAt := goodIn_ca (goodIn_r _ [10, 2, 1, 11, 12, 13, 14, 15, 16, 17, 3, 4, 5, 18, 19, 20, 21, 22, 23, 24, 6, 7, 8, 9, 25, 26, 27, 28, 29, 30, 31, 32, 33, 34, 35, 36, 37] (by decide +kernel) (by decide +kernel)) (goodIn_sub (fun _ h => List.mem_cons_of_mem _ (List.mem_append_right _ h)) (by decide +kernel))
set_option maxRecDepth 20000 in
theorem gX0_measure_X0_drawAt : GoodIn wsX0_measure (wsV RX0 47 RX0 yX0_drawAt wsX0_drawAt) := goodIn_app (goodIn_of _ (by decide +kernel)) ggX0_measure_X0_drawAt
theorem dX0_measure_0 : decode cX0_measure 0 = .ok (.iconst 0, 1) := by decide +kernel
theorem dX0_measure_1 : decode cX0_measure 1 = .ok (.istore_n 2, 1) := by decide +kernel
theorem dX0_measure_2 : decode cX0_measure 2 = .ok (.iload_n 2, 1) := by decide +kernel
theorem dX0_measure_3 : decode cX0_measure 3 = .ok (.bipush 12, 2) := by decide +kernel
theorem dX0_measure_5 : decode cX0_measure 5 = .ok (.if_icmp .ge 16, 3) := by decide +kernel
theorem dX0_measure_8 : decode cX0_measure 8 = .ok (.aload_n 0, 1) := by decide +kernel
theorem dX0_measure_9 : decode cX0_measure 9 = .ok (.getfield 9, 3) := by decide +kernel
theorem dX0_measure_12 : decode cX0_measure 12 = .ok (.iload_n 2, 1) := by decide +kernel
theorem dX0_measure_13 : decode cX0_measure 13 = .ok (.iconst 0, 1) := by decide +kernel
theorem dX0_measure_14 : decode cX0_measure 14 = .ok (.iastore, 1) := by decide +kernel
theorem dX0_measure_15 : decode cX0_measure 15 = .ok (.iinc 2 1, 3) := by decide +kernel
theorem dX0_measure_18 : decode cX0_measure 18 = .ok (.goto (-16), 3) := by decide +kernel
theorem dX0_measure_21 : decode cX0_measure 21 = .ok (.iconst 0, 1) := by decide +kernel
theorem dX0_measure_22 : decode cX0_measure 22 = .ok (.istore_n 2, 1) := by decide +kernel
theorem dX0_measure_23 : decode cX0_measure 23 = .ok (.iload_n 2, 1) := by decide +kernel
theorem dX0_measure_24 : decode cX0_measure 24 = .ok (.aload_n 0, 1) := by decide +kernel
theorem dX0_measure_25 : decode cX0_measure 25 = .ok (.getfield 18, 3) := by decide +kernel
theorem dX0_measure_28 : decode cX0_measure 28 = .ok (.getfield 36, 3) := by decide +kernel
theorem dX0_measure_31 : decode cX0_measure 31 = .ok (.if_icmp .ge 32, 3) := by decide +kernel
theorem dX0_measure_34 : decode cX0_measure 34 = .ok (.aload_n 0, 1) := by decide +kernel
theorem dX0_measure_35 : decode cX0_measure 35 = .ok (.getfield 18, 3) := by decide +kernel
theorem dX0_measure_38 : decode cX0_measure 38 = .ok (.getfield 40, 3) := by decide +kernel
theorem dX0_measure_41 : decode cX0_measure 41 = .ok (.iload_n 2, 1) := by decide +kernel
theorem dX0_measure_42 : decode cX0_measure 42 = .ok (.invokestatic 43, 3) := by decide +kernel
theorem dX0_measure_45 : decode cX0_measure 45 = .ok (.ifCond .eq 12, 3) := by decide +kernel
theorem dX0_measure_48 : decode cX0_measure 48 = .ok (.aload_n 0, 1) := by decide +kernel
theorem dX0_measure_49 : decode cX0_measure 49 = .ok (.iload_n 2, 1) := by decide +kernel
theorem dX0_measure_50 : decode cX0_measure 50 = .ok (.iconst (-1), 1) := by decide +kernel
theorem dX0_measure_51 : decode cX0_measure 51 = .ok (.iload_n 1, 1) := by decide +kernel
theorem dX0_measure_52 : decode cX0_measure 52 = .ok (.iconst 0, 1) := by decide +kernel
theorem dX0_measure_53 : decode cX0_measure 53 = .ok (.invokevirtual 47, 3) := by decide +kernel
theorem dX0_measure_56 : decode cX0_measure 56 = .ok (.pop, 1) := by decide +kernel
theorem dX0_measure_57 : decode cX0_measure 57 = .ok (.iinc 2 1, 3) := by decide +kernel
theorem dX0_measure_60 : decode cX0_measure 60 = .ok (.goto (-37), 3) := by decide +kernel
theorem dX0_measure_63 : decode cX0_measure 63 = .ok (.return_, 1) := by decide +kernel
set_option maxRecDepth 20000 in
theorem ggX0_drawAt_X1_loadAt : GoodIn wsX0_drawAt wsX1_loadAt := goodIn_ca (goodIn_r _ [7, 8, 9, 27, 28, 29, 30, 31, 32, 33, 34, 35, 36] (by decide +kernel) (by decide +kernel)) (goodIn_sub (fun _ h => List.mem_cons_of_mem _ (List.mem_append_right _ h)) (by decide +kernel))
set_option maxRecDepth 20000 in
theorem gX0_drawAt_X1_loadAt : GoodIn wsX0_drawAt (wsV RX0 51 RX1 yX1_loadAt wsX1_loadAt) := goodIn_app (goodIn_of _ (by decide +kernel)) ggX0_drawAt_X1_loadAt
set_option maxRecDepth 20000 in
theorem ggX0_drawAt_X5_has : GoodIn wsX0_drawAt wsX5_has := goodIn_r _ [12] (by decide +kernel) (by decide +kernel)
set_option maxRecDepth 20000 in
theorem gX0_drawAt_X5_has_n43 : GoodIn wsX0_drawAt (wsX5_has) := ggX0_drawAt_X5_has
set_option maxRecDepth 20000 in
theorem ggX0_drawAt_X1_acrossFrom : GoodIn wsX0_drawAt wsX1_acrossFrom := goodIn_ca (goodIn_r _ [16, 17, 18, 19, 27, 28, 29, 30, 31, 32, 33, 34, 35, 36] (by decide +kernel) (by decide +kernel)) (goodIn_sub (fun _ h => List.mem_cons_of_mem _ (List.mem_append_right _ h)) (by decide +kernel))
set_option maxRecDepth 20000 in
theorem gX0_drawAt_X1_acrossFrom : GoodIn wsX0_drawAt (wsV RX0 54 RX1 yX1_acrossFrom wsX1_acrossFrom) := goodIn_app (goodIn_of _ (by decide +kernel)) ggX0_drawAt_X1_acrossFrom
set_option maxRecDepth 20000 in
theorem ggX0_drawAt_X0_drawAt : GoodIn wsX0_drawAt wsX0_drawAt := goodIn_ca (goodIn_r _ [0, 1, 2, 3, 4, 5, 6, 7, 8, 9, 10, 11, 12, 13, 14, 15, 16, 17, 18, 19, 20, 21, 22, 23, 24, 25, 26, 27, 28, 29, 30, 31, 32, 33, 34, 35, 36] (by decide +kernel) (by decide +kernel)) (goodIn_sub (fun _ h => List.mem_cons_of_mem _ (List.mem_append_right _ h)) (by decide +kernel))
set_option maxRecDepth 20000 in
theorem gX0_drawAt_X0_drawAt : GoodIn wsX0_drawAt (wsV RX0 47 RX0 yX0_drawAt wsX0_drawAt) := goodIn_app (goodIn_of _ (by decide +kernel)) ggX0_drawAt_X0_drawAt
theorem dX0_drawAt_0 : decode cX0_drawAt 0 = .ok (.iload 4, 2) := by decide +kernel
theorem dX0_drawAt_2 : decode cX0_drawAt 2 = .ok (.bipush 10, 2) := by decide +kernel
theorem dX0_drawAt_4 : decode cX0_drawAt 4 = .ok (.if_icmp .lt 5, 3) := by decide +kernel
theorem dX0_drawAt_7 : decode cX0_drawAt 7 = .ok (.iconst 0, 1) := by decide +kernel
theorem dX0_drawAt_8 : decode cX0_drawAt 8 = .ok (.ireturn, 1) := by decide +kernel
theorem dX0_drawAt_9 : decode cX0_drawAt 9 = .ok (.aload_n 0, 1) := by decide +kernel
theorem dX0_drawAt_10 : decode cX0_drawAt 10 = .ok (.getfield 18, 3) := by decide +kernel
theorem dX0_drawAt_13 : decode cX0_drawAt 13 = .ok (.iload_n 1, 1) := by decide +kernel
theorem dX0_drawAt_14 : decode cX0_drawAt 14 = .ok (.invokevirtual 51, 3) := by decide +kernel
theorem dX0_drawAt_17 : decode cX0_drawAt 17 = .ok (.istore 5, 2) := by decide +kernel
theorem dX0_drawAt_19 : decode cX0_drawAt 19 = .ok (.iconst 0, 1) := by decide +kernel
theorem dX0_drawAt_20 : decode cX0_drawAt 20 = .ok (.istore 6, 2) := by decide +kernel
theorem dX0_drawAt_22 : decode cX0_drawAt 22 = .ok (.iload 6, 2) := by decide +kernel
theorem dX0_drawAt_24 : decode cX0_drawAt 24 = .ok (.bipush 12, 2) := by decide +kernel
theorem dX0_drawAt_26 : decode cX0_drawAt 26 = .ok (.if_icmp .ge 78, 3) := by decide +kernel
theorem dX0_drawAt_29 : decode cX0_drawAt 29 = .ok (.iload 6, 2) := by decide +kernel
theorem dX0_drawAt_31 : decode cX0_drawAt 31 = .ok (.iload_n 2, 1) := by decide +kernel
theorem dX0_drawAt_32 : decode cX0_drawAt 32 = .ok (.if_icmp .eq 12, 3) := by decide +kernel
theorem dX0_drawAt_35 : decode cX0_drawAt 35 = .ok (.iload_n 3, 1) := by decide +kernel
theorem dX0_drawAt_36 : decode cX0_drawAt 36 = .ok (.iload 6, 2) := by decide +kernel
theorem dX0_drawAt_38 : decode cX0_drawAt 38 = .ok (.invokestatic 43, 3) := by decide +kernel
theorem dX0_drawAt_41 : decode cX0_drawAt 41 = .ok (.ifCond .ne 7, 3) := by decide +kernel
theorem dX0_drawAt_44 : decode cX0_drawAt 44 = .ok (.iconst (-1), 1) := by decide +kernel
theorem dX0_drawAt_45 : decode cX0_drawAt 45 = .ok (.goto 13, 3) := by decide +kernel
theorem dX0_drawAt_48 : decode cX0_drawAt 48 = .ok (.aload_n 0, 1) := by decide +kernel
theorem dX0_drawAt_49 : decode cX0_drawAt 49 = .ok (.getfield 18, 3) := by decide +kernel
theorem dX0_drawAt_52 : decode cX0_drawAt 52 = .ok (.iload_n 1, 1) := by decide +kernel
theorem dX0_drawAt_53 : decode cX0_drawAt 53 = .ok (.iload 6, 2) := by decide +kernel
theorem dX0_drawAt_55 : decode cX0_drawAt 55 = .ok (.invokevirtual 54, 3) := by decide +kernel
theorem dX0_drawAt_58 : decode cX0_drawAt 58 = .ok (.istore 7, 2) := by decide +kernel
theorem dX0_drawAt_60 : decode cX0_drawAt 60 = .ok (.iload 7, 2) := by decide +kernel
theorem dX0_drawAt_62 : decode cX0_drawAt 62 = .ok (.iconst (-1), 1) := by decide +kernel
theorem dX0_drawAt_63 : decode cX0_drawAt 63 = .ok (.if_icmp .eq 35, 3) := by decide +kernel
theorem dX0_drawAt_66 : decode cX0_drawAt 66 = .ok (.aload_n 0, 1) := by decide +kernel
theorem dX0_drawAt_67 : decode cX0_drawAt 67 = .ok (.getfield 9, 3) := by decide +kernel
theorem dX0_drawAt_70 : decode cX0_drawAt 70 = .ok (.iload 6, 2) := by decide +kernel
theorem dX0_drawAt_72 : decode cX0_drawAt 72 = .ok (.aload_n 0, 1) := by decide +kernel
theorem dX0_drawAt_73 : decode cX0_drawAt 73 = .ok (.iload 7, 2) := by decide +kernel
theorem dX0_drawAt_75 : decode cX0_drawAt 75 = .ok (.iload 6, 2) := by decide +kernel
theorem dX0_drawAt_77 : decode cX0_drawAt 77 = .ok (.iload_n 3, 1) := by decide +kernel
theorem dX0_drawAt_78 : decode cX0_drawAt 78 = .ok (.iload 4, 2) := by decide +kernel
theorem dX0_drawAt_80 : decode cX0_drawAt 80 = .ok (.iconst 1, 1) := by decide +kernel
theorem dX0_drawAt_81 : decode cX0_drawAt 81 = .ok (.iadd, 1) := by decide +kernel
theorem dX0_drawAt_82 : decode cX0_drawAt 82 = .ok (.invokevirtual 47, 3) := by decide +kernel
theorem dX0_drawAt_85 : decode cX0_drawAt 85 = .ok (.iastore, 1) := by decide +kernel
theorem dX0_drawAt_86 : decode cX0_drawAt 86 = .ok (.iload 5, 2) := by decide +kernel
theorem dX0_drawAt_88 : decode cX0_drawAt 88 = .ok (.aload_n 0, 1) := by decide +kernel
theorem dX0_drawAt_89 : decode cX0_drawAt 89 = .ok (.getfield 9, 3) := by decide +kernel
theorem dX0_drawAt_92 : decode cX0_drawAt 92 = .ok (.iload 6, 2) := by decide +kernel
theorem dX0_drawAt_94 : decode cX0_drawAt 94 = .ok (.iaload, 1) := by decide +kernel
theorem dX0_drawAt_95 : decode cX0_drawAt 95 = .ok (.iadd, 1) := by decide +kernel
theorem dX0_drawAt_96 : decode cX0_drawAt 96 = .ok (.istore 5, 2) := by decide +kernel
theorem dX0_drawAt_98 : decode cX0_drawAt 98 = .ok (.iinc 6 1, 3) := by decide +kernel
theorem dX0_drawAt_101 : decode cX0_drawAt 101 = .ok (.goto (-79), 3) := by decide +kernel
theorem dX0_drawAt_104 : decode cX0_drawAt 104 = .ok (.iload 5, 2) := by decide +kernel
theorem dX0_drawAt_106 : decode cX0_drawAt 106 = .ok (.ireturn, 1) := by decide +kernel
set_option maxRecDepth 20000 in
theorem ggX0_layPath_X5_has : GoodIn wsX0_layPath wsX5_has := goodIn_r _ [4] (by decide +kernel) (by decide +kernel)
set_option maxRecDepth 20000 in
theorem gX0_layPath_X5_has_n43 : GoodIn wsX0_layPath (wsX5_has) := ggX0_layPath_X5_has
set_option maxRecDepth 20000 in
theorem ggX0_layPath_X0_follow : GoodIn wsX0_layPath wsX0_follow := goodIn_ca (goodIn_r _ [9, 1, 10, 2, 3, 4, 11, 12, 13, 14, 15, 16, 17, 18, 5, 6, 7, 8, 19, 20, 21, 22, 23, 24, 25, 26, 27, 28, 29, 30, 31] (by decide +kernel) (by decide +kernel)) (goodIn_sub (fun _ h => List.mem_cons_of_mem _ (List.mem_append_right _ h)) (by decide +kernel))
set_option maxRecDepth 20000 in
theorem gX0_layPath_X0_follow : GoodIn wsX0_layPath (wsV RX0 58 RX0 yX0_follow wsX0_follow) := goodIn_app (goodIn_of _ (by decide +kernel)) ggX0_layPath_X0_follow
theorem dX0_layPath_0 : decode cX0_layPath 0 = .ok (.iconst 0, 1) := by decide +kernel
theorem dX0_layPath_1 : decode cX0_layPath 1 = .ok (.istore_n 3, 1) := by decide +kernel
theorem dX0_layPath_2 : decode cX0_layPath 2 = .ok (.iconst 0, 1) := by decide +kernel
theorem dX0_layPath_3 : decode cX0_layPath 3 = .ok (.istore 4, 2) := by decide +kernel
theorem dX0_layPath_5 : decode cX0_layPath 5 = .ok (.iload 4, 2) := by decide +kernel
theorem dX0_layPath_7 : decode cX0_layPath 7 = .ok (.aload_n 0, 1) := by decide +kernel
theorem dX0_layPath_8 : decode cX0_layPath 8 = .ok (.getfield 18, 3) := by decide +kernel
theorem dX0_layPath_11 : decode cX0_layPath 11 = .ok (.getfield 36, 3) := by decide +kernel
theorem dX0_layPath_14 : decode cX0_layPath 14 = .ok (.if_icmp .ge 39, 3) := by decide +kernel
theorem dX0_layPath_17 : decode cX0_layPath 17 = .ok (.iload_n 3, 1) := by decide +kernel
theorem dX0_layPath_18 : decode cX0_layPath 18 = .ok (.ifCond .ne 35, 3) := by decide +kernel
theorem dX0_layPath_21 : decode cX0_layPath 21 = .ok (.aload_n 0, 1) := by decide +kernel
theorem dX0_layPath_22 : decode cX0_layPath 22 = .ok (.getfield 18, 3) := by decide +kernel
theorem dX0_layPath_25 : decode cX0_layPath 25 = .ok (.getfield 40, 3) := by decide +kernel
theorem dX0_layPath_28 : decode cX0_layPath 28 = .ok (.iload 4, 2) := by decide +kernel
theorem dX0_layPath_30 : decode cX0_layPath 30 = .ok (.invokestatic 43, 3) := by decide +kernel
theorem dX0_layPath_33 : decode cX0_layPath 33 = .ok (.ifCond .eq 14, 3) := by decide +kernel
theorem dX0_layPath_36 : decode cX0_layPath 36 = .ok (.aload_n 0, 1) := by decide +kernel
theorem dX0_layPath_37 : decode cX0_layPath 37 = .ok (.iload 4, 2) := by decide +kernel
theorem dX0_layPath_39 : decode cX0_layPath 39 = .ok (.iconst (-1), 1) := by decide +kernel
theorem dX0_layPath_40 : decode cX0_layPath 40 = .ok (.iload_n 1, 1) := by decide +kernel
theorem dX0_layPath_41 : decode cX0_layPath 41 = .ok (.iload_n 2, 1) := by decide +kernel
theorem dX0_layPath_42 : decode cX0_layPath 42 = .ok (.iconst 0, 1) := by decide +kernel
theorem dX0_layPath_43 : decode cX0_layPath 43 = .ok (.invokevirtual 58, 3) := by decide +kernel
theorem dX0_layPath_46 : decode cX0_layPath 46 = .ok (.istore_n 3, 1) := by decide +kernel
theorem dX0_layPath_47 : decode cX0_layPath 47 = .ok (.iinc 4 1, 3) := by decide +kernel
theorem dX0_layPath_50 : decode cX0_layPath 50 = .ok (.goto (-45), 3) := by decide +kernel
theorem dX0_layPath_53 : decode cX0_layPath 53 = .ok (.iload_n 3, 1) := by decide +kernel
theorem dX0_layPath_54 : decode cX0_layPath 54 = .ok (.ireturn, 1) := by decide +kernel
set_option maxRecDepth 20000 in
theorem ggX0_follow_X5_has : GoodIn wsX0_follow wsX5_has := goodIn_r _ [5] (by decide +kernel) (by decide +kernel)
set_option maxRecDepth 20000 in
theorem gX0_follow_X5_has_n43 : GoodIn wsX0_follow (wsX5_has) := ggX0_follow_X5_has
set_option maxRecDepth 20000 in
theorem ggX0_follow_X1_acrossFrom : GoodIn wsX0_follow wsX1_acrossFrom := goodIn_ca (goodIn_r _ [10, 11, 12, 13, 21, 22, 23, 24, 25, 26, 27, 28, 29, 30] (by decide +kernel) (by decide +kernel)) (goodIn_sub (fun _ h => List.mem_cons_of_mem _ (List.mem_append_right _ h)) (by decide +kernel))
set_option maxRecDepth 20000 in
theorem gX0_follow_X1_acrossFrom : GoodIn wsX0_follow (wsV RX0 54 RX1 yX1_acrossFrom wsX1_acrossFrom) := goodIn_app (goodIn_of _ (by decide +kernel)) ggX0_follow_X1_acrossFrom
set_option maxRecDepth 20000 in
theorem ggX0_follow_X0_follow : GoodIn wsX0_follow wsX0_follow := goodIn_ca (goodIn_r _ [0, 1, 2, 3, 4, 5, 6, 7, 8, 9, 10, 11, 12, 13, 14, 15, 16, 17, 18, 19, 20, 21, 22, 23, 24, 25, 26, 27, 28, 29, 30] (by decide +kernel) (by decide +kernel)) (goodIn_sub (fun _ h => List.mem_cons_of_mem _ (List.mem_append_right _ h)) (by decide +kernel))
set_option maxRecDepth 20000 in
theorem gX0_follow_X0_follow : GoodIn wsX0_follow (wsV RX0 58 RX0 yX0_follow wsX0_follow) := goodIn_app (goodIn_of _ (by decide +kernel)) ggX0_follow_X0_follow
theorem dX0_follow_0 : decode cX0_follow 0 = .ok (.iload 5, 2) := by decide +kernel
theorem dX0_follow_2 : decode cX0_follow 2 = .ok (.bipush 10, 2) := by decide +kernel
theorem dX0_follow_4 : decode cX0_follow 4 = .ok (.if_icmp .lt 5, 3) := by decide +kernel
theorem dX0_follow_7 : decode cX0_follow 7 = .ok (.iconst 0, 1) := by decide +kernel
theorem dX0_follow_8 : decode cX0_follow 8 = .ok (.ireturn, 1) := by decide +kernel
theorem dX0_follow_9 : decode cX0_follow 9 = .ok (.iconst 0, 1) := by decide +kernel
theorem dX0_follow_10 : decode cX0_follow 10 = .ok (.istore 6, 2) := by decide +kernel
theorem dX0_follow_12 : decode cX0_follow 12 = .ok (.iload 6, 2) := by decide +kernel
theorem dX0_follow_14 : decode cX0_follow 14 = .ok (.bipush 12, 2) := by decide +kernel
theorem dX0_follow_16 : decode cX0_follow 16 = .ok (.if_icmp .ge 94, 3) := by decide +kernel
theorem dX0_follow_19 : decode cX0_follow 19 = .ok (.iload 6, 2) := by decide +kernel
theorem dX0_follow_21 : decode cX0_follow 21 = .ok (.iload_n 2, 1) := by decide +kernel
theorem dX0_follow_22 : decode cX0_follow 22 = .ok (.if_icmp .eq 13, 3) := by decide +kernel
theorem dX0_follow_25 : decode cX0_follow 25 = .ok (.iload 4, 2) := by decide +kernel
theorem dX0_follow_27 : decode cX0_follow 27 = .ok (.iload 6, 2) := by decide +kernel
theorem dX0_follow_29 : decode cX0_follow 29 = .ok (.invokestatic 43, 3) := by decide +kernel
theorem dX0_follow_32 : decode cX0_follow 32 = .ok (.ifCond .ne 7, 3) := by decide +kernel
theorem dX0_follow_35 : decode cX0_follow 35 = .ok (.iconst (-1), 1) := by decide +kernel
theorem dX0_follow_36 : decode cX0_follow 36 = .ok (.goto 13, 3) := by decide +kernel
theorem dX0_follow_39 : decode cX0_follow 39 = .ok (.aload_n 0, 1) := by decide +kernel
theorem dX0_follow_40 : decode cX0_follow 40 = .ok (.getfield 18, 3) := by decide +kernel
theorem dX0_follow_43 : decode cX0_follow 43 = .ok (.iload_n 1, 1) := by decide +kernel
theorem dX0_follow_44 : decode cX0_follow 44 = .ok (.iload 6, 2) := by decide +kernel
theorem dX0_follow_46 : decode cX0_follow 46 = .ok (.invokevirtual 54, 3) := by decide +kernel
theorem dX0_follow_49 : decode cX0_follow 49 = .ok (.istore 7, 2) := by decide +kernel
theorem dX0_follow_51 : decode cX0_follow 51 = .ok (.iload 7, 2) := by decide +kernel
theorem dX0_follow_53 : decode cX0_follow 53 = .ok (.iconst (-1), 1) := by decide +kernel
theorem dX0_follow_54 : decode cX0_follow 54 = .ok (.if_icmp .eq 50, 3) := by decide +kernel
theorem dX0_follow_57 : decode cX0_follow 57 = .ok (.aload_n 0, 1) := by decide +kernel
theorem dX0_follow_58 : decode cX0_follow 58 = .ok (.getfield 15, 3) := by decide +kernel
theorem dX0_follow_61 : decode cX0_follow 61 = .ok (.iload 5, 2) := by decide +kernel
theorem dX0_follow_63 : decode cX0_follow 63 = .ok (.iload 6, 2) := by decide +kernel
theorem dX0_follow_65 : decode cX0_follow 65 = .ok (.iastore, 1) := by decide +kernel
theorem dX0_follow_66 : decode cX0_follow 66 = .ok (.iload 6, 2) := by decide +kernel
theorem dX0_follow_68 : decode cX0_follow 68 = .ok (.iload_n 3, 1) := by decide +kernel
theorem dX0_follow_69 : decode cX0_follow 69 = .ok (.if_icmp .ne 10, 3) := by decide +kernel
theorem dX0_follow_72 : decode cX0_follow 72 = .ok (.iload 5, 2) := by decide +kernel
theorem dX0_follow_74 : decode cX0_follow 74 = .ok (.iconst 1, 1) := by decide +kernel
theorem dX0_follow_75 : decode cX0_follow 75 = .ok (.iadd, 1) := by decide +kernel
theorem dX0_follow_76 : decode cX0_follow 76 = .ok (.goto 18, 3) := by decide +kernel
theorem dX0_follow_79 : decode cX0_follow 79 = .ok (.aload_n 0, 1) := by decide +kernel
theorem dX0_follow_80 : decode cX0_follow 80 = .ok (.iload 7, 2) := by decide +kernel
theorem dX0_follow_82 : decode cX0_follow 82 = .ok (.iload 6, 2) := by decide +kernel
theorem dX0_follow_84 : decode cX0_follow 84 = .ok (.iload_n 3, 1) := by decide +kernel
theorem dX0_follow_85 : decode cX0_follow 85 = .ok (.iload 4, 2) := by decide +kernel
theorem dX0_follow_87 : decode cX0_follow 87 = .ok (.iload 5, 2) := by decide +kernel
theorem dX0_follow_89 : decode cX0_follow 89 = .ok (.iconst 1, 1) := by decide +kernel
theorem dX0_follow_90 : decode cX0_follow 90 = .ok (.iadd, 1) := by decide +kernel
theorem dX0_follow_91 : decode cX0_follow 91 = .ok (.invokevirtual 58, 3) := by decide +kernel
theorem dX0_follow_94 : decode cX0_follow 94 = .ok (.istore 8, 2) := by decide +kernel
theorem dX0_follow_96 : decode cX0_follow 96 = .ok (.iload 8, 2) := by decide +kernel
theorem dX0_follow_98 : decode cX0_follow 98 = .ok (.ifCond .le 6, 3) := by decide +kernel
theorem dX0_follow_101 : decode cX0_follow 101 = .ok (.iload 8, 2) := by decide +kernel
theorem dX0_follow_103 : decode cX0_follow 103 = .ok (.ireturn, 1) := by decide +kernel
theorem dX0_follow_104 : decode cX0_follow 104 = .ok (.iinc 6 1, 3) := by decide +kernel
theorem dX0_follow_107 : decode cX0_follow 107 = .ok (.goto (-95), 3) := by decide +kernel
theorem dX0_follow_110 : decode cX0_follow 110 = .ok (.iconst 0, 1) := by decide +kernel
theorem dX0_follow_111 : decode cX0_follow 111 = .ok (.ireturn, 1) := by decide +kernel
theorem dX0_lineOnPath_0 : decode cX0_lineOnPath 0 = .ok (.iload_n 1, 1) := by decide +kernel
theorem dX0_lineOnPath_1 : decode cX0_lineOnPath 1 = .ok (.ifCond .lt 18, 3) := by decide +kernel
theorem dX0_lineOnPath_4 : decode cX0_lineOnPath 4 = .ok (.iload_n 1, 1) := by decide +kernel
theorem dX0_lineOnPath_5 : decode cX0_lineOnPath 5 = .ok (.bipush 10, 2) := by decide +kernel
theorem dX0_lineOnPath_7 : decode cX0_lineOnPath 7 = .ok (.if_icmp .ge 12, 3) := by decide +kernel
theorem dX0_lineOnPath_10 : decode cX0_lineOnPath 10 = .ok (.aload_n 0, 1) := by decide +kernel
theorem dX0_lineOnPath_11 : decode cX0_lineOnPath 11 = .ok (.getfield 15, 3) := by decide +kernel
theorem dX0_lineOnPath_14 : decode cX0_lineOnPath 14 = .ok (.iload_n 1, 1) := by decide +kernel
theorem dX0_lineOnPath_15 : decode cX0_lineOnPath 15 = .ok (.iaload, 1) := by decide +kernel
theorem dX0_lineOnPath_16 : decode cX0_lineOnPath 16 = .ok (.goto 4, 3) := by decide +kernel
theorem dX0_lineOnPath_19 : decode cX0_lineOnPath 19 = .ok (.iconst (-1), 1) := by decide +kernel
theorem dX0_lineOnPath_20 : decode cX0_lineOnPath 20 = .ok (.ireturn, 1) := by decide +kernel
theorem dX1_init_0 : decode cX1_init 0 = .ok (.aload_n 0, 1) := by decide +kernel
theorem dX1_init_1 : decode cX1_init 1 = .ok (.invokespecial 3, 3) := by decide +kernel
theorem dX1_init_4 : decode cX1_init 4 = .ok (.aload_n 0, 1) := by decide +kernel
theorem dX1_init_5 : decode cX1_init 5 = .ok (.bipush 10, 2) := by decide +kernel
theorem dX1_init_7 : decode cX1_init 7 = .ok (.newarray .int, 2) := by decide +kernel
theorem dX1_init_9 : decode cX1_init 9 = .ok (.putfield 9, 3) := by decide +kernel
theorem dX1_init_12 : decode cX1_init 12 = .ok (.aload_n 0, 1) := by decide +kernel
theorem dX1_init_13 : decode cX1_init 13 = .ok (.bipush 10, 2) := by decide +kernel
theorem dX1_init_15 : decode cX1_init 15 = .ok (.newarray .int, 2) := by decide +kernel
theorem dX1_init_17 : decode cX1_init 17 = .ok (.putfield 15, 3) := by decide +kernel
theorem dX1_init_20 : decode cX1_init 20 = .ok (.aload_n 0, 1) := by decide +kernel
theorem dX1_init_21 : decode cX1_init 21 = .ok (.bipush 10, 2) := by decide +kernel
theorem dX1_init_23 : decode cX1_init 23 = .ok (.newarray .int, 2) := by decide +kernel
theorem dX1_init_25 : decode cX1_init 25 = .ok (.putfield 18, 3) := by decide +kernel
theorem dX1_init_28 : decode cX1_init 28 = .ok (.aload_n 0, 1) := by decide +kernel
theorem dX1_init_29 : decode cX1_init 29 = .ok (.bipush 12, 2) := by decide +kernel
theorem dX1_init_31 : decode cX1_init 31 = .ok (.newarray .int, 2) := by decide +kernel
theorem dX1_init_33 : decode cX1_init 33 = .ok (.putfield 21, 3) := by decide +kernel
theorem dX1_init_36 : decode cX1_init 36 = .ok (.aload_n 0, 1) := by decide +kernel
theorem dX1_init_37 : decode cX1_init 37 = .ok (.bipush 12, 2) := by decide +kernel
theorem dX1_init_39 : decode cX1_init 39 = .ok (.newarray .int, 2) := by decide +kernel
theorem dX1_init_41 : decode cX1_init 41 = .ok (.putfield 24, 3) := by decide +kernel
theorem dX1_init_44 : decode cX1_init 44 = .ok (.aload_n 0, 1) := by decide +kernel
theorem dX1_init_45 : decode cX1_init 45 = .ok (.bipush 12, 2) := by decide +kernel
theorem dX1_init_47 : decode cX1_init 47 = .ok (.newarray .int, 2) := by decide +kernel
theorem dX1_init_49 : decode cX1_init 49 = .ok (.putfield 27, 3) := by decide +kernel
theorem dX1_init_52 : decode cX1_init 52 = .ok (.return_, 1) := by decide +kernel
set_option maxRecDepth 20000 in
theorem ggX1_addNode_X5_bit : GoodIn wsX1_addNode wsX5_bit := goodIn_r _ [8] (by decide +kernel) (by decide +kernel)
set_option maxRecDepth 20000 in
theorem gX1_addNode_X5_bit_n37 : GoodIn wsX1_addNode (wsX5_bit) := ggX1_addNode_X5_bit
theorem dX1_addNode_0 : decode cX1_addNode 0 = .ok (.aload_n 0, 1) := by decide +kernel
theorem dX1_addNode_1 : decode cX1_addNode 1 = .ok (.getfield 30, 3) := by decide +kernel
theorem dX1_addNode_4 : decode cX1_addNode 4 = .ok (.istore 4, 2) := by decide +kernel
theorem dX1_addNode_6 : decode cX1_addNode 6 = .ok (.iload 4, 2) := by decide +kernel
theorem dX1_addNode_8 : decode cX1_addNode 8 = .ok (.bipush 10, 2) := by decide +kernel
theorem dX1_addNode_10 : decode cX1_addNode 10 = .ok (.if_icmp .lt 5, 3) := by decide +kernel
theorem dX1_addNode_13 : decode cX1_addNode 13 = .ok (.iconst (-1), 1) := by decide +kernel
theorem dX1_addNode_14 : decode cX1_addNode 14 = .ok (.ireturn, 1) := by decide +kernel
theorem dX1_addNode_15 : decode cX1_addNode 15 = .ok (.aload_n 0, 1) := by decide +kernel
theorem dX1_addNode_16 : decode cX1_addNode 16 = .ok (.getfield 9, 3) := by decide +kernel
theorem dX1_addNode_19 : decode cX1_addNode 19 = .ok (.iload 4, 2) := by decide +kernel
theorem dX1_addNode_21 : decode cX1_addNode 21 = .ok (.iload_n 1, 1) := by decide +kernel
theorem dX1_addNode_22 : decode cX1_addNode 22 = .ok (.iastore, 1) := by decide +kernel
theorem dX1_addNode_23 : decode cX1_addNode 23 = .ok (.aload_n 0, 1) := by decide +kernel
theorem dX1_addNode_24 : decode cX1_addNode 24 = .ok (.getfield 15, 3) := by decide +kernel
theorem dX1_addNode_27 : decode cX1_addNode 27 = .ok (.iload 4, 2) := by decide +kernel
theorem dX1_addNode_29 : decode cX1_addNode 29 = .ok (.iload_n 2, 1) := by decide +kernel
theorem dX1_addNode_30 : decode cX1_addNode 30 = .ok (.iastore, 1) := by decide +kernel
theorem dX1_addNode_31 : decode cX1_addNode 31 = .ok (.aload_n 0, 1) := by decide +kernel
theorem dX1_addNode_32 : decode cX1_addNode 32 = .ok (.getfield 18, 3) := by decide +kernel
theorem dX1_addNode_35 : decode cX1_addNode 35 = .ok (.iload 4, 2) := by decide +kernel
theorem dX1_addNode_37 : decode cX1_addNode 37 = .ok (.iload_n 3, 1) := by decide +kernel
theorem dX1_addNode_38 : decode cX1_addNode 38 = .ok (.iastore, 1) := by decide +kernel
theorem dX1_addNode_39 : decode cX1_addNode 39 = .ok (.iload_n 1, 1) := by decide +kernel
theorem dX1_addNode_40 : decode cX1_addNode 40 = .ok (.ifCond .le 17, 3) := by decide +kernel
theorem dX1_addNode_43 : decode cX1_addNode 43 = .ok (.aload_n 0, 1) := by decide +kernel
theorem dX1_addNode_44 : decode cX1_addNode 44 = .ok (.dup, 1) := by decide +kernel
theorem dX1_addNode_45 : decode cX1_addNode 45 = .ok (.getfield 34, 3) := by decide +kernel
theorem dX1_addNode_48 : decode cX1_addNode 48 = .ok (.iload 4, 2) := by decide +kernel
theorem dX1_addNode_50 : decode cX1_addNode 50 = .ok (.invokestatic 37, 3) := by decide +kernel
theorem dX1_addNode_53 : decode cX1_addNode 53 = .ok (.ior, 1) := by decide +kernel
theorem dX1_addNode_54 : decode cX1_addNode 54 = .ok (.putfield 34, 3) := by decide +kernel
theorem dX1_addNode_57 : decode cX1_addNode 57 = .ok (.aload_n 0, 1) := by decide +kernel
theorem dX1_addNode_58 : decode cX1_addNode 58 = .ok (.iload 4, 2) := by decide +kernel
theorem dX1_addNode_60 : decode cX1_addNode 60 = .ok (.iconst 1, 1) := by decide +kernel
theorem dX1_addNode_61 : decode cX1_addNode 61 = .ok (.iadd, 1) := by decide +kernel
theorem dX1_addNode_62 : decode cX1_addNode 62 = .ok (.putfield 30, 3) := by decide +kernel
theorem dX1_addNode_65 : decode cX1_addNode 65 = .ok (.iload 4, 2) := by decide +kernel
theorem dX1_addNode_67 : decode cX1_addNode 67 = .ok (.ireturn, 1) := by decide +kernel
set_option maxRecDepth 20000 in
theorem ggX1_addLineBetween_X5_bit : GoodIn wsX1_addLineBetween wsX5_bit := goodIn_r _ [8] (by decide +kernel) (by decide +kernel)
set_option maxRecDepth 20000 in
theorem gX1_addLineBetween_X5_bit_n37 : GoodIn wsX1_addLineBetween (wsX5_bit) := ggX1_addLineBetween_X5_bit
theorem dX1_addLineBetween_0 : decode cX1_addLineBetween 0 = .ok (.aload_n 0, 1) := by decide +kernel
theorem dX1_addLineBetween_1 : decode cX1_addLineBetween 1 = .ok (.getfield 41, 3) := by decide +kernel
theorem dX1_addLineBetween_4 : decode cX1_addLineBetween 4 = .ok (.istore 5, 2) := by decide +kernel
theorem dX1_addLineBetween_6 : decode cX1_addLineBetween 6 = .ok (.iload 5, 2) := by decide +kernel
theorem dX1_addLineBetween_8 : decode cX1_addLineBetween 8 = .ok (.bipush 12, 2) := by decide +kernel
theorem dX1_addLineBetween_10 : decode cX1_addLineBetween 10 = .ok (.if_icmp .lt 5, 3) := by decide +kernel
theorem dX1_addLineBetween_13 : decode cX1_addLineBetween 13 = .ok (.iconst (-1), 1) := by decide +kernel
theorem dX1_addLineBetween_14 : decode cX1_addLineBetween 14 = .ok (.ireturn, 1) := by decide +kernel
theorem dX1_addLineBetween_15 : decode cX1_addLineBetween 15 = .ok (.aload_n 0, 1) := by decide +kernel
theorem dX1_addLineBetween_16 : decode cX1_addLineBetween 16 = .ok (.getfield 21, 3) := by decide +kernel
theorem dX1_addLineBetween_19 : decode cX1_addLineBetween 19 = .ok (.iload 5, 2) := by decide +kernel
theorem dX1_addLineBetween_21 : decode cX1_addLineBetween 21 = .ok (.iload_n 1, 1) := by decide +kernel
theorem dX1_addLineBetween_22 : decode cX1_addLineBetween 22 = .ok (.iastore, 1) := by decide +kernel
theorem dX1_addLineBetween_23 : decode cX1_addLineBetween 23 = .ok (.aload_n 0, 1) := by decide +kernel
theorem dX1_addLineBetween_24 : decode cX1_addLineBetween 24 = .ok (.getfield 24, 3) := by decide +kernel
theorem dX1_addLineBetween_27 : decode cX1_addLineBetween 27 = .ok (.iload 5, 2) := by decide +kernel
theorem dX1_addLineBetween_29 : decode cX1_addLineBetween 29 = .ok (.iload_n 2, 1) := by decide +kernel
theorem dX1_addLineBetween_30 : decode cX1_addLineBetween 30 = .ok (.iastore, 1) := by decide +kernel
theorem dX1_addLineBetween_31 : decode cX1_addLineBetween 31 = .ok (.aload_n 0, 1) := by decide +kernel
theorem dX1_addLineBetween_32 : decode cX1_addLineBetween 32 = .ok (.getfield 27, 3) := by decide +kernel
theorem dX1_addLineBetween_35 : decode cX1_addLineBetween 35 = .ok (.iload 5, 2) := by decide +kernel
theorem dX1_addLineBetween_37 : decode cX1_addLineBetween 37 = .ok (.iload_n 3, 1) := by decide +kernel
theorem dX1_addLineBetween_38 : decode cX1_addLineBetween 38 = .ok (.iastore, 1) := by decide +kernel
theorem dX1_addLineBetween_39 : decode cX1_addLineBetween 39 = .ok (.iload 4, 2) := by decide +kernel
theorem dX1_addLineBetween_41 : decode cX1_addLineBetween 41 = .ok (.ifCond .eq 17, 3) := by decide +kernel
theorem dX1_addLineBetween_44 : decode cX1_addLineBetween 44 = .ok (.aload_n 0, 1) := by decide +kernel
theorem dX1_addLineBetween_45 : decode cX1_addLineBetween 45 = .ok (.dup, 1) := by decide +kernel
theorem dX1_addLineBetween_46 : decode cX1_addLineBetween 46 = .ok (.getfield 44, 3) := by decide +kernel
theorem dX1_addLineBetween_49 : decode cX1_addLineBetween 49 = .ok (.iload 5, 2) := by decide +kernel
theorem dX1_addLineBetween_51 : decode cX1_addLineBetween 51 = .ok (.invokestatic 37, 3) := by decide +kernel
theorem dX1_addLineBetween_54 : decode cX1_addLineBetween 54 = .ok (.ior, 1) := by decide +kernel
theorem dX1_addLineBetween_55 : decode cX1_addLineBetween 55 = .ok (.putfield 44, 3) := by decide +kernel
theorem dX1_addLineBetween_58 : decode cX1_addLineBetween 58 = .ok (.aload_n 0, 1) := by decide +kernel
theorem dX1_addLineBetween_59 : decode cX1_addLineBetween 59 = .ok (.iload 5, 2) := by decide +kernel
theorem dX1_addLineBetween_61 : decode cX1_addLineBetween 61 = .ok (.iconst 1, 1) := by decide +kernel
theorem dX1_addLineBetween_62 : decode cX1_addLineBetween 62 = .ok (.iadd, 1) := by decide +kernel
theorem dX1_addLineBetween_63 : decode cX1_addLineBetween 63 = .ok (.putfield 41, 3) := by decide +kernel
theorem dX1_addLineBetween_66 : decode cX1_addLineBetween 66 = .ok (.iload 5, 2) := by decide +kernel
theorem dX1_addLineBetween_68 : decode cX1_addLineBetween 68 = .ok (.ireturn, 1) := by decide +kernel
theorem dX1_isNode_0 : decode cX1_isNode 0 = .ok (.iload_n 1, 1) := by decide +kernel
theorem dX1_isNode_1 : decode cX1_isNode 1 = .ok (.ifCond .lt 15, 3) := by decide +kernel
theorem dX1_isNode_4 : decode cX1_isNode 4 = .ok (.iload_n 1, 1) := by decide +kernel
theorem dX1_isNode_5 : decode cX1_isNode 5 = .ok (.aload_n 0, 1) := by decide +kernel
theorem dX1_isNode_6 : decode cX1_isNode 6 = .ok (.getfield 30, 3) := by decide +kernel
theorem dX1_isNode_9 : decode cX1_isNode 9 = .ok (.if_icmp .ge 7, 3) := by decide +kernel
theorem dX1_isNode_12 : decode cX1_isNode 12 = .ok (.iconst 1, 1) := by decide +kernel
theorem dX1_isNode_13 : decode cX1_isNode 13 = .ok (.goto 4, 3) := by decide +kernel
theorem dX1_isNode_16 : decode cX1_isNode 16 = .ok (.iconst 0, 1) := by decide +kernel
theorem dX1_isNode_17 : decode cX1_isNode 17 = .ok (.ireturn, 1) := by decide +kernel
theorem dX1_isLine_0 : decode cX1_isLine 0 = .ok (.iload_n 1, 1) := by decide +kernel
theorem dX1_isLine_1 : decode cX1_isLine 1 = .ok (.ifCond .lt 15, 3) := by decide +kernel
theorem dX1_isLine_4 : decode cX1_isLine 4 = .ok (.iload_n 1, 1) := by decide +kernel
theorem dX1_isLine_5 : decode cX1_isLine 5 = .ok (.aload_n 0, 1) := by decide +kernel
theorem dX1_isLine_6 : decode cX1_isLine 6 = .ok (.getfield 41, 3) := by decide +kernel
theorem dX1_isLine_9 : decode cX1_isLine 9 = .ok (.if_icmp .ge 7, 3) := by decide +kernel
theorem dX1_isLine_12 : decode cX1_isLine 12 = .ok (.iconst 1, 1) := by decide +kernel
theorem dX1_isLine_13 : decode cX1_isLine 13 = .ok (.goto 4, 3) := by decide +kernel
theorem dX1_isLine_16 : decode cX1_isLine 16 = .ok (.iconst 0, 1) := by decide +kernel
theorem dX1_isLine_17 : decode cX1_isLine 17 = .ok (.ireturn, 1) := by decide +kernel
set_option maxRecDepth 20000 in
theorem ggX1_allNodes_X5_bit : GoodIn wsX1_allNodes wsX5_bit := goodIn_r _ [4] (by decide +kernel) (by decide +kernel)
set_option maxRecDepth 20000 in
theorem gX1_allNodes_X5_bit_n37 : GoodIn wsX1_allNodes (wsX5_bit) := ggX1_allNodes_X5_bit
theorem dX1_allNodes_0 : decode cX1_allNodes 0 = .ok (.aload_n 0, 1) := by decide +kernel
theorem dX1_allNodes_1 : decode cX1_allNodes 1 = .ok (.getfield 30, 3) := by decide +kernel
theorem dX1_allNodes_4 : decode cX1_allNodes 4 = .ok (.invokestatic 37, 3) := by decide +kernel
theorem dX1_allNodes_7 : decode cX1_allNodes 7 = .ok (.iconst 1, 1) := by decide +kernel
theorem dX1_allNodes_8 : decode cX1_allNodes 8 = .ok (.isub, 1) := by decide +kernel
theorem dX1_allNodes_9 : decode cX1_allNodes 9 = .ok (.ireturn, 1) := by decide +kernel
theorem dX1_loadAt_0 : decode cX1_loadAt 0 = .ok (.iload_n 1, 1) := by decide +kernel
theorem dX1_loadAt_1 : decode cX1_loadAt 1 = .ok (.ifCond .lt 20, 3) := by decide +kernel
theorem dX1_loadAt_4 : decode cX1_loadAt 4 = .ok (.iload_n 1, 1) := by decide +kernel
theorem dX1_loadAt_5 : decode cX1_loadAt 5 = .ok (.aload_n 0, 1) := by decide +kernel
theorem dX1_loadAt_6 : decode cX1_loadAt 6 = .ok (.getfield 30, 3) := by decide +kernel
theorem dX1_loadAt_9 : decode cX1_loadAt 9 = .ok (.if_icmp .ge 12, 3) := by decide +kernel
theorem dX1_loadAt_12 : decode cX1_loadAt 12 = .ok (.aload_n 0, 1) := by decide +kernel
theorem dX1_loadAt_13 : decode cX1_loadAt 13 = .ok (.getfield 15, 3) := by decide +kernel
theorem dX1_loadAt_16 : decode cX1_loadAt 16 = .ok (.iload_n 1, 1) := by decide +kernel
theorem dX1_loadAt_17 : decode cX1_loadAt 17 = .ok (.iaload, 1) := by decide +kernel
theorem dX1_loadAt_18 : decode cX1_loadAt 18 = .ok (.goto 4, 3) := by decide +kernel
theorem dX1_loadAt_21 : decode cX1_loadAt 21 = .ok (.iconst 0, 1) := by decide +kernel
theorem dX1_loadAt_22 : decode cX1_loadAt 22 = .ok (.ireturn, 1) := by decide +kernel
set_option maxRecDepth 20000 in
theorem ggX1_putLoad_X1_isNode : GoodIn wsX1_putLoad wsX1_isNode := goodIn_r _ [6, 7, 8, 9, 10, 11, 12, 13, 14, 15, 16, 17] (by decide +kernel) (by decide +kernel)
set_option maxRecDepth 20000 in
theorem gX1_putLoad_X1_isNode : GoodIn wsX1_putLoad (wsV RX1 47 RX1 yX1_isNode wsX1_isNode) := goodIn_app (goodIn_of _ (by decide +kernel)) ggX1_putLoad_X1_isNode
theorem dX1_putLoad_0 : decode cX1_putLoad 0 = .ok (.aload_n 0, 1) := by decide +kernel
theorem dX1_putLoad_1 : decode cX1_putLoad 1 = .ok (.iload_n 1, 1) := by decide +kernel
theorem dX1_putLoad_2 : decode cX1_putLoad 2 = .ok (.invokevirtual 47, 3) := by decide +kernel
theorem dX1_putLoad_5 : decode cX1_putLoad 5 = .ok (.ifCond .eq 10, 3) := by decide +kernel
theorem dX1_putLoad_8 : decode cX1_putLoad 8 = .ok (.aload_n 0, 1) := by decide +kernel
theorem dX1_putLoad_9 : decode cX1_putLoad 9 = .ok (.getfield 15, 3) := by decide +kernel
theorem dX1_putLoad_12 : decode cX1_putLoad 12 = .ok (.iload_n 1, 1) := by decide +kernel
theorem dX1_putLoad_13 : decode cX1_putLoad 13 = .ok (.iload_n 2, 1) := by decide +kernel
theorem dX1_putLoad_14 : decode cX1_putLoad 14 = .ok (.iastore, 1) := by decide +kernel
theorem dX1_putLoad_15 : decode cX1_putLoad 15 = .ok (.return_, 1) := by decide +kernel
set_option maxRecDepth 20000 in
theorem ggX1_capacityAt_X1_isNode : GoodIn wsX1_capacityAt wsX1_isNode := goodIn_r _ [6, 7, 8, 9, 10, 11, 12, 13, 14, 15, 16, 17] (by decide +kernel) (by decide +kernel)
set_option maxRecDepth 20000 in
theorem gX1_capacityAt_X1_isNode : GoodIn wsX1_capacityAt (wsV RX1 47 RX1 yX1_isNode wsX1_isNode) := goodIn_app (goodIn_of _ (by decide +kernel)) ggX1_capacityAt_X1_isNode
theorem dX1_capacityAt_0 : decode cX1_capacityAt 0 = .ok (.aload_n 0, 1) := by decide +kernel
theorem dX1_capacityAt_1 : decode cX1_capacityAt 1 = .ok (.iload_n 1, 1) := by decide +kernel
theorem dX1_capacityAt_2 : decode cX1_capacityAt 2 = .ok (.invokevirtual 47, 3) := by decide +kernel
theorem dX1_capacityAt_5 : decode cX1_capacityAt 5 = .ok (.ifCond .eq 12, 3) := by decide +kernel
theorem dX1_capacityAt_8 : decode cX1_capacityAt 8 = .ok (.aload_n 0, 1) := by decide +kernel
theorem dX1_capacityAt_9 : decode cX1_capacityAt 9 = .ok (.getfield 9, 3) := by decide +kernel
theorem dX1_capacityAt_12 : decode cX1_capacityAt 12 = .ok (.iload_n 1, 1) := by decide +kernel
theorem dX1_capacityAt_13 : decode cX1_capacityAt 13 = .ok (.iaload, 1) := by decide +kernel
theorem dX1_capacityAt_14 : decode cX1_capacityAt 14 = .ok (.goto 4, 3) := by decide +kernel
theorem dX1_capacityAt_17 : decode cX1_capacityAt 17 = .ok (.iconst 0, 1) := by decide +kernel
theorem dX1_capacityAt_18 : decode cX1_capacityAt 18 = .ok (.ireturn, 1) := by decide +kernel
set_option maxRecDepth 20000 in
theorem ggX1_ratingAt_X1_isLine : GoodIn wsX1_ratingAt wsX1_isLine := goodIn_r _ [6, 7, 8, 9, 10, 11, 12, 13, 14, 15, 16, 17] (by decide +kernel) (by decide +kernel)
set_option maxRecDepth 20000 in
theorem gX1_ratingAt_X1_isLine : GoodIn wsX1_ratingAt (wsV RX1 51 RX1 yX1_isLine wsX1_isLine) := goodIn_app (goodIn_of _ (by decide +kernel)) ggX1_ratingAt_X1_isLine
theorem dX1_ratingAt_0 : decode cX1_ratingAt 0 = .ok (.aload_n 0, 1) := by decide +kernel
theorem dX1_ratingAt_1 : decode cX1_ratingAt 1 = .ok (.iload_n 1, 1) := by decide +kernel
theorem dX1_ratingAt_2 : decode cX1_ratingAt 2 = .ok (.invokevirtual 51, 3) := by decide +kernel
theorem dX1_ratingAt_5 : decode cX1_ratingAt 5 = .ok (.ifCond .eq 12, 3) := by decide +kernel
theorem dX1_ratingAt_8 : decode cX1_ratingAt 8 = .ok (.aload_n 0, 1) := by decide +kernel
theorem dX1_ratingAt_9 : decode cX1_ratingAt 9 = .ok (.getfield 27, 3) := by decide +kernel
theorem dX1_ratingAt_12 : decode cX1_ratingAt 12 = .ok (.iload_n 1, 1) := by decide +kernel
theorem dX1_ratingAt_13 : decode cX1_ratingAt 13 = .ok (.iaload, 1) := by decide +kernel
theorem dX1_ratingAt_14 : decode cX1_ratingAt 14 = .ok (.goto 4, 3) := by decide +kernel
theorem dX1_ratingAt_17 : decode cX1_ratingAt 17 = .ok (.iconst 0, 1) := by decide +kernel
theorem dX1_ratingAt_18 : decode cX1_ratingAt 18 = .ok (.ireturn, 1) := by decide +kernel
set_option maxRecDepth 20000 in
theorem ggX1_loadIn_X5_has : GoodIn wsX1_loadIn wsX5_has := goodIn_r _ [5] (by decide +kernel) (by decide +kernel)
set_option maxRecDepth 20000 in
theorem gX1_loadIn_X5_has_n54 : GoodIn wsX1_loadIn (wsX5_has) := ggX1_loadIn_X5_has
theorem dX1_loadIn_0 : decode cX1_loadIn 0 = .ok (.iconst 0, 1) := by decide +kernel
theorem dX1_loadIn_1 : decode cX1_loadIn 1 = .ok (.istore_n 2, 1) := by decide +kernel
theorem dX1_loadIn_2 : decode cX1_loadIn 2 = .ok (.iconst 0, 1) := by decide +kernel
theorem dX1_loadIn_3 : decode cX1_loadIn 3 = .ok (.istore_n 3, 1) := by decide +kernel
theorem dX1_loadIn_4 : decode cX1_loadIn 4 = .ok (.iload_n 3, 1) := by decide +kernel
theorem dX1_loadIn_5 : decode cX1_loadIn 5 = .ok (.aload_n 0, 1) := by decide +kernel
theorem dX1_loadIn_6 : decode cX1_loadIn 6 = .ok (.getfield 30, 3) := by decide +kernel
theorem dX1_loadIn_9 : decode cX1_loadIn 9 = .ok (.if_icmp .ge 26, 3) := by decide +kernel
theorem dX1_loadIn_12 : decode cX1_loadIn 12 = .ok (.iload_n 1, 1) := by decide +kernel
theorem dX1_loadIn_13 : decode cX1_loadIn 13 = .ok (.iload_n 3, 1) := by decide +kernel
theorem dX1_loadIn_14 : decode cX1_loadIn 14 = .ok (.invokestatic 54, 3) := by decide +kernel
theorem dX1_loadIn_17 : decode cX1_loadIn 17 = .ok (.ifCond .eq 12, 3) := by decide +kernel
theorem dX1_loadIn_20 : decode cX1_loadIn 20 = .ok (.iload_n 2, 1) := by decide +kernel
theorem dX1_loadIn_21 : decode cX1_loadIn 21 = .ok (.aload_n 0, 1) := by decide +kernel
theorem dX1_loadIn_22 : decode cX1_loadIn 22 = .ok (.getfield 15, 3) := by decide +kernel
theorem dX1_loadIn_25 : decode cX1_loadIn 25 = .ok (.iload_n 3, 1) := by decide +kernel
theorem dX1_loadIn_26 : decode cX1_loadIn 26 = .ok (.iaload, 1) := by decide +kernel
theorem dX1_loadIn_27 : decode cX1_loadIn 27 = .ok (.iadd, 1) := by decide +kernel
theorem dX1_loadIn_28 : decode cX1_loadIn 28 = .ok (.istore_n 2, 1) := by decide +kernel
theorem dX1_loadIn_29 : decode cX1_loadIn 29 = .ok (.iinc 3 1, 3) := by decide +kernel
theorem dX1_loadIn_32 : decode cX1_loadIn 32 = .ok (.goto (-28), 3) := by decide +kernel
theorem dX1_loadIn_35 : decode cX1_loadIn 35 = .ok (.iload_n 2, 1) := by decide +kernel
theorem dX1_loadIn_36 : decode cX1_loadIn 36 = .ok (.ireturn, 1) := by decide +kernel
set_option maxRecDepth 20000 in
theorem ggX1_weightIn_X5_has : GoodIn wsX1_weightIn wsX5_has := goodIn_r _ [6] (by decide +kernel) (by decide +kernel)
set_option maxRecDepth 20000 in
theorem gX1_weightIn_X5_has_n54 : GoodIn wsX1_weightIn (wsX5_has) := ggX1_weightIn_X5_has
theorem dX1_weightIn_0 : decode cX1_weightIn 0 = .ok (.iconst 0, 1) := by decide +kernel
theorem dX1_weightIn_1 : decode cX1_weightIn 1 = .ok (.istore_n 2, 1) := by decide +kernel
theorem dX1_weightIn_2 : decode cX1_weightIn 2 = .ok (.iconst 0, 1) := by decide +kernel
theorem dX1_weightIn_3 : decode cX1_weightIn 3 = .ok (.istore_n 3, 1) := by decide +kernel
theorem dX1_weightIn_4 : decode cX1_weightIn 4 = .ok (.iload_n 3, 1) := by decide +kernel
theorem dX1_weightIn_5 : decode cX1_weightIn 5 = .ok (.aload_n 0, 1) := by decide +kernel
theorem dX1_weightIn_6 : decode cX1_weightIn 6 = .ok (.getfield 30, 3) := by decide +kernel
theorem dX1_weightIn_9 : decode cX1_weightIn 9 = .ok (.if_icmp .ge 33, 3) := by decide +kernel
theorem dX1_weightIn_12 : decode cX1_weightIn 12 = .ok (.iload_n 1, 1) := by decide +kernel
theorem dX1_weightIn_13 : decode cX1_weightIn 13 = .ok (.iload_n 3, 1) := by decide +kernel
theorem dX1_weightIn_14 : decode cX1_weightIn 14 = .ok (.invokestatic 54, 3) := by decide +kernel
theorem dX1_weightIn_17 : decode cX1_weightIn 17 = .ok (.ifCond .eq 19, 3) := by decide +kernel
theorem dX1_weightIn_20 : decode cX1_weightIn 20 = .ok (.iload_n 2, 1) := by decide +kernel
theorem dX1_weightIn_21 : decode cX1_weightIn 21 = .ok (.aload_n 0, 1) := by decide +kernel
theorem dX1_weightIn_22 : decode cX1_weightIn 22 = .ok (.getfield 15, 3) := by decide +kernel
theorem dX1_weightIn_25 : decode cX1_weightIn 25 = .ok (.iload_n 3, 1) := by decide +kernel
theorem dX1_weightIn_26 : decode cX1_weightIn 26 = .ok (.iaload, 1) := by decide +kernel
theorem dX1_weightIn_27 : decode cX1_weightIn 27 = .ok (.aload_n 0, 1) := by decide +kernel
theorem dX1_weightIn_28 : decode cX1_weightIn 28 = .ok (.getfield 18, 3) := by decide +kernel
theorem dX1_weightIn_31 : decode cX1_weightIn 31 = .ok (.iload_n 3, 1) := by decide +kernel
theorem dX1_weightIn_32 : decode cX1_weightIn 32 = .ok (.iaload, 1) := by decide +kernel
theorem dX1_weightIn_33 : decode cX1_weightIn 33 = .ok (.imul, 1) := by decide +kernel
theorem dX1_weightIn_34 : decode cX1_weightIn 34 = .ok (.iadd, 1) := by decide +kernel
theorem dX1_weightIn_35 : decode cX1_weightIn 35 = .ok (.istore_n 2, 1) := by decide +kernel
theorem dX1_weightIn_36 : decode cX1_weightIn 36 = .ok (.iinc 3 1, 3) := by decide +kernel
theorem dX1_weightIn_39 : decode cX1_weightIn 39 = .ok (.goto (-35), 3) := by decide +kernel
theorem dX1_weightIn_42 : decode cX1_weightIn 42 = .ok (.iload_n 2, 1) := by decide +kernel
theorem dX1_weightIn_43 : decode cX1_weightIn 43 = .ok (.ireturn, 1) := by decide +kernel
set_option maxRecDepth 20000 in
theorem ggX1_oneEnd_X1_isLine : GoodIn wsX1_oneEnd wsX1_isLine := goodIn_r _ [6, 7, 8, 9, 10, 11, 12, 13, 14, 15, 16, 17] (by decide +kernel) (by decide +kernel)
set_option maxRecDepth 20000 in
theorem gX1_oneEnd_X1_isLine : GoodIn wsX1_oneEnd (wsV RX1 51 RX1 yX1_isLine wsX1_isLine) := goodIn_app (goodIn_of _ (by decide +kernel)) ggX1_oneEnd_X1_isLine
theorem dX1_oneEnd_0 : decode cX1_oneEnd 0 = .ok (.aload_n 0, 1) := by decide +kernel
theorem dX1_oneEnd_1 : decode cX1_oneEnd 1 = .ok (.iload_n 1, 1) := by decide +kernel
theorem dX1_oneEnd_2 : decode cX1_oneEnd 2 = .ok (.invokevirtual 51, 3) := by decide +kernel
theorem dX1_oneEnd_5 : decode cX1_oneEnd 5 = .ok (.ifCond .eq 12, 3) := by decide +kernel
theorem dX1_oneEnd_8 : decode cX1_oneEnd 8 = .ok (.aload_n 0, 1) := by decide +kernel
theorem dX1_oneEnd_9 : decode cX1_oneEnd 9 = .ok (.getfield 21, 3) := by decide +kernel
theorem dX1_oneEnd_12 : decode cX1_oneEnd 12 = .ok (.iload_n 1, 1) := by decide +kernel
theorem dX1_oneEnd_13 : decode cX1_oneEnd 13 = .ok (.iaload, 1) := by decide +kernel
theorem dX1_oneEnd_14 : decode cX1_oneEnd 14 = .ok (.goto 4, 3) := by decide +kernel
theorem dX1_oneEnd_17 : decode cX1_oneEnd 17 = .ok (.iconst (-1), 1) := by decide +kernel
theorem dX1_oneEnd_18 : decode cX1_oneEnd 18 = .ok (.ireturn, 1) := by decide +kernel
theorem dX1_acrossFrom_0 : decode cX1_acrossFrom 0 = .ok (.iload_n 2, 1) := by decide +kernel
theorem dX1_acrossFrom_1 : decode cX1_acrossFrom 1 = .ok (.ifCond .lt 11, 3) := by decide +kernel
theorem dX1_acrossFrom_4 : decode cX1_acrossFrom 4 = .ok (.iload_n 2, 1) := by decide +kernel
theorem dX1_acrossFrom_5 : decode cX1_acrossFrom 5 = .ok (.aload_n 0, 1) := by decide +kernel
theorem dX1_acrossFrom_6 : decode cX1_acrossFrom 6 = .ok (.getfield 41, 3) := by decide +kernel
theorem dX1_acrossFrom_9 : decode cX1_acrossFrom 9 = .ok (.if_icmp .lt 5, 3) := by decide +kernel
theorem dX1_acrossFrom_12 : decode cX1_acrossFrom 12 = .ok (.iconst (-1), 1) := by decide +kernel
theorem dX1_acrossFrom_13 : decode cX1_acrossFrom 13 = .ok (.ireturn, 1) := by decide +kernel
theorem dX1_acrossFrom_14 : decode cX1_acrossFrom 14 = .ok (.aload_n 0, 1) := by decide +kernel
theorem dX1_acrossFrom_15 : decode cX1_acrossFrom 15 = .ok (.getfield 21, 3) := by decide +kernel
theorem dX1_acrossFrom_18 : decode cX1_acrossFrom 18 = .ok (.iload_n 2, 1) := by decide +kernel
theorem dX1_acrossFrom_19 : decode cX1_acrossFrom 19 = .ok (.iaload, 1) := by decide +kernel
theorem dX1_acrossFrom_20 : decode cX1_acrossFrom 20 = .ok (.iload_n 1, 1) := by decide +kernel
theorem dX1_acrossFrom_21 : decode cX1_acrossFrom 21 = .ok (.if_icmp .ne 10, 3) := by decide +kernel
theorem dX1_acrossFrom_24 : decode cX1_acrossFrom 24 = .ok (.aload_n 0, 1) := by decide +kernel
theorem dX1_acrossFrom_25 : decode cX1_acrossFrom 25 = .ok (.getfield 24, 3) := by decide +kernel
theorem dX1_acrossFrom_28 : decode cX1_acrossFrom 28 = .ok (.iload_n 2, 1) := by decide +kernel
theorem dX1_acrossFrom_29 : decode cX1_acrossFrom 29 = .ok (.iaload, 1) := by decide +kernel
theorem dX1_acrossFrom_30 : decode cX1_acrossFrom 30 = .ok (.ireturn, 1) := by decide +kernel
theorem dX1_acrossFrom_31 : decode cX1_acrossFrom 31 = .ok (.aload_n 0, 1) := by decide +kernel
theorem dX1_acrossFrom_32 : decode cX1_acrossFrom 32 = .ok (.getfield 24, 3) := by decide +kernel
theorem dX1_acrossFrom_35 : decode cX1_acrossFrom 35 = .ok (.iload_n 2, 1) := by decide +kernel
theorem dX1_acrossFrom_36 : decode cX1_acrossFrom 36 = .ok (.iaload, 1) := by decide +kernel
theorem dX1_acrossFrom_37 : decode cX1_acrossFrom 37 = .ok (.iload_n 1, 1) := by decide +kernel
theorem dX1_acrossFrom_38 : decode cX1_acrossFrom 38 = .ok (.if_icmp .ne 12, 3) := by decide +kernel
theorem dX1_acrossFrom_41 : decode cX1_acrossFrom 41 = .ok (.aload_n 0, 1) := by decide +kernel
theorem dX1_acrossFrom_42 : decode cX1_acrossFrom 42 = .ok (.getfield 21, 3) := by decide +kernel
theorem dX1_acrossFrom_45 : decode cX1_acrossFrom 45 = .ok (.iload_n 2, 1) := by decide +kernel
theorem dX1_acrossFrom_46 : decode cX1_acrossFrom 46 = .ok (.iaload, 1) := by decide +kernel
theorem dX1_acrossFrom_47 : decode cX1_acrossFrom 47 = .ok (.goto 4, 3) := by decide +kernel
theorem dX1_acrossFrom_50 : decode cX1_acrossFrom 50 = .ok (.iconst (-1), 1) := by decide +kernel
theorem dX1_acrossFrom_51 : decode cX1_acrossFrom 51 = .ok (.ireturn, 1) := by decide +kernel
set_option maxRecDepth 20000 in
theorem ggX1_linesAt_X5_has : GoodIn wsX1_linesAt wsX5_has := goodIn_r _ [6] (by decide +kernel) (by decide +kernel)
set_option maxRecDepth 20000 in
theorem gX1_linesAt_X5_has_n54 : GoodIn wsX1_linesAt (wsX5_has) := ggX1_linesAt_X5_has
set_option maxRecDepth 20000 in
theorem ggX1_linesAt_X5_bit : GoodIn wsX1_linesAt wsX5_bit := goodIn_r _ [8] (by decide +kernel) (by decide +kernel)
set_option maxRecDepth 20000 in
theorem gX1_linesAt_X5_bit_n37 : GoodIn wsX1_linesAt (wsX5_bit) := ggX1_linesAt_X5_bit
theorem dX1_linesAt_0 : decode cX1_linesAt 0 = .ok (.iconst 0, 1) := by decide +kernel
theorem dX1_linesAt_1 : decode cX1_linesAt 1 = .ok (.istore_n 3, 1) := by decide +kernel
theorem dX1_linesAt_2 : decode cX1_linesAt 2 = .ok (.iconst 0, 1) := by decide +kernel
theorem dX1_linesAt_3 : decode cX1_linesAt 3 = .ok (.istore 4, 2) := by decide +kernel
theorem dX1_linesAt_5 : decode cX1_linesAt 5 = .ok (.iload 4, 2) := by decide +kernel
theorem dX1_linesAt_7 : decode cX1_linesAt 7 = .ok (.aload_n 0, 1) := by decide +kernel
theorem dX1_linesAt_8 : decode cX1_linesAt 8 = .ok (.getfield 41, 3) := by decide +kernel
theorem dX1_linesAt_11 : decode cX1_linesAt 11 = .ok (.if_icmp .ge 54, 3) := by decide +kernel
theorem dX1_linesAt_14 : decode cX1_linesAt 14 = .ok (.iload_n 2, 1) := by decide +kernel
theorem dX1_linesAt_15 : decode cX1_linesAt 15 = .ok (.iload 4, 2) := by decide +kernel
theorem dX1_linesAt_17 : decode cX1_linesAt 17 = .ok (.invokestatic 54, 3) := by decide +kernel
theorem dX1_linesAt_20 : decode cX1_linesAt 20 = .ok (.ifCond .eq 39, 3) := by decide +kernel
theorem dX1_linesAt_23 : decode cX1_linesAt 23 = .ok (.iload_n 1, 1) := by decide +kernel
theorem dX1_linesAt_24 : decode cX1_linesAt 24 = .ok (.aload_n 0, 1) := by decide +kernel
theorem dX1_linesAt_25 : decode cX1_linesAt 25 = .ok (.getfield 21, 3) := by decide +kernel
theorem dX1_linesAt_28 : decode cX1_linesAt 28 = .ok (.iload 4, 2) := by decide +kernel
theorem dX1_linesAt_30 : decode cX1_linesAt 30 = .ok (.iaload, 1) := by decide +kernel
theorem dX1_linesAt_31 : decode cX1_linesAt 31 = .ok (.invokestatic 54, 3) := by decide +kernel
theorem dX1_linesAt_34 : decode cX1_linesAt 34 = .ok (.ifCond .ne 17, 3) := by decide +kernel
theorem dX1_linesAt_37 : decode cX1_linesAt 37 = .ok (.iload_n 1, 1) := by decide +kernel
theorem dX1_linesAt_38 : decode cX1_linesAt 38 = .ok (.aload_n 0, 1) := by decide +kernel
theorem dX1_linesAt_39 : decode cX1_linesAt 39 = .ok (.getfield 24, 3) := by decide +kernel
theorem dX1_linesAt_42 : decode cX1_linesAt 42 = .ok (.iload 4, 2) := by decide +kernel
theorem dX1_linesAt_44 : decode cX1_linesAt 44 = .ok (.iaload, 1) := by decide +kernel
theorem dX1_linesAt_45 : decode cX1_linesAt 45 = .ok (.invokestatic 54, 3) := by decide +kernel
theorem dX1_linesAt_48 : decode cX1_linesAt 48 = .ok (.ifCond .eq 11, 3) := by decide +kernel
theorem dX1_linesAt_51 : decode cX1_linesAt 51 = .ok (.iload_n 3, 1) := by decide +kernel
theorem dX1_linesAt_52 : decode cX1_linesAt 52 = .ok (.iload 4, 2) := by decide +kernel
theorem dX1_linesAt_54 : decode cX1_linesAt 54 = .ok (.invokestatic 37, 3) := by decide +kernel
theorem dX1_linesAt_57 : decode cX1_linesAt 57 = .ok (.ior, 1) := by decide +kernel
theorem dX1_linesAt_58 : decode cX1_linesAt 58 = .ok (.istore_n 3, 1) := by decide +kernel
theorem dX1_linesAt_59 : decode cX1_linesAt 59 = .ok (.iinc 4 1, 3) := by decide +kernel
theorem dX1_linesAt_62 : decode cX1_linesAt 62 = .ok (.goto (-57), 3) := by decide +kernel
theorem dX1_linesAt_65 : decode cX1_linesAt 65 = .ok (.iload_n 3, 1) := by decide +kernel
theorem dX1_linesAt_66 : decode cX1_linesAt 66 = .ok (.ireturn, 1) := by decide +kernel
set_option maxRecDepth 20000 in
theorem ggX1_islandAround_X5_bit : GoodIn wsX1_islandAround wsX5_bit := goodIn_r _ [3] (by decide +kernel) (by decide +kernel)
set_option maxRecDepth 20000 in
theorem gX1_islandAround_X5_bit_n37 : GoodIn wsX1_islandAround (wsX5_bit) := ggX1_islandAround_X5_bit
set_option maxRecDepth 20000 in
theorem ggX1_islandAround_X5_lowestIn : GoodIn wsX1_islandAround wsX5_lowestIn := goodIn_r _ [5, 6, 7, 2, 8] (by decide +kernel) (by decide +kernel)
set_option maxRecDepth 20000 in
theorem gX1_islandAround_X5_lowestIn_n58 : GoodIn wsX1_islandAround (wsX5_lowestIn) := ggX1_islandAround_X5_lowestIn
set_option maxRecDepth 20000 in
theorem ggX1_islandAround_X1_neighbours : GoodIn wsX1_islandAround wsX1_neighbours := goodIn_ca (goodIn_r _ [13, 14, 15, 2, 16, 17, 18, 19, 12, 20, 21, 22, 1, 3, 23, 24, 25, 26, 27, 28, 29, 30, 31, 32] (by decide +kernel) (by decide +kernel)) (goodIn_sub (fun _ h => List.mem_cons_of_mem _ (List.mem_append_right _ h)) (by decide +kernel))
set_option maxRecDepth 20000 in
theorem gX1_islandAround_X1_neighbours : GoodIn wsX1_islandAround (wsV RX1 61 RX1 yX1_neighbours wsX1_neighbours) := goodIn_app (goodIn_of _ (by decide +kernel)) ggX1_islandAround_X1_neighbours
theorem dX1_islandAround_0 : decode cX1_islandAround 0 = .ok (.iload_n 1, 1) := by decide +kernel
theorem dX1_islandAround_1 : decode cX1_islandAround 1 = .ok (.invokestatic 37, 3) := by decide +kernel
theorem dX1_islandAround_4 : decode cX1_islandAround 4 = .ok (.istore_n 3, 1) := by decide +kernel
theorem dX1_islandAround_5 : decode cX1_islandAround 5 = .ok (.iload_n 3, 1) := by decide +kernel
theorem dX1_islandAround_6 : decode cX1_islandAround 6 = .ok (.istore 4, 2) := by decide +kernel
theorem dX1_islandAround_8 : decode cX1_islandAround 8 = .ok (.iconst 0, 1) := by decide +kernel
theorem dX1_islandAround_9 : decode cX1_islandAround 9 = .ok (.istore 5, 2) := by decide +kernel
theorem dX1_islandAround_11 : decode cX1_islandAround 11 = .ok (.iload 5, 2) := by decide +kernel
theorem dX1_islandAround_13 : decode cX1_islandAround 13 = .ok (.bipush 10, 2) := by decide +kernel
theorem dX1_islandAround_15 : decode cX1_islandAround 15 = .ok (.if_icmp .ge 54, 3) := by decide +kernel
theorem dX1_islandAround_18 : decode cX1_islandAround 18 = .ok (.iload 4, 2) := by decide +kernel
theorem dX1_islandAround_20 : decode cX1_islandAround 20 = .ok (.ifCond .eq 49, 3) := by decide +kernel
theorem dX1_islandAround_23 : decode cX1_islandAround 23 = .ok (.iload 4, 2) := by decide +kernel
theorem dX1_islandAround_25 : decode cX1_islandAround 25 = .ok (.invokestatic 58, 3) := by decide +kernel
theorem dX1_islandAround_28 : decode cX1_islandAround 28 = .ok (.istore 6, 2) := by decide +kernel
theorem dX1_islandAround_30 : decode cX1_islandAround 30 = .ok (.aload_n 0, 1) := by decide +kernel
theorem dX1_islandAround_31 : decode cX1_islandAround 31 = .ok (.iload 6, 2) := by decide +kernel
theorem dX1_islandAround_33 : decode cX1_islandAround 33 = .ok (.iload_n 2, 1) := by decide +kernel
theorem dX1_islandAround_34 : decode cX1_islandAround 34 = .ok (.invokevirtual 61, 3) := by decide +kernel
theorem dX1_islandAround_37 : decode cX1_islandAround 37 = .ok (.iload_n 3, 1) := by decide +kernel
theorem dX1_islandAround_38 : decode cX1_islandAround 38 = .ok (.iconst (-1), 1) := by decide +kernel
theorem dX1_islandAround_39 : decode cX1_islandAround 39 = .ok (.ixor, 1) := by decide +kernel
theorem dX1_islandAround_40 : decode cX1_islandAround 40 = .ok (.iand, 1) := by decide +kernel
theorem dX1_islandAround_41 : decode cX1_islandAround 41 = .ok (.istore 7, 2) := by decide +kernel
theorem dX1_islandAround_43 : decode cX1_islandAround 43 = .ok (.iload_n 3, 1) := by decide +kernel
theorem dX1_islandAround_44 : decode cX1_islandAround 44 = .ok (.iload 7, 2) := by decide +kernel
theorem dX1_islandAround_46 : decode cX1_islandAround 46 = .ok (.ior, 1) := by decide +kernel
theorem dX1_islandAround_47 : decode cX1_islandAround 47 = .ok (.istore_n 3, 1) := by decide +kernel
theorem dX1_islandAround_48 : decode cX1_islandAround 48 = .ok (.iload 4, 2) := by decide +kernel
theorem dX1_islandAround_50 : decode cX1_islandAround 50 = .ok (.iload 6, 2) := by decide +kernel
theorem dX1_islandAround_52 : decode cX1_islandAround 52 = .ok (.invokestatic 37, 3) := by decide +kernel
theorem dX1_islandAround_55 : decode cX1_islandAround 55 = .ok (.iconst (-1), 1) := by decide +kernel
theorem dX1_islandAround_56 : decode cX1_islandAround 56 = .ok (.ixor, 1) := by decide +kernel
theorem dX1_islandAround_57 : decode cX1_islandAround 57 = .ok (.iand, 1) := by decide +kernel
theorem dX1_islandAround_58 : decode cX1_islandAround 58 = .ok (.iload 7, 2) := by decide +kernel
theorem dX1_islandAround_60 : decode cX1_islandAround 60 = .ok (.ior, 1) := by decide +kernel
theorem dX1_islandAround_61 : decode cX1_islandAround 61 = .ok (.istore 4, 2) := by decide +kernel
theorem dX1_islandAround_63 : decode cX1_islandAround 63 = .ok (.iinc 5 1, 3) := by decide +kernel
theorem dX1_islandAround_66 : decode cX1_islandAround 66 = .ok (.goto (-55), 3) := by decide +kernel
theorem dX1_islandAround_69 : decode cX1_islandAround 69 = .ok (.iload_n 3, 1) := by decide +kernel
theorem dX1_islandAround_70 : decode cX1_islandAround 70 = .ok (.ireturn, 1) := by decide +kernel
set_option maxRecDepth 20000 in
theorem ggX1_neighbours_X5_has : GoodIn wsX1_neighbours wsX5_has := goodIn_r _ [4] (by decide +kernel) (by decide +kernel)
set_option maxRecDepth 20000 in
theorem gX1_neighbours_X5_has_n54 : GoodIn wsX1_neighbours (wsX5_has) := ggX1_neighbours_X5_has
set_option maxRecDepth 20000 in
theorem ggX1_neighbours_X1_acrossFrom : GoodIn wsX1_neighbours wsX1_acrossFrom := goodIn_ca (goodIn_r _ [9, 1, 10, 11, 14, 15, 16, 17, 18, 19, 20, 21, 22, 23] (by decide +kernel) (by decide +kernel)) (goodIn_sub (fun _ h => List.mem_cons_of_mem _ (List.mem_append_right _ h)) (by decide +kernel))
set_option maxRecDepth 20000 in
theorem gX1_neighbours_X1_acrossFrom : GoodIn wsX1_neighbours (wsV RX1 65 RX1 yX1_acrossFrom wsX1_acrossFrom) := goodIn_app (goodIn_of _ (by decide +kernel)) ggX1_neighbours_X1_acrossFrom
set_option maxRecDepth 20000 in
theorem ggX1_neighbours_X5_bit : GoodIn wsX1_neighbours wsX5_bit := goodIn_r _ [13] (by decide +kernel) (by decide +kernel)
set_option maxRecDepth 20000 in
theorem gX1_neighbours_X5_bit_n37 : GoodIn wsX1_neighbours (wsX5_bit) := ggX1_neighbours_X5_bit
theorem dX1_neighbours_0 : decode cX1_neighbours 0 = .ok (.iconst 0, 1) := by decide +kernel
theorem dX1_neighbours_1 : decode cX1_neighbours 1 = .ok (.istore_n 3, 1) := by decide +kernel
theorem dX1_neighbours_2 : decode cX1_neighbours 2 = .ok (.iconst 0, 1) := by decide +kernel
theorem dX1_neighbours_3 : decode cX1_neighbours 3 = .ok (.istore 4, 2) := by decide +kernel
theorem dX1_neighbours_5 : decode cX1_neighbours 5 = .ok (.iload 4, 2) := by decide +kernel
theorem dX1_neighbours_7 : decode cX1_neighbours 7 = .ok (.aload_n 0, 1) := by decide +kernel
theorem dX1_neighbours_8 : decode cX1_neighbours 8 = .ok (.getfield 41, 3) := by decide +kernel
theorem dX1_neighbours_11 : decode cX1_neighbours 11 = .ok (.if_icmp .ge 45, 3) := by decide +kernel
theorem dX1_neighbours_14 : decode cX1_neighbours 14 = .ok (.iload_n 2, 1) := by decide +kernel
theorem dX1_neighbours_15 : decode cX1_neighbours 15 = .ok (.iload 4, 2) := by decide +kernel
theorem dX1_neighbours_17 : decode cX1_neighbours 17 = .ok (.invokestatic 54, 3) := by decide +kernel
theorem dX1_neighbours_20 : decode cX1_neighbours 20 = .ok (.ifCond .eq 13, 3) := by decide +kernel
theorem dX1_neighbours_23 : decode cX1_neighbours 23 = .ok (.aload_n 0, 1) := by decide +kernel
theorem dX1_neighbours_24 : decode cX1_neighbours 24 = .ok (.iload_n 1, 1) := by decide +kernel
theorem dX1_neighbours_25 : decode cX1_neighbours 25 = .ok (.iload 4, 2) := by decide +kernel
theorem dX1_neighbours_27 : decode cX1_neighbours 27 = .ok (.invokevirtual 65, 3) := by decide +kernel
theorem dX1_neighbours_30 : decode cX1_neighbours 30 = .ok (.goto 4, 3) := by decide +kernel
theorem dX1_neighbours_33 : decode cX1_neighbours 33 = .ok (.iconst (-1), 1) := by decide +kernel
theorem dX1_neighbours_34 : decode cX1_neighbours 34 = .ok (.istore 5, 2) := by decide +kernel
theorem dX1_neighbours_36 : decode cX1_neighbours 36 = .ok (.iload 5, 2) := by decide +kernel
theorem dX1_neighbours_38 : decode cX1_neighbours 38 = .ok (.iconst (-1), 1) := by decide +kernel
theorem dX1_neighbours_39 : decode cX1_neighbours 39 = .ok (.if_icmp .eq 11, 3) := by decide +kernel
theorem dX1_neighbours_42 : decode cX1_neighbours 42 = .ok (.iload_n 3, 1) := by decide +kernel
theorem dX1_neighbours_43 : decode cX1_neighbours 43 = .ok (.iload 5, 2) := by decide +kernel
theorem dX1_neighbours_45 : decode cX1_neighbours 45 = .ok (.invokestatic 37, 3) := by decide +kernel
theorem dX1_neighbours_48 : decode cX1_neighbours 48 = .ok (.ior, 1) := by decide +kernel
theorem dX1_neighbours_49 : decode cX1_neighbours 49 = .ok (.istore_n 3, 1) := by decide +kernel
theorem dX1_neighbours_50 : decode cX1_neighbours 50 = .ok (.iinc 4 1, 3) := by decide +kernel
theorem dX1_neighbours_53 : decode cX1_neighbours 53 = .ok (.goto (-48), 3) := by decide +kernel
theorem dX1_neighbours_56 : decode cX1_neighbours 56 = .ok (.iload_n 3, 1) := by decide +kernel
theorem dX1_neighbours_57 : decode cX1_neighbours 57 = .ok (.ireturn, 1) := by decide +kernel
set_option maxRecDepth 20000 in
theorem ggX1_islandGrownFrom_X5_bit : GoodIn wsX1_islandGrownFrom wsX5_bit := goodIn_r _ [6] (by decide +kernel) (by decide +kernel)
set_option maxRecDepth 20000 in
theorem gX1_islandGrownFrom_X5_bit_n37 : GoodIn wsX1_islandGrownFrom (wsX5_bit) := ggX1_islandGrownFrom_X5_bit
set_option maxRecDepth 20000 in
theorem ggX1_islandGrownFrom_X5_has : GoodIn wsX1_islandGrownFrom wsX5_has := goodIn_r _ [8] (by decide +kernel) (by decide +kernel)
set_option maxRecDepth 20000 in
theorem gX1_islandGrownFrom_X5_has_n54 : GoodIn wsX1_islandGrownFrom (wsX5_has) := ggX1_islandGrownFrom_X5_has
theorem dX1_islandGrownFrom_0 : decode cX1_islandGrownFrom 0 = .ok (.iload_n 1, 1) := by decide +kernel
theorem dX1_islandGrownFrom_1 : decode cX1_islandGrownFrom 1 = .ok (.invokestatic 37, 3) := by decide +kernel
theorem dX1_islandGrownFrom_4 : decode cX1_islandGrownFrom 4 = .ok (.istore_n 3, 1) := by decide +kernel
theorem dX1_islandGrownFrom_5 : decode cX1_islandGrownFrom 5 = .ok (.iconst 1, 1) := by decide +kernel
theorem dX1_islandGrownFrom_6 : decode cX1_islandGrownFrom 6 = .ok (.istore 4, 2) := by decide +kernel
theorem dX1_islandGrownFrom_8 : decode cX1_islandGrownFrom 8 = .ok (.iconst 0, 1) := by decide +kernel
theorem dX1_islandGrownFrom_9 : decode cX1_islandGrownFrom 9 = .ok (.istore 5, 2) := by decide +kernel
theorem dX1_islandGrownFrom_11 : decode cX1_islandGrownFrom 11 = .ok (.iload 5, 2) := by decide +kernel
theorem dX1_islandGrownFrom_13 : decode cX1_islandGrownFrom 13 = .ok (.bipush 10, 2) := by decide +kernel
theorem dX1_islandGrownFrom_15 : decode cX1_islandGrownFrom 15 = .ok (.if_icmp .ge 109, 3) := by decide +kernel
theorem dX1_islandGrownFrom_18 : decode cX1_islandGrownFrom 18 = .ok (.iload 4, 2) := by decide +kernel
theorem dX1_islandGrownFrom_20 : decode cX1_islandGrownFrom 20 = .ok (.ifCond .eq 104, 3) := by decide +kernel
theorem dX1_islandGrownFrom_23 : decode cX1_islandGrownFrom 23 = .ok (.iload_n 3, 1) := by decide +kernel
theorem dX1_islandGrownFrom_24 : decode cX1_islandGrownFrom 24 = .ok (.istore 6, 2) := by decide +kernel
theorem dX1_islandGrownFrom_26 : decode cX1_islandGrownFrom 26 = .ok (.iconst 0, 1) := by decide +kernel
theorem dX1_islandGrownFrom_27 : decode cX1_islandGrownFrom 27 = .ok (.istore 7, 2) := by decide +kernel
theorem dX1_islandGrownFrom_29 : decode cX1_islandGrownFrom 29 = .ok (.iload 7, 2) := by decide +kernel
theorem dX1_islandGrownFrom_31 : decode cX1_islandGrownFrom 31 = .ok (.aload_n 0, 1) := by decide +kernel
theorem dX1_islandGrownFrom_32 : decode cX1_islandGrownFrom 32 = .ok (.getfield 41, 3) := by decide +kernel
theorem dX1_islandGrownFrom_35 : decode cX1_islandGrownFrom 35 = .ok (.if_icmp .ge 70, 3) := by decide +kernel
theorem dX1_islandGrownFrom_38 : decode cX1_islandGrownFrom 38 = .ok (.iload_n 2, 1) := by decide +kernel
theorem dX1_islandGrownFrom_39 : decode cX1_islandGrownFrom 39 = .ok (.iload 7, 2) := by decide +kernel
theorem dX1_islandGrownFrom_41 : decode cX1_islandGrownFrom 41 = .ok (.invokestatic 54, 3) := by decide +kernel
theorem dX1_islandGrownFrom_44 : decode cX1_islandGrownFrom 44 = .ok (.ifCond .eq 55, 3) := by decide +kernel
theorem dX1_islandGrownFrom_47 : decode cX1_islandGrownFrom 47 = .ok (.iload_n 3, 1) := by decide +kernel
theorem dX1_islandGrownFrom_48 : decode cX1_islandGrownFrom 48 = .ok (.aload_n 0, 1) := by decide +kernel
theorem dX1_islandGrownFrom_49 : decode cX1_islandGrownFrom 49 = .ok (.getfield 21, 3) := by decide +kernel
theorem dX1_islandGrownFrom_52 : decode cX1_islandGrownFrom 52 = .ok (.iload 7, 2) := by decide +kernel
theorem dX1_islandGrownFrom_54 : decode cX1_islandGrownFrom 54 = .ok (.iaload, 1) := by decide +kernel
theorem dX1_islandGrownFrom_55 : decode cX1_islandGrownFrom 55 = .ok (.invokestatic 54, 3) := by decide +kernel
theorem dX1_islandGrownFrom_58 : decode cX1_islandGrownFrom 58 = .ok (.ifCond .ne 17, 3) := by decide +kernel
theorem dX1_islandGrownFrom_61 : decode cX1_islandGrownFrom 61 = .ok (.iload_n 3, 1) := by decide +kernel
theorem dX1_islandGrownFrom_62 : decode cX1_islandGrownFrom 62 = .ok (.aload_n 0, 1) := by decide +kernel
theorem dX1_islandGrownFrom_63 : decode cX1_islandGrownFrom 63 = .ok (.getfield 24, 3) := by decide +kernel
theorem dX1_islandGrownFrom_66 : decode cX1_islandGrownFrom 66 = .ok (.iload 7, 2) := by decide +kernel
theorem dX1_islandGrownFrom_68 : decode cX1_islandGrownFrom 68 = .ok (.iaload, 1) := by decide +kernel
theorem dX1_islandGrownFrom_69 : decode cX1_islandGrownFrom 69 = .ok (.invokestatic 54, 3) := by decide +kernel
theorem dX1_islandGrownFrom_72 : decode cX1_islandGrownFrom 72 = .ok (.ifCond .eq 27, 3) := by decide +kernel
theorem dX1_islandGrownFrom_75 : decode cX1_islandGrownFrom 75 = .ok (.iload_n 3, 1) := by decide +kernel
theorem dX1_islandGrownFrom_76 : decode cX1_islandGrownFrom 76 = .ok (.aload_n 0, 1) := by decide +kernel
theorem dX1_islandGrownFrom_77 : decode cX1_islandGrownFrom 77 = .ok (.getfield 21, 3) := by decide +kernel
theorem dX1_islandGrownFrom_80 : decode cX1_islandGrownFrom 80 = .ok (.iload 7, 2) := by decide +kernel
theorem dX1_islandGrownFrom_82 : decode cX1_islandGrownFrom 82 = .ok (.iaload, 1) := by decide +kernel
theorem dX1_islandGrownFrom_83 : decode cX1_islandGrownFrom 83 = .ok (.invokestatic 37, 3) := by decide +kernel
theorem dX1_islandGrownFrom_86 : decode cX1_islandGrownFrom 86 = .ok (.aload_n 0, 1) := by decide +kernel
theorem dX1_islandGrownFrom_87 : decode cX1_islandGrownFrom 87 = .ok (.getfield 24, 3) := by decide +kernel
theorem dX1_islandGrownFrom_90 : decode cX1_islandGrownFrom 90 = .ok (.iload 7, 2) := by decide +kernel
theorem dX1_islandGrownFrom_92 : decode cX1_islandGrownFrom 92 = .ok (.iaload, 1) := by decide +kernel
theorem dX1_islandGrownFrom_93 : decode cX1_islandGrownFrom 93 = .ok (.invokestatic 37, 3) := by decide +kernel
theorem dX1_islandGrownFrom_96 : decode cX1_islandGrownFrom 96 = .ok (.ior, 1) := by decide +kernel
theorem dX1_islandGrownFrom_97 : decode cX1_islandGrownFrom 97 = .ok (.ior, 1) := by decide +kernel
theorem dX1_islandGrownFrom_98 : decode cX1_islandGrownFrom 98 = .ok (.istore_n 3, 1) := by decide +kernel
theorem dX1_islandGrownFrom_99 : decode cX1_islandGrownFrom 99 = .ok (.iinc 7 1, 3) := by decide +kernel
theorem dX1_islandGrownFrom_102 : decode cX1_islandGrownFrom 102 = .ok (.goto (-73), 3) := by decide +kernel
theorem dX1_islandGrownFrom_105 : decode cX1_islandGrownFrom 105 = .ok (.iload_n 3, 1) := by decide +kernel
theorem dX1_islandGrownFrom_106 : decode cX1_islandGrownFrom 106 = .ok (.iload 6, 2) := by decide +kernel
theorem dX1_islandGrownFrom_108 : decode cX1_islandGrownFrom 108 = .ok (.if_icmp .eq 7, 3) := by decide +kernel
theorem dX1_islandGrownFrom_111 : decode cX1_islandGrownFrom 111 = .ok (.iconst 1, 1) := by decide +kernel
theorem dX1_islandGrownFrom_112 : decode cX1_islandGrownFrom 112 = .ok (.goto 4, 3) := by decide +kernel
theorem dX1_islandGrownFrom_115 : decode cX1_islandGrownFrom 115 = .ok (.iconst 0, 1) := by decide +kernel
theorem dX1_islandGrownFrom_116 : decode cX1_islandGrownFrom 116 = .ok (.istore 4, 2) := by decide +kernel
theorem dX1_islandGrownFrom_118 : decode cX1_islandGrownFrom 118 = .ok (.iinc 5 1, 3) := by decide +kernel
theorem dX1_islandGrownFrom_121 : decode cX1_islandGrownFrom 121 = .ok (.goto (-110), 3) := by decide +kernel
theorem dX1_islandGrownFrom_124 : decode cX1_islandGrownFrom 124 = .ok (.iload_n 3, 1) := by decide +kernel
theorem dX1_islandGrownFrom_125 : decode cX1_islandGrownFrom 125 = .ok (.ireturn, 1) := by decide +kernel
set_option maxRecDepth 20000 in
theorem ggX1_sourceIn_X5_lowestIn : GoodIn wsX1_sourceIn wsX5_lowestIn := goodIn_r _ [4, 5, 6, 3, 7] (by decide +kernel) (by decide +kernel)
set_option maxRecDepth 20000 in
theorem gX1_sourceIn_X5_lowestIn_n58 : GoodIn wsX1_sourceIn (wsX5_lowestIn) := ggX1_sourceIn_X5_lowestIn
theorem dX1_sourceIn_0 : decode cX1_sourceIn 0 = .ok (.iload_n 1, 1) := by decide +kernel
theorem dX1_sourceIn_1 : decode cX1_sourceIn 1 = .ok (.aload_n 0, 1) := by decide +kernel
theorem dX1_sourceIn_2 : decode cX1_sourceIn 2 = .ok (.getfield 34, 3) := by decide +kernel
theorem dX1_sourceIn_5 : decode cX1_sourceIn 5 = .ok (.iand, 1) := by decide +kernel
theorem dX1_sourceIn_6 : decode cX1_sourceIn 6 = .ok (.invokestatic 58, 3) := by decide +kernel
theorem dX1_sourceIn_9 : decode cX1_sourceIn 9 = .ok (.ireturn, 1) := by decide +kernel
set_option maxRecDepth 20000 in
theorem ggX1_sourceOfLine_X1_oneEnd : GoodIn wsX1_sourceOfLine wsX1_oneEnd := goodIn_ca (goodIn_r _ [5, 6, 7, 8, 9, 4, 10, 11, 40, 41, 42, 43, 44, 45, 46, 47, 48, 49] (by decide +kernel) (by decide +kernel)) (goodIn_sub (fun _ h => List.mem_cons_of_mem _ (List.mem_append_right _ h)) (by decide +kernel))
set_option maxRecDepth 20000 in
theorem gX1_sourceOfLine_X1_oneEnd : GoodIn wsX1_sourceOfLine (wsV RX1 68 RX1 yX1_oneEnd wsX1_oneEnd) := goodIn_app (goodIn_of _ (by decide +kernel)) ggX1_sourceOfLine_X1_oneEnd
set_option maxRecDepth 20000 in
theorem ggX1_sourceOfLine_X1_islandAround : GoodIn wsX1_sourceOfLine wsX1_islandAround := goodIn_ca (goodIn_r _ [15, 16, 17, 18, 19, 20, 21, 22, 23, 24, 25, 26, 4, 27, 11, 28, 29, 30, 31, 32, 33, 6, 34, 40, 41, 42, 43, 44, 45, 46, 47, 48, 49] (by decide +kernel) (by decide +kernel)) (goodIn_sub (fun _ h => List.mem_cons_of_mem _ (List.mem_append_right _ h)) (by decide +kernel))
set_option maxRecDepth 20000 in
theorem gX1_sourceOfLine_X1_islandAround : GoodIn wsX1_sourceOfLine (wsV RX1 71 RX1 yX1_islandAround wsX1_islandAround) := goodIn_app (goodIn_of _ (by decide +kernel)) ggX1_sourceOfLine_X1_islandAround
set_option maxRecDepth 20000 in
theorem ggX1_sourceOfLine_X1_sourceIn : GoodIn wsX1_sourceOfLine wsX1_sourceIn := goodIn_r _ [38, 39, 19, 17, 20, 21, 22, 23, 40, 41, 42, 43, 44, 45, 46, 47, 48, 49] (by decide +kernel) (by decide +kernel)
set_option maxRecDepth 20000 in
theorem gX1_sourceOfLine_X1_sourceIn : GoodIn wsX1_sourceOfLine (wsV RX1 74 RX1 yX1_sourceIn wsX1_sourceIn) := goodIn_app (goodIn_of _ (by decide +kernel)) ggX1_sourceOfLine_X1_sourceIn
theorem dX1_sourceOfLine_0 : decode cX1_sourceOfLine 0 = .ok (.aload_n 0, 1) := by decide +kernel
theorem dX1_sourceOfLine_1 : decode cX1_sourceOfLine 1 = .ok (.aload_n 0, 1) := by decide +kernel
theorem dX1_sourceOfLine_2 : decode cX1_sourceOfLine 2 = .ok (.aload_n 0, 1) := by decide +kernel
theorem dX1_sourceOfLine_3 : decode cX1_sourceOfLine 3 = .ok (.iload_n 1, 1) := by decide +kernel
theorem dX1_sourceOfLine_4 : decode cX1_sourceOfLine 4 = .ok (.invokevirtual 68, 3) := by decide +kernel
theorem dX1_sourceOfLine_7 : decode cX1_sourceOfLine 7 = .ok (.iload_n 2, 1) := by decide +kernel
theorem dX1_sourceOfLine_8 : decode cX1_sourceOfLine 8 = .ok (.invokevirtual 71, 3) := by decide +kernel
theorem dX1_sourceOfLine_11 : decode cX1_sourceOfLine 11 = .ok (.invokevirtual 74, 3) := by decide +kernel
theorem dX1_sourceOfLine_14 : decode cX1_sourceOfLine 14 = .ok (.ireturn, 1) := by decide +kernel
set_option maxRecDepth 20000 in
theorem ggX1_asksTooMuch_X1_loadIn : GoodIn wsX1_asksTooMuch wsX1_loadIn := goodIn_ca (goodIn_r _ [5, 6, 7, 8, 9, 10, 30, 31, 32, 33, 34, 35, 36, 37, 38, 39] (by decide +kernel) (by decide +kernel)) (goodIn_sub (fun _ h => List.mem_cons_of_mem _ (List.mem_append_right _ h)) (by decide +kernel))
set_option maxRecDepth 20000 in
theorem gX1_asksTooMuch_X1_loadIn : GoodIn wsX1_asksTooMuch (wsV RX1 77 RX1 yX1_loadIn wsX1_loadIn) := goodIn_app (goodIn_of _ (by decide +kernel)) ggX1_asksTooMuch_X1_loadIn
set_option maxRecDepth 20000 in
theorem ggX1_asksTooMuch_X1_sourceIn : GoodIn wsX1_asksTooMuch wsX1_sourceIn := goodIn_r _ [14, 15, 16, 9, 17, 18, 19, 20, 30, 31, 32, 33, 34, 35, 36, 37, 38, 39] (by decide +kernel) (by decide +kernel)
set_option maxRecDepth 20000 in
theorem gX1_asksTooMuch_X1_sourceIn : GoodIn wsX1_asksTooMuch (wsV RX1 74 RX1 yX1_sourceIn wsX1_sourceIn) := goodIn_app (goodIn_of _ (by decide +kernel)) ggX1_asksTooMuch_X1_sourceIn
set_option maxRecDepth 20000 in
theorem ggX1_asksTooMuch_X1_capacityAt : GoodIn wsX1_asksTooMuch wsX1_capacityAt := goodIn_ca (goodIn_r _ [24, 25, 26, 27, 28, 4, 29, 6, 30, 31, 32, 33, 34, 35, 36, 37, 38, 39] (by decide +kernel) (by decide +kernel)) (goodIn_sub (fun _ h => List.mem_cons_of_mem _ (List.mem_append_right _ h)) (by decide +kernel))
set_option maxRecDepth 20000 in
theorem gX1_asksTooMuch_X1_capacityAt : GoodIn wsX1_asksTooMuch (wsV RX1 80 RX1 yX1_capacityAt wsX1_capacityAt) := goodIn_app (goodIn_of _ (by decide +kernel)) ggX1_asksTooMuch_X1_capacityAt
theorem dX1_asksTooMuch_0 : decode cX1_asksTooMuch 0 = .ok (.aload_n 0, 1) := by decide +kernel
theorem dX1_asksTooMuch_1 : decode cX1_asksTooMuch 1 = .ok (.iload_n 1, 1) := by decide +kernel
theorem dX1_asksTooMuch_2 : decode cX1_asksTooMuch 2 = .ok (.invokevirtual 77, 3) := by decide +kernel
theorem dX1_asksTooMuch_5 : decode cX1_asksTooMuch 5 = .ok (.aload_n 0, 1) := by decide +kernel
theorem dX1_asksTooMuch_6 : decode cX1_asksTooMuch 6 = .ok (.aload_n 0, 1) := by decide +kernel
theorem dX1_asksTooMuch_7 : decode cX1_asksTooMuch 7 = .ok (.iload_n 1, 1) := by decide +kernel
theorem dX1_asksTooMuch_8 : decode cX1_asksTooMuch 8 = .ok (.invokevirtual 74, 3) := by decide +kernel
theorem dX1_asksTooMuch_11 : decode cX1_asksTooMuch 11 = .ok (.invokevirtual 80, 3) := by decide +kernel
theorem dX1_asksTooMuch_14 : decode cX1_asksTooMuch 14 = .ok (.if_icmp .le 7, 3) := by decide +kernel
theorem dX1_asksTooMuch_17 : decode cX1_asksTooMuch 17 = .ok (.iconst 1, 1) := by decide +kernel
theorem dX1_asksTooMuch_18 : decode cX1_asksTooMuch 18 = .ok (.goto 4, 3) := by decide +kernel
theorem dX1_asksTooMuch_21 : decode cX1_asksTooMuch 21 = .ok (.iconst 0, 1) := by decide +kernel
theorem dX1_asksTooMuch_22 : decode cX1_asksTooMuch 22 = .ok (.ireturn, 1) := by decide +kernel
set_option maxRecDepth 20000 in
theorem ggX1_liveWith_X5_has : GoodIn wsX1_liveWith wsX5_has := goodIn_r _ [5] (by decide +kernel) (by decide +kernel)
set_option maxRecDepth 20000 in
theorem gX1_liveWith_X5_has_n54 : GoodIn wsX1_liveWith (wsX5_has) := ggX1_liveWith_X5_has
set_option maxRecDepth 20000 in
theorem ggX1_liveWith_X1_islandAround : GoodIn wsX1_liveWith wsX1_islandAround := goodIn_ca (goodIn_r _ [10, 11, 4, 12, 13, 14, 15, 16, 17, 18, 19, 20, 9, 21, 22, 3, 5, 23, 24, 25, 26, 27, 28, 29, 30, 31, 32, 33, 34, 35, 36, 37, 38] (by decide +kernel) (by decide +kernel)) (goodIn_sub (fun _ h => List.mem_cons_of_mem _ (List.mem_append_right _ h)) (by decide +kernel))
set_option maxRecDepth 20000 in
theorem gX1_liveWith_X1_islandAround : GoodIn wsX1_liveWith (wsV RX1 71 RX1 yX1_islandAround wsX1_islandAround) := goodIn_app (goodIn_of _ (by decide +kernel)) ggX1_liveWith_X1_islandAround
theorem dX1_liveWith_0 : decode cX1_liveWith 0 = .ok (.iconst 0, 1) := by decide +kernel
theorem dX1_liveWith_1 : decode cX1_liveWith 1 = .ok (.istore_n 2, 1) := by decide +kernel
theorem dX1_liveWith_2 : decode cX1_liveWith 2 = .ok (.iconst 0, 1) := by decide +kernel
theorem dX1_liveWith_3 : decode cX1_liveWith 3 = .ok (.istore_n 3, 1) := by decide +kernel
theorem dX1_liveWith_4 : decode cX1_liveWith 4 = .ok (.iload_n 3, 1) := by decide +kernel
theorem dX1_liveWith_5 : decode cX1_liveWith 5 = .ok (.aload_n 0, 1) := by decide +kernel
theorem dX1_liveWith_6 : decode cX1_liveWith 6 = .ok (.getfield 30, 3) := by decide +kernel
theorem dX1_liveWith_9 : decode cX1_liveWith 9 = .ok (.if_icmp .ge 29, 3) := by decide +kernel
theorem dX1_liveWith_12 : decode cX1_liveWith 12 = .ok (.aload_n 0, 1) := by decide +kernel
theorem dX1_liveWith_13 : decode cX1_liveWith 13 = .ok (.getfield 34, 3) := by decide +kernel
theorem dX1_liveWith_16 : decode cX1_liveWith 16 = .ok (.iload_n 3, 1) := by decide +kernel
theorem dX1_liveWith_17 : decode cX1_liveWith 17 = .ok (.invokestatic 54, 3) := by decide +kernel
theorem dX1_liveWith_20 : decode cX1_liveWith 20 = .ok (.ifCond .eq 12, 3) := by decide +kernel
theorem dX1_liveWith_23 : decode cX1_liveWith 23 = .ok (.iload_n 2, 1) := by decide +kernel
theorem dX1_liveWith_24 : decode cX1_liveWith 24 = .ok (.aload_n 0, 1) := by decide +kernel
theorem dX1_liveWith_25 : decode cX1_liveWith 25 = .ok (.iload_n 3, 1) := by decide +kernel
theorem dX1_liveWith_26 : decode cX1_liveWith 26 = .ok (.iload_n 1, 1) := by decide +kernel
theorem dX1_liveWith_27 : decode cX1_liveWith 27 = .ok (.invokevirtual 71, 3) := by decide +kernel
theorem dX1_liveWith_30 : decode cX1_liveWith 30 = .ok (.ior, 1) := by decide +kernel
theorem dX1_liveWith_31 : decode cX1_liveWith 31 = .ok (.istore_n 2, 1) := by decide +kernel
theorem dX1_liveWith_32 : decode cX1_liveWith 32 = .ok (.iinc 3 1, 3) := by decide +kernel
theorem dX1_liveWith_35 : decode cX1_liveWith 35 = .ok (.goto (-31), 3) := by decide +kernel
theorem dX1_liveWith_38 : decode cX1_liveWith 38 = .ok (.iload_n 2, 1) := by decide +kernel
theorem dX1_liveWith_39 : decode cX1_liveWith 39 = .ok (.ireturn, 1) := by decide +kernel
set_option maxRecDepth 20000 in
theorem ggX1_loadCutOffBy_X5_has : GoodIn wsX1_loadCutOffBy wsX5_has := goodIn_r _ [3] (by decide +kernel) (by decide +kernel)
set_option maxRecDepth 20000 in
theorem gX1_loadCutOffBy_X5_has_n54 : GoodIn wsX1_loadCutOffBy (wsX5_has) := ggX1_loadCutOffBy_X5_has
set_option maxRecDepth 20000 in
theorem ggX1_loadCutOffBy_X1_sourceOfLine : GoodIn wsX1_loadCutOffBy wsX1_sourceOfLine := goodIn_ca (goodIn_r _ [8, 9, 10, 11, 7, 12, 13, 14, 15, 16, 17, 18, 19, 20, 21, 22, 23, 2, 24, 25, 26, 27, 28, 29, 30, 31, 32, 33, 1, 3, 34, 35, 36, 37, 38, 39, 40, 41, 42, 43, 50, 51, 52, 53, 54, 55, 56, 57, 58, 59] (by decide +kernel) (by decide +kernel)) (goodIn_sub (fun _ h => List.mem_cons_of_mem _ (List.mem_append_right _ h)) (by decide +kernel))
set_option maxRecDepth 20000 in
theorem gX1_loadCutOffBy_X1_sourceOfLine : GoodIn wsX1_loadCutOffBy (wsV RX1 83 RX1 yX1_sourceOfLine wsX1_sourceOfLine) := goodIn_app (goodIn_of _ (by decide +kernel)) ggX1_loadCutOffBy_X1_sourceOfLine
set_option maxRecDepth 20000 in
theorem ggX1_loadCutOffBy_X1_oneEnd : GoodIn wsX1_loadCutOffBy wsX1_oneEnd := goodIn_ca (goodIn_r _ [12, 13, 14, 15, 16, 7, 17, 18, 50, 51, 52, 53, 54, 55, 56, 57, 58, 59] (by decide +kernel) (by decide +kernel)) (goodIn_sub (fun _ h => List.mem_cons_of_mem _ (List.mem_append_right _ h)) (by decide +kernel))
set_option maxRecDepth 20000 in
theorem gX1_loadCutOffBy_X1_oneEnd : GoodIn wsX1_loadCutOffBy (wsV RX1 68 RX1 yX1_oneEnd wsX1_oneEnd) := goodIn_app (goodIn_of _ (by decide +kernel)) ggX1_loadCutOffBy_X1_oneEnd
set_option maxRecDepth 20000 in
theorem ggX1_loadCutOffBy_X5_bit : GoodIn wsX1_loadCutOffBy wsX5_bit := goodIn_r _ [24] (by decide +kernel) (by decide +kernel)
set_option maxRecDepth 20000 in
theorem gX1_loadCutOffBy_X5_bit_n37 : GoodIn wsX1_loadCutOffBy (wsX5_bit) := ggX1_loadCutOffBy_X5_bit
set_option maxRecDepth 20000 in
theorem ggX1_loadCutOffBy_X1_islandAround : GoodIn wsX1_loadCutOffBy wsX1_islandAround := goodIn_ca (goodIn_r _ [22, 23, 2, 24, 25, 26, 27, 28, 29, 30, 31, 32, 7, 33, 18, 1, 3, 34, 35, 36, 37, 13, 38, 50, 51, 52, 53, 54, 55, 56, 57, 58, 59] (by decide +kernel) (by decide +kernel)) (goodIn_sub (fun _ h => List.mem_cons_of_mem _ (List.mem_append_right _ h)) (by decide +kernel))
set_option maxRecDepth 20000 in
theorem gX1_loadCutOffBy_X1_islandAround : GoodIn wsX1_loadCutOffBy (wsV RX1 71 RX1 yX1_islandAround wsX1_islandAround) := goodIn_app (goodIn_of _ (by decide +kernel)) ggX1_loadCutOffBy_X1_islandAround
set_option maxRecDepth 20000 in
theorem ggX1_loadCutOffBy_X1_sourceIn : GoodIn wsX1_loadCutOffBy wsX1_sourceIn := goodIn_r _ [42, 43, 25, 2, 26, 27, 28, 29, 50, 51, 52, 53, 54, 55, 56, 57, 58, 59] (by decide +kernel) (by decide +kernel)
set_option maxRecDepth 20000 in
theorem gX1_loadCutOffBy_X1_sourceIn : GoodIn wsX1_loadCutOffBy (wsV RX1 74 RX1 yX1_sourceIn wsX1_sourceIn) := goodIn_app (goodIn_of _ (by decide +kernel)) ggX1_loadCutOffBy_X1_sourceIn
set_option maxRecDepth 20000 in
theorem ggX1_loadCutOffBy_X1_acrossFrom : GoodIn wsX1_loadCutOffBy wsX1_acrossFrom := goodIn_ca (goodIn_r _ [37, 18, 13, 38, 50, 51, 52, 53, 54, 55, 56, 57, 58, 59] (by decide +kernel) (by decide +kernel)) (goodIn_sub (fun _ h => List.mem_cons_of_mem _ (List.mem_append_right _ h)) (by decide +kernel))
set_option maxRecDepth 20000 in
theorem gX1_loadCutOffBy_X1_acrossFrom : GoodIn wsX1_loadCutOffBy (wsV RX1 65 RX1 yX1_acrossFrom wsX1_acrossFrom) := goodIn_app (goodIn_of _ (by decide +kernel)) ggX1_loadCutOffBy_X1_acrossFrom
set_option maxRecDepth 20000 in
theorem ggX1_loadCutOffBy_X1_loadIn : GoodIn wsX1_loadCutOffBy wsX1_loadIn := goodIn_ca (goodIn_r _ [47, 48, 49, 1, 2, 3, 50, 51, 52, 53, 54, 55, 56, 57, 58, 59] (by decide +kernel) (by decide +kernel)) (goodIn_sub (fun _ h => List.mem_cons_of_mem _ (List.mem_append_right _ h)) (by decide +kernel))
set_option maxRecDepth 20000 in
theorem gX1_loadCutOffBy_X1_loadIn : GoodIn wsX1_loadCutOffBy (wsV RX1 77 RX1 yX1_loadIn wsX1_loadIn) := goodIn_app (goodIn_of _ (by decide +kernel)) ggX1_loadCutOffBy_X1_loadIn
theorem dX1_loadCutOffBy_0 : decode cX1_loadCutOffBy 0 = .ok (.iload_n 2, 1) := by decide +kernel
theorem dX1_loadCutOffBy_1 : decode cX1_loadCutOffBy 1 = .ok (.iload_n 1, 1) := by decide +kernel
theorem dX1_loadCutOffBy_2 : decode cX1_loadCutOffBy 2 = .ok (.invokestatic 54, 3) := by decide +kernel
theorem dX1_loadCutOffBy_5 : decode cX1_loadCutOffBy 5 = .ok (.ifCond .eq 13, 3) := by decide +kernel
theorem dX1_loadCutOffBy_8 : decode cX1_loadCutOffBy 8 = .ok (.aload_n 0, 1) := by decide +kernel
theorem dX1_loadCutOffBy_9 : decode cX1_loadCutOffBy 9 = .ok (.iload_n 1, 1) := by decide +kernel
theorem dX1_loadCutOffBy_10 : decode cX1_loadCutOffBy 10 = .ok (.iload_n 2, 1) := by decide +kernel
theorem dX1_loadCutOffBy_11 : decode cX1_loadCutOffBy 11 = .ok (.invokevirtual 83, 3) := by decide +kernel
theorem dX1_loadCutOffBy_14 : decode cX1_loadCutOffBy 14 = .ok (.iconst (-1), 1) := by decide +kernel
theorem dX1_loadCutOffBy_15 : decode cX1_loadCutOffBy 15 = .ok (.if_icmp .ne 5, 3) := by decide +kernel
theorem dX1_loadCutOffBy_18 : decode cX1_loadCutOffBy 18 = .ok (.iconst 0, 1) := by decide +kernel
theorem dX1_loadCutOffBy_19 : decode cX1_loadCutOffBy 19 = .ok (.ireturn, 1) := by decide +kernel
