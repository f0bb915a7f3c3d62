theorem dX6_paints_159 : decode cX6_paints 159 = .ok (.iload 4, 2) := by decide +kernel
theorem dX6_paints_161 : decode cX6_paints 161 = .ok (.iaload, 1) := by decide +kernel
theorem dX6_paints_162 : decode cX6_paints 162 = .ok (.iload 5, 2) := by decide +kernel
theorem dX6_paints_164 : decode cX6_paints 164 = .ok (.iastore, 1) := by decide +kernel
theorem dX6_paints_165 : decode cX6_paints 165 = .ok (.aload_n 0, 1) := by decide +kernel
theorem dX6_paints_166 : decode cX6_paints 166 = .ok (.getfield 53, 3) := by decide +kernel
theorem dX6_paints_169 : decode cX6_paints 169 = .ok (.aload_n 0, 1) := by decide +kernel
theorem dX6_paints_170 : decode cX6_paints 170 = .ok (.getfield 26, 3) := by decide +kernel
theorem dX6_paints_173 : decode cX6_paints 173 = .ok (.iload 4, 2) := by decide +kernel
theorem dX6_paints_175 : decode cX6_paints 175 = .ok (.iaload, 1) := by decide +kernel
theorem dX6_paints_176 : decode cX6_paints 176 = .ok (.iload 5, 2) := by decide +kernel
theorem dX6_paints_178 : decode cX6_paints 178 = .ok (.iastore, 1) := by decide +kernel
theorem dX6_paints_179 : decode cX6_paints 179 = .ok (.iconst 1, 1) := by decide +kernel
theorem dX6_paints_180 : decode cX6_paints 180 = .ok (.istore_n 3, 1) := by decide +kernel
theorem dX6_paints_181 : decode cX6_paints 181 = .ok (.iinc 4 1, 3) := by decide +kernel
theorem dX6_paints_184 : decode cX6_paints 184 = .ok (.goto (-150), 3) := by decide +kernel
theorem dX6_paints_187 : decode cX6_paints 187 = .ok (.goto (-162), 3) := by decide +kernel
theorem dX6_paints_190 : decode cX6_paints 190 = .ok (.return_, 1) := by decide +kernel
theorem dX6_source_0 : decode cX6_source 0 = .ok (.iconst 0, 1) := by decide +kernel
theorem dX6_source_1 : decode cX6_source 1 = .ok (.istore_n 2, 1) := by decide +kernel
theorem dX6_source_2 : decode cX6_source 2 = .ok (.iload_n 2, 1) := by decide +kernel
theorem dX6_source_3 : decode cX6_source 3 = .ok (.aload_n 0, 1) := by decide +kernel
theorem dX6_source_4 : decode cX6_source 4 = .ok (.getfield 72, 3) := by decide +kernel
theorem dX6_source_7 : decode cX6_source 7 = .ok (.if_icmp .ge 30, 3) := by decide +kernel
theorem dX6_source_10 : decode cX6_source 10 = .ok (.aload_n 0, 1) := by decide +kernel
theorem dX6_source_11 : decode cX6_source 11 = .ok (.getfield 7, 3) := by decide +kernel
theorem dX6_source_14 : decode cX6_source 14 = .ok (.iload_n 2, 1) := by decide +kernel
theorem dX6_source_15 : decode cX6_source 15 = .ok (.baload, 1) := by decide +kernel
theorem dX6_source_16 : decode cX6_source 16 = .ok (.ifCond .eq 15, 3) := by decide +kernel
theorem dX6_source_19 : decode cX6_source 19 = .ok (.aload_n 0, 1) := by decide +kernel
theorem dX6_source_20 : decode cX6_source 20 = .ok (.getfield 53, 3) := by decide +kernel
theorem dX6_source_23 : decode cX6_source 23 = .ok (.iload_n 2, 1) := by decide +kernel
theorem dX6_source_24 : decode cX6_source 24 = .ok (.iaload, 1) := by decide +kernel
theorem dX6_source_25 : decode cX6_source 25 = .ok (.iload_n 1, 1) := by decide +kernel
theorem dX6_source_26 : decode cX6_source 26 = .ok (.if_icmp .ne 5, 3) := by decide +kernel
theorem dX6_source_29 : decode cX6_source 29 = .ok (.iload_n 2, 1) := by decide +kernel
theorem dX6_source_30 : decode cX6_source 30 = .ok (.ireturn, 1) := by decide +kernel
theorem dX6_source_31 : decode cX6_source 31 = .ok (.iinc 2 1, 3) := by decide +kernel
theorem dX6_source_34 : decode cX6_source 34 = .ok (.goto (-32), 3) := by decide +kernel
theorem dX6_source_37 : decode cX6_source 37 = .ok (.iconst (-1), 1) := by decide +kernel
theorem dX6_source_38 : decode cX6_source 38 = .ok (.ireturn, 1) := by decide +kernel
theorem dX6_sum_0 : decode cX6_sum 0 = .ok (.iconst 0, 1) := by decide +kernel
theorem dX6_sum_1 : decode cX6_sum 1 = .ok (.istore_n 2, 1) := by decide +kernel
theorem dX6_sum_2 : decode cX6_sum 2 = .ok (.iconst 0, 1) := by decide +kernel
theorem dX6_sum_3 : decode cX6_sum 3 = .ok (.istore_n 3, 1) := by decide +kernel
theorem dX6_sum_4 : decode cX6_sum 4 = .ok (.iload_n 3, 1) := by decide +kernel
theorem dX6_sum_5 : decode cX6_sum 5 = .ok (.aload_n 0, 1) := by decide +kernel
theorem dX6_sum_6 : decode cX6_sum 6 = .ok (.getfield 72, 3) := by decide +kernel
theorem dX6_sum_9 : decode cX6_sum 9 = .ok (.if_icmp .ge 32, 3) := by decide +kernel
theorem dX6_sum_12 : decode cX6_sum 12 = .ok (.iload_n 2, 1) := by decide +kernel
theorem dX6_sum_13 : decode cX6_sum 13 = .ok (.aload_n 0, 1) := by decide +kernel
theorem dX6_sum_14 : decode cX6_sum 14 = .ok (.getfield 53, 3) := by decide +kernel
theorem dX6_sum_17 : decode cX6_sum 17 = .ok (.iload_n 3, 1) := by decide +kernel
theorem dX6_sum_18 : decode cX6_sum 18 = .ok (.iaload, 1) := by decide +kernel
theorem dX6_sum_19 : decode cX6_sum 19 = .ok (.iload_n 1, 1) := by decide +kernel
theorem dX6_sum_20 : decode cX6_sum 20 = .ok (.if_icmp .ne 12, 3) := by decide +kernel
theorem dX6_sum_23 : decode cX6_sum 23 = .ok (.aload_n 0, 1) := by decide +kernel
theorem dX6_sum_24 : decode cX6_sum 24 = .ok (.getfield 17, 3) := by decide +kernel
theorem dX6_sum_27 : decode cX6_sum 27 = .ok (.iload_n 3, 1) := by decide +kernel
theorem dX6_sum_28 : decode cX6_sum 28 = .ok (.iaload, 1) := by decide +kernel
theorem dX6_sum_29 : decode cX6_sum 29 = .ok (.goto 4, 3) := by decide +kernel
theorem dX6_sum_32 : decode cX6_sum 32 = .ok (.iconst 0, 1) := by decide +kernel
theorem dX6_sum_33 : decode cX6_sum 33 = .ok (.iadd, 1) := by decide +kernel
theorem dX6_sum_34 : decode cX6_sum 34 = .ok (.istore_n 2, 1) := by decide +kernel
theorem dX6_sum_35 : decode cX6_sum 35 = .ok (.iinc 3 1, 3) := by decide +kernel
theorem dX6_sum_38 : decode cX6_sum 38 = .ok (.goto (-34), 3) := by decide +kernel
theorem dX6_sum_41 : decode cX6_sum 41 = .ok (.iload_n 2, 1) := by decide +kernel
theorem dX6_sum_42 : decode cX6_sum 42 = .ok (.ireturn, 1) := by decide +kernel
set_option maxRecDepth 20000 in
theorem ggX6_flow_X6_paints : GoodIn wsX6_flow wsX6_paints := goodIn_ca (goodIn_r _ [8, 9, 1, 10, 11, 2, 3, 22, 23, 24, 25, 26, 27, 28, 29, 30, 31, 32, 33, 34, 35, 36, 37, 38, 39, 40, 41, 42, 43, 44, 45, 46, 47, 48] (by decide +kernel) (by decide +kernel)) (goodIn_sub (fun _ h => List.mem_cons_of_mem _ (List.mem_append_right _ h)) (by decide +kernel))
set_option maxRecDepth 20000 in
theorem gX6_flow_X6_paints : GoodIn wsX6_flow (wsV RX6 90 RX6 yX6_paints wsX6_paints) := goodIn_app (goodIn_of _ (by decide +kernel)) ggX6_flow_X6_paints
set_option maxRecDepth 20000 in
theorem ggX6_flow_X6_source : GoodIn wsX6_flow wsX6_source := goodIn_ca (goodIn_r _ [15, 9, 16, 1, 22, 23, 24, 25, 26, 27, 28, 29, 30, 31, 32, 33, 34, 35, 36, 37, 38, 39, 40, 41, 42, 43, 44, 45, 46, 47, 48] (by decide +kernel) (by decide +kernel)) (goodIn_sub (fun _ h => List.mem_cons_of_mem _ (List.mem_append_right _ h)) (by decide +kernel))
set_option maxRecDepth 20000 in
theorem gX6_flow_X6_source : GoodIn wsX6_flow (wsV RX6 94 RX6 yX6_source wsX6_source) := goodIn_app (goodIn_of _ (by decide +kernel)) ggX6_flow_X6_source
set_option maxRecDepth 20000 in
theorem ggX6_flow_X6_sum : GoodIn wsX6_flow wsX6_sum := goodIn_ca (goodIn_r _ [20, 9, 1, 21, 22, 23, 24, 25, 26, 27, 28, 29, 30, 31, 32, 33, 34, 35, 36, 37, 38, 39, 40, 41, 42, 43, 44, 45, 46, 47, 48] (by decide +kernel) (by decide +kernel)) (goodIn_sub (fun _ h => List.mem_cons_of_mem _ (List.mem_append_right _ h)) (by decide +kernel))
set_option maxRecDepth 20000 in
theorem gX6_flow_X6_sum : GoodIn wsX6_flow (wsV RX6 97 RX6 yX6_sum wsX6_sum) := goodIn_app (goodIn_of _ (by decide +kernel)) ggX6_flow_X6_sum
theorem dX6_flow_0 : decode cX6_flow 0 = .ok (.aload_n 0, 1) := by decide +kernel
theorem dX6_flow_1 : decode cX6_flow 1 = .ok (.iload_n 1, 1) := by decide +kernel
theorem dX6_flow_2 : decode cX6_flow 2 = .ok (.iload_n 2, 1) := by decide +kernel
theorem dX6_flow_3 : decode cX6_flow 3 = .ok (.invokevirtual 90, 3) := by decide +kernel
theorem dX6_flow_6 : decode cX6_flow 6 = .ok (.aload_n 0, 1) := by decide +kernel
theorem dX6_flow_7 : decode cX6_flow 7 = .ok (.aload_n 0, 1) := by decide +kernel
theorem dX6_flow_8 : decode cX6_flow 8 = .ok (.getfield 53, 3) := by decide +kernel
theorem dX6_flow_11 : decode cX6_flow 11 = .ok (.aload_n 0, 1) := by decide +kernel
theorem dX6_flow_12 : decode cX6_flow 12 = .ok (.getfield 23, 3) := by decide +kernel
theorem dX6_flow_15 : decode cX6_flow 15 = .ok (.iload_n 1, 1) := by decide +kernel
theorem dX6_flow_16 : decode cX6_flow 16 = .ok (.iaload, 1) := by decide +kernel
theorem dX6_flow_17 : decode cX6_flow 17 = .ok (.iaload, 1) := by decide +kernel
theorem dX6_flow_18 : decode cX6_flow 18 = .ok (.invokevirtual 94, 3) := by decide +kernel
theorem dX6_flow_21 : decode cX6_flow 21 = .ok (.iconst (-1), 1) := by decide +kernel
theorem dX6_flow_22 : decode cX6_flow 22 = .ok (.if_icmp .eq 21, 3) := by decide +kernel
theorem dX6_flow_25 : decode cX6_flow 25 = .ok (.aload_n 0, 1) := by decide +kernel
theorem dX6_flow_26 : decode cX6_flow 26 = .ok (.aload_n 0, 1) := by decide +kernel
theorem dX6_flow_27 : decode cX6_flow 27 = .ok (.getfield 53, 3) := by decide +kernel
theorem dX6_flow_30 : decode cX6_flow 30 = .ok (.aload_n 0, 1) := by decide +kernel
theorem dX6_flow_31 : decode cX6_flow 31 = .ok (.getfield 26, 3) := by decide +kernel
theorem dX6_flow_34 : decode cX6_flow 34 = .ok (.iload_n 1, 1) := by decide +kernel
theorem dX6_flow_35 : decode cX6_flow 35 = .ok (.iaload, 1) := by decide +kernel
theorem dX6_flow_36 : decode cX6_flow 36 = .ok (.iaload, 1) := by decide +kernel
theorem dX6_flow_37 : decode cX6_flow 37 = .ok (.invokevirtual 97, 3) := by decide +kernel
theorem dX6_flow_40 : decode cX6_flow 40 = .ok (.goto 41, 3) := by decide +kernel
theorem dX6_flow_43 : decode cX6_flow 43 = .ok (.aload_n 0, 1) := by decide +kernel
theorem dX6_flow_44 : decode cX6_flow 44 = .ok (.aload_n 0, 1) := by decide +kernel
theorem dX6_flow_45 : decode cX6_flow 45 = .ok (.getfield 53, 3) := by decide +kernel
theorem dX6_flow_48 : decode cX6_flow 48 = .ok (.aload_n 0, 1) := by decide +kernel
theorem dX6_flow_49 : decode cX6_flow 49 = .ok (.getfield 26, 3) := by decide +kernel
theorem dX6_flow_52 : decode cX6_flow 52 = .ok (.iload_n 1, 1) := by decide +kernel
theorem dX6_flow_53 : decode cX6_flow 53 = .ok (.iaload, 1) := by decide +kernel
theorem dX6_flow_54 : decode cX6_flow 54 = .ok (.iaload, 1) := by decide +kernel
theorem dX6_flow_55 : decode cX6_flow 55 = .ok (.invokevirtual 94, 3) := by decide +kernel
theorem dX6_flow_58 : decode cX6_flow 58 = .ok (.iconst (-1), 1) := by decide +kernel
theorem dX6_flow_59 : decode cX6_flow 59 = .ok (.if_icmp .eq 21, 3) := by decide +kernel
theorem dX6_flow_62 : decode cX6_flow 62 = .ok (.aload_n 0, 1) := by decide +kernel
theorem dX6_flow_63 : decode cX6_flow 63 = .ok (.aload_n 0, 1) := by decide +kernel
theorem dX6_flow_64 : decode cX6_flow 64 = .ok (.getfield 53, 3) := by decide +kernel
theorem dX6_flow_67 : decode cX6_flow 67 = .ok (.aload_n 0, 1) := by decide +kernel
theorem dX6_flow_68 : decode cX6_flow 68 = .ok (.getfield 23, 3) := by decide +kernel
theorem dX6_flow_71 : decode cX6_flow 71 = .ok (.iload_n 1, 1) := by decide +kernel
theorem dX6_flow_72 : decode cX6_flow 72 = .ok (.iaload, 1) := by decide +kernel
theorem dX6_flow_73 : decode cX6_flow 73 = .ok (.iaload, 1) := by decide +kernel
theorem dX6_flow_74 : decode cX6_flow 74 = .ok (.invokevirtual 97, 3) := by decide +kernel
theorem dX6_flow_77 : decode cX6_flow 77 = .ok (.goto 4, 3) := by decide +kernel
theorem dX6_flow_80 : decode cX6_flow 80 = .ok (.iconst 0, 1) := by decide +kernel
theorem dX6_flow_81 : decode cX6_flow 81 = .ok (.ireturn, 1) := by decide +kernel
set_option maxRecDepth 20000 in
theorem ggX6_flowOf_X6_flow : GoodIn wsX6_flowOf wsX6_flow := goodIn_ca (goodIn_r _ [6, 7, 8, 9, 10, 11, 12, 5, 13, 14, 15, 1, 16, 17, 18, 19, 20, 21, 22, 23, 24, 25, 26, 27, 28, 29, 30, 31, 32, 33, 34, 35, 36, 37, 38, 39, 40, 41, 42, 43, 44, 45, 46, 47, 48, 49, 50, 51, 52] (by decide +kernel) (by decide +kernel)) (goodIn_sub (fun _ h => List.mem_cons_of_mem _ (List.mem_append_right _ h)) (by decide +kernel))
set_option maxRecDepth 20000 in
theorem gX6_flowOf_X6_flow : GoodIn wsX6_flowOf (wsV RX6 100 RX6 yX6_flow wsX6_flow) := goodIn_app (goodIn_of _ (by decide +kernel)) ggX6_flowOf_X6_flow
theorem dX6_flowOf_0 : decode cX6_flowOf 0 = .ok (.aload_n 0, 1) := by decide +kernel
theorem dX6_flowOf_1 : decode cX6_flowOf 1 = .ok (.getfield 44, 3) := by decide +kernel
theorem dX6_flowOf_4 : decode cX6_flowOf 4 = .ok (.iload_n 1, 1) := by decide +kernel
theorem dX6_flowOf_5 : decode cX6_flowOf 5 = .ok (.baload, 1) := by decide +kernel
theorem dX6_flowOf_6 : decode cX6_flowOf 6 = .ok (.ifCond .eq 12, 3) := by decide +kernel
theorem dX6_flowOf_9 : decode cX6_flowOf 9 = .ok (.aload_n 0, 1) := by decide +kernel
theorem dX6_flowOf_10 : decode cX6_flowOf 10 = .ok (.iload_n 1, 1) := by decide +kernel
theorem dX6_flowOf_11 : decode cX6_flowOf 11 = .ok (.iconst (-1), 1) := by decide +kernel
theorem dX6_flowOf_12 : decode cX6_flowOf 12 = .ok (.invokevirtual 100, 3) := by decide +kernel
theorem dX6_flowOf_15 : decode cX6_flowOf 15 = .ok (.goto 4, 3) := by decide +kernel
theorem dX6_flowOf_18 : decode cX6_flowOf 18 = .ok (.iconst 0, 1) := by decide +kernel
theorem dX6_flowOf_19 : decode cX6_flowOf 19 = .ok (.ireturn, 1) := by decide +kernel
set_option maxRecDepth 20000 in
theorem ggX6_tooMuch_X6_flow : GoodIn wsX6_tooMuch wsX6_flow := goodIn_ca (goodIn_r _ [8, 9, 10, 11, 12, 13, 14, 7, 15, 16, 1, 2, 17, 18, 19, 20, 21, 22, 23, 24, 25, 26, 27, 28, 29, 30, 31, 32, 33, 34, 35, 36, 37, 38, 39, 40, 41, 42, 43, 44, 45, 46, 47, 48, 49, 50, 51, 52, 53] (by decide +kernel) (by decide +kernel)) (goodIn_sub (fun _ h => List.mem_cons_of_mem _ (List.mem_append_right _ h)) (by decide +kernel))
set_option maxRecDepth 20000 in
theorem gX6_tooMuch_X6_flow : GoodIn wsX6_tooMuch (wsV RX6 100 RX6 yX6_flow wsX6_flow) := goodIn_app (goodIn_of _ (by decide +kernel)) ggX6_tooMuch_X6_flow
theorem dX6_tooMuch_0 : decode cX6_tooMuch 0 = .ok (.iconst 0, 1) := by decide +kernel
theorem dX6_tooMuch_1 : decode cX6_tooMuch 1 = .ok (.istore_n 2, 1) := by decide +kernel
theorem dX6_tooMuch_2 : decode cX6_tooMuch 2 = .ok (.iload_n 2, 1) := by decide +kernel
theorem dX6_tooMuch_3 : decode cX6_tooMuch 3 = .ok (.aload_n 0, 1) := by decide +kernel
theorem dX6_tooMuch_4 : decode cX6_tooMuch 4 = .ok (.getfield 79, 3) := by decide +kernel
theorem dX6_tooMuch_7 : decode cX6_tooMuch 7 = .ok (.if_icmp .ge 40, 3) := by decide +kernel
theorem dX6_tooMuch_10 : decode cX6_tooMuch 10 = .ok (.aload_n 0, 1) := by decide +kernel
theorem dX6_tooMuch_11 : decode cX6_tooMuch 11 = .ok (.getfield 44, 3) := by decide +kernel
theorem dX6_tooMuch_14 : decode cX6_tooMuch 14 = .ok (.iload_n 2, 1) := by decide +kernel
theorem dX6_tooMuch_15 : decode cX6_tooMuch 15 = .ok (.baload, 1) := by decide +kernel
theorem dX6_tooMuch_16 : decode cX6_tooMuch 16 = .ok (.ifCond .ne 8, 3) := by decide +kernel
theorem dX6_tooMuch_19 : decode cX6_tooMuch 19 = .ok (.iload_n 2, 1) := by decide +kernel
theorem dX6_tooMuch_20 : decode cX6_tooMuch 20 = .ok (.iload_n 1, 1) := by decide +kernel
theorem dX6_tooMuch_21 : decode cX6_tooMuch 21 = .ok (.if_icmp .ne 20, 3) := by decide +kernel
theorem dX6_tooMuch_24 : decode cX6_tooMuch 24 = .ok (.aload_n 0, 1) := by decide +kernel
theorem dX6_tooMuch_25 : decode cX6_tooMuch 25 = .ok (.iload_n 2, 1) := by decide +kernel
theorem dX6_tooMuch_26 : decode cX6_tooMuch 26 = .ok (.iload_n 1, 1) := by decide +kernel
theorem dX6_tooMuch_27 : decode cX6_tooMuch 27 = .ok (.invokevirtual 100, 3) := by decide +kernel
theorem dX6_tooMuch_30 : decode cX6_tooMuch 30 = .ok (.aload_n 0, 1) := by decide +kernel
theorem dX6_tooMuch_31 : decode cX6_tooMuch 31 = .ok (.getfield 29, 3) := by decide +kernel
theorem dX6_tooMuch_34 : decode cX6_tooMuch 34 = .ok (.iload_n 2, 1) := by decide +kernel
theorem dX6_tooMuch_35 : decode cX6_tooMuch 35 = .ok (.iaload, 1) := by decide +kernel
theorem dX6_tooMuch_36 : decode cX6_tooMuch 36 = .ok (.if_icmp .le 5, 3) := by decide +kernel
theorem dX6_tooMuch_39 : decode cX6_tooMuch 39 = .ok (.iload_n 2, 1) := by decide +kernel
theorem dX6_tooMuch_40 : decode cX6_tooMuch 40 = .ok (.ireturn, 1) := by decide +kernel
theorem dX6_tooMuch_41 : decode cX6_tooMuch 41 = .ok (.iinc 2 1, 3) := by decide +kernel
theorem dX6_tooMuch_44 : decode cX6_tooMuch 44 = .ok (.goto (-42), 3) := by decide +kernel
theorem dX6_tooMuch_47 : decode cX6_tooMuch 47 = .ok (.iconst (-1), 1) := by decide +kernel
theorem dX6_tooMuch_48 : decode cX6_tooMuch 48 = .ok (.ireturn, 1) := by decide +kernel
theorem dX6_hasFaultIn_0 : decode cX6_hasFaultIn 0 = .ok (.iconst 0, 1) := by decide +kernel
theorem dX6_hasFaultIn_1 : decode cX6_hasFaultIn 1 = .ok (.istore_n 2, 1) := by decide +kernel
theorem dX6_hasFaultIn_2 : decode cX6_hasFaultIn 2 = .ok (.iload_n 2, 1) := by decide +kernel
theorem dX6_hasFaultIn_3 : decode cX6_hasFaultIn 3 = .ok (.aload_n 0, 1) := by decide +kernel
theorem dX6_hasFaultIn_4 : decode cX6_hasFaultIn 4 = .ok (.getfield 79, 3) := by decide +kernel
theorem dX6_hasFaultIn_7 : decode cX6_hasFaultIn 7 = .ok (.if_icmp .ge 44, 3) := by decide +kernel
theorem dX6_hasFaultIn_10 : decode cX6_hasFaultIn 10 = .ok (.aload_n 0, 1) := by decide +kernel
theorem dX6_hasFaultIn_11 : decode cX6_hasFaultIn 11 = .ok (.getfield 44, 3) := by decide +kernel
theorem dX6_hasFaultIn_14 : decode cX6_hasFaultIn 14 = .ok (.iload_n 2, 1) := by decide +kernel
theorem dX6_hasFaultIn_15 : decode cX6_hasFaultIn 15 = .ok (.baload, 1) := by decide +kernel
theorem dX6_hasFaultIn_16 : decode cX6_hasFaultIn 16 = .ok (.ifCond .eq 29, 3) := by decide +kernel
theorem dX6_hasFaultIn_19 : decode cX6_hasFaultIn 19 = .ok (.aload_n 0, 1) := by decide +kernel
theorem dX6_hasFaultIn_20 : decode cX6_hasFaultIn 20 = .ok (.getfield 50, 3) := by decide +kernel
theorem dX6_hasFaultIn_23 : decode cX6_hasFaultIn 23 = .ok (.iload_n 2, 1) := by decide +kernel
theorem dX6_hasFaultIn_24 : decode cX6_hasFaultIn 24 = .ok (.baload, 1) := by decide +kernel
theorem dX6_hasFaultIn_25 : decode cX6_hasFaultIn 25 = .ok (.ifCond .eq 20, 3) := by decide +kernel
theorem dX6_hasFaultIn_28 : decode cX6_hasFaultIn 28 = .ok (.aload_n 0, 1) := by decide +kernel
theorem dX6_hasFaultIn_29 : decode cX6_hasFaultIn 29 = .ok (.getfield 53, 3) := by decide +kernel
theorem dX6_hasFaultIn_32 : decode cX6_hasFaultIn 32 = .ok (.aload_n 0, 1) := by decide +kernel
theorem dX6_hasFaultIn_33 : decode cX6_hasFaultIn 33 = .ok (.getfield 23, 3) := by decide +kernel
theorem dX6_hasFaultIn_36 : decode cX6_hasFaultIn 36 = .ok (.iload_n 2, 1) := by decide +kernel
theorem dX6_hasFaultIn_37 : decode cX6_hasFaultIn 37 = .ok (.iaload, 1) := by decide +kernel
theorem dX6_hasFaultIn_38 : decode cX6_hasFaultIn 38 = .ok (.iaload, 1) := by decide +kernel
theorem dX6_hasFaultIn_39 : decode cX6_hasFaultIn 39 = .ok (.iload_n 1, 1) := by decide +kernel
theorem dX6_hasFaultIn_40 : decode cX6_hasFaultIn 40 = .ok (.if_icmp .ne 5, 3) := by decide +kernel
theorem dX6_hasFaultIn_43 : decode cX6_hasFaultIn 43 = .ok (.iconst 1, 1) := by decide +kernel
theorem dX6_hasFaultIn_44 : decode cX6_hasFaultIn 44 = .ok (.ireturn, 1) := by decide +kernel
theorem dX6_hasFaultIn_45 : decode cX6_hasFaultIn 45 = .ok (.iinc 2 1, 3) := by decide +kernel
theorem dX6_hasFaultIn_48 : decode cX6_hasFaultIn 48 = .ok (.goto (-46), 3) := by decide +kernel
theorem dX6_hasFaultIn_51 : decode cX6_hasFaultIn 51 = .ok (.iconst 0, 1) := by decide +kernel
theorem dX6_hasFaultIn_52 : decode cX6_hasFaultIn 52 = .ok (.ireturn, 1) := by decide +kernel
set_option maxRecDepth 20000 in
theorem ggX6_reason_X6_paints : GoodIn wsX6_reason wsX6_paints := goodIn_ca (goodIn_r _ [13, 14, 4, 15, 1, 5, 6, 39, 40, 41, 42, 43, 44, 45, 46, 47, 48, 49, 50, 51, 52, 53, 54, 55, 56, 57, 58, 59, 60, 61, 62, 63, 64, 65] (by decide +kernel) (by decide +kernel)) (goodIn_sub (fun _ h => List.mem_cons_of_mem _ (List.mem_append_right _ h)) (by decide +kernel))
set_option maxRecDepth 20000 in
theorem gX6_reason_X6_paints : GoodIn wsX6_reason (wsV RX6 90 RX6 yX6_paints wsX6_paints) := goodIn_app (goodIn_of _ (by decide +kernel)) ggX6_reason_X6_paints
set_option maxRecDepth 20000 in
theorem ggX6_reason_X6_source : GoodIn wsX6_reason wsX6_source := goodIn_ca (goodIn_r _ [19, 14, 20, 4, 39, 40, 41, 42, 43, 44, 45, 46, 47, 48, 49, 50, 51, 52, 53, 54, 55, 56, 57, 58, 59, 60, 61, 62, 63, 64, 65] (by decide +kernel) (by decide +kernel)) (goodIn_sub (fun _ h => List.mem_cons_of_mem _ (List.mem_append_right _ h)) (by decide +kernel))
set_option maxRecDepth 20000 in
theorem gX6_reason_X6_source : GoodIn wsX6_reason (wsV RX6 94 RX6 yX6_source wsX6_source) := goodIn_app (goodIn_of _ (by decide +kernel)) ggX6_reason_X6_source
set_option maxRecDepth 20000 in
theorem ggX6_reason_X6_hasFaultIn : GoodIn wsX6_reason wsX6_hasFaultIn := goodIn_ca (goodIn_r _ [24, 15, 1, 3, 4, 5, 39, 40, 41, 42, 43, 44, 45, 46, 47, 48, 49, 50, 51, 52, 53, 54, 55, 56, 57, 58, 59, 60, 61, 62, 63, 64, 65] (by decide +kernel) (by decide +kernel)) (goodIn_sub (fun _ h => List.mem_cons_of_mem _ (List.mem_append_right _ h)) (by decide +kernel))
set_option maxRecDepth 20000 in
theorem gX6_reason_X6_hasFaultIn : GoodIn wsX6_reason (wsV RX6 104 RX6 yX6_hasFaultIn wsX6_hasFaultIn) := goodIn_app (goodIn_of _ (by decide +kernel)) ggX6_reason_X6_hasFaultIn
set_option maxRecDepth 20000 in
theorem ggX6_reason_X6_sum : GoodIn wsX6_reason wsX6_sum := goodIn_ca (goodIn_r _ [28, 14, 4, 29, 39, 40, 41, 42, 43, 44, 45, 46, 47, 48, 49, 50, 51, 52, 53, 54, 55, 56, 57, 58, 59, 60, 61, 62, 63, 64, 65] (by decide +kernel) (by decide +kernel)) (goodIn_sub (fun _ h => List.mem_cons_of_mem _ (List.mem_append_right _ h)) (by decide +kernel))
set_option maxRecDepth 20000 in
theorem gX6_reason_X6_sum : GoodIn wsX6_reason (wsV RX6 97 RX6 yX6_sum wsX6_sum) := goodIn_app (goodIn_of _ (by decide +kernel)) ggX6_reason_X6_sum
set_option maxRecDepth 20000 in
theorem ggX6_reason_X6_tooMuch : GoodIn wsX6_reason wsX6_tooMuch := goodIn_ca (goodIn_r _ [33, 15, 1, 34, 35, 36, 37, 12, 38, 4, 5, 6, 9, 10, 11, 13, 14, 16, 17, 18, 19, 20, 25, 26, 27, 28, 29, 39, 40, 41, 42, 43, 44, 45, 46, 47, 48, 49, 50, 51, 52, 53, 54, 55, 56, 57, 58, 59, 60, 61, 62, 63, 64, 65] (by decide +kernel) (by decide +kernel)) (goodIn_sub (fun _ h => List.mem_cons_of_mem _ (List.mem_append_right _ h)) (by decide +kernel))
set_option maxRecDepth 20000 in
theorem gX6_reason_X6_tooMuch : GoodIn wsX6_reason (wsV RX6 107 RX6 yX6_tooMuch wsX6_tooMuch) := goodIn_app (goodIn_of _ (by decide +kernel)) ggX6_reason_X6_tooMuch
theorem dX6_reason_0 : decode cX6_reason 0 = .ok (.aload_n 0, 1) := by decide +kernel
theorem dX6_reason_1 : decode cX6_reason 1 = .ok (.getfield 44, 3) := by decide +kernel
theorem dX6_reason_4 : decode cX6_reason 4 = .ok (.iload_n 1, 1) := by decide +kernel
theorem dX6_reason_5 : decode cX6_reason 5 = .ok (.baload, 1) := by decide +kernel
theorem dX6_reason_6 : decode cX6_reason 6 = .ok (.ifCond .eq 6, 3) := by decide +kernel
theorem dX6_reason_9 : decode cX6_reason 9 = .ok (.bipush 99, 2) := by decide +kernel
theorem dX6_reason_11 : decode cX6_reason 11 = .ok (.ireturn, 1) := by decide +kernel
theorem dX6_reason_12 : decode cX6_reason 12 = .ok (.aload_n 0, 1) := by decide +kernel
theorem dX6_reason_13 : decode cX6_reason 13 = .ok (.getfield 47, 3) := by decide +kernel
theorem dX6_reason_16 : decode cX6_reason 16 = .ok (.iload_n 1, 1) := by decide +kernel
theorem dX6_reason_17 : decode cX6_reason 17 = .ok (.baload, 1) := by decide +kernel
theorem dX6_reason_18 : decode cX6_reason 18 = .ok (.ifCond .eq 6, 3) := by decide +kernel
theorem dX6_reason_21 : decode cX6_reason 21 = .ok (.bipush 111, 2) := by decide +kernel
theorem dX6_reason_23 : decode cX6_reason 23 = .ok (.ireturn, 1) := by decide +kernel
theorem dX6_reason_24 : decode cX6_reason 24 = .ok (.aload_n 0, 1) := by decide +kernel
theorem dX6_reason_25 : decode cX6_reason 25 = .ok (.getfield 50, 3) := by decide +kernel
theorem dX6_reason_28 : decode cX6_reason 28 = .ok (.iload_n 1, 1) := by decide +kernel
theorem dX6_reason_29 : decode cX6_reason 29 = .ok (.baload, 1) := by decide +kernel
theorem dX6_reason_30 : decode cX6_reason 30 = .ok (.ifCond .eq 6, 3) := by decide +kernel
theorem dX6_reason_33 : decode cX6_reason 33 = .ok (.bipush 102, 2) := by decide +kernel
theorem dX6_reason_35 : decode cX6_reason 35 = .ok (.ireturn, 1) := by decide +kernel
theorem dX6_reason_36 : decode cX6_reason 36 = .ok (.aload_n 0, 1) := by decide +kernel
theorem dX6_reason_37 : decode cX6_reason 37 = .ok (.iconst (-1), 1) := by decide +kernel
theorem dX6_reason_38 : decode cX6_reason 38 = .ok (.iconst (-1), 1) := by decide +kernel
theorem dX6_reason_39 : decode cX6_reason 39 = .ok (.invokevirtual 90, 3) := by decide +kernel
theorem dX6_reason_42 : decode cX6_reason 42 = .ok (.aload_n 0, 1) := by decide +kernel
theorem dX6_reason_43 : decode cX6_reason 43 = .ok (.getfield 53, 3) := by decide +kernel
theorem dX6_reason_46 : decode cX6_reason 46 = .ok (.aload_n 0, 1) := by decide +kernel
theorem dX6_reason_47 : decode cX6_reason 47 = .ok (.getfield 23, 3) := by decide +kernel
theorem dX6_reason_50 : decode cX6_reason 50 = .ok (.iload_n 1, 1) := by decide +kernel
theorem dX6_reason_51 : decode cX6_reason 51 = .ok (.iaload, 1) := by decide +kernel
theorem dX6_reason_52 : decode cX6_reason 52 = .ok (.iaload, 1) := by decide +kernel
theorem dX6_reason_53 : decode cX6_reason 53 = .ok (.istore_n 2, 1) := by decide +kernel
theorem dX6_reason_54 : decode cX6_reason 54 = .ok (.aload_n 0, 1) := by decide +kernel
theorem dX6_reason_55 : decode cX6_reason 55 = .ok (.getfield 53, 3) := by decide +kernel
theorem dX6_reason_58 : decode cX6_reason 58 = .ok (.aload_n 0, 1) := by decide +kernel
theorem dX6_reason_59 : decode cX6_reason 59 = .ok (.getfield 26, 3) := by decide +kernel
theorem dX6_reason_62 : decode cX6_reason 62 = .ok (.iload_n 1, 1) := by decide +kernel
theorem dX6_reason_63 : decode cX6_reason 63 = .ok (.iaload, 1) := by decide +kernel
theorem dX6_reason_64 : decode cX6_reason 64 = .ok (.iaload, 1) := by decide +kernel
theorem dX6_reason_65 : decode cX6_reason 65 = .ok (.istore_n 3, 1) := by decide +kernel
theorem dX6_reason_66 : decode cX6_reason 66 = .ok (.aload_n 0, 1) := by decide +kernel
theorem dX6_reason_67 : decode cX6_reason 67 = .ok (.iload_n 2, 1) := by decide +kernel
theorem dX6_reason_68 : decode cX6_reason 68 = .ok (.invokevirtual 94, 3) := by decide +kernel
theorem dX6_reason_71 : decode cX6_reason 71 = .ok (.istore 4, 2) := by decide +kernel
theorem dX6_reason_73 : decode cX6_reason 73 = .ok (.aload_n 0, 1) := by decide +kernel
theorem dX6_reason_74 : decode cX6_reason 74 = .ok (.iload_n 3, 1) := by decide +kernel
theorem dX6_reason_75 : decode cX6_reason 75 = .ok (.invokevirtual 94, 3) := by decide +kernel
theorem dX6_reason_78 : decode cX6_reason 78 = .ok (.istore 5, 2) := by decide +kernel
theorem dX6_reason_80 : decode cX6_reason 80 = .ok (.iload 4, 2) := by decide +kernel
theorem dX6_reason_82 : decode cX6_reason 82 = .ok (.iconst (-1), 1) := by decide +kernel
theorem dX6_reason_83 : decode cX6_reason 83 = .ok (.if_icmp .ne 7, 3) := by decide +kernel
theorem dX6_reason_86 : decode cX6_reason 86 = .ok (.iconst 1, 1) := by decide +kernel
theorem dX6_reason_87 : decode cX6_reason 87 = .ok (.goto 4, 3) := by decide +kernel
theorem dX6_reason_90 : decode cX6_reason 90 = .ok (.iconst 0, 1) := by decide +kernel
theorem dX6_reason_91 : decode cX6_reason 91 = .ok (.iload 5, 2) := by decide +kernel
theorem dX6_reason_93 : decode cX6_reason 93 = .ok (.iconst (-1), 1) := by decide +kernel
theorem dX6_reason_94 : decode cX6_reason 94 = .ok (.if_icmp .ne 7, 3) := by decide +kernel
theorem dX6_reason_97 : decode cX6_reason 97 = .ok (.iconst 1, 1) := by decide +kernel
theorem dX6_reason_98 : decode cX6_reason 98 = .ok (.goto 4, 3) := by decide +kernel
theorem dX6_reason_101 : decode cX6_reason 101 = .ok (.iconst 0, 1) := by decide +kernel
theorem dX6_reason_102 : decode cX6_reason 102 = .ok (.if_icmp .eq 7, 3) := by decide +kernel
theorem dX6_reason_105 : decode cX6_reason 105 = .ok (.iconst 1, 1) := by decide +kernel
theorem dX6_reason_106 : decode cX6_reason 106 = .ok (.goto 4, 3) := by decide +kernel
theorem dX6_reason_109 : decode cX6_reason 109 = .ok (.iconst 0, 1) := by decide +kernel
theorem dX6_reason_110 : decode cX6_reason 110 = .ok (.istore 6, 2) := by decide +kernel
theorem dX6_reason_112 : decode cX6_reason 112 = .ok (.iload 4, 2) := by decide +kernel
theorem dX6_reason_114 : decode cX6_reason 114 = .ok (.iconst (-1), 1) := by decide +kernel
theorem dX6_reason_115 : decode cX6_reason 115 = .ok (.if_icmp .ne 7, 3) := by decide +kernel
theorem dX6_reason_118 : decode cX6_reason 118 = .ok (.iload_n 2, 1) := by decide +kernel
theorem dX6_reason_119 : decode cX6_reason 119 = .ok (.goto 4, 3) := by decide +kernel
theorem dX6_reason_122 : decode cX6_reason 122 = .ok (.iload_n 3, 1) := by decide +kernel
theorem dX6_reason_123 : decode cX6_reason 123 = .ok (.istore 7, 2) := by decide +kernel
theorem dX6_reason_125 : decode cX6_reason 125 = .ok (.iload 6, 2) := by decide +kernel
theorem dX6_reason_127 : decode cX6_reason 127 = .ok (.ifCond .eq 15, 3) := by decide +kernel
theorem dX6_reason_130 : decode cX6_reason 130 = .ok (.aload_n 0, 1) := by decide +kernel
theorem dX6_reason_131 : decode cX6_reason 131 = .ok (.iload 7, 2) := by decide +kernel
theorem dX6_reason_133 : decode cX6_reason 133 = .ok (.invokevirtual 104, 3) := by decide +kernel
theorem dX6_reason_136 : decode cX6_reason 136 = .ok (.ifCond .eq 6, 3) := by decide +kernel
theorem dX6_reason_139 : decode cX6_reason 139 = .ok (.bipush 102, 2) := by decide +kernel
theorem dX6_reason_141 : decode cX6_reason 141 = .ok (.ireturn, 1) := by decide +kernel
theorem dX6_reason_142 : decode cX6_reason 142 = .ok (.iload_n 2, 1) := by decide +kernel
theorem dX6_reason_143 : decode cX6_reason 143 = .ok (.iload_n 3, 1) := by decide +kernel
theorem dX6_reason_144 : decode cX6_reason 144 = .ok (.if_icmp .eq 15, 3) := by decide +kernel
theorem dX6_reason_147 : decode cX6_reason 147 = .ok (.iload 4, 2) := by decide +kernel
theorem dX6_reason_149 : decode cX6_reason 149 = .ok (.iconst (-1), 1) := by decide +kernel
theorem dX6_reason_150 : decode cX6_reason 150 = .ok (.if_icmp .eq 12, 3) := by decide +kernel
theorem dX6_reason_153 : decode cX6_reason 153 = .ok (.iload 5, 2) := by decide +kernel
theorem dX6_reason_155 : decode cX6_reason 155 = .ok (.iconst (-1), 1) := by decide +kernel
theorem dX6_reason_156 : decode cX6_reason 156 = .ok (.if_icmp .eq 6, 3) := by decide +kernel
theorem dX6_reason_159 : decode cX6_reason 159 = .ok (.bipush 114, 2) := by decide +kernel
theorem dX6_reason_161 : decode cX6_reason 161 = .ok (.ireturn, 1) := by decide +kernel
theorem dX6_reason_162 : decode cX6_reason 162 = .ok (.iload 6, 2) := by decide +kernel
theorem dX6_reason_164 : decode cX6_reason 164 = .ok (.ifCond .eq 24, 3) := by decide +kernel
theorem dX6_reason_167 : decode cX6_reason 167 = .ok (.aload_n 0, 1) := by decide +kernel
theorem dX6_reason_168 : decode cX6_reason 168 = .ok (.getfield 41, 3) := by decide +kernel
theorem dX6_reason_171 : decode cX6_reason 171 = .ok (.iload_n 1, 1) := by decide +kernel
theorem dX6_reason_172 : decode cX6_reason 172 = .ok (.baload, 1) := by decide +kernel
theorem dX6_reason_173 : decode cX6_reason 173 = .ok (.ifCond .ne 15, 3) := by decide +kernel
theorem dX6_reason_176 : decode cX6_reason 176 = .ok (.aload_n 0, 1) := by decide +kernel
theorem dX6_reason_177 : decode cX6_reason 177 = .ok (.iload 7, 2) := by decide +kernel
theorem dX6_reason_179 : decode cX6_reason 179 = .ok (.invokevirtual 97, 3) := by decide +kernel
theorem dX6_reason_182 : decode cX6_reason 182 = .ok (.ifCond .le 6, 3) := by decide +kernel
theorem dX6_reason_185 : decode cX6_reason 185 = .ok (.bipush 100, 2) := by decide +kernel
theorem dX6_reason_187 : decode cX6_reason 187 = .ok (.ireturn, 1) := by decide +kernel
theorem dX6_reason_188 : decode cX6_reason 188 = .ok (.iload 6, 2) := by decide +kernel
theorem dX6_reason_190 : decode cX6_reason 190 = .ok (.ifCond .eq 38, 3) := by decide +kernel
theorem dX6_reason_193 : decode cX6_reason 193 = .ok (.aload_n 0, 1) := by decide +kernel
theorem dX6_reason_194 : decode cX6_reason 194 = .ok (.iload_n 2, 1) := by decide +kernel
theorem dX6_reason_195 : decode cX6_reason 195 = .ok (.invokevirtual 97, 3) := by decide +kernel
theorem dX6_reason_198 : decode cX6_reason 198 = .ok (.aload_n 0, 1) := by decide +kernel
theorem dX6_reason_199 : decode cX6_reason 199 = .ok (.iload_n 3, 1) := by decide +kernel
theorem dX6_reason_200 : decode cX6_reason 200 = .ok (.invokevirtual 97, 3) := by decide +kernel
theorem dX6_reason_203 : decode cX6_reason 203 = .ok (.iadd, 1) := by decide +kernel
theorem dX6_reason_204 : decode cX6_reason 204 = .ok (.aload_n 0, 1) := by decide +kernel
theorem dX6_reason_205 : decode cX6_reason 205 = .ok (.getfield 13, 3) := by decide +kernel
theorem dX6_reason_208 : decode cX6_reason 208 = .ok (.iload 4, 2) := by decide +kernel
theorem dX6_reason_210 : decode cX6_reason 210 = .ok (.iconst (-1), 1) := by decide +kernel
theorem dX6_reason_211 : decode cX6_reason 211 = .ok (.if_icmp .ne 8, 3) := by decide +kernel
theorem dX6_reason_214 : decode cX6_reason 214 = .ok (.iload 5, 2) := by decide +kernel
theorem dX6_reason_216 : decode cX6_reason 216 = .ok (.goto 5, 3) := by decide +kernel
theorem dX6_reason_219 : decode cX6_reason 219 = .ok (.iload 4, 2) := by decide +kernel
theorem dX6_reason_221 : decode cX6_reason 221 = .ok (.iaload, 1) := by decide +kernel
theorem dX6_reason_222 : decode cX6_reason 222 = .ok (.if_icmp .le 6, 3) := by decide +kernel
theorem dX6_reason_225 : decode cX6_reason 225 = .ok (.bipush 115, 2) := by decide +kernel
theorem dX6_reason_227 : decode cX6_reason 227 = .ok (.ireturn, 1) := by decide +kernel
theorem dX6_reason_228 : decode cX6_reason 228 = .ok (.aload_n 0, 1) := by decide +kernel
theorem dX6_reason_229 : decode cX6_reason 229 = .ok (.iload_n 1, 1) := by decide +kernel
theorem dX6_reason_230 : decode cX6_reason 230 = .ok (.invokevirtual 107, 3) := by decide +kernel
theorem dX6_reason_233 : decode cX6_reason 233 = .ok (.iconst (-1), 1) := by decide +kernel
theorem dX6_reason_234 : decode cX6_reason 234 = .ok (.if_icmp .ne 8, 3) := by decide +kernel
theorem dX6_reason_237 : decode cX6_reason 237 = .ok (.bipush 110, 2) := by decide +kernel
theorem dX6_reason_239 : decode cX6_reason 239 = .ok (.goto 5, 3) := by decide +kernel
theorem dX6_reason_242 : decode cX6_reason 242 = .ok (.bipush 108, 2) := by decide +kernel
theorem dX6_reason_244 : decode cX6_reason 244 = .ok (.ireturn, 1) := by decide +kernel
set_option maxRecDepth 20000 in
theorem ggX6_reasonToOpen_X6_flowOf : GoodIn wsX6_reasonToOpen wsX6_flowOf := goodIn_ca (goodIn_r _ [7, 1, 8, 9, 10, 6, 11, 12, 13, 14, 15, 16, 17, 18, 19, 20, 21, 22, 23, 24, 25, 26, 27, 28, 29, 30, 31, 32, 33, 34, 35, 36, 37, 38, 39, 40, 41, 42, 43, 44, 45, 46, 47, 48, 49, 50, 51, 52, 53, 54, 55, 56, 57] (by decide +kernel) (by decide +kernel)) (goodIn_sub (fun _ h => List.mem_cons_of_mem _ (List.mem_append_right _ h)) (by decide +kernel))
set_option maxRecDepth 20000 in
theorem gX6_reasonToOpen_X6_flowOf : GoodIn wsX6_reasonToOpen (wsV RX6 110 RX6 yX6_flowOf wsX6_flowOf) := goodIn_app (goodIn_of _ (by decide +kernel)) ggX6_reasonToOpen_X6_flowOf
theorem dX6_reasonToOpen_0 : decode cX6_reasonToOpen 0 = .ok (.aload_n 0, 1) := by decide +kernel
theorem dX6_reasonToOpen_1 : decode cX6_reasonToOpen 1 = .ok (.getfield 44, 3) := by decide +kernel
theorem dX6_reasonToOpen_4 : decode cX6_reasonToOpen 4 = .ok (.iload_n 1, 1) := by decide +kernel
theorem dX6_reasonToOpen_5 : decode cX6_reasonToOpen 5 = .ok (.baload, 1) := by decide +kernel
theorem dX6_reasonToOpen_6 : decode cX6_reasonToOpen 6 = .ok (.ifCond .ne 8, 3) := by decide +kernel
theorem dX6_reasonToOpen_9 : decode cX6_reasonToOpen 9 = .ok (.bipush 99, 2) := by decide +kernel
theorem dX6_reasonToOpen_11 : decode cX6_reasonToOpen 11 = .ok (.goto 27, 3) := by decide +kernel
theorem dX6_reasonToOpen_14 : decode cX6_reasonToOpen 14 = .ok (.aload_n 0, 1) := by decide +kernel
theorem dX6_reasonToOpen_15 : decode cX6_reasonToOpen 15 = .ok (.getfield 41, 3) := by decide +kernel
theorem dX6_reasonToOpen_18 : decode cX6_reasonToOpen 18 = .ok (.iload_n 1, 1) := by decide +kernel
theorem dX6_reasonToOpen_19 : decode cX6_reasonToOpen 19 = .ok (.baload, 1) := by decide +kernel
theorem dX6_reasonToOpen_20 : decode cX6_reasonToOpen 20 = .ok (.ifCond .ne 11, 3) := by decide +kernel
theorem dX6_reasonToOpen_23 : decode cX6_reasonToOpen 23 = .ok (.aload_n 0, 1) := by decide +kernel
theorem dX6_reasonToOpen_24 : decode cX6_reasonToOpen 24 = .ok (.iload_n 1, 1) := by decide +kernel
theorem dX6_reasonToOpen_25 : decode cX6_reasonToOpen 25 = .ok (.invokevirtual 110, 3) := by decide +kernel
theorem dX6_reasonToOpen_28 : decode cX6_reasonToOpen 28 = .ok (.ifCond .ne 8, 3) := by decide +kernel
theorem dX6_reasonToOpen_31 : decode cX6_reasonToOpen 31 = .ok (.bipush 110, 2) := by decide +kernel
theorem dX6_reasonToOpen_33 : decode cX6_reasonToOpen 33 = .ok (.goto 5, 3) := by decide +kernel
theorem dX6_reasonToOpen_36 : decode cX6_reasonToOpen 36 = .ok (.bipush 100, 2) := by decide +kernel
theorem dX6_reasonToOpen_38 : decode cX6_reasonToOpen 38 = .ok (.ireturn, 1) := by decide +kernel
set_option maxRecDepth 20000 in
theorem ggX6_setLoad_X6_isNode : GoodIn wsX6_setLoad wsX6_isNode := goodIn_r _ [10, 11, 12, 13, 9, 14, 44, 45, 46, 47, 48, 49, 50, 51, 52, 53, 54, 55, 56, 57, 58, 59, 60, 61, 62, 63, 64, 65, 66, 67, 68, 69, 70] (by decide +kernel) (by decide +kernel)
set_option maxRecDepth 20000 in
theorem gX6_setLoad_X6_isNode : GoodIn wsX6_setLoad (wsV RX6 86 RX6 yX6_isNode wsX6_isNode) := goodIn_app (goodIn_of _ (by decide +kernel)) ggX6_setLoad_X6_isNode
set_option maxRecDepth 20000 in
theorem ggX6_setLoad_X6_fails : GoodIn wsX6_setLoad wsX6_fails := goodIn_r _ [18, 5, 44, 45, 46, 47, 48, 49, 50, 51, 52, 53, 54, 55, 56, 57, 58, 59, 60, 61, 62, 63, 64, 65, 66, 67, 68, 69, 70] (by decide +kernel) (by decide +kernel)
set_option maxRecDepth 20000 in
theorem gX6_setLoad_X6_fails : GoodIn wsX6_setLoad (wsV RX6 82 RX6 yX6_fails wsX6_fails) := goodIn_app (goodIn_of _ (by decide +kernel)) ggX6_setLoad_X6_fails
set_option maxRecDepth 20000 in
theorem ggX6_setLoad_X6_in : GoodIn wsX6_setLoad wsX6_in := goodIn_r _ [14] (by decide +kernel) (by decide +kernel)
set_option maxRecDepth 20000 in
theorem gX6_setLoad_X6_in : GoodIn wsX6_setLoad (va_wsS RX6 75 yX6_in wsX6_in) := goodIn_app (goodIn_of _ (by decide +kernel)) ggX6_setLoad_X6_in
set_option maxRecDepth 20000 in
theorem ggX6_setLoad_X6_paints : GoodIn wsX6_setLoad wsX6_paints := goodIn_ca (goodIn_r _ [22, 11, 3, 23, 24, 25, 26, 44, 45, 46, 47, 48, 49, 50, 51, 52, 53, 54, 55, 56, 57, 58, 59, 60, 61, 62, 63, 64, 65, 66, 67, 68, 69, 70] (by decide +kernel) (by decide +kernel)) (goodIn_sub (fun _ h => List.mem_cons_of_mem _ (List.mem_append_right _ h)) (by decide +kernel))
set_option maxRecDepth 20000 in
theorem gX6_setLoad_X6_paints : GoodIn wsX6_setLoad (wsV RX6 90 RX6 yX6_paints wsX6_paints) := goodIn_app (goodIn_of _ (by decide +kernel)) ggX6_setLoad_X6_paints
set_option maxRecDepth 20000 in
theorem ggX6_setLoad_X6_source : GoodIn wsX6_setLoad wsX6_source := goodIn_ca (goodIn_r _ [30, 11, 1, 3, 44, 45, 46, 47, 48, 49, 50, 51, 52, 53, 54, 55, 56, 57, 58, 59, 60, 61, 62, 63, 64, 65, 66, 67, 68, 69, 70] (by decide +kernel) (by decide +kernel)) (goodIn_sub (fun _ h => List.mem_cons_of_mem _ (List.mem_append_right _ h)) (by decide +kernel))
set_option maxRecDepth 20000 in
theorem gX6_setLoad_X6_source : GoodIn wsX6_setLoad (wsV RX6 94 RX6 yX6_source wsX6_source) := goodIn_app (goodIn_of _ (by decide +kernel)) ggX6_setLoad_X6_source
set_option maxRecDepth 20000 in
theorem ggX6_setLoad_X6_sum : GoodIn wsX6_setLoad wsX6_sum := goodIn_ca (goodIn_r _ [34, 11, 3, 2, 44, 45, 46, 47, 48, 49, 50, 51, 52, 53, 54, 55, 56, 57, 58, 59, 60, 61, 62, 63, 64, 65, 66, 67, 68, 69, 70] (by decide +kernel) (by decide +kernel)) (goodIn_sub (fun _ h => List.mem_cons_of_mem _ (List.mem_append_right _ h)) (by decide +kernel))
set_option maxRecDepth 20000 in
theorem gX6_setLoad_X6_sum : GoodIn wsX6_setLoad (wsV RX6 97 RX6 yX6_sum wsX6_sum) := goodIn_app (goodIn_of _ (by decide +kernel)) ggX6_setLoad_X6_sum
set_option maxRecDepth 20000 in
theorem ggX6_setLoad_X6_tooMuch : GoodIn wsX6_setLoad wsX6_tooMuch := goodIn_ca (goodIn_r _ [38, 23, 24, 39, 40, 41, 42, 9, 43, 3, 25, 26, 19, 20, 21, 22, 11, 27, 28, 29, 30, 1, 31, 32, 33, 34, 2, 44, 45, 46, 47, 48, 49, 50, 51, 52, 53, 54, 55, 56, 57, 58, 59, 60, 61, 62, 63, 64, 65, 66, 67, 68, 69, 70] (by decide +kernel) (by decide +kernel)) (goodIn_sub (fun _ h => List.mem_cons_of_mem _ (List.mem_append_right _ h)) (by decide +kernel))
set_option maxRecDepth 20000 in
theorem gX6_setLoad_X6_tooMuch : GoodIn wsX6_setLoad (wsV RX6 107 RX6 yX6_tooMuch wsX6_tooMuch) := goodIn_app (goodIn_of _ (by decide +kernel)) ggX6_setLoad_X6_tooMuch
theorem dX6_setLoad_0 : decode cX6_setLoad 0 = .ok (.aload_n 0, 1) := by decide +kernel
theorem dX6_setLoad_1 : decode cX6_setLoad 1 = .ok (.iload_n 1, 1) := by decide +kernel
theorem dX6_setLoad_2 : decode cX6_setLoad 2 = .ok (.invokevirtual 86, 3) := by decide +kernel
theorem dX6_setLoad_5 : decode cX6_setLoad 5 = .ok (.ifCond .ne 9, 3) := by decide +kernel
theorem dX6_setLoad_8 : decode cX6_setLoad 8 = .ok (.aload_n 0, 1) := by decide +kernel
theorem dX6_setLoad_9 : decode cX6_setLoad 9 = .ok (.iconst 1, 1) := by decide +kernel
theorem dX6_setLoad_10 : decode cX6_setLoad 10 = .ok (.invokevirtual 82, 3) := by decide +kernel
theorem dX6_setLoad_13 : decode cX6_setLoad 13 = .ok (.ireturn, 1) := by decide +kernel
theorem dX6_setLoad_14 : decode cX6_setLoad 14 = .ok (.iload_n 2, 1) := by decide +kernel
theorem dX6_setLoad_15 : decode cX6_setLoad 15 = .ok (.iconst 0, 1) := by decide +kernel
theorem dX6_setLoad_16 : decode cX6_setLoad 16 = .ok (.bipush 99, 2) := by decide +kernel
theorem dX6_setLoad_18 : decode cX6_setLoad 18 = .ok (.invokestatic 75, 3) := by decide +kernel
theorem dX6_setLoad_21 : decode cX6_setLoad 21 = .ok (.ifCond .ne 9, 3) := by decide +kernel
theorem dX6_setLoad_24 : decode cX6_setLoad 24 = .ok (.aload_n 0, 1) := by decide +kernel
theorem dX6_setLoad_25 : decode cX6_setLoad 25 = .ok (.iconst 2, 1) := by decide +kernel
theorem dX6_setLoad_26 : decode cX6_setLoad 26 = .ok (.invokevirtual 82, 3) := by decide +kernel
theorem dX6_setLoad_29 : decode cX6_setLoad 29 = .ok (.ireturn, 1) := by decide +kernel
theorem dX6_setLoad_30 : decode cX6_setLoad 30 = .ok (.aload_n 0, 1) := by decide +kernel
theorem dX6_setLoad_31 : decode cX6_setLoad 31 = .ok (.getfield 7, 3) := by decide +kernel
theorem dX6_setLoad_34 : decode cX6_setLoad 34 = .ok (.iload_n 1, 1) := by decide +kernel
theorem dX6_setLoad_35 : decode cX6_setLoad 35 = .ok (.baload, 1) := by decide +kernel
theorem dX6_setLoad_36 : decode cX6_setLoad 36 = .ok (.ifCond .eq 9, 3) := by decide +kernel
theorem dX6_setLoad_39 : decode cX6_setLoad 39 = .ok (.aload_n 0, 1) := by decide +kernel
theorem dX6_setLoad_40 : decode cX6_setLoad 40 = .ok (.iconst 3, 1) := by decide +kernel
theorem dX6_setLoad_41 : decode cX6_setLoad 41 = .ok (.invokevirtual 82, 3) := by decide +kernel
theorem dX6_setLoad_44 : decode cX6_setLoad 44 = .ok (.ireturn, 1) := by decide +kernel
theorem dX6_setLoad_45 : decode cX6_setLoad 45 = .ok (.aload_n 0, 1) := by decide +kernel
theorem dX6_setLoad_46 : decode cX6_setLoad 46 = .ok (.getfield 17, 3) := by decide +kernel
theorem dX6_setLoad_49 : decode cX6_setLoad 49 = .ok (.iload_n 1, 1) := by decide +kernel
theorem dX6_setLoad_50 : decode cX6_setLoad 50 = .ok (.iaload, 1) := by decide +kernel
theorem dX6_setLoad_51 : decode cX6_setLoad 51 = .ok (.istore_n 3, 1) := by decide +kernel
theorem dX6_setLoad_52 : decode cX6_setLoad 52 = .ok (.aload_n 0, 1) := by decide +kernel
theorem dX6_setLoad_53 : decode cX6_setLoad 53 = .ok (.getfield 17, 3) := by decide +kernel
theorem dX6_setLoad_56 : decode cX6_setLoad 56 = .ok (.iload_n 1, 1) := by decide +kernel
theorem dX6_setLoad_57 : decode cX6_setLoad 57 = .ok (.iload_n 2, 1) := by decide +kernel
theorem dX6_setLoad_58 : decode cX6_setLoad 58 = .ok (.iastore, 1) := by decide +kernel
theorem dX6_setLoad_59 : decode cX6_setLoad 59 = .ok (.aload_n 0, 1) := by decide +kernel
theorem dX6_setLoad_60 : decode cX6_setLoad 60 = .ok (.iconst (-1), 1) := by decide +kernel
theorem dX6_setLoad_61 : decode cX6_setLoad 61 = .ok (.iconst (-1), 1) := by decide +kernel
theorem dX6_setLoad_62 : decode cX6_setLoad 62 = .ok (.invokevirtual 90, 3) := by decide +kernel
theorem dX6_setLoad_65 : decode cX6_setLoad 65 = .ok (.aload_n 0, 1) := by decide +kernel
theorem dX6_setLoad_66 : decode cX6_setLoad 66 = .ok (.aload_n 0, 1) := by decide +kernel
theorem dX6_setLoad_67 : decode cX6_setLoad 67 = .ok (.getfield 53, 3) := by decide +kernel
theorem dX6_setLoad_70 : decode cX6_setLoad 70 = .ok (.iload_n 1, 1) := by decide +kernel
theorem dX6_setLoad_71 : decode cX6_setLoad 71 = .ok (.iaload, 1) := by decide +kernel
theorem dX6_setLoad_72 : decode cX6_setLoad 72 = .ok (.invokevirtual 94, 3) := by decide +kernel
theorem dX6_setLoad_75 : decode cX6_setLoad 75 = .ok (.istore 4, 2) := by decide +kernel
theorem dX6_setLoad_77 : decode cX6_setLoad 77 = .ok (.iload 4, 2) := by decide +kernel
theorem dX6_setLoad_79 : decode cX6_setLoad 79 = .ok (.iconst (-1), 1) := by decide +kernel
theorem dX6_setLoad_80 : decode cX6_setLoad 80 = .ok (.if_icmp .eq 23, 3) := by decide +kernel
theorem dX6_setLoad_83 : decode cX6_setLoad 83 = .ok (.aload_n 0, 1) := by decide +kernel
theorem dX6_setLoad_84 : decode cX6_setLoad 84 = .ok (.aload_n 0, 1) := by decide +kernel
theorem dX6_setLoad_85 : decode cX6_setLoad 85 = .ok (.getfield 53, 3) := by decide +kernel
theorem dX6_setLoad_88 : decode cX6_setLoad 88 = .ok (.iload_n 1, 1) := by decide +kernel
theorem dX6_setLoad_89 : decode cX6_setLoad 89 = .ok (.iaload, 1) := by decide +kernel
theorem dX6_setLoad_90 : decode cX6_setLoad 90 = .ok (.invokevirtual 97, 3) := by decide +kernel
theorem dX6_setLoad_93 : decode cX6_setLoad 93 = .ok (.aload_n 0, 1) := by decide +kernel
theorem dX6_setLoad_94 : decode cX6_setLoad 94 = .ok (.getfield 13, 3) := by decide +kernel
theorem dX6_setLoad_97 : decode cX6_setLoad 97 = .ok (.iload 4, 2) := by decide +kernel
theorem dX6_setLoad_99 : decode cX6_setLoad 99 = .ok (.iaload, 1) := by decide +kernel
theorem dX6_setLoad_100 : decode cX6_setLoad 100 = .ok (.if_icmp .gt 12, 3) := by decide +kernel
theorem dX6_setLoad_103 : decode cX6_setLoad 103 = .ok (.aload_n 0, 1) := by decide +kernel
theorem dX6_setLoad_104 : decode cX6_setLoad 104 = .ok (.iconst (-1), 1) := by decide +kernel
theorem dX6_setLoad_105 : decode cX6_setLoad 105 = .ok (.invokevirtual 107, 3) := by decide +kernel
theorem dX6_setLoad_108 : decode cX6_setLoad 108 = .ok (.iconst (-1), 1) := by decide +kernel
theorem dX6_setLoad_109 : decode cX6_setLoad 109 = .ok (.if_icmp .eq 7, 3) := by decide +kernel
theorem dX6_setLoad_112 : decode cX6_setLoad 112 = .ok (.iconst 1, 1) := by decide +kernel
theorem dX6_setLoad_113 : decode cX6_setLoad 113 = .ok (.goto 4, 3) := by decide +kernel
theorem dX6_setLoad_116 : decode cX6_setLoad 116 = .ok (.iconst 0, 1) := by decide +kernel
theorem dX6_setLoad_117 : decode cX6_setLoad 117 = .ok (.istore 5, 2) := by decide +kernel
theorem dX6_setLoad_119 : decode cX6_setLoad 119 = .ok (.iload 5, 2) := by decide +kernel
theorem dX6_setLoad_121 : decode cX6_setLoad 121 = .ok (.ifCond .eq 16, 3) := by decide +kernel
theorem dX6_setLoad_124 : decode cX6_setLoad 124 = .ok (.aload_n 0, 1) := by decide +kernel
theorem dX6_setLoad_125 : decode cX6_setLoad 125 = .ok (.getfield 17, 3) := by decide +kernel
theorem dX6_setLoad_128 : decode cX6_setLoad 128 = .ok (.iload_n 1, 1) := by decide +kernel
theorem dX6_setLoad_129 : decode cX6_setLoad 129 = .ok (.iload_n 3, 1) := by decide +kernel
theorem dX6_setLoad_130 : decode cX6_setLoad 130 = .ok (.iastore, 1) := by decide +kernel
theorem dX6_setLoad_131 : decode cX6_setLoad 131 = .ok (.aload_n 0, 1) := by decide +kernel
theorem dX6_setLoad_132 : decode cX6_setLoad 132 = .ok (.iconst 4, 1) := by decide +kernel
theorem dX6_setLoad_133 : decode cX6_setLoad 133 = .ok (.invokevirtual 82, 3) := by decide +kernel
theorem dX6_setLoad_136 : decode cX6_setLoad 136 = .ok (.ireturn, 1) := by decide +kernel
theorem dX6_setLoad_137 : decode cX6_setLoad 137 = .ok (.aload_n 0, 1) := by decide +kernel
theorem dX6_setLoad_138 : decode cX6_setLoad 138 = .ok (.iconst 0, 1) := by decide +kernel
theorem dX6_setLoad_139 : decode cX6_setLoad 139 = .ok (.putfield 68, 3) := by decide +kernel
theorem dX6_setLoad_142 : decode cX6_setLoad 142 = .ok (.iload_n 3, 1) := by decide +kernel
theorem dX6_setLoad_143 : decode cX6_setLoad 143 = .ok (.ireturn, 1) := by decide +kernel
set_option maxRecDepth 20000 in
theorem ggX6_setRelay_X6_isLine : GoodIn wsX6_setRelay wsX6_isLine := goodIn_r _ [10, 11, 12, 13, 9, 14, 19, 20, 21, 22, 23, 24, 25, 26, 27, 28, 29, 30, 31, 32, 33, 34, 35, 36, 37, 38, 39, 40, 41, 42, 43, 44, 45] (by decide +kernel) (by decide +kernel)
set_option maxRecDepth 20000 in
theorem gX6_setRelay_X6_isLine : GoodIn wsX6_setRelay (wsV RX6 113 RX6 yX6_isLine wsX6_isLine) := goodIn_app (goodIn_of _ (by decide +kernel)) ggX6_setRelay_X6_isLine
set_option maxRecDepth 20000 in
theorem ggX6_setRelay_X6_fails : GoodIn wsX6_setRelay wsX6_fails := goodIn_r _ [18, 2, 19, 20, 21, 22, 23, 24, 25, 26, 27, 28, 29, 30, 31, 32, 33, 34, 35, 36, 37, 38, 39, 40, 41, 42, 43, 44, 45] (by decide +kernel) (by decide +kernel)
set_option maxRecDepth 20000 in
theorem gX6_setRelay_X6_fails : GoodIn wsX6_setRelay (wsV RX6 82 RX6 yX6_fails wsX6_fails) := goodIn_app (goodIn_of _ (by decide +kernel)) ggX6_setRelay_X6_fails
set_option maxRecDepth 20000 in
theorem ggX6_setRelay_X6_in : GoodIn wsX6_setRelay wsX6_in := goodIn_r _ [14] (by decide +kernel) (by decide +kernel)
set_option maxRecDepth 20000 in
theorem gX6_setRelay_X6_in : GoodIn wsX6_setRelay (va_wsS RX6 75 yX6_in wsX6_in) := goodIn_app (goodIn_of _ (by decide +kernel)) ggX6_setRelay_X6_in
theorem dX6_setRelay_0 : decode cX6_setRelay 0 = .ok (.aload_n 0, 1) := by decide +kernel
theorem dX6_setRelay_1 : decode cX6_setRelay 1 = .ok (.iload_n 1, 1) := by decide +kernel
theorem dX6_setRelay_2 : decode cX6_setRelay 2 = .ok (.invokevirtual 113, 3) := by decide +kernel
theorem dX6_setRelay_5 : decode cX6_setRelay 5 = .ok (.ifCond .ne 9, 3) := by decide +kernel
theorem dX6_setRelay_8 : decode cX6_setRelay 8 = .ok (.aload_n 0, 1) := by decide +kernel
theorem dX6_setRelay_9 : decode cX6_setRelay 9 = .ok (.iconst 1, 1) := by decide +kernel
theorem dX6_setRelay_10 : decode cX6_setRelay 10 = .ok (.invokevirtual 82, 3) := by decide +kernel
theorem dX6_setRelay_13 : decode cX6_setRelay 13 = .ok (.ireturn, 1) := by decide +kernel
theorem dX6_setRelay_14 : decode cX6_setRelay 14 = .ok (.iload_n 2, 1) := by decide +kernel
theorem dX6_setRelay_15 : decode cX6_setRelay 15 = .ok (.iconst 1, 1) := by decide +kernel
theorem dX6_setRelay_16 : decode cX6_setRelay 16 = .ok (.sipush 999, 3) := by decide +kernel
theorem dX6_setRelay_19 : decode cX6_setRelay 19 = .ok (.invokestatic 75, 3) := by decide +kernel
theorem dX6_setRelay_22 : decode cX6_setRelay 22 = .ok (.ifCond .eq 24, 3) := by decide +kernel
theorem dX6_setRelay_25 : decode cX6_setRelay 25 = .ok (.iload_n 3, 1) := by decide +kernel
theorem dX6_setRelay_26 : decode cX6_setRelay 26 = .ok (.iconst 1, 1) := by decide +kernel
theorem dX6_setRelay_27 : decode cX6_setRelay 27 = .ok (.bipush 10, 2) := by decide +kernel
theorem dX6_setRelay_29 : decode cX6_setRelay 29 = .ok (.invokestatic 75, 3) := by decide +kernel
theorem dX6_setRelay_32 : decode cX6_setRelay 32 = .ok (.ifCond .eq 14, 3) := by decide +kernel
theorem dX6_setRelay_35 : decode cX6_setRelay 35 = .ok (.iload 4, 2) := by decide +kernel
theorem dX6_setRelay_37 : decode cX6_setRelay 37 = .ok (.ifCond .eq 15, 3) := by decide +kernel
theorem dX6_setRelay_40 : decode cX6_setRelay 40 = .ok (.iload 4, 2) := by decide +kernel
theorem dX6_setRelay_42 : decode cX6_setRelay 42 = .ok (.iload_n 2, 1) := by decide +kernel
theorem dX6_setRelay_43 : decode cX6_setRelay 43 = .ok (.if_icmp .gt 9, 3) := by decide +kernel
theorem dX6_setRelay_46 : decode cX6_setRelay 46 = .ok (.aload_n 0, 1) := by decide +kernel
theorem dX6_setRelay_47 : decode cX6_setRelay 47 = .ok (.iconst 2, 1) := by decide +kernel
theorem dX6_setRelay_48 : decode cX6_setRelay 48 = .ok (.invokevirtual 82, 3) := by decide +kernel
theorem dX6_setRelay_51 : decode cX6_setRelay 51 = .ok (.ireturn, 1) := by decide +kernel
theorem dX6_setRelay_52 : decode cX6_setRelay 52 = .ok (.aload_n 0, 1) := by decide +kernel
theorem dX6_setRelay_53 : decode cX6_setRelay 53 = .ok (.getfield 41, 3) := by decide +kernel
theorem dX6_setRelay_56 : decode cX6_setRelay 56 = .ok (.iload_n 1, 1) := by decide +kernel
theorem dX6_setRelay_57 : decode cX6_setRelay 57 = .ok (.baload, 1) := by decide +kernel
theorem dX6_setRelay_58 : decode cX6_setRelay 58 = .ok (.ifCond .ne 9, 3) := by decide +kernel
theorem dX6_setRelay_61 : decode cX6_setRelay 61 = .ok (.aload_n 0, 1) := by decide +kernel
theorem dX6_setRelay_62 : decode cX6_setRelay 62 = .ok (.iconst 3, 1) := by decide +kernel
theorem dX6_setRelay_63 : decode cX6_setRelay 63 = .ok (.invokevirtual 82, 3) := by decide +kernel
theorem dX6_setRelay_66 : decode cX6_setRelay 66 = .ok (.ireturn, 1) := by decide +kernel
theorem dX6_setRelay_67 : decode cX6_setRelay 67 = .ok (.aload_n 0, 1) := by decide +kernel
theorem dX6_setRelay_68 : decode cX6_setRelay 68 = .ok (.iconst 0, 1) := by decide +kernel
theorem dX6_setRelay_69 : decode cX6_setRelay 69 = .ok (.putfield 68, 3) := by decide +kernel
theorem dX6_setRelay_72 : decode cX6_setRelay 72 = .ok (.aload_n 0, 1) := by decide +kernel
theorem dX6_setRelay_73 : decode cX6_setRelay 73 = .ok (.getfield 32, 3) := by decide +kernel
theorem dX6_setRelay_76 : decode cX6_setRelay 76 = .ok (.iload_n 1, 1) := by decide +kernel
theorem dX6_setRelay_77 : decode cX6_setRelay 77 = .ok (.iaload, 1) := by decide +kernel
theorem dX6_setRelay_78 : decode cX6_setRelay 78 = .ok (.istore 5, 2) := by decide +kernel
theorem dX6_setRelay_80 : decode cX6_setRelay 80 = .ok (.aload_n 0, 1) := by decide +kernel
theorem dX6_setRelay_81 : decode cX6_setRelay 81 = .ok (.getfield 32, 3) := by decide +kernel
theorem dX6_setRelay_84 : decode cX6_setRelay 84 = .ok (.iload_n 1, 1) := by decide +kernel
theorem dX6_setRelay_85 : decode cX6_setRelay 85 = .ok (.iload_n 2, 1) := by decide +kernel
theorem dX6_setRelay_86 : decode cX6_setRelay 86 = .ok (.iastore, 1) := by decide +kernel
theorem dX6_setRelay_87 : decode cX6_setRelay 87 = .ok (.aload_n 0, 1) := by decide +kernel
theorem dX6_setRelay_88 : decode cX6_setRelay 88 = .ok (.getfield 35, 3) := by decide +kernel
theorem dX6_setRelay_91 : decode cX6_setRelay 91 = .ok (.iload_n 1, 1) := by decide +kernel
theorem dX6_setRelay_92 : decode cX6_setRelay 92 = .ok (.iload_n 3, 1) := by decide +kernel
theorem dX6_setRelay_93 : decode cX6_setRelay 93 = .ok (.iastore, 1) := by decide +kernel
theorem dX6_setRelay_94 : decode cX6_setRelay 94 = .ok (.aload_n 0, 1) := by decide +kernel
theorem dX6_setRelay_95 : decode cX6_setRelay 95 = .ok (.getfield 38, 3) := by decide +kernel
theorem dX6_setRelay_98 : decode cX6_setRelay 98 = .ok (.iload_n 1, 1) := by decide +kernel
theorem dX6_setRelay_99 : decode cX6_setRelay 99 = .ok (.iload 4, 2) := by decide +kernel
theorem dX6_setRelay_101 : decode cX6_setRelay 101 = .ok (.iastore, 1) := by decide +kernel
theorem dX6_setRelay_102 : decode cX6_setRelay 102 = .ok (.iload 5, 2) := by decide +kernel
theorem dX6_setRelay_104 : decode cX6_setRelay 104 = .ok (.ireturn, 1) := by decide +kernel
set_option maxRecDepth 20000 in
theorem ggX6_close_X6_isLine : GoodIn wsX6_close wsX6_isLine := goodIn_r _ [6, 7, 8, 9, 5, 10, 55, 56, 57, 58, 59, 60, 61, 62, 63, 64, 65, 66, 67, 68, 69, 70, 71, 72, 73, 74, 75, 76, 77, 78, 79, 80, 81] (by decide +kernel) (by decide +kernel)
set_option maxRecDepth 20000 in
theorem gX6_close_X6_isLine : GoodIn wsX6_close (wsV RX6 113 RX6 yX6_isLine wsX6_isLine) := goodIn_app (goodIn_of _ (by decide +kernel)) ggX6_close_X6_isLine
set_option maxRecDepth 20000 in
theorem ggX6_close_X6_isThere : GoodIn wsX6_close wsX6_isThere := goodIn_r _ [14, 15, 55, 56, 57, 58, 59, 60, 61, 62, 63, 64, 65, 66, 67, 68, 69, 70, 71, 72, 73, 74, 75, 76, 77, 78, 79, 80, 81] (by decide +kernel) (by decide +kernel)
set_option maxRecDepth 20000 in
theorem gX6_close_X6_isThere : GoodIn wsX6_close (wsV RX6 116 RX6 yX6_isThere wsX6_isThere) := goodIn_app (goodIn_of _ (by decide +kernel)) ggX6_close_X6_isThere
set_option maxRecDepth 20000 in
theorem ggX6_close_X6_reason : GoodIn wsX6_close wsX6_reason := goodIn_ca (goodIn_r _ [19, 1, 20, 21, 22, 23, 24, 25, 26, 27, 28, 29, 5, 30, 31, 7, 32, 33, 34, 35, 36, 37, 38, 39, 40, 41, 42, 43, 44, 45, 46, 47, 48, 49, 50, 51, 52, 53, 54, 55, 56, 57, 58, 59, 60, 61, 62, 63, 64, 65, 66, 67, 68, 69, 70, 71, 72, 73, 74, 75, 76, 77, 78, 79, 80, 81] (by decide +kernel) (by decide +kernel)) (goodIn_sub (fun _ h => List.mem_cons_of_mem _ (List.mem_append_right _ h)) (by decide +kernel))
set_option maxRecDepth 20000 in
theorem gX6_close_X6_reason : GoodIn wsX6_close (wsV RX6 120 RX6 yX6_reason wsX6_reason) := goodIn_app (goodIn_of _ (by decide +kernel)) ggX6_close_X6_reason
theorem dX6_close_0 : decode cX6_close 0 = .ok (.aload_n 0, 1) := by decide +kernel
theorem dX6_close_1 : decode cX6_close 1 = .ok (.aload_n 0, 1) := by decide +kernel
theorem dX6_close_2 : decode cX6_close 2 = .ok (.iload_n 1, 1) := by decide +kernel
theorem dX6_close_3 : decode cX6_close 3 = .ok (.invokevirtual 113, 3) := by decide +kernel
theorem dX6_close_6 : decode cX6_close 6 = .ok (.invokevirtual 116, 3) := by decide +kernel
theorem dX6_close_9 : decode cX6_close 9 = .ok (.ifCond .ne 5, 3) := by decide +kernel
theorem dX6_close_12 : decode cX6_close 12 = .ok (.iconst 0, 1) := by decide +kernel
theorem dX6_close_13 : decode cX6_close 13 = .ok (.ireturn, 1) := by decide +kernel
theorem dX6_close_14 : decode cX6_close 14 = .ok (.aload_n 0, 1) := by decide +kernel
theorem dX6_close_15 : decode cX6_close 15 = .ok (.iload_n 1, 1) := by decide +kernel
theorem dX6_close_16 : decode cX6_close 16 = .ok (.invokevirtual 120, 3) := by decide +kernel
theorem dX6_close_19 : decode cX6_close 19 = .ok (.istore_n 2, 1) := by decide +kernel
theorem dX6_close_20 : decode cX6_close 20 = .ok (.iload_n 2, 1) := by decide +kernel
theorem dX6_close_21 : decode cX6_close 21 = .ok (.bipush 110, 2) := by decide +kernel
theorem dX6_close_23 : decode cX6_close 23 = .ok (.if_icmp .ne 10, 3) := by decide +kernel
theorem dX6_close_26 : decode cX6_close 26 = .ok (.aload_n 0, 1) := by decide +kernel
theorem dX6_close_27 : decode cX6_close 27 = .ok (.getfield 44, 3) := by decide +kernel
theorem dX6_close_30 : decode cX6_close 30 = .ok (.iload_n 1, 1) := by decide +kernel
theorem dX6_close_31 : decode cX6_close 31 = .ok (.iconst 1, 1) := by decide +kernel
theorem dX6_close_32 : decode cX6_close 32 = .ok (.bastore, 1) := by decide +kernel
theorem dX6_close_33 : decode cX6_close 33 = .ok (.iload_n 2, 1) := by decide +kernel
theorem dX6_close_34 : decode cX6_close 34 = .ok (.ireturn, 1) := by decide +kernel
set_option maxRecDepth 20000 in
theorem ggX6_open_X6_isLine : GoodIn wsX6_open wsX6_isLine := goodIn_r _ [6, 7, 8, 9, 5, 10, 47, 48, 49, 50, 51, 52, 53, 54, 55, 56, 57, 58, 59, 60, 61, 62, 63, 64, 65, 66, 67, 68, 69, 70, 71, 72, 73] (by decide +kernel) (by decide +kernel)
set_option maxRecDepth 20000 in
theorem gX6_open_X6_isLine : GoodIn wsX6_open (wsV RX6 113 RX6 yX6_isLine wsX6_isLine) := goodIn_app (goodIn_of _ (by decide +kernel)) ggX6_open_X6_isLine
set_option maxRecDepth 20000 in
theorem ggX6_open_X6_isThere : GoodIn wsX6_open wsX6_isThere := goodIn_r _ [14, 15, 47, 48, 49, 50, 51, 52, 53, 54, 55, 56, 57, 58, 59, 60, 61, 62, 63, 64, 65, 66, 67, 68, 69, 70, 71, 72, 73] (by decide +kernel) (by decide +kernel)
set_option maxRecDepth 20000 in
theorem gX6_open_X6_isThere : GoodIn wsX6_open (wsV RX6 116 RX6 yX6_isThere wsX6_isThere) := goodIn_app (goodIn_of _ (by decide +kernel)) ggX6_open_X6_isThere
set_option maxRecDepth 20000 in
theorem ggX6_open_X6_reasonToOpen : GoodIn wsX6_open wsX6_reasonToOpen := goodIn_ca (goodIn_r _ [19, 1, 20, 21, 22, 23, 5, 24, 25, 26, 27, 28, 29, 30, 31, 32, 33, 34, 35, 36, 7, 37, 38, 39, 40, 41, 42, 43, 44, 45, 46, 47, 48, 49, 50, 51, 52, 53, 54, 55, 56, 57, 58, 59, 60, 61, 62, 63, 64, 65, 66, 67, 68, 69, 70, 71, 72, 73] (by decide +kernel) (by decide +kernel)) (goodIn_sub (fun _ h => List.mem_cons_of_mem _ (List.mem_append_right _ h)) (by decide +kernel))
set_option maxRecDepth 20000 in
theorem gX6_open_X6_reasonToOpen : GoodIn wsX6_open (wsV RX6 124 RX6 yX6_reasonToOpen wsX6_reasonToOpen) := goodIn_app (goodIn_of _ (by decide +kernel)) ggX6_open_X6_reasonToOpen
theorem dX6_open_0 : decode cX6_open 0 = .ok (.aload_n 0, 1) := by decide +kernel
theorem dX6_open_1 : decode cX6_open 1 = .ok (.aload_n 0, 1) := by decide +kernel
theorem dX6_open_2 : decode cX6_open 2 = .ok (.iload_n 1, 1) := by decide +kernel
theorem dX6_open_3 : decode cX6_open 3 = .ok (.invokevirtual 113, 3) := by decide +kernel
theorem dX6_open_6 : decode cX6_open 6 = .ok (.invokevirtual 116, 3) := by decide +kernel
theorem dX6_open_9 : decode cX6_open 9 = .ok (.ifCond .ne 5, 3) := by decide +kernel
theorem dX6_open_12 : decode cX6_open 12 = .ok (.iconst 0, 1) := by decide +kernel
theorem dX6_open_13 : decode cX6_open 13 = .ok (.ireturn, 1) := by decide +kernel
theorem dX6_open_14 : decode cX6_open 14 = .ok (.aload_n 0, 1) := by decide +kernel
theorem dX6_open_15 : decode cX6_open 15 = .ok (.iload_n 1, 1) := by decide +kernel
theorem dX6_open_16 : decode cX6_open 16 = .ok (.invokevirtual 124, 3) := by decide +kernel
theorem dX6_open_19 : decode cX6_open 19 = .ok (.istore_n 2, 1) := by decide +kernel
theorem dX6_open_20 : decode cX6_open 20 = .ok (.iload_n 2, 1) := by decide +kernel
theorem dX6_open_21 : decode cX6_open 21 = .ok (.bipush 110, 2) := by decide +kernel
theorem dX6_open_23 : decode cX6_open 23 = .ok (.if_icmp .ne 10, 3) := by decide +kernel
theorem dX6_open_26 : decode cX6_open 26 = .ok (.aload_n 0, 1) := by decide +kernel
theorem dX6_open_27 : decode cX6_open 27 = .ok (.getfield 44, 3) := by decide +kernel
theorem dX6_open_30 : decode cX6_open 30 = .ok (.iload_n 1, 1) := by decide +kernel
theorem dX6_open_31 : decode cX6_open 31 = .ok (.iconst 0, 1) := by decide +kernel
theorem dX6_open_32 : decode cX6_open 32 = .ok (.bastore, 1) := by decide +kernel
theorem dX6_open_33 : decode cX6_open 33 = .ok (.iload_n 2, 1) := by decide +kernel
theorem dX6_open_34 : decode cX6_open 34 = .ok (.ireturn, 1) := by decide +kernel
set_option maxRecDepth 20000 in
theorem ggX6_canClose_X6_isLine : GoodIn wsX6_canClose wsX6_isLine := goodIn_r _ [5, 6, 7, 8, 4, 9, 55, 56, 57, 58, 59, 60, 61, 62, 63, 64, 65, 66, 67, 68, 69, 70, 71, 72, 73, 74, 75, 76, 77, 78, 79, 80, 81] (by decide +kernel) (by decide +kernel)
set_option maxRecDepth 20000 in
theorem gX6_canClose_X6_isLine : GoodIn wsX6_canClose (wsV RX6 113 RX6 yX6_isLine wsX6_isLine) := goodIn_app (goodIn_of _ (by decide +kernel)) ggX6_canClose_X6_isLine
set_option maxRecDepth 20000 in
theorem ggX6_canClose_X6_isThere : GoodIn wsX6_canClose wsX6_isThere := goodIn_r _ [13, 14, 55, 56, 57, 58, 59, 60, 61, 62, 63, 64, 65, 66, 67, 68, 69, 70, 71, 72, 73, 74, 75, 76, 77, 78, 79, 80, 81] (by decide +kernel) (by decide +kernel)
set_option maxRecDepth 20000 in
theorem gX6_canClose_X6_isThere : GoodIn wsX6_canClose (wsV RX6 116 RX6 yX6_isThere wsX6_isThere) := goodIn_app (goodIn_of _ (by decide +kernel)) ggX6_canClose_X6_isThere
set_option maxRecDepth 20000 in
theorem ggX6_canClose_X6_reason : GoodIn wsX6_canClose wsX6_reason := goodIn_ca (goodIn_r _ [18, 19, 20, 21, 22, 23, 24, 25, 26, 27, 28, 29, 4, 30, 31, 6, 32, 33, 34, 35, 36, 37, 38, 39, 40, 41, 42, 43, 44, 45, 46, 47, 48, 49, 50, 51, 52, 53, 54, 55, 56, 57, 58, 59, 60, 61, 62, 63, 64, 65, 66, 67, 68, 69, 70, 71, 72, 73, 74, 75, 76, 77, 78, 79, 80, 81] (by decide +kernel) (by decide +kernel)) (goodIn_sub (fun _ h => List.mem_cons_of_mem _ (List.mem_append_right _ h)) (by decide +kernel))
set_option maxRecDepth 20000 in
theorem gX6_canClose_X6_reason : GoodIn wsX6_canClose (wsV RX6 120 RX6 yX6_reason wsX6_reason) := goodIn_app (goodIn_of _ (by decide +kernel)) ggX6_canClose_X6_reason
theorem dX6_canClose_0 : decode cX6_canClose 0 = .ok (.aload_n 0, 1) := by decide +kernel
theorem dX6_canClose_1 : decode cX6_canClose 1 = .ok (.aload_n 0, 1) := by decide +kernel
theorem dX6_canClose_2 : decode cX6_canClose 2 = .ok (.iload_n 1, 1) := by decide +kernel
theorem dX6_canClose_3 : decode cX6_canClose 3 = .ok (.invokevirtual 113, 3) := by decide +kernel
theorem dX6_canClose_6 : decode cX6_canClose 6 = .ok (.invokevirtual 116, 3) := by decide +kernel
theorem dX6_canClose_9 : decode cX6_canClose 9 = .ok (.ifCond .eq 11, 3) := by decide +kernel
theorem dX6_canClose_12 : decode cX6_canClose 12 = .ok (.aload_n 0, 1) := by decide +kernel
theorem dX6_canClose_13 : decode cX6_canClose 13 = .ok (.iload_n 1, 1) := by decide +kernel
theorem dX6_canClose_14 : decode cX6_canClose 14 = .ok (.invokevirtual 120, 3) := by decide +kernel
theorem dX6_canClose_17 : decode cX6_canClose 17 = .ok (.goto 4, 3) := by decide +kernel
theorem dX6_canClose_20 : decode cX6_canClose 20 = .ok (.iconst 0, 1) := by decide +kernel
theorem dX6_canClose_21 : decode cX6_canClose 21 = .ok (.ireturn, 1) := by decide +kernel
set_option maxRecDepth 20000 in
theorem ggX6_canOpen_X6_isLine : GoodIn wsX6_canOpen wsX6_isLine := goodIn_r _ [5, 6, 7, 8, 4, 9, 47, 48, 49, 50, 51, 52, 53, 54, 55, 56, 57, 58, 59, 60, 61, 62, 63, 64, 65, 66, 67, 68, 69, 70, 71, 72, 73] (by decide +kernel) (by decide +kernel)
set_option maxRecDepth 20000 in
theorem gX6_canOpen_X6_isLine : GoodIn wsX6_canOpen (wsV RX6 113 RX6 yX6_isLine wsX6_isLine) := goodIn_app (goodIn_of _ (by decide +kernel)) ggX6_canOpen_X6_isLine
set_option maxRecDepth 20000 in
theorem ggX6_canOpen_X6_isThere : GoodIn wsX6_canOpen wsX6_isThere := goodIn_r _ [13, 14, 47, 48, 49, 50, 51, 52, 53, 54, 55, 56, 57, 58, 59, 60, 61, 62, 63, 64, 65, 66, 67, 68, 69, 70, 71, 72, 73] (by decide +kernel) (by decide +kernel)
set_option maxRecDepth 20000 in
theorem gX6_canOpen_X6_isThere : GoodIn wsX6_canOpen (wsV RX6 116 RX6 yX6_isThere wsX6_isThere) := goodIn_app (goodIn_of _ (by decide +kernel)) ggX6_canOpen_X6_isThere
set_option maxRecDepth 20000 in
theorem ggX6_canOpen_X6_reasonToOpen : GoodIn wsX6_canOpen wsX6_reasonToOpen := goodIn_ca (goodIn_r _ [18, 19, 20, 21, 22, 23, 4, 24, 25, 26, 27, 28, 29, 30, 31, 32, 33, 34, 35, 36, 6, 37, 38, 39, 40, 41, 42, 43, 44, 45, 46, 47, 48, 49, 50, 51, 52, 53, 54, 55, 56, 57, 58, 59, 60, 61, 62, 63, 64, 65, 66, 67, 68, 69, 70, 71, 72, 73] (by decide +kernel) (by decide +kernel)) (goodIn_sub (fun _ h => List.mem_cons_of_mem _ (List.mem_append_right _ h)) (by decide +kernel))
set_option maxRecDepth 20000 in
theorem gX6_canOpen_X6_reasonToOpen : GoodIn wsX6_canOpen (wsV RX6 124 RX6 yX6_reasonToOpen wsX6_reasonToOpen) := goodIn_app (goodIn_of _ (by decide +kernel)) ggX6_canOpen_X6_reasonToOpen
theorem dX6_canOpen_0 : decode cX6_canOpen 0 = .ok (.aload_n 0, 1) := by decide +kernel
theorem dX6_canOpen_1 : decode cX6_canOpen 1 = .ok (.aload_n 0, 1) := by decide +kernel
theorem dX6_canOpen_2 : decode cX6_canOpen 2 = .ok (.iload_n 1, 1) := by decide +kernel
theorem dX6_canOpen_3 : decode cX6_canOpen 3 = .ok (.invokevirtual 113, 3) := by decide +kernel
theorem dX6_canOpen_6 : decode cX6_canOpen 6 = .ok (.invokevirtual 116, 3) := by decide +kernel
theorem dX6_canOpen_9 : decode cX6_canOpen 9 = .ok (.ifCond .eq 11, 3) := by decide +kernel
theorem dX6_canOpen_12 : decode cX6_canOpen 12 = .ok (.aload_n 0, 1) := by decide +kernel
theorem dX6_canOpen_13 : decode cX6_canOpen 13 = .ok (.iload_n 1, 1) := by decide +kernel
theorem dX6_canOpen_14 : decode cX6_canOpen 14 = .ok (.invokevirtual 124, 3) := by decide +kernel
theorem dX6_canOpen_17 : decode cX6_canOpen 17 = .ok (.goto 4, 3) := by decide +kernel
theorem dX6_canOpen_20 : decode cX6_canOpen 20 = .ok (.iconst 0, 1) := by decide +kernel
theorem dX6_canOpen_21 : decode cX6_canOpen 21 = .ok (.ireturn, 1) := by decide +kernel
set_option maxRecDepth 20000 in
theorem ggX6_overloaded_X6_isLine : GoodIn wsX6_overloaded wsX6_isLine := goodIn_r _ [5, 6, 7, 8, 4, 9, 59, 60, 61, 62, 63, 64, 65, 66, 67, 68, 69, 70, 71, 72, 73, 74, 75, 76, 77, 78, 79, 80, 81, 82, 83, 84, 85] (by decide +kernel) (by decide +kernel)
set_option maxRecDepth 20000 in
theorem gX6_overloaded_X6_isLine : GoodIn wsX6_overloaded (wsV RX6 113 RX6 yX6_isLine wsX6_isLine) := goodIn_app (goodIn_of _ (by decide +kernel)) ggX6_overloaded_X6_isLine
set_option maxRecDepth 20000 in
theorem ggX6_overloaded_X6_isThere : GoodIn wsX6_overloaded wsX6_isThere := goodIn_r _ [13, 14, 59, 60, 61, 62, 63, 64, 65, 66, 67, 68, 69, 70, 71, 72, 73, 74, 75, 76, 77, 78, 79, 80, 81, 82, 83, 84, 85] (by decide +kernel) (by decide +kernel)
set_option maxRecDepth 20000 in
theorem gX6_overloaded_X6_isThere : GoodIn wsX6_overloaded (wsV RX6 116 RX6 yX6_isThere wsX6_isThere) := goodIn_app (goodIn_of _ (by decide +kernel)) ggX6_overloaded_X6_isThere
set_option maxRecDepth 20000 in
theorem ggX6_overloaded_X6_reason : GoodIn wsX6_overloaded wsX6_reason := goodIn_ca (goodIn_r _ [18, 19, 20, 21, 22, 23, 24, 25, 26, 27, 28, 29, 4, 30, 31, 6, 32, 33, 34, 35, 36, 37, 38, 39, 40, 41, 42, 43, 44, 45, 46, 47, 48, 49, 50, 51, 52, 53, 54, 59, 60, 61, 62, 63, 64, 65, 66, 67, 68, 69, 70, 71, 72, 73, 74, 75, 76, 77, 78, 79, 80, 81, 82, 83, 84, 85] (by decide +kernel) (by decide +kernel)) (goodIn_sub (fun _ h => List.mem_cons_of_mem _ (List.mem_append_right _ h)) (by decide +kernel))
set_option maxRecDepth 20000 in
theorem gX6_overloaded_X6_reason : GoodIn wsX6_overloaded (wsV RX6 120 RX6 yX6_reason wsX6_reason) := goodIn_app (goodIn_of _ (by decide +kernel)) ggX6_overloaded_X6_reason
set_option maxRecDepth 20000 in
theorem ggX6_overloaded_X6_tooMuch : GoodIn wsX6_overloaded wsX6_tooMuch := goodIn_ca (goodIn_r _ [49, 6, 19, 50, 51, 52, 53, 4, 54, 22, 23, 24, 27, 28, 29, 30, 31, 32, 33, 34, 35, 36, 41, 42, 43, 44, 45, 59, 60, 61, 62, 63, 64, 65, 66, 67, 68, 69, 70, 71, 72, 73, 74, 75, 76, 77, 78, 79, 80, 81, 82, 83, 84, 85] (by decide +kernel) (by decide +kernel)) (goodIn_sub (fun _ h => List.mem_cons_of_mem _ (List.mem_append_right _ h)) (by decide +kernel))
set_option maxRecDepth 20000 in
theorem gX6_overloaded_X6_tooMuch : GoodIn wsX6_overloaded (wsV RX6 107 RX6 yX6_tooMuch wsX6_tooMuch) := goodIn_app (goodIn_of _ (by decide +kernel)) ggX6_overloaded_X6_tooMuch
set_option maxRecDepth 20000 in
theorem ggX6_overloaded_X6_fails : GoodIn wsX6_overloaded wsX6_fails := goodIn_r _ [58, 14, 59, 60, 61, 62, 63, 64, 65, 66, 67, 68, 69, 70, 71, 72, 73, 74, 75, 76, 77, 78, 79, 80, 81, 82, 83, 84, 85] (by decide +kernel) (by decide +kernel)
set_option maxRecDepth 20000 in
theorem gX6_overloaded_X6_fails : GoodIn wsX6_overloaded (wsV RX6 82 RX6 yX6_fails wsX6_fails) := goodIn_app (goodIn_of _ (by decide +kernel)) ggX6_overloaded_X6_fails
theorem dX6_overloaded_0 : decode cX6_overloaded 0 = .ok (.aload_n 0, 1) := by decide +kernel
theorem dX6_overloaded_1 : decode cX6_overloaded 1 = .ok (.aload_n 0, 1) := by decide +kernel
theorem dX6_overloaded_2 : decode cX6_overloaded 2 = .ok (.iload_n 1, 1) := by decide +kernel
theorem dX6_overloaded_3 : decode cX6_overloaded 3 = .ok (.invokevirtual 113, 3) := by decide +kernel
theorem dX6_overloaded_6 : decode cX6_overloaded 6 = .ok (.invokevirtual 116, 3) := by decide +kernel
theorem dX6_overloaded_9 : decode cX6_overloaded 9 = .ok (.ifCond .ne 5, 3) := by decide +kernel
theorem dX6_overloaded_12 : decode cX6_overloaded 12 = .ok (.iconst 0, 1) := by decide +kernel
theorem dX6_overloaded_13 : decode cX6_overloaded 13 = .ok (.ireturn, 1) := by decide +kernel
theorem dX6_overloaded_14 : decode cX6_overloaded 14 = .ok (.aload_n 0, 1) := by decide +kernel
theorem dX6_overloaded_15 : decode cX6_overloaded 15 = .ok (.iload_n 1, 1) := by decide +kernel
theorem dX6_overloaded_16 : decode cX6_overloaded 16 = .ok (.invokevirtual 120, 3) := by decide +kernel
theorem dX6_overloaded_19 : decode cX6_overloaded 19 = .ok (.bipush 108, 2) := by decide +kernel
theorem dX6_overloaded_21 : decode cX6_overloaded 21 = .ok (.if_icmp .ne 11, 3) := by decide +kernel
theorem dX6_overloaded_24 : decode cX6_overloaded 24 = .ok (.aload_n 0, 1) := by decide +kernel
theorem dX6_overloaded_25 : decode cX6_overloaded 25 = .ok (.iload_n 1, 1) := by decide +kernel
theorem dX6_overloaded_26 : decode cX6_overloaded 26 = .ok (.invokevirtual 107, 3) := by decide +kernel
theorem dX6_overloaded_29 : decode cX6_overloaded 29 = .ok (.goto 8, 3) := by decide +kernel
theorem dX6_overloaded_32 : decode cX6_overloaded 32 = .ok (.aload_n 0, 1) := by decide +kernel
theorem dX6_overloaded_33 : decode cX6_overloaded 33 = .ok (.iconst 2, 1) := by decide +kernel
theorem dX6_overloaded_34 : decode cX6_overloaded 34 = .ok (.invokevirtual 82, 3) := by decide +kernel
theorem dX6_overloaded_37 : decode cX6_overloaded 37 = .ok (.ireturn, 1) := by decide +kernel
set_option maxRecDepth 20000 in
theorem ggX6_finds_X6_paints : GoodIn wsX6_finds wsX6_paints := goodIn_ca (goodIn_r _ [14, 5, 3, 7, 2, 4, 8, 20, 21, 22, 23, 24, 25, 26, 27, 28, 29, 30, 31, 32, 33, 34, 35, 36, 37, 38, 39, 40, 41, 42, 43, 44, 45, 46] (by decide +kernel) (by decide +kernel)) (goodIn_sub (fun _ h => List.mem_cons_of_mem _ (List.mem_append_right _ h)) (by decide +kernel))
set_option maxRecDepth 20000 in
theorem gX6_finds_X6_paints : GoodIn wsX6_finds (wsV RX6 90 RX6 yX6_paints wsX6_paints) := goodIn_app (goodIn_of _ (by decide +kernel)) ggX6_finds_X6_paints
set_option maxRecDepth 20000 in
theorem ggX6_finds_X6_source : GoodIn wsX6_finds wsX6_source := goodIn_ca (goodIn_r _ [18, 5, 19, 3, 20, 21, 22, 23, 24, 25, 26, 27, 28, 29, 30, 31, 32, 33, 34, 35, 36, 37, 38, 39, 40, 41, 42, 43, 44, 45, 46] (by decide +kernel) (by decide +kernel)) (goodIn_sub (fun _ h => List.mem_cons_of_mem _ (List.mem_append_right _ h)) (by decide +kernel))
set_option maxRecDepth 20000 in
theorem gX6_finds_X6_source : GoodIn wsX6_finds (wsV RX6 94 RX6 yX6_source wsX6_source) := goodIn_app (goodIn_of _ (by decide +kernel)) ggX6_finds_X6_source
theorem dX6_finds_0 : decode cX6_finds 0 = .ok (.aload_n 0, 1) := by decide +kernel
theorem dX6_finds_1 : decode cX6_finds 1 = .ok (.iconst 0, 1) := by decide +kernel
theorem dX6_finds_2 : decode cX6_finds 2 = .ok (.putfield 127, 3) := by decide +kernel
theorem dX6_finds_5 : decode cX6_finds 5 = .ok (.aload_n 0, 1) := by decide +kernel
theorem dX6_finds_6 : decode cX6_finds 6 = .ok (.getfield 44, 3) := by decide +kernel
theorem dX6_finds_9 : decode cX6_finds 9 = .ok (.iload_n 1, 1) := by decide +kernel
theorem dX6_finds_10 : decode cX6_finds 10 = .ok (.baload, 1) := by decide +kernel
theorem dX6_finds_11 : decode cX6_finds 11 = .ok (.ifCond .ne 5, 3) := by decide +kernel
theorem dX6_finds_14 : decode cX6_finds 14 = .ok (.iconst 0, 1) := by decide +kernel
theorem dX6_finds_15 : decode cX6_finds 15 = .ok (.ireturn, 1) := by decide +kernel
theorem dX6_finds_16 : decode cX6_finds 16 = .ok (.aload_n 0, 1) := by decide +kernel
theorem dX6_finds_17 : decode cX6_finds 17 = .ok (.iconst (-1), 1) := by decide +kernel
theorem dX6_finds_18 : decode cX6_finds 18 = .ok (.iconst (-1), 1) := by decide +kernel
theorem dX6_finds_19 : decode cX6_finds 19 = .ok (.invokevirtual 90, 3) := by decide +kernel
theorem dX6_finds_22 : decode cX6_finds 22 = .ok (.aload_n 0, 1) := by decide +kernel
theorem dX6_finds_23 : decode cX6_finds 23 = .ok (.aload_n 0, 1) := by decide +kernel
theorem dX6_finds_24 : decode cX6_finds 24 = .ok (.getfield 53, 3) := by decide +kernel
theorem dX6_finds_27 : decode cX6_finds 27 = .ok (.aload_n 0, 1) := by decide +kernel
theorem dX6_finds_28 : decode cX6_finds 28 = .ok (.getfield 23, 3) := by decide +kernel
theorem dX6_finds_31 : decode cX6_finds 31 = .ok (.iload_n 1, 1) := by decide +kernel
theorem dX6_finds_32 : decode cX6_finds 32 = .ok (.iaload, 1) := by decide +kernel
theorem dX6_finds_33 : decode cX6_finds 33 = .ok (.iaload, 1) := by decide +kernel
theorem dX6_finds_34 : decode cX6_finds 34 = .ok (.invokevirtual 94, 3) := by decide +kernel
theorem dX6_finds_37 : decode cX6_finds 37 = .ok (.istore_n 2, 1) := by decide +kernel
theorem dX6_finds_38 : decode cX6_finds 38 = .ok (.iload_n 2, 1) := by decide +kernel
theorem dX6_finds_39 : decode cX6_finds 39 = .ok (.iconst (-1), 1) := by decide +kernel
theorem dX6_finds_40 : decode cX6_finds 40 = .ok (.if_icmp .ne 5, 3) := by decide +kernel
theorem dX6_finds_43 : decode cX6_finds 43 = .ok (.iconst 0, 1) := by decide +kernel
theorem dX6_finds_44 : decode cX6_finds 44 = .ok (.ireturn, 1) := by decide +kernel
theorem dX6_finds_45 : decode cX6_finds 45 = .ok (.iconst 0, 1) := by decide +kernel
theorem dX6_finds_46 : decode cX6_finds 46 = .ok (.istore_n 3, 1) := by decide +kernel
theorem dX6_finds_47 : decode cX6_finds 47 = .ok (.iload_n 3, 1) := by decide +kernel
theorem dX6_finds_48 : decode cX6_finds 48 = .ok (.aload_n 0, 1) := by decide +kernel
theorem dX6_finds_49 : decode cX6_finds 49 = .ok (.getfield 72, 3) := by decide +kernel
theorem dX6_finds_52 : decode cX6_finds 52 = .ok (.if_icmp .ge 16, 3) := by decide +kernel
theorem dX6_finds_55 : decode cX6_finds 55 = .ok (.aload_n 0, 1) := by decide +kernel
theorem dX6_finds_56 : decode cX6_finds 56 = .ok (.getfield 59, 3) := by decide +kernel
theorem dX6_finds_59 : decode cX6_finds 59 = .ok (.iload_n 3, 1) := by decide +kernel
theorem dX6_finds_60 : decode cX6_finds 60 = .ok (.iconst (-1), 1) := by decide +kernel
theorem dX6_finds_61 : decode cX6_finds 61 = .ok (.iastore, 1) := by decide +kernel
theorem dX6_finds_62 : decode cX6_finds 62 = .ok (.iinc 3 1, 3) := by decide +kernel
theorem dX6_finds_65 : decode cX6_finds 65 = .ok (.goto (-18), 3) := by decide +kernel
theorem dX6_finds_68 : decode cX6_finds 68 = .ok (.iconst 1, 1) := by decide +kernel
theorem dX6_finds_69 : decode cX6_finds 69 = .ok (.istore_n 3, 1) := by decide +kernel
theorem dX6_finds_70 : decode cX6_finds 70 = .ok (.iload_n 3, 1) := by decide +kernel
theorem dX6_finds_71 : decode cX6_finds 71 = .ok (.ifCond .eq 148, 3) := by decide +kernel
theorem dX6_finds_74 : decode cX6_finds 74 = .ok (.iconst 0, 1) := by decide +kernel
theorem dX6_finds_75 : decode cX6_finds 75 = .ok (.istore_n 3, 1) := by decide +kernel
theorem dX6_finds_76 : decode cX6_finds 76 = .ok (.iconst 0, 1) := by decide +kernel
theorem dX6_finds_77 : decode cX6_finds 77 = .ok (.istore 4, 2) := by decide +kernel
theorem dX6_finds_79 : decode cX6_finds 79 = .ok (.iload 4, 2) := by decide +kernel
theorem dX6_finds_81 : decode cX6_finds 81 = .ok (.aload_n 0, 1) := by decide +kernel
theorem dX6_finds_82 : decode cX6_finds 82 = .ok (.getfield 79, 3) := by decide +kernel
theorem dX6_finds_85 : decode cX6_finds 85 = .ok (.if_icmp .ge 131, 3) := by decide +kernel
theorem dX6_finds_88 : decode cX6_finds 88 = .ok (.aload_n 0, 1) := by decide +kernel
theorem dX6_finds_89 : decode cX6_finds 89 = .ok (.getfield 44, 3) := by decide +kernel
theorem dX6_finds_92 : decode cX6_finds 92 = .ok (.iload 4, 2) := by decide +kernel
theorem dX6_finds_94 : decode cX6_finds 94 = .ok (.baload, 1) := by decide +kernel
theorem dX6_finds_95 : decode cX6_finds 95 = .ok (.ifCond .ne 6, 3) := by decide +kernel
theorem dX6_finds_98 : decode cX6_finds 98 = .ok (.goto 112, 3) := by decide +kernel
theorem dX6_finds_101 : decode cX6_finds 101 = .ok (.aload_n 0, 1) := by decide +kernel
theorem dX6_finds_102 : decode cX6_finds 102 = .ok (.getfield 23, 3) := by decide +kernel
theorem dX6_finds_105 : decode cX6_finds 105 = .ok (.iload 4, 2) := by decide +kernel
theorem dX6_finds_107 : decode cX6_finds 107 = .ok (.iaload, 1) := by decide +kernel
theorem dX6_finds_108 : decode cX6_finds 108 = .ok (.iload_n 2, 1) := by decide +kernel
theorem dX6_finds_109 : decode cX6_finds 109 = .ok (.if_icmp .eq 19, 3) := by decide +kernel
theorem dX6_finds_112 : decode cX6_finds 112 = .ok (.aload_n 0, 1) := by decide +kernel
theorem dX6_finds_113 : decode cX6_finds 113 = .ok (.getfield 59, 3) := by decide +kernel
theorem dX6_finds_116 : decode cX6_finds 116 = .ok (.aload_n 0, 1) := by decide +kernel
theorem dX6_finds_117 : decode cX6_finds 117 = .ok (.getfield 23, 3) := by decide +kernel
theorem dX6_finds_120 : decode cX6_finds 120 = .ok (.iload 4, 2) := by decide +kernel
theorem dX6_finds_122 : decode cX6_finds 122 = .ok (.iaload, 1) := by decide +kernel
theorem dX6_finds_123 : decode cX6_finds 123 = .ok (.iaload, 1) := by decide +kernel
theorem dX6_finds_124 : decode cX6_finds 124 = .ok (.iconst (-1), 1) := by decide +kernel
theorem dX6_finds_125 : decode cX6_finds 125 = .ok (.if_icmp .eq 7, 3) := by decide +kernel
theorem dX6_finds_128 : decode cX6_finds 128 = .ok (.iconst 1, 1) := by decide +kernel
theorem dX6_finds_129 : decode cX6_finds 129 = .ok (.goto 4, 3) := by decide +kernel
theorem dX6_finds_132 : decode cX6_finds 132 = .ok (.iconst 0, 1) := by decide +kernel
theorem dX6_finds_133 : decode cX6_finds 133 = .ok (.istore 5, 2) := by decide +kernel
theorem dX6_finds_135 : decode cX6_finds 135 = .ok (.aload_n 0, 1) := by decide +kernel
theorem dX6_finds_136 : decode cX6_finds 136 = .ok (.getfield 26, 3) := by decide +kernel
theorem dX6_finds_139 : decode cX6_finds 139 = .ok (.iload 4, 2) := by decide +kernel
theorem dX6_finds_141 : decode cX6_finds 141 = .ok (.iaload, 1) := by decide +kernel
theorem dX6_finds_142 : decode cX6_finds 142 = .ok (.iload_n 2, 1) := by decide +kernel
theorem dX6_finds_143 : decode cX6_finds 143 = .ok (.if_icmp .eq 19, 3) := by decide +kernel
theorem dX6_finds_146 : decode cX6_finds 146 = .ok (.aload_n 0, 1) := by decide +kernel
theorem dX6_finds_147 : decode cX6_finds 147 = .ok (.getfield 59, 3) := by decide +kernel
theorem dX6_finds_150 : decode cX6_finds 150 = .ok (.aload_n 0, 1) := by decide +kernel
theorem dX6_finds_151 : decode cX6_finds 151 = .ok (.getfield 26, 3) := by decide +kernel
theorem dX6_finds_154 : decode cX6_finds 154 = .ok (.iload 4, 2) := by decide +kernel
theorem dX6_finds_156 : decode cX6_finds 156 = .ok (.iaload, 1) := by decide +kernel
theorem dX6_finds_157 : decode cX6_finds 157 = .ok (.iaload, 1) := by decide +kernel
theorem dX6_finds_158 : decode cX6_finds 158 = .ok (.iconst (-1), 1) := by decide +kernel
theorem dX6_finds_159 : decode cX6_finds 159 = .ok (.if_icmp .eq 7, 3) := by decide +kernel
theorem dX6_finds_162 : decode cX6_finds 162 = .ok (.iconst 1, 1) := by decide +kernel
theorem dX6_finds_163 : decode cX6_finds 163 = .ok (.goto 4, 3) := by decide +kernel
theorem dX6_finds_166 : decode cX6_finds 166 = .ok (.iconst 0, 1) := by decide +kernel
theorem dX6_finds_167 : decode cX6_finds 167 = .ok (.istore 6, 2) := by decide +kernel
theorem dX6_finds_169 : decode cX6_finds 169 = .ok (.iload 5, 2) := by decide +kernel
theorem dX6_finds_171 : decode cX6_finds 171 = .ok (.iload 6, 2) := by decide +kernel
theorem dX6_finds_173 : decode cX6_finds 173 = .ok (.if_icmp .ne 6, 3) := by decide +kernel
theorem dX6_finds_176 : decode cX6_finds 176 = .ok (.goto 34, 3) := by decide +kernel
theorem dX6_finds_179 : decode cX6_finds 179 = .ok (.aload_n 0, 1) := by decide +kernel
theorem dX6_finds_180 : decode cX6_finds 180 = .ok (.getfield 59, 3) := by decide +kernel
theorem dX6_finds_183 : decode cX6_finds 183 = .ok (.iload 5, 2) := by decide +kernel
theorem dX6_finds_185 : decode cX6_finds 185 = .ok (.ifCond .eq 13, 3) := by decide +kernel
theorem dX6_finds_188 : decode cX6_finds 188 = .ok (.aload_n 0, 1) := by decide +kernel
theorem dX6_finds_189 : decode cX6_finds 189 = .ok (.getfield 26, 3) := by decide +kernel
theorem dX6_finds_192 : decode cX6_finds 192 = .ok (.iload 4, 2) := by decide +kernel
theorem dX6_finds_194 : decode cX6_finds 194 = .ok (.iaload, 1) := by decide +kernel
theorem dX6_finds_195 : decode cX6_finds 195 = .ok (.goto 10, 3) := by decide +kernel
theorem dX6_finds_198 : decode cX6_finds 198 = .ok (.aload_n 0, 1) := by decide +kernel
theorem dX6_finds_199 : decode cX6_finds 199 = .ok (.getfield 23, 3) := by decide +kernel
theorem dX6_finds_202 : decode cX6_finds 202 = .ok (.iload 4, 2) := by decide +kernel
theorem dX6_finds_204 : decode cX6_finds 204 = .ok (.iaload, 1) := by decide +kernel
theorem dX6_finds_205 : decode cX6_finds 205 = .ok (.iload 4, 2) := by decide +kernel
theorem dX6_finds_207 : decode cX6_finds 207 = .ok (.iastore, 1) := by decide +kernel
theorem dX6_finds_208 : decode cX6_finds 208 = .ok (.iconst 1, 1) := by decide +kernel
theorem dX6_finds_209 : decode cX6_finds 209 = .ok (.istore_n 3, 1) := by decide +kernel
theorem dX6_finds_210 : decode cX6_finds 210 = .ok (.iinc 4 1, 3) := by decide +kernel
theorem dX6_finds_213 : decode cX6_finds 213 = .ok (.goto (-134), 3) := by decide +kernel
theorem dX6_finds_216 : decode cX6_finds 216 = .ok (.goto (-146), 3) := by decide +kernel
theorem dX6_finds_219 : decode cX6_finds 219 = .ok (.aload_n 0, 1) := by decide +kernel
theorem dX6_finds_220 : decode cX6_finds 220 = .ok (.getfield 59, 3) := by decide +kernel
theorem dX6_finds_223 : decode cX6_finds 223 = .ok (.aload_n 0, 1) := by decide +kernel
theorem dX6_finds_224 : decode cX6_finds 224 = .ok (.getfield 23, 3) := by decide +kernel
theorem dX6_finds_227 : decode cX6_finds 227 = .ok (.iload_n 1, 1) := by decide +kernel
theorem dX6_finds_228 : decode cX6_finds 228 = .ok (.iaload, 1) := by decide +kernel
theorem dX6_finds_229 : decode cX6_finds 229 = .ok (.iaload, 1) := by decide +kernel
theorem dX6_finds_230 : decode cX6_finds 230 = .ok (.iload_n 1, 1) := by decide +kernel
theorem dX6_finds_231 : decode cX6_finds 231 = .ok (.if_icmp .ne 12, 3) := by decide +kernel
theorem dX6_finds_234 : decode cX6_finds 234 = .ok (.aload_n 0, 1) := by decide +kernel
theorem dX6_finds_235 : decode cX6_finds 235 = .ok (.getfield 23, 3) := by decide +kernel
theorem dX6_finds_238 : decode cX6_finds 238 = .ok (.iload_n 1, 1) := by decide +kernel
theorem dX6_finds_239 : decode cX6_finds 239 = .ok (.iaload, 1) := by decide +kernel
theorem dX6_finds_240 : decode cX6_finds 240 = .ok (.goto 9, 3) := by decide +kernel
theorem dX6_finds_243 : decode cX6_finds 243 = .ok (.aload_n 0, 1) := by decide +kernel
theorem dX6_finds_244 : decode cX6_finds 244 = .ok (.getfield 26, 3) := by decide +kernel
theorem dX6_finds_247 : decode cX6_finds 247 = .ok (.iload_n 1, 1) := by decide +kernel
theorem dX6_finds_248 : decode cX6_finds 248 = .ok (.iaload, 1) := by decide +kernel
theorem dX6_finds_249 : decode cX6_finds 249 = .ok (.istore 4, 2) := by decide +kernel
theorem dX6_finds_251 : decode cX6_finds 251 = .ok (.iload 4, 2) := by decide +kernel
theorem dX6_finds_253 : decode cX6_finds 253 = .ok (.iload_n 2, 1) := by decide +kernel
theorem dX6_finds_254 : decode cX6_finds 254 = .ok (.if_icmp .eq 97, 3) := by decide +kernel
theorem dX6_finds_257 : decode cX6_finds 257 = .ok (.aload_n 0, 1) := by decide +kernel
theorem dX6_finds_258 : decode cX6_finds 258 = .ok (.getfield 59, 3) := by decide +kernel
theorem dX6_finds_261 : decode cX6_finds 261 = .ok (.iload 4, 2) := by decide +kernel
theorem dX6_finds_263 : decode cX6_finds 263 = .ok (.iaload, 1) := by decide +kernel
theorem dX6_finds_264 : decode cX6_finds 264 = .ok (.istore 5, 2) := by decide +kernel
theorem dX6_finds_266 : decode cX6_finds 266 = .ok (.aload_n 0, 1) := by decide +kernel
theorem dX6_finds_267 : decode cX6_finds 267 = .ok (.getfield 127, 3) := by decide +kernel
theorem dX6_finds_270 : decode cX6_finds 270 = .ok (.istore 6, 2) := by decide +kernel
theorem dX6_finds_272 : decode cX6_finds 272 = .ok (.iload 6, 2) := by decide +kernel
theorem dX6_finds_274 : decode cX6_finds 274 = .ok (.ifCond .le 25, 3) := by decide +kernel
theorem dX6_finds_277 : decode cX6_finds 277 = .ok (.aload_n 0, 1) := by decide +kernel
theorem dX6_finds_278 : decode cX6_finds 278 = .ok (.getfield 56, 3) := by decide +kernel
theorem dX6_finds_281 : decode cX6_finds 281 = .ok (.iload 6, 2) := by decide +kernel
theorem dX6_finds_283 : decode cX6_finds 283 = .ok (.aload_n 0, 1) := by decide +kernel
theorem dX6_finds_284 : decode cX6_finds 284 = .ok (.getfield 56, 3) := by decide +kernel
theorem dX6_finds_287 : decode cX6_finds 287 = .ok (.iload 6, 2) := by decide +kernel
theorem dX6_finds_289 : decode cX6_finds 289 = .ok (.iconst 1, 1) := by decide +kernel
theorem dX6_finds_290 : decode cX6_finds 290 = .ok (.isub, 1) := by decide +kernel
theorem dX6_finds_291 : decode cX6_finds 291 = .ok (.iaload, 1) := by decide +kernel
theorem dX6_finds_292 : decode cX6_finds 292 = .ok (.iastore, 1) := by decide +kernel
theorem dX6_finds_293 : decode cX6_finds 293 = .ok (.iinc 6 (-1), 3) := by decide +kernel
theorem dX6_finds_296 : decode cX6_finds 296 = .ok (.goto (-24), 3) := by decide +kernel
theorem dX6_finds_299 : decode cX6_finds 299 = .ok (.aload_n 0, 1) := by decide +kernel
theorem dX6_finds_300 : decode cX6_finds 300 = .ok (.getfield 56, 3) := by decide +kernel
theorem dX6_finds_303 : decode cX6_finds 303 = .ok (.iconst 0, 1) := by decide +kernel
theorem dX6_finds_304 : decode cX6_finds 304 = .ok (.iload 5, 2) := by decide +kernel
theorem dX6_finds_306 : decode cX6_finds 306 = .ok (.iastore, 1) := by decide +kernel
theorem dX6_finds_307 : decode cX6_finds 307 = .ok (.aload_n 0, 1) := by decide +kernel
theorem dX6_finds_308 : decode cX6_finds 308 = .ok (.dup, 1) := by decide +kernel
theorem dX6_finds_309 : decode cX6_finds 309 = .ok (.getfield 127, 3) := by decide +kernel
theorem dX6_finds_312 : decode cX6_finds 312 = .ok (.iconst 1, 1) := by decide +kernel
theorem dX6_finds_313 : decode cX6_finds 313 = .ok (.iadd, 1) := by decide +kernel
theorem dX6_finds_314 : decode cX6_finds 314 = .ok (.putfield 127, 3) := by decide +kernel
theorem dX6_finds_317 : decode cX6_finds 317 = .ok (.aload_n 0, 1) := by decide +kernel
theorem dX6_finds_318 : decode cX6_finds 318 = .ok (.getfield 23, 3) := by decide +kernel
theorem dX6_finds_321 : decode cX6_finds 321 = .ok (.iload 5, 2) := by decide +kernel
theorem dX6_finds_323 : decode cX6_finds 323 = .ok (.iaload, 1) := by decide +kernel
theorem dX6_finds_324 : decode cX6_finds 324 = .ok (.iload 4, 2) := by decide +kernel
theorem dX6_finds_326 : decode cX6_finds 326 = .ok (.if_icmp .ne 13, 3) := by decide +kernel
theorem dX6_finds_329 : decode cX6_finds 329 = .ok (.aload_n 0, 1) := by decide +kernel
theorem dX6_finds_330 : decode cX6_finds 330 = .ok (.getfield 26, 3) := by decide +kernel
theorem dX6_finds_333 : decode cX6_finds 333 = .ok (.iload 5, 2) := by decide +kernel
theorem dX6_finds_335 : decode cX6_finds 335 = .ok (.iaload, 1) := by decide +kernel
theorem dX6_finds_336 : decode cX6_finds 336 = .ok (.goto 10, 3) := by decide +kernel
theorem dX6_finds_339 : decode cX6_finds 339 = .ok (.aload_n 0, 1) := by decide +kernel
theorem dX6_finds_340 : decode cX6_finds 340 = .ok (.getfield 23, 3) := by decide +kernel
theorem dX6_finds_343 : decode cX6_finds 343 = .ok (.iload 5, 2) := by decide +kernel
theorem dX6_finds_345 : decode cX6_finds 345 = .ok (.iaload, 1) := by decide +kernel
theorem dX6_finds_346 : decode cX6_finds 346 = .ok (.istore 4, 2) := by decide +kernel
theorem dX6_finds_348 : decode cX6_finds 348 = .ok (.goto (-97), 3) := by decide +kernel
theorem dX6_finds_351 : decode cX6_finds 351 = .ok (.iconst 1, 1) := by decide +kernel
theorem dX6_finds_352 : decode cX6_finds 352 = .ok (.ireturn, 1) := by decide +kernel
theorem dX6_sourceOfPath_0 : decode cX6_sourceOfPath 0 = .ok (.aload_n 0, 1) := by decide +kernel
theorem dX6_sourceOfPath_1 : decode cX6_sourceOfPath 1 = .ok (.getfield 56, 3) := by decide +kernel
theorem dX6_sourceOfPath_4 : decode cX6_sourceOfPath 4 = .ok (.iconst 0, 1) := by decide +kernel
theorem dX6_sourceOfPath_5 : decode cX6_sourceOfPath 5 = .ok (.iaload, 1) := by decide +kernel
theorem dX6_sourceOfPath_6 : decode cX6_sourceOfPath 6 = .ok (.istore_n 1, 1) := by decide +kernel
theorem dX6_sourceOfPath_7 : decode cX6_sourceOfPath 7 = .ok (.aload_n 0, 1) := by decide +kernel
theorem dX6_sourceOfPath_8 : decode cX6_sourceOfPath 8 = .ok (.getfield 7, 3) := by decide +kernel
theorem dX6_sourceOfPath_11 : decode cX6_sourceOfPath 11 = .ok (.aload_n 0, 1) := by decide +kernel
theorem dX6_sourceOfPath_12 : decode cX6_sourceOfPath 12 = .ok (.getfield 23, 3) := by decide +kernel
theorem dX6_sourceOfPath_15 : decode cX6_sourceOfPath 15 = .ok (.iload_n 1, 1) := by decide +kernel
theorem dX6_sourceOfPath_16 : decode cX6_sourceOfPath 16 = .ok (.iaload, 1) := by decide +kernel
theorem dX6_sourceOfPath_17 : decode cX6_sourceOfPath 17 = .ok (.baload, 1) := by decide +kernel
theorem dX6_sourceOfPath_18 : decode cX6_sourceOfPath 18 = .ok (.ifCond .eq 12, 3) := by decide +kernel
theorem dX6_sourceOfPath_21 : decode cX6_sourceOfPath 21 = .ok (.aload_n 0, 1) := by decide +kernel
theorem dX6_sourceOfPath_22 : decode cX6_sourceOfPath 22 = .ok (.getfield 23, 3) := by decide +kernel
theorem dX6_sourceOfPath_25 : decode cX6_sourceOfPath 25 = .ok (.iload_n 1, 1) := by decide +kernel
theorem dX6_sourceOfPath_26 : decode cX6_sourceOfPath 26 = .ok (.iaload, 1) := by decide +kernel
theorem dX6_sourceOfPath_27 : decode cX6_sourceOfPath 27 = .ok (.goto 9, 3) := by decide +kernel
theorem dX6_sourceOfPath_30 : decode cX6_sourceOfPath 30 = .ok (.aload_n 0, 1) := by decide +kernel
theorem dX6_sourceOfPath_31 : decode cX6_sourceOfPath 31 = .ok (.getfield 26, 3) := by decide +kernel
theorem dX6_sourceOfPath_34 : decode cX6_sourceOfPath 34 = .ok (.iload_n 1, 1) := by decide +kernel
theorem dX6_sourceOfPath_35 : decode cX6_sourceOfPath 35 = .ok (.iaload, 1) := by decide +kernel
theorem dX6_sourceOfPath_36 : decode cX6_sourceOfPath 36 = .ok (.ireturn, 1) := by decide +kernel
theorem dX6_time_0 : decode cX6_time 0 = .ok (.iload_n 2, 1) := by decide +kernel
theorem dX6_time_1 : decode cX6_time 1 = .ok (.aload_n 0, 1) := by decide +kernel
theorem dX6_time_2 : decode cX6_time 2 = .ok (.getfield 32, 3) := by decide +kernel
theorem dX6_time_5 : decode cX6_time 5 = .ok (.iload_n 1, 1) := by decide +kernel
theorem dX6_time_6 : decode cX6_time 6 = .ok (.iaload, 1) := by decide +kernel
theorem dX6_time_7 : decode cX6_time 7 = .ok (.if_icmp .gt 5, 3) := by decide +kernel
theorem dX6_time_10 : decode cX6_time 10 = .ok (.iconst (-1), 1) := by decide +kernel
theorem dX6_time_11 : decode cX6_time 11 = .ok (.ireturn, 1) := by decide +kernel
theorem dX6_time_12 : decode cX6_time 12 = .ok (.aload_n 0, 1) := by decide +kernel
theorem dX6_time_13 : decode cX6_time 13 = .ok (.getfield 38, 3) := by decide +kernel
theorem dX6_time_16 : decode cX6_time 16 = .ok (.iload_n 1, 1) := by decide +kernel
theorem dX6_time_17 : decode cX6_time 17 = .ok (.iaload, 1) := by decide +kernel
theorem dX6_time_18 : decode cX6_time 18 = .ok (.ifCond .le 17, 3) := by decide +kernel
theorem dX6_time_21 : decode cX6_time 21 = .ok (.aload_n 0, 1) := by decide +kernel
theorem dX6_time_22 : decode cX6_time 22 = .ok (.getfield 38, 3) := by decide +kernel
theorem dX6_time_25 : decode cX6_time 25 = .ok (.iload_n 1, 1) := by decide +kernel
theorem dX6_time_26 : decode cX6_time 26 = .ok (.iaload, 1) := by decide +kernel
theorem dX6_time_27 : decode cX6_time 27 = .ok (.iload_n 2, 1) := by decide +kernel
theorem dX6_time_28 : decode cX6_time 28 = .ok (.if_icmp .gt 7, 3) := by decide +kernel
theorem dX6_time_31 : decode cX6_time 31 = .ok (.iconst 1, 1) := by decide +kernel
theorem dX6_time_32 : decode cX6_time 32 = .ok (.goto 30, 3) := by decide +kernel
theorem dX6_time_35 : decode cX6_time 35 = .ok (.aload_n 0, 1) := by decide +kernel
theorem dX6_time_36 : decode cX6_time 36 = .ok (.getfield 35, 3) := by decide +kernel
theorem dX6_time_39 : decode cX6_time 39 = .ok (.iload_n 1, 1) := by decide +kernel
theorem dX6_time_40 : decode cX6_time 40 = .ok (.iaload, 1) := by decide +kernel
theorem dX6_time_41 : decode cX6_time 41 = .ok (.aload_n 0, 1) := by decide +kernel
theorem dX6_time_42 : decode cX6_time 42 = .ok (.getfield 32, 3) := by decide +kernel
theorem dX6_time_45 : decode cX6_time 45 = .ok (.iload_n 1, 1) := by decide +kernel
theorem dX6_time_46 : decode cX6_time 46 = .ok (.iaload, 1) := by decide +kernel
theorem dX6_time_47 : decode cX6_time 47 = .ok (.imul, 1) := by decide +kernel
theorem dX6_time_48 : decode cX6_time 48 = .ok (.bipush 10, 2) := by decide +kernel
theorem dX6_time_50 : decode cX6_time 50 = .ok (.imul, 1) := by decide +kernel
theorem dX6_time_51 : decode cX6_time 51 = .ok (.iload_n 2, 1) := by decide +kernel
theorem dX6_time_52 : decode cX6_time 52 = .ok (.aload_n 0, 1) := by decide +kernel
theorem dX6_time_53 : decode cX6_time 53 = .ok (.getfield 32, 3) := by decide +kernel
theorem dX6_time_56 : decode cX6_time 56 = .ok (.iload_n 1, 1) := by decide +kernel
theorem dX6_time_57 : decode cX6_time 57 = .ok (.iaload, 1) := by decide +kernel
theorem dX6_time_58 : decode cX6_time 58 = .ok (.isub, 1) := by decide +kernel
theorem dX6_time_59 : decode cX6_time 59 = .ok (.idiv, 1) := by decide +kernel
theorem dX6_time_60 : decode cX6_time 60 = .ok (.iconst 2, 1) := by decide +kernel
theorem dX6_time_61 : decode cX6_time 61 = .ok (.iadd, 1) := by decide +kernel
theorem dX6_time_62 : decode cX6_time 62 = .ok (.ireturn, 1) := by decide +kernel
set_option maxRecDepth 20000 in
theorem ggX6_drawn_X6_sourceOfPath : GoodIn wsX6_drawn wsX6_sourceOfPath := goodIn_ca (goodIn_r _ [7, 8, 9, 10, 11, 12, 13, 14, 15, 16, 17, 18, 19, 20, 21, 22, 23, 24, 25, 26, 27, 28, 29, 30, 31, 32, 33, 34, 35, 36, 37, 38] (by decide +kernel) (by decide +kernel)) (goodIn_sub (fun _ h => List.mem_cons_of_mem _ (List.mem_append_left _ (List.mem_append_right _ h))) (by decide +kernel))
set_option maxRecDepth 20000 in
theorem gX6_drawn_X6_sourceOfPath : GoodIn wsX6_drawn (wsV RX6 130 RX6 yX6_sourceOfPath wsX6_sourceOfPath) := goodIn_app (goodIn_of _ (by decide +kernel)) ggX6_drawn_X6_sourceOfPath
theorem dX6_drawn_0 : decode cX6_drawn 0 = .ok (.aload_n 0, 1) := by decide +kernel
theorem dX6_drawn_1 : decode cX6_drawn 1 = .ok (.getfield 13, 3) := by decide +kernel
theorem dX6_drawn_4 : decode cX6_drawn 4 = .ok (.aload_n 0, 1) := by decide +kernel
theorem dX6_drawn_5 : decode cX6_drawn 5 = .ok (.invokevirtual 130, 3) := by decide +kernel
theorem dX6_drawn_8 : decode cX6_drawn 8 = .ok (.iaload, 1) := by decide +kernel
theorem dX6_drawn_9 : decode cX6_drawn 9 = .ok (.bipush 10, 2) := by decide +kernel
theorem dX6_drawn_11 : decode cX6_drawn 11 = .ok (.imul, 1) := by decide +kernel
theorem dX6_drawn_12 : decode cX6_drawn 12 = .ok (.aload_n 0, 1) := by decide +kernel
theorem dX6_drawn_13 : decode cX6_drawn 13 = .ok (.getfield 127, 3) := by decide +kernel
theorem dX6_drawn_16 : decode cX6_drawn 16 = .ok (.idiv, 1) := by decide +kernel
theorem dX6_drawn_17 : decode cX6_drawn 17 = .ok (.ireturn, 1) := by decide +kernel
set_option maxRecDepth 20000 in
theorem ggX6_tripped_X6_finds : GoodIn wsX6_tripped wsX6_finds := goodIn_ca (goodIn_r _ [8, 1, 9, 10, 11, 12, 13, 14, 15, 2, 16, 17, 18, 7, 19, 20, 21, 22, 23, 24, 41, 42, 43, 44, 45, 46, 47, 48, 49, 50, 51, 52, 53, 54, 55, 56, 57, 58, 59, 60, 61, 62, 63, 64, 65, 66, 67] (by decide +kernel) (by decide +kernel)) (goodIn_sub (fun _ h => List.mem_cons_of_mem _ (List.mem_append_left _ (List.mem_append_right _ h))) (by decide +kernel))
set_option maxRecDepth 20000 in
theorem gX6_tripped_X6_finds : GoodIn wsX6_tripped (wsV RX6 134 RX6 yX6_finds wsX6_finds) := goodIn_app (goodIn_of _ (by decide +kernel)) ggX6_tripped_X6_finds
set_option maxRecDepth 20000 in
theorem ggX6_tripped_X6_drawn : GoodIn wsX6_tripped wsX6_drawn := goodIn_ca (goodIn_ca (goodIn_r _ [28, 29, 1, 30, 31, 32, 7, 33, 2, 24, 11, 15, 41, 42, 43, 44, 45, 46, 47, 48, 49, 50, 51, 52, 53, 54, 55, 56, 57, 58, 59, 60, 61, 62, 63, 64, 65, 66, 67] (by decide +kernel) (by decide +kernel)) (goodIn_sub (fun _ h => List.mem_cons_of_mem _ (List.mem_append_left _ (List.mem_append_right _ h))) (by decide +kernel))) (goodIn_sub (fun _ h => List.mem_cons_of_mem _ (List.mem_append_right _ h)) (by decide +kernel))
set_option maxRecDepth 20000 in
theorem gX6_tripped_X6_drawn : GoodIn wsX6_tripped (wsV RX6 137 RX6 yX6_drawn wsX6_drawn) := goodIn_app (goodIn_of _ (by decide +kernel)) ggX6_tripped_X6_drawn
set_option maxRecDepth 20000 in
theorem ggX6_tripped_X6_time : GoodIn wsX6_tripped wsX6_time := goodIn_ca (goodIn_ca (goodIn_r _ [37, 38, 39, 40, 41, 42, 43, 44, 45, 46, 47, 48, 49, 50, 51, 52, 53, 54, 55, 56, 57, 58, 59, 60, 61, 62, 63, 64, 65, 66, 67] (by decide +kernel) (by decide +kernel)) (goodIn_sub (fun _ h => List.mem_cons_of_mem _ (List.mem_append_left _ (List.mem_append_right _ h))) (by decide +kernel))) (goodIn_sub (fun _ h => List.mem_cons_of_mem _ (List.mem_append_right _ h)) (by decide +kernel))
set_option maxRecDepth 20000 in
theorem gX6_tripped_X6_time : GoodIn wsX6_tripped (wsV RX6 140 RX6 yX6_time wsX6_time) := goodIn_app (goodIn_of _ (by decide +kernel)) ggX6_tripped_X6_time
theorem dX6_tripped_0 : decode cX6_tripped 0 = .ok (.aload_n 0, 1) := by decide +kernel
theorem dX6_tripped_1 : decode cX6_tripped 1 = .ok (.iload_n 1, 1) := by decide +kernel
theorem dX6_tripped_2 : decode cX6_tripped 2 = .ok (.invokevirtual 134, 3) := by decide +kernel
theorem dX6_tripped_5 : decode cX6_tripped 5 = .ok (.ifCond .ne 5, 3) := by decide +kernel
theorem dX6_tripped_8 : decode cX6_tripped 8 = .ok (.iconst (-1), 1) := by decide +kernel
theorem dX6_tripped_9 : decode cX6_tripped 9 = .ok (.ireturn, 1) := by decide +kernel
theorem dX6_tripped_10 : decode cX6_tripped 10 = .ok (.bipush (-2), 2) := by decide +kernel
theorem dX6_tripped_12 : decode cX6_tripped 12 = .ok (.istore_n 2, 1) := by decide +kernel
theorem dX6_tripped_13 : decode cX6_tripped 13 = .ok (.iconst 0, 1) := by decide +kernel
theorem dX6_tripped_14 : decode cX6_tripped 14 = .ok (.istore_n 3, 1) := by decide +kernel
theorem dX6_tripped_15 : decode cX6_tripped 15 = .ok (.iload_n 3, 1) := by decide +kernel
theorem dX6_tripped_16 : decode cX6_tripped 16 = .ok (.aload_n 0, 1) := by decide +kernel
theorem dX6_tripped_17 : decode cX6_tripped 17 = .ok (.getfield 127, 3) := by decide +kernel
theorem dX6_tripped_20 : decode cX6_tripped 20 = .ok (.if_icmp .ge 70, 3) := by decide +kernel
theorem dX6_tripped_23 : decode cX6_tripped 23 = .ok (.aload_n 0, 1) := by decide +kernel
theorem dX6_tripped_24 : decode cX6_tripped 24 = .ok (.getfield 56, 3) := by decide +kernel
theorem dX6_tripped_27 : decode cX6_tripped 27 = .ok (.iload_n 3, 1) := by decide +kernel
theorem dX6_tripped_28 : decode cX6_tripped 28 = .ok (.iaload, 1) := by decide +kernel
theorem dX6_tripped_29 : decode cX6_tripped 29 = .ok (.istore 4, 2) := by decide +kernel
theorem dX6_tripped_31 : decode cX6_tripped 31 = .ok (.aload_n 0, 1) := by decide +kernel
theorem dX6_tripped_32 : decode cX6_tripped 32 = .ok (.getfield 41, 3) := by decide +kernel
theorem dX6_tripped_35 : decode cX6_tripped 35 = .ok (.iload 4, 2) := by decide +kernel
theorem dX6_tripped_37 : decode cX6_tripped 37 = .ok (.baload, 1) := by decide +kernel
theorem dX6_tripped_38 : decode cX6_tripped 38 = .ok (.ifCond .eq 16, 3) := by decide +kernel
theorem dX6_tripped_41 : decode cX6_tripped 41 = .ok (.aload_n 0, 1) := by decide +kernel
theorem dX6_tripped_42 : decode cX6_tripped 42 = .ok (.iload 4, 2) := by decide +kernel
theorem dX6_tripped_44 : decode cX6_tripped 44 = .ok (.aload_n 0, 1) := by decide +kernel
theorem dX6_tripped_45 : decode cX6_tripped 45 = .ok (.invokevirtual 137, 3) := by decide +kernel
theorem dX6_tripped_48 : decode cX6_tripped 48 = .ok (.invokevirtual 140, 3) := by decide +kernel
theorem dX6_tripped_51 : decode cX6_tripped 51 = .ok (.goto 4, 3) := by decide +kernel
theorem dX6_tripped_54 : decode cX6_tripped 54 = .ok (.iconst (-1), 1) := by decide +kernel
theorem dX6_tripped_55 : decode cX6_tripped 55 = .ok (.istore 5, 2) := by decide +kernel
theorem dX6_tripped_57 : decode cX6_tripped 57 = .ok (.iload 5, 2) := by decide +kernel
theorem dX6_tripped_59 : decode cX6_tripped 59 = .ok (.iconst (-1), 1) := by decide +kernel
theorem dX6_tripped_60 : decode cX6_tripped 60 = .ok (.if_icmp .eq 24, 3) := by decide +kernel
theorem dX6_tripped_63 : decode cX6_tripped 63 = .ok (.iload_n 2, 1) := by decide +kernel
theorem dX6_tripped_64 : decode cX6_tripped 64 = .ok (.ifCond .lt 17, 3) := by decide +kernel
theorem dX6_tripped_67 : decode cX6_tripped 67 = .ok (.iload 5, 2) := by decide +kernel
theorem dX6_tripped_69 : decode cX6_tripped 69 = .ok (.aload_n 0, 1) := by decide +kernel
theorem dX6_tripped_70 : decode cX6_tripped 70 = .ok (.iload_n 2, 1) := by decide +kernel
theorem dX6_tripped_71 : decode cX6_tripped 71 = .ok (.aload_n 0, 1) := by decide +kernel
theorem dX6_tripped_72 : decode cX6_tripped 72 = .ok (.invokevirtual 137, 3) := by decide +kernel
theorem dX6_tripped_75 : decode cX6_tripped 75 = .ok (.invokevirtual 140, 3) := by decide +kernel
theorem dX6_tripped_78 : decode cX6_tripped 78 = .ok (.if_icmp .gt 6, 3) := by decide +kernel
theorem dX6_tripped_81 : decode cX6_tripped 81 = .ok (.iload 4, 2) := by decide +kernel
theorem dX6_tripped_83 : decode cX6_tripped 83 = .ok (.istore_n 2, 1) := by decide +kernel
theorem dX6_tripped_84 : decode cX6_tripped 84 = .ok (.iinc 3 1, 3) := by decide +kernel
theorem dX6_tripped_87 : decode cX6_tripped 87 = .ok (.goto (-72), 3) := by decide +kernel
theorem dX6_tripped_90 : decode cX6_tripped 90 = .ok (.iload_n 2, 1) := by decide +kernel
theorem dX6_tripped_91 : decode cX6_tripped 91 = .ok (.ireturn, 1) := by decide +kernel
set_option maxRecDepth 20000 in
theorem ggX6_fault_X6_isLine : GoodIn wsX6_fault wsX6_isLine := goodIn_r _ [11, 2, 12, 13, 10, 14, 68, 69, 70, 71, 72, 73, 74, 75, 76, 77, 78, 79, 80, 81, 82, 83, 84, 85, 86, 87, 88, 89, 90, 91, 92, 93, 94] (by decide +kernel) (by decide +kernel)
set_option maxRecDepth 20000 in
theorem gX6_fault_X6_isLine : GoodIn wsX6_fault (wsV RX6 113 RX6 yX6_isLine wsX6_isLine) := goodIn_app (goodIn_of _ (by decide +kernel)) ggX6_fault_X6_isLine
set_option maxRecDepth 20000 in
theorem ggX6_fault_X6_isThere : GoodIn wsX6_fault wsX6_isThere := goodIn_r _ [18, 19, 68, 69, 70, 71, 72, 73, 74, 75, 76, 77, 78, 79, 80, 81, 82, 83, 84, 85, 86, 87, 88, 89, 90, 91, 92, 93, 94] (by decide +kernel) (by decide +kernel)
set_option maxRecDepth 20000 in
theorem gX6_fault_X6_isThere : GoodIn wsX6_fault (wsV RX6 116 RX6 yX6_isThere wsX6_isThere) := goodIn_app (goodIn_of _ (by decide +kernel)) ggX6_fault_X6_isThere
set_option maxRecDepth 20000 in
theorem ggX6_fault_X6_fails : GoodIn wsX6_fault wsX6_fails := goodIn_r _ [23, 19, 68, 69, 70, 71, 72, 73, 74, 75, 76, 77, 78, 79, 80, 81, 82, 83, 84, 85, 86, 87, 88, 89, 90, 91, 92, 93, 94] (by decide +kernel) (by decide +kernel)
set_option maxRecDepth 20000 in
theorem gX6_fault_X6_fails : GoodIn wsX6_fault (wsV RX6 82 RX6 yX6_fails wsX6_fails) := goodIn_app (goodIn_of _ (by decide +kernel)) ggX6_fault_X6_fails
set_option maxRecDepth 20000 in
theorem ggX6_fault_X6_tripped : GoodIn wsX6_fault wsX6_tripped := goodIn_ca (goodIn_ca (goodIn_r _ [27, 28, 29, 30, 31, 32, 33, 10, 34, 3, 35, 4, 36, 37, 2, 5, 38, 39, 40, 41, 42, 43, 44, 45, 46, 47, 48, 49, 50, 51, 52, 53, 54, 55, 56, 57, 58, 59, 60, 61, 62, 68, 69, 70, 71, 72, 73, 74, 75, 76, 77, 78, 79, 80, 81, 82, 83, 84, 85, 86, 87, 88, 89, 90, 91, 92, 93, 94] (by decide +kernel) (by decide +kernel)) (goodIn_sub (fun _ h => List.mem_cons_of_mem _ (List.mem_append_left _ (List.mem_append_right _ h))) (by decide +kernel))) (goodIn_sub (fun _ h => List.mem_cons_of_mem _ (List.mem_append_right _ h)) (by decide +kernel))
set_option maxRecDepth 20000 in
theorem gX6_fault_X6_tripped : GoodIn wsX6_fault (wsV RX6 143 RX6 yX6_tripped wsX6_tripped) := goodIn_app (goodIn_of _ (by decide +kernel)) ggX6_fault_X6_tripped
set_option maxRecDepth 20000 in
theorem ggX6_fault_X6_sourceOfPath : GoodIn wsX6_fault wsX6_sourceOfPath := goodIn_ca (goodIn_r _ [55, 29, 46, 4, 5, 68, 69, 70, 71, 72, 73, 74, 75, 76, 77, 78, 79, 80, 81, 82, 83, 84, 85, 86, 87, 88, 89, 90, 91, 92, 93, 94] (by decide +kernel) (by decide +kernel)) (goodIn_sub (fun _ h => List.mem_cons_of_mem _ (List.mem_append_left _ (List.mem_append_right _ h))) (by decide +kernel))
set_option maxRecDepth 20000 in
theorem gX6_fault_X6_sourceOfPath : GoodIn wsX6_fault (wsV RX6 130 RX6 yX6_sourceOfPath wsX6_sourceOfPath) := goodIn_app (goodIn_of _ (by decide +kernel)) ggX6_fault_X6_sourceOfPath
set_option maxRecDepth 20000 in
theorem ggX6_fault_X6_locks : GoodIn wsX6_fault wsX6_locks := goodIn_ca (goodIn_r _ [66, 3, 67, 68, 69, 70, 71, 72, 73, 74, 75, 76, 77, 78, 79, 80, 81, 82, 83, 84, 85, 86, 87, 88, 89, 90, 91, 92, 93, 94] (by decide +kernel) (by decide +kernel)) (goodIn_sub (fun _ h => List.mem_cons_of_mem _ (List.mem_append_left _ (List.mem_append_right _ h))) (by decide +kernel))
set_option maxRecDepth 20000 in
theorem gX6_fault_X6_locks : GoodIn wsX6_fault (wsV RX6 146 RX6 yX6_locks wsX6_locks) := goodIn_app (goodIn_of _ (by decide +kernel)) ggX6_fault_X6_locks
theorem dX6_fault_0 : decode cX6_fault 0 = .ok (.aload_n 0, 1) := by decide +kernel
theorem dX6_fault_1 : decode cX6_fault 1 = .ok (.aload_n 0, 1) := by decide +kernel
theorem dX6_fault_2 : decode cX6_fault 2 = .ok (.iload_n 1, 1) := by decide +kernel
theorem dX6_fault_3 : decode cX6_fault 3 = .ok (.invokevirtual 113, 3) := by decide +kernel
theorem dX6_fault_6 : decode cX6_fault 6 = .ok (.invokevirtual 116, 3) := by decide +kernel
theorem dX6_fault_9 : decode cX6_fault 9 = .ok (.ifCond .ne 5, 3) := by decide +kernel
theorem dX6_fault_12 : decode cX6_fault 12 = .ok (.iconst 0, 1) := by decide +kernel
theorem dX6_fault_13 : decode cX6_fault 13 = .ok (.ireturn, 1) := by decide +kernel
theorem dX6_fault_14 : decode cX6_fault 14 = .ok (.aload_n 0, 1) := by decide +kernel
theorem dX6_fault_15 : decode cX6_fault 15 = .ok (.getfield 50, 3) := by decide +kernel
theorem dX6_fault_18 : decode cX6_fault 18 = .ok (.iload_n 1, 1) := by decide +kernel
theorem dX6_fault_19 : decode cX6_fault 19 = .ok (.baload, 1) := by decide +kernel
theorem dX6_fault_20 : decode cX6_fault 20 = .ok (.ifCond .eq 9, 3) := by decide +kernel
theorem dX6_fault_23 : decode cX6_fault 23 = .ok (.aload_n 0, 1) := by decide +kernel
theorem dX6_fault_24 : decode cX6_fault 24 = .ok (.iconst 2, 1) := by decide +kernel
theorem dX6_fault_25 : decode cX6_fault 25 = .ok (.invokevirtual 82, 3) := by decide +kernel
theorem dX6_fault_28 : decode cX6_fault 28 = .ok (.ireturn, 1) := by decide +kernel
theorem dX6_fault_29 : decode cX6_fault 29 = .ok (.aload_n 0, 1) := by decide +kernel
theorem dX6_fault_30 : decode cX6_fault 30 = .ok (.iload_n 1, 1) := by decide +kernel
theorem dX6_fault_31 : decode cX6_fault 31 = .ok (.invokevirtual 143, 3) := by decide +kernel
theorem dX6_fault_34 : decode cX6_fault 34 = .ok (.istore_n 2, 1) := by decide +kernel
theorem dX6_fault_35 : decode cX6_fault 35 = .ok (.aload_n 0, 1) := by decide +kernel
theorem dX6_fault_36 : decode cX6_fault 36 = .ok (.getfield 50, 3) := by decide +kernel
theorem dX6_fault_39 : decode cX6_fault 39 = .ok (.iload_n 1, 1) := by decide +kernel
theorem dX6_fault_40 : decode cX6_fault 40 = .ok (.iconst 1, 1) := by decide +kernel
theorem dX6_fault_41 : decode cX6_fault 41 = .ok (.bastore, 1) := by decide +kernel
theorem dX6_fault_42 : decode cX6_fault 42 = .ok (.iload_n 2, 1) := by decide +kernel
theorem dX6_fault_43 : decode cX6_fault 43 = .ok (.bipush (-2), 2) := by decide +kernel
theorem dX6_fault_45 : decode cX6_fault 45 = .ok (.if_icmp .ne 64, 3) := by decide +kernel
theorem dX6_fault_48 : decode cX6_fault 48 = .ok (.aload_n 0, 1) := by decide +kernel
theorem dX6_fault_49 : decode cX6_fault 49 = .ok (.invokevirtual 130, 3) := by decide +kernel
theorem dX6_fault_52 : decode cX6_fault 52 = .ok (.istore_n 3, 1) := by decide +kernel
theorem dX6_fault_53 : decode cX6_fault 53 = .ok (.iconst 0, 1) := by decide +kernel
theorem dX6_fault_54 : decode cX6_fault 54 = .ok (.istore 4, 2) := by decide +kernel
theorem dX6_fault_56 : decode cX6_fault 56 = .ok (.iload 4, 2) := by decide +kernel
theorem dX6_fault_58 : decode cX6_fault 58 = .ok (.aload_n 0, 1) := by decide +kernel
theorem dX6_fault_59 : decode cX6_fault 59 = .ok (.getfield 79, 3) := by decide +kernel
theorem dX6_fault_62 : decode cX6_fault 62 = .ok (.if_icmp .ge 47, 3) := by decide +kernel
theorem dX6_fault_65 : decode cX6_fault 65 = .ok (.aload_n 0, 1) := by decide +kernel
theorem dX6_fault_66 : decode cX6_fault 66 = .ok (.getfield 44, 3) := by decide +kernel
theorem dX6_fault_69 : decode cX6_fault 69 = .ok (.iload 4, 2) := by decide +kernel
theorem dX6_fault_71 : decode cX6_fault 71 = .ok (.baload, 1) := by decide +kernel
theorem dX6_fault_72 : decode cX6_fault 72 = .ok (.ifCond .eq 31, 3) := by decide +kernel
theorem dX6_fault_75 : decode cX6_fault 75 = .ok (.aload_n 0, 1) := by decide +kernel
theorem dX6_fault_76 : decode cX6_fault 76 = .ok (.getfield 23, 3) := by decide +kernel
theorem dX6_fault_79 : decode cX6_fault 79 = .ok (.iload 4, 2) := by decide +kernel
theorem dX6_fault_81 : decode cX6_fault 81 = .ok (.iaload, 1) := by decide +kernel
theorem dX6_fault_82 : decode cX6_fault 82 = .ok (.iload_n 3, 1) := by decide +kernel
theorem dX6_fault_83 : decode cX6_fault 83 = .ok (.if_icmp .eq 14, 3) := by decide +kernel
theorem dX6_fault_86 : decode cX6_fault 86 = .ok (.aload_n 0, 1) := by decide +kernel
theorem dX6_fault_87 : decode cX6_fault 87 = .ok (.getfield 26, 3) := by decide +kernel
theorem dX6_fault_90 : decode cX6_fault 90 = .ok (.iload 4, 2) := by decide +kernel
theorem dX6_fault_92 : decode cX6_fault 92 = .ok (.iaload, 1) := by decide +kernel
theorem dX6_fault_93 : decode cX6_fault 93 = .ok (.iload_n 3, 1) := by decide +kernel
theorem dX6_fault_94 : decode cX6_fault 94 = .ok (.if_icmp .ne 9, 3) := by decide +kernel
theorem dX6_fault_97 : decode cX6_fault 97 = .ok (.aload_n 0, 1) := by decide +kernel
theorem dX6_fault_98 : decode cX6_fault 98 = .ok (.iload 4, 2) := by decide +kernel
theorem dX6_fault_100 : decode cX6_fault 100 = .ok (.invokevirtual 146, 3) := by decide +kernel
theorem dX6_fault_103 : decode cX6_fault 103 = .ok (.iinc 4 1, 3) := by decide +kernel
theorem dX6_fault_106 : decode cX6_fault 106 = .ok (.goto (-50), 3) := by decide +kernel
theorem dX6_fault_109 : decode cX6_fault 109 = .ok (.iload_n 2, 1) := by decide +kernel
theorem dX6_fault_110 : decode cX6_fault 110 = .ok (.ifCond .lt 18, 3) := by decide +kernel
theorem dX6_fault_113 : decode cX6_fault 113 = .ok (.aload_n 0, 1) := by decide +kernel
theorem dX6_fault_114 : decode cX6_fault 114 = .ok (.iload_n 2, 1) := by decide +kernel
theorem dX6_fault_115 : decode cX6_fault 115 = .ok (.invokevirtual 146, 3) := by decide +kernel
theorem dX6_fault_118 : decode cX6_fault 118 = .ok (.aload_n 0, 1) := by decide +kernel
theorem dX6_fault_119 : decode cX6_fault 119 = .ok (.dup, 1) := by decide +kernel
theorem dX6_fault_120 : decode cX6_fault 120 = .ok (.getfield 150, 3) := by decide +kernel
theorem dX6_fault_123 : decode cX6_fault 123 = .ok (.iconst 1, 1) := by decide +kernel
theorem dX6_fault_124 : decode cX6_fault 124 = .ok (.iadd, 1) := by decide +kernel
theorem dX6_fault_125 : decode cX6_fault 125 = .ok (.putfield 150, 3) := by decide +kernel
theorem dX6_fault_128 : decode cX6_fault 128 = .ok (.iload_n 2, 1) := by decide +kernel
theorem dX6_fault_129 : decode cX6_fault 129 = .ok (.ireturn, 1) := by decide +kernel
theorem dX6_locks_0 : decode cX6_locks 0 = .ok (.aload_n 0, 1) := by decide +kernel
theorem dX6_locks_1 : decode cX6_locks 1 = .ok (.getfield 44, 3) := by decide +kernel
theorem dX6_locks_4 : decode cX6_locks 4 = .ok (.iload_n 1, 1) := by decide +kernel
theorem dX6_locks_5 : decode cX6_locks 5 = .ok (.iconst 0, 1) := by decide +kernel
theorem dX6_locks_6 : decode cX6_locks 6 = .ok (.bastore, 1) := by decide +kernel
theorem dX6_locks_7 : decode cX6_locks 7 = .ok (.aload_n 0, 1) := by decide +kernel
theorem dX6_locks_8 : decode cX6_locks 8 = .ok (.getfield 47, 3) := by decide +kernel
theorem dX6_locks_11 : decode cX6_locks 11 = .ok (.iload_n 1, 1) := by decide +kernel
theorem dX6_locks_12 : decode cX6_locks 12 = .ok (.iconst 1, 1) := by decide +kernel
theorem dX6_locks_13 : decode cX6_locks 13 = .ok (.bastore, 1) := by decide +kernel
theorem dX6_locks_14 : decode cX6_locks 14 = .ok (.return_, 1) := by decide +kernel
set_option maxRecDepth 20000 in
theorem ggX6_repair_X6_isLine : GoodIn wsX6_repair wsX6_isLine := goodIn_r _ [8, 9, 10, 11, 7, 12, 17, 18, 19, 20, 21, 22, 23, 24, 25, 26, 27, 28, 29, 30, 31, 32, 33, 34, 35, 36, 37, 38, 39, 40, 41, 42, 43] (by decide +kernel) (by decide +kernel)
set_option maxRecDepth 20000 in
theorem gX6_repair_X6_isLine : GoodIn wsX6_repair (wsV RX6 113 RX6 yX6_isLine wsX6_isLine) := goodIn_app (goodIn_of _ (by decide +kernel)) ggX6_repair_X6_isLine
set_option maxRecDepth 20000 in
theorem ggX6_repair_X6_isThere : GoodIn wsX6_repair wsX6_isThere := goodIn_r _ [16, 2, 17, 18, 19, 20, 21, 22, 23, 24, 25, 26, 27, 28, 29, 30, 31, 32, 33, 34, 35, 36, 37, 38, 39, 40, 41, 42, 43] (by decide +kernel) (by decide +kernel)
set_option maxRecDepth 20000 in
theorem gX6_repair_X6_isThere : GoodIn wsX6_repair (wsV RX6 116 RX6 yX6_isThere wsX6_isThere) := goodIn_app (goodIn_of _ (by decide +kernel)) ggX6_repair_X6_isThere
theorem dX6_repair_0 : decode cX6_repair 0 = .ok (.aload_n 0, 1) := by decide +kernel
theorem dX6_repair_1 : decode cX6_repair 1 = .ok (.aload_n 0, 1) := by decide +kernel
theorem dX6_repair_2 : decode cX6_repair 2 = .ok (.iload_n 1, 1) := by decide +kernel
theorem dX6_repair_3 : decode cX6_repair 3 = .ok (.invokevirtual 113, 3) := by decide +kernel
theorem dX6_repair_6 : decode cX6_repair 6 = .ok (.invokevirtual 116, 3) := by decide +kernel
theorem dX6_repair_9 : decode cX6_repair 9 = .ok (.ifCond .ne 5, 3) := by decide +kernel
theorem dX6_repair_12 : decode cX6_repair 12 = .ok (.iconst 0, 1) := by decide +kernel
theorem dX6_repair_13 : decode cX6_repair 13 = .ok (.ireturn, 1) := by decide +kernel
theorem dX6_repair_14 : decode cX6_repair 14 = .ok (.aload_n 0, 1) := by decide +kernel
theorem dX6_repair_15 : decode cX6_repair 15 = .ok (.aload_n 0, 1) := by decide +kernel
theorem dX6_repair_16 : decode cX6_repair 16 = .ok (.getfield 50, 3) := by decide +kernel
theorem dX6_repair_19 : decode cX6_repair 19 = .ok (.iload_n 1, 1) := by decide +kernel
theorem dX6_repair_20 : decode cX6_repair 20 = .ok (.baload, 1) := by decide +kernel
theorem dX6_repair_21 : decode cX6_repair 21 = .ok (.ifCond .eq 7, 3) := by decide +kernel
theorem dX6_repair_24 : decode cX6_repair 24 = .ok (.iconst 0, 1) := by decide +kernel
theorem dX6_repair_25 : decode cX6_repair 25 = .ok (.goto 4, 3) := by decide +kernel
theorem dX6_repair_28 : decode cX6_repair 28 = .ok (.iconst 2, 1) := by decide +kernel
theorem dX6_repair_29 : decode cX6_repair 29 = .ok (.putfield 68, 3) := by decide +kernel
theorem dX6_repair_32 : decode cX6_repair 32 = .ok (.aload_n 0, 1) := by decide +kernel
theorem dX6_repair_33 : decode cX6_repair 33 = .ok (.getfield 50, 3) := by decide +kernel
theorem dX6_repair_36 : decode cX6_repair 36 = .ok (.iload_n 1, 1) := by decide +kernel
theorem dX6_repair_37 : decode cX6_repair 37 = .ok (.iconst 0, 1) := by decide +kernel
theorem dX6_repair_38 : decode cX6_repair 38 = .ok (.bastore, 1) := by decide +kernel
theorem dX6_repair_39 : decode cX6_repair 39 = .ok (.aload_n 0, 1) := by decide +kernel
theorem dX6_repair_40 : decode cX6_repair 40 = .ok (.getfield 68, 3) := by decide +kernel
theorem dX6_repair_43 : decode cX6_repair 43 = .ok (.ifCond .ne 16, 3) := by decide +kernel
theorem dX6_repair_46 : decode cX6_repair 46 = .ok (.aload_n 0, 1) := by decide +kernel
theorem dX6_repair_47 : decode cX6_repair 47 = .ok (.getfield 47, 3) := by decide +kernel
theorem dX6_repair_50 : decode cX6_repair 50 = .ok (.iload_n 1, 1) := by decide +kernel
theorem dX6_repair_51 : decode cX6_repair 51 = .ok (.baload, 1) := by decide +kernel
theorem dX6_repair_52 : decode cX6_repair 52 = .ok (.ifCond .eq 7, 3) := by decide +kernel
theorem dX6_repair_55 : decode cX6_repair 55 = .ok (.iconst 1, 1) := by decide +kernel
theorem dX6_repair_56 : decode cX6_repair 56 = .ok (.goto 4, 3) := by decide +kernel
theorem dX6_repair_59 : decode cX6_repair 59 = .ok (.iconst 0, 1) := by decide +kernel
theorem dX6_repair_60 : decode cX6_repair 60 = .ok (.ireturn, 1) := by decide +kernel
set_option maxRecDepth 20000 in
theorem ggX6_reset_X6_isLine : GoodIn wsX6_reset wsX6_isLine := goodIn_r _ [8, 3, 9, 10, 7, 11, 21, 22, 23, 24, 25, 26, 27, 28, 29, 30, 31, 32, 33, 34, 35, 36, 37, 38, 39, 40, 41, 42, 43, 44, 45, 46, 47] (by decide +kernel) (by decide +kernel)
set_option maxRecDepth 20000 in
theorem gX6_reset_X6_isLine : GoodIn wsX6_reset (wsV RX6 113 RX6 yX6_isLine wsX6_isLine) := goodIn_app (goodIn_of _ (by decide +kernel)) ggX6_reset_X6_isLine
set_option maxRecDepth 20000 in
theorem ggX6_reset_X6_isThere : GoodIn wsX6_reset wsX6_isThere := goodIn_r _ [15, 16, 21, 22, 23, 24, 25, 26, 27, 28, 29, 30, 31, 32, 33, 34, 35, 36, 37, 38, 39, 40, 41, 42, 43, 44, 45, 46, 47] (by decide +kernel) (by decide +kernel)
set_option maxRecDepth 20000 in
theorem gX6_reset_X6_isThere : GoodIn wsX6_reset (wsV RX6 116 RX6 yX6_isThere wsX6_isThere) := goodIn_app (goodIn_of _ (by decide +kernel)) ggX6_reset_X6_isThere
set_option maxRecDepth 20000 in
theorem ggX6_reset_X6_fails : GoodIn wsX6_reset wsX6_fails := goodIn_r _ [20, 16, 21, 22, 23, 24, 25, 26, 27, 28, 29, 30, 31, 32, 33, 34, 35, 36, 37, 38, 39, 40, 41, 42, 43, 44, 45, 46, 47] (by decide +kernel) (by decide +kernel)
set_option maxRecDepth 20000 in
theorem gX6_reset_X6_fails : GoodIn wsX6_reset (wsV RX6 82 RX6 yX6_fails wsX6_fails) := goodIn_app (goodIn_of _ (by decide +kernel)) ggX6_reset_X6_fails
theorem dX6_reset_0 : decode cX6_reset 0 = .ok (.aload_n 0, 1) := by decide +kernel
theorem dX6_reset_1 : decode cX6_reset 1 = .ok (.aload_n 0, 1) := by decide +kernel
theorem dX6_reset_2 : decode cX6_reset 2 = .ok (.iload_n 1, 1) := by decide +kernel
theorem dX6_reset_3 : decode cX6_reset 3 = .ok (.invokevirtual 113, 3) := by decide +kernel
theorem dX6_reset_6 : decode cX6_reset 6 = .ok (.invokevirtual 116, 3) := by decide +kernel
theorem dX6_reset_9 : decode cX6_reset 9 = .ok (.ifCond .ne 5, 3) := by decide +kernel
theorem dX6_reset_12 : decode cX6_reset 12 = .ok (.iconst 0, 1) := by decide +kernel
theorem dX6_reset_13 : decode cX6_reset 13 = .ok (.ireturn, 1) := by decide +kernel
theorem dX6_reset_14 : decode cX6_reset 14 = .ok (.aload_n 0, 1) := by decide +kernel
theorem dX6_reset_15 : decode cX6_reset 15 = .ok (.getfield 50, 3) := by decide +kernel
theorem dX6_reset_18 : decode cX6_reset 18 = .ok (.iload_n 1, 1) := by decide +kernel
theorem dX6_reset_19 : decode cX6_reset 19 = .ok (.baload, 1) := by decide +kernel
theorem dX6_reset_20 : decode cX6_reset 20 = .ok (.ifCond .eq 9, 3) := by decide +kernel
theorem dX6_reset_23 : decode cX6_reset 23 = .ok (.aload_n 0, 1) := by decide +kernel
theorem dX6_reset_24 : decode cX6_reset 24 = .ok (.iconst 2, 1) := by decide +kernel
theorem dX6_reset_25 : decode cX6_reset 25 = .ok (.invokevirtual 82, 3) := by decide +kernel
theorem dX6_reset_28 : decode cX6_reset 28 = .ok (.ireturn, 1) := by decide +kernel
theorem dX6_reset_29 : decode cX6_reset 29 = .ok (.aload_n 0, 1) := by decide +kernel
theorem dX6_reset_30 : decode cX6_reset 30 = .ok (.getfield 47, 3) := by decide +kernel
theorem dX6_reset_33 : decode cX6_reset 33 = .ok (.iload_n 1, 1) := by decide +kernel
theorem dX6_reset_34 : decode cX6_reset 34 = .ok (.baload, 1) := by decide +kernel
theorem dX6_reset_35 : decode cX6_reset 35 = .ok (.ifCond .ne 9, 3) := by decide +kernel
theorem dX6_reset_38 : decode cX6_reset 38 = .ok (.aload_n 0, 1) := by decide +kernel
theorem dX6_reset_39 : decode cX6_reset 39 = .ok (.iconst 3, 1) := by decide +kernel
theorem dX6_reset_40 : decode cX6_reset 40 = .ok (.invokevirtual 82, 3) := by decide +kernel
theorem dX6_reset_43 : decode cX6_reset 43 = .ok (.ireturn, 1) := by decide +kernel
theorem dX6_reset_44 : decode cX6_reset 44 = .ok (.aload_n 0, 1) := by decide +kernel
theorem dX6_reset_45 : decode cX6_reset 45 = .ok (.getfield 47, 3) := by decide +kernel
theorem dX6_reset_48 : decode cX6_reset 48 = .ok (.iload_n 1, 1) := by decide +kernel
theorem dX6_reset_49 : decode cX6_reset 49 = .ok (.iconst 0, 1) := by decide +kernel
theorem dX6_reset_50 : decode cX6_reset 50 = .ok (.bastore, 1) := by decide +kernel
theorem dX6_reset_51 : decode cX6_reset 51 = .ok (.iconst 0, 1) := by decide +kernel
theorem dX6_reset_52 : decode cX6_reset 52 = .ok (.istore_n 2, 1) := by decide +kernel
theorem dX6_reset_53 : decode cX6_reset 53 = .ok (.iconst 0, 1) := by decide +kernel
theorem dX6_reset_54 : decode cX6_reset 54 = .ok (.istore_n 3, 1) := by decide +kernel
theorem dX6_reset_55 : decode cX6_reset 55 = .ok (.iload_n 3, 1) := by decide +kernel
theorem dX6_reset_56 : decode cX6_reset 56 = .ok (.aload_n 0, 1) := by decide +kernel
theorem dX6_reset_57 : decode cX6_reset 57 = .ok (.getfield 79, 3) := by decide +kernel
theorem dX6_reset_60 : decode cX6_reset 60 = .ok (.if_icmp .ge 26, 3) := by decide +kernel
theorem dX6_reset_63 : decode cX6_reset 63 = .ok (.iload_n 2, 1) := by decide +kernel
theorem dX6_reset_64 : decode cX6_reset 64 = .ok (.aload_n 0, 1) := by decide +kernel
theorem dX6_reset_65 : decode cX6_reset 65 = .ok (.getfield 47, 3) := by decide +kernel
theorem dX6_reset_68 : decode cX6_reset 68 = .ok (.iload_n 3, 1) := by decide +kernel
theorem dX6_reset_69 : decode cX6_reset 69 = .ok (.baload, 1) := by decide +kernel
theorem dX6_reset_70 : decode cX6_reset 70 = .ok (.ifCond .eq 7, 3) := by decide +kernel
theorem dX6_reset_73 : decode cX6_reset 73 = .ok (.iconst 1, 1) := by decide +kernel
theorem dX6_reset_74 : decode cX6_reset 74 = .ok (.goto 4, 3) := by decide +kernel
theorem dX6_reset_77 : decode cX6_reset 77 = .ok (.iconst 0, 1) := by decide +kernel
theorem dX6_reset_78 : decode cX6_reset 78 = .ok (.iadd, 1) := by decide +kernel
theorem dX6_reset_79 : decode cX6_reset 79 = .ok (.istore_n 2, 1) := by decide +kernel
theorem dX6_reset_80 : decode cX6_reset 80 = .ok (.iinc 3 1, 3) := by decide +kernel
theorem dX6_reset_83 : decode cX6_reset 83 = .ok (.goto (-28), 3) := by decide +kernel
theorem dX6_reset_86 : decode cX6_reset 86 = .ok (.iload_n 2, 1) := by decide +kernel
theorem dX6_reset_87 : decode cX6_reset 87 = .ok (.ireturn, 1) := by decide +kernel
theorem dX6_nodes_0 : decode cX6_nodes 0 = .ok (.aload_n 0, 1) := by decide +kernel
theorem dX6_nodes_1 : decode cX6_nodes 1 = .ok (.iconst 0, 1) := by decide +kernel
theorem dX6_nodes_2 : decode cX6_nodes 2 = .ok (.putfield 68, 3) := by decide +kernel
theorem dX6_nodes_5 : decode cX6_nodes 5 = .ok (.aload_n 0, 1) := by decide +kernel
theorem dX6_nodes_6 : decode cX6_nodes 6 = .ok (.getfield 72, 3) := by decide +kernel
theorem dX6_nodes_9 : decode cX6_nodes 9 = .ok (.ireturn, 1) := by decide +kernel
theorem dX6_lines_0 : decode cX6_lines 0 = .ok (.aload_n 0, 1) := by decide +kernel
theorem dX6_lines_1 : decode cX6_lines 1 = .ok (.iconst 0, 1) := by decide +kernel
theorem dX6_lines_2 : decode cX6_lines 2 = .ok (.putfield 68, 3) := by decide +kernel
theorem dX6_lines_5 : decode cX6_lines 5 = .ok (.aload_n 0, 1) := by decide +kernel
