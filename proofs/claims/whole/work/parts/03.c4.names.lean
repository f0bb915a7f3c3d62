theorem dX6_init_0 : decode cX6_init 0 = .ok (.aload_n 0, 1) := by decide +kernel
theorem dX6_init_1 : decode cX6_init 1 = .ok (.invokespecial 1, 3) := by decide +kernel
theorem dX6_init_4 : decode cX6_init 4 = .ok (.aload_n 0, 1) := by decide +kernel
theorem dX6_init_5 : decode cX6_init 5 = .ok (.bipush 10, 2) := by decide +kernel
theorem dX6_init_7 : decode cX6_init 7 = .ok (.newarray .boolean, 2) := by decide +kernel
theorem dX6_init_9 : decode cX6_init 9 = .ok (.putfield 7, 3) := by decide +kernel
theorem dX6_init_12 : decode cX6_init 12 = .ok (.aload_n 0, 1) := by decide +kernel
theorem dX6_init_13 : decode cX6_init 13 = .ok (.bipush 10, 2) := by decide +kernel
theorem dX6_init_15 : decode cX6_init 15 = .ok (.newarray .int, 2) := by decide +kernel
theorem dX6_init_17 : decode cX6_init 17 = .ok (.putfield 13, 3) := by decide +kernel
theorem dX6_init_20 : decode cX6_init 20 = .ok (.aload_n 0, 1) := by decide +kernel
theorem dX6_init_21 : decode cX6_init 21 = .ok (.bipush 10, 2) := by decide +kernel
theorem dX6_init_23 : decode cX6_init 23 = .ok (.newarray .int, 2) := by decide +kernel
theorem dX6_init_25 : decode cX6_init 25 = .ok (.putfield 17, 3) := by decide +kernel
theorem dX6_init_28 : decode cX6_init 28 = .ok (.aload_n 0, 1) := by decide +kernel
theorem dX6_init_29 : decode cX6_init 29 = .ok (.bipush 10, 2) := by decide +kernel
theorem dX6_init_31 : decode cX6_init 31 = .ok (.newarray .int, 2) := by decide +kernel
theorem dX6_init_33 : decode cX6_init 33 = .ok (.putfield 20, 3) := by decide +kernel
theorem dX6_init_36 : decode cX6_init 36 = .ok (.aload_n 0, 1) := by decide +kernel
theorem dX6_init_37 : decode cX6_init 37 = .ok (.bipush 12, 2) := by decide +kernel
theorem dX6_init_39 : decode cX6_init 39 = .ok (.newarray .int, 2) := by decide +kernel
theorem dX6_init_41 : decode cX6_init 41 = .ok (.putfield 23, 3) := by decide +kernel
theorem dX6_init_44 : decode cX6_init 44 = .ok (.aload_n 0, 1) := by decide +kernel
theorem dX6_init_45 : decode cX6_init 45 = .ok (.bipush 12, 2) := by decide +kernel
theorem dX6_init_47 : decode cX6_init 47 = .ok (.newarray .int, 2) := by decide +kernel
theorem dX6_init_49 : decode cX6_init 49 = .ok (.putfield 26, 3) := by decide +kernel
theorem dX6_init_52 : decode cX6_init 52 = .ok (.aload_n 0, 1) := by decide +kernel
theorem dX6_init_53 : decode cX6_init 53 = .ok (.bipush 12, 2) := by decide +kernel
theorem dX6_init_55 : decode cX6_init 55 = .ok (.newarray .int, 2) := by decide +kernel
theorem dX6_init_57 : decode cX6_init 57 = .ok (.putfield 29, 3) := by decide +kernel
theorem dX6_init_60 : decode cX6_init 60 = .ok (.aload_n 0, 1) := by decide +kernel
theorem dX6_init_61 : decode cX6_init 61 = .ok (.bipush 12, 2) := by decide +kernel
theorem dX6_init_63 : decode cX6_init 63 = .ok (.newarray .int, 2) := by decide +kernel
theorem dX6_init_65 : decode cX6_init 65 = .ok (.putfield 32, 3) := by decide +kernel
theorem dX6_init_68 : decode cX6_init 68 = .ok (.aload_n 0, 1) := by decide +kernel
theorem dX6_init_69 : decode cX6_init 69 = .ok (.bipush 12, 2) := by decide +kernel
theorem dX6_init_71 : decode cX6_init 71 = .ok (.newarray .int, 2) := by decide +kernel
theorem dX6_init_73 : decode cX6_init 73 = .ok (.putfield 35, 3) := by decide +kernel
theorem dX6_init_76 : decode cX6_init 76 = .ok (.aload_n 0, 1) := by decide +kernel
theorem dX6_init_77 : decode cX6_init 77 = .ok (.bipush 12, 2) := by decide +kernel
theorem dX6_init_79 : decode cX6_init 79 = .ok (.newarray .int, 2) := by decide +kernel
theorem dX6_init_81 : decode cX6_init 81 = .ok (.putfield 38, 3) := by decide +kernel
theorem dX6_init_84 : decode cX6_init 84 = .ok (.aload_n 0, 1) := by decide +kernel
theorem dX6_init_85 : decode cX6_init 85 = .ok (.bipush 12, 2) := by decide +kernel
theorem dX6_init_87 : decode cX6_init 87 = .ok (.newarray .boolean, 2) := by decide +kernel
theorem dX6_init_89 : decode cX6_init 89 = .ok (.putfield 41, 3) := by decide +kernel
theorem dX6_init_92 : decode cX6_init 92 = .ok (.aload_n 0, 1) := by decide +kernel
theorem dX6_init_93 : decode cX6_init 93 = .ok (.bipush 12, 2) := by decide +kernel
theorem dX6_init_95 : decode cX6_init 95 = .ok (.newarray .boolean, 2) := by decide +kernel
theorem dX6_init_97 : decode cX6_init 97 = .ok (.putfield 44, 3) := by decide +kernel
theorem dX6_init_100 : decode cX6_init 100 = .ok (.aload_n 0, 1) := by decide +kernel
theorem dX6_init_101 : decode cX6_init 101 = .ok (.bipush 12, 2) := by decide +kernel
theorem dX6_init_103 : decode cX6_init 103 = .ok (.newarray .boolean, 2) := by decide +kernel
theorem dX6_init_105 : decode cX6_init 105 = .ok (.putfield 47, 3) := by decide +kernel
theorem dX6_init_108 : decode cX6_init 108 = .ok (.aload_n 0, 1) := by decide +kernel
theorem dX6_init_109 : decode cX6_init 109 = .ok (.bipush 12, 2) := by decide +kernel
theorem dX6_init_111 : decode cX6_init 111 = .ok (.newarray .boolean, 2) := by decide +kernel
theorem dX6_init_113 : decode cX6_init 113 = .ok (.putfield 50, 3) := by decide +kernel
theorem dX6_init_116 : decode cX6_init 116 = .ok (.aload_n 0, 1) := by decide +kernel
theorem dX6_init_117 : decode cX6_init 117 = .ok (.bipush 10, 2) := by decide +kernel
theorem dX6_init_119 : decode cX6_init 119 = .ok (.newarray .int, 2) := by decide +kernel
theorem dX6_init_121 : decode cX6_init 121 = .ok (.putfield 53, 3) := by decide +kernel
theorem dX6_init_124 : decode cX6_init 124 = .ok (.aload_n 0, 1) := by decide +kernel
theorem dX6_init_125 : decode cX6_init 125 = .ok (.bipush 12, 2) := by decide +kernel
theorem dX6_init_127 : decode cX6_init 127 = .ok (.newarray .int, 2) := by decide +kernel
theorem dX6_init_129 : decode cX6_init 129 = .ok (.putfield 56, 3) := by decide +kernel
theorem dX6_init_132 : decode cX6_init 132 = .ok (.aload_n 0, 1) := by decide +kernel
theorem dX6_init_133 : decode cX6_init 133 = .ok (.bipush 10, 2) := by decide +kernel
theorem dX6_init_135 : decode cX6_init 135 = .ok (.newarray .int, 2) := by decide +kernel
theorem dX6_init_137 : decode cX6_init 137 = .ok (.putfield 59, 3) := by decide +kernel
theorem dX6_init_140 : decode cX6_init 140 = .ok (.aload_n 0, 1) := by decide +kernel
theorem dX6_init_141 : decode cX6_init 141 = .ok (.bipush 12, 2) := by decide +kernel
theorem dX6_init_143 : decode cX6_init 143 = .ok (.newarray .int, 2) := by decide +kernel
theorem dX6_init_145 : decode cX6_init 145 = .ok (.putfield 62, 3) := by decide +kernel
theorem dX6_init_148 : decode cX6_init 148 = .ok (.aload_n 0, 1) := by decide +kernel
theorem dX6_init_149 : decode cX6_init 149 = .ok (.bipush 12, 2) := by decide +kernel
theorem dX6_init_151 : decode cX6_init 151 = .ok (.newarray .int, 2) := by decide +kernel
theorem dX6_init_153 : decode cX6_init 153 = .ok (.putfield 65, 3) := by decide +kernel
theorem dX6_init_156 : decode cX6_init 156 = .ok (.return_, 1) := by decide +kernel
theorem dX6_thrown_0 : decode cX6_thrown 0 = .ok (.aload_n 0, 1) := by decide +kernel
theorem dX6_thrown_1 : decode cX6_thrown 1 = .ok (.getfield 68, 3) := by decide +kernel
theorem dX6_thrown_4 : decode cX6_thrown 4 = .ok (.ireturn, 1) := by decide +kernel
theorem dX6_fails_0 : decode cX6_fails 0 = .ok (.aload_n 0, 1) := by decide +kernel
theorem dX6_fails_1 : decode cX6_fails 1 = .ok (.iload_n 1, 1) := by decide +kernel
theorem dX6_fails_2 : decode cX6_fails 2 = .ok (.putfield 68, 3) := by decide +kernel
theorem dX6_fails_5 : decode cX6_fails 5 = .ok (.iconst 0, 1) := by decide +kernel
theorem dX6_fails_6 : decode cX6_fails 6 = .ok (.ireturn, 1) := by decide +kernel
theorem dX6_in_0 : decode cX6_in 0 = .ok (.iload_n 0, 1) := by decide +kernel
theorem dX6_in_1 : decode cX6_in 1 = .ok (.iload_n 1, 1) := by decide +kernel
theorem dX6_in_2 : decode cX6_in 2 = .ok (.if_icmp .lt 12, 3) := by decide +kernel
theorem dX6_in_5 : decode cX6_in 5 = .ok (.iload_n 0, 1) := by decide +kernel
theorem dX6_in_6 : decode cX6_in 6 = .ok (.iload_n 2, 1) := by decide +kernel
theorem dX6_in_7 : decode cX6_in 7 = .ok (.if_icmp .gt 7, 3) := by decide +kernel
theorem dX6_in_10 : decode cX6_in 10 = .ok (.iconst 1, 1) := by decide +kernel
theorem dX6_in_11 : decode cX6_in 11 = .ok (.goto 4, 3) := by decide +kernel
theorem dX6_in_14 : decode cX6_in 14 = .ok (.iconst 0, 1) := by decide +kernel
theorem dX6_in_15 : decode cX6_in 15 = .ok (.ireturn, 1) := by decide +kernel
set_option maxRecDepth 20000 in
theorem ggX6_isNode_X6_in : GoodIn wsX6_isNode wsX6_in := goodIn_r _ [5] (by decide +kernel) (by decide +kernel)
set_option maxRecDepth 20000 in
theorem gX6_isNode_X6_in : GoodIn wsX6_isNode (va_wsS RX6 75 yX6_in wsX6_in) := goodIn_app (goodIn_of _ (by decide +kernel)) ggX6_isNode_X6_in
theorem dX6_isNode_0 : decode cX6_isNode 0 = .ok (.iload_n 1, 1) := by decide +kernel
theorem dX6_isNode_1 : decode cX6_isNode 1 = .ok (.iconst 0, 1) := by decide +kernel
theorem dX6_isNode_2 : decode cX6_isNode 2 = .ok (.aload_n 0, 1) := by decide +kernel
theorem dX6_isNode_3 : decode cX6_isNode 3 = .ok (.getfield 72, 3) := by decide +kernel
theorem dX6_isNode_6 : decode cX6_isNode 6 = .ok (.iconst 1, 1) := by decide +kernel
theorem dX6_isNode_7 : decode cX6_isNode 7 = .ok (.isub, 1) := by decide +kernel
theorem dX6_isNode_8 : decode cX6_isNode 8 = .ok (.invokestatic 75, 3) := by decide +kernel
theorem dX6_isNode_11 : decode cX6_isNode 11 = .ok (.ireturn, 1) := by decide +kernel
set_option maxRecDepth 20000 in
theorem ggX6_isLine_X6_in : GoodIn wsX6_isLine wsX6_in := goodIn_r _ [5] (by decide +kernel) (by decide +kernel)
set_option maxRecDepth 20000 in
theorem gX6_isLine_X6_in : GoodIn wsX6_isLine (va_wsS RX6 75 yX6_in wsX6_in) := goodIn_app (goodIn_of _ (by decide +kernel)) ggX6_isLine_X6_in
theorem dX6_isLine_0 : decode cX6_isLine 0 = .ok (.iload_n 1, 1) := by decide +kernel
theorem dX6_isLine_1 : decode cX6_isLine 1 = .ok (.iconst 0, 1) := by decide +kernel
theorem dX6_isLine_2 : decode cX6_isLine 2 = .ok (.aload_n 0, 1) := by decide +kernel
theorem dX6_isLine_3 : decode cX6_isLine 3 = .ok (.getfield 79, 3) := by decide +kernel
theorem dX6_isLine_6 : decode cX6_isLine 6 = .ok (.iconst 1, 1) := by decide +kernel
theorem dX6_isLine_7 : decode cX6_isLine 7 = .ok (.isub, 1) := by decide +kernel
theorem dX6_isLine_8 : decode cX6_isLine 8 = .ok (.invokestatic 75, 3) := by decide +kernel
theorem dX6_isLine_11 : decode cX6_isLine 11 = .ok (.ireturn, 1) := by decide +kernel
theorem dX6_isThere_0 : decode cX6_isThere 0 = .ok (.aload_n 0, 1) := by decide +kernel
theorem dX6_isThere_1 : decode cX6_isThere 1 = .ok (.iload_n 1, 1) := by decide +kernel
theorem dX6_isThere_2 : decode cX6_isThere 2 = .ok (.ifCond .eq 7, 3) := by decide +kernel
theorem dX6_isThere_5 : decode cX6_isThere 5 = .ok (.iconst 0, 1) := by decide +kernel
theorem dX6_isThere_6 : decode cX6_isThere 6 = .ok (.goto 4, 3) := by decide +kernel
theorem dX6_isThere_9 : decode cX6_isThere 9 = .ok (.iconst 1, 1) := by decide +kernel
theorem dX6_isThere_10 : decode cX6_isThere 10 = .ok (.putfield 68, 3) := by decide +kernel
theorem dX6_isThere_13 : decode cX6_isThere 13 = .ok (.iload_n 1, 1) := by decide +kernel
theorem dX6_isThere_14 : decode cX6_isThere 14 = .ok (.ireturn, 1) := by decide +kernel
set_option maxRecDepth 20000 in
theorem ggX6_addSource_X6_in : GoodIn wsX6_addSource wsX6_in := goodIn_r _ [8] (by decide +kernel) (by decide +kernel)
set_option maxRecDepth 20000 in
theorem gX6_addSource_X6_in : GoodIn wsX6_addSource (va_wsS RX6 75 yX6_in wsX6_in) := goodIn_app (goodIn_of _ (by decide +kernel)) ggX6_addSource_X6_in
set_option maxRecDepth 20000 in
theorem ggX6_addSource_X6_fails : GoodIn wsX6_addSource wsX6_fails := goodIn_r _ [12, 2, 13, 14, 15, 16, 17, 18, 19, 20, 21, 22, 23, 24, 25, 26, 27, 28, 29, 30, 31, 32, 33, 34, 35, 36, 37, 38, 39] (by decide +kernel) (by decide +kernel)
set_option maxRecDepth 20000 in
theorem gX6_addSource_X6_fails : GoodIn wsX6_addSource (wsV RX6 82 RX6 yX6_fails wsX6_fails) := goodIn_app (goodIn_of _ (by decide +kernel)) ggX6_addSource_X6_fails
theorem dX6_addSource_0 : decode cX6_addSource 0 = .ok (.iload_n 1, 1) := by decide +kernel
theorem dX6_addSource_1 : decode cX6_addSource 1 = .ok (.iconst 1, 1) := by decide +kernel
theorem dX6_addSource_2 : decode cX6_addSource 2 = .ok (.sipush 999, 3) := by decide +kernel
theorem dX6_addSource_5 : decode cX6_addSource 5 = .ok (.invokestatic 75, 3) := by decide +kernel
theorem dX6_addSource_8 : decode cX6_addSource 8 = .ok (.ifCond .ne 9, 3) := by decide +kernel
theorem dX6_addSource_11 : decode cX6_addSource 11 = .ok (.aload_n 0, 1) := by decide +kernel
theorem dX6_addSource_12 : decode cX6_addSource 12 = .ok (.iconst 1, 1) := by decide +kernel
theorem dX6_addSource_13 : decode cX6_addSource 13 = .ok (.invokevirtual 82, 3) := by decide +kernel
theorem dX6_addSource_16 : decode cX6_addSource 16 = .ok (.ireturn, 1) := by decide +kernel
theorem dX6_addSource_17 : decode cX6_addSource 17 = .ok (.aload_n 0, 1) := by decide +kernel
theorem dX6_addSource_18 : decode cX6_addSource 18 = .ok (.getfield 72, 3) := by decide +kernel
theorem dX6_addSource_21 : decode cX6_addSource 21 = .ok (.bipush 10, 2) := by decide +kernel
theorem dX6_addSource_23 : decode cX6_addSource 23 = .ok (.if_icmp .ne 9, 3) := by decide +kernel
theorem dX6_addSource_26 : decode cX6_addSource 26 = .ok (.aload_n 0, 1) := by decide +kernel
theorem dX6_addSource_27 : decode cX6_addSource 27 = .ok (.iconst 2, 1) := by decide +kernel
theorem dX6_addSource_28 : decode cX6_addSource 28 = .ok (.invokevirtual 82, 3) := by decide +kernel
theorem dX6_addSource_31 : decode cX6_addSource 31 = .ok (.ireturn, 1) := by decide +kernel
theorem dX6_addSource_32 : decode cX6_addSource 32 = .ok (.aload_n 0, 1) := by decide +kernel
theorem dX6_addSource_33 : decode cX6_addSource 33 = .ok (.iconst 0, 1) := by decide +kernel
theorem dX6_addSource_34 : decode cX6_addSource 34 = .ok (.putfield 68, 3) := by decide +kernel
theorem dX6_addSource_37 : decode cX6_addSource 37 = .ok (.aload_n 0, 1) := by decide +kernel
theorem dX6_addSource_38 : decode cX6_addSource 38 = .ok (.getfield 7, 3) := by decide +kernel
theorem dX6_addSource_41 : decode cX6_addSource 41 = .ok (.aload_n 0, 1) := by decide +kernel
theorem dX6_addSource_42 : decode cX6_addSource 42 = .ok (.getfield 72, 3) := by decide +kernel
theorem dX6_addSource_45 : decode cX6_addSource 45 = .ok (.iconst 1, 1) := by decide +kernel
theorem dX6_addSource_46 : decode cX6_addSource 46 = .ok (.bastore, 1) := by decide +kernel
theorem dX6_addSource_47 : decode cX6_addSource 47 = .ok (.aload_n 0, 1) := by decide +kernel
theorem dX6_addSource_48 : decode cX6_addSource 48 = .ok (.getfield 13, 3) := by decide +kernel
theorem dX6_addSource_51 : decode cX6_addSource 51 = .ok (.aload_n 0, 1) := by decide +kernel
theorem dX6_addSource_52 : decode cX6_addSource 52 = .ok (.getfield 72, 3) := by decide +kernel
theorem dX6_addSource_55 : decode cX6_addSource 55 = .ok (.iload_n 1, 1) := by decide +kernel
theorem dX6_addSource_56 : decode cX6_addSource 56 = .ok (.iastore, 1) := by decide +kernel
theorem dX6_addSource_57 : decode cX6_addSource 57 = .ok (.aload_n 0, 1) := by decide +kernel
theorem dX6_addSource_58 : decode cX6_addSource 58 = .ok (.dup, 1) := by decide +kernel
theorem dX6_addSource_59 : decode cX6_addSource 59 = .ok (.getfield 72, 3) := by decide +kernel
theorem dX6_addSource_62 : decode cX6_addSource 62 = .ok (.iconst 1, 1) := by decide +kernel
theorem dX6_addSource_63 : decode cX6_addSource 63 = .ok (.iadd, 1) := by decide +kernel
theorem dX6_addSource_64 : decode cX6_addSource 64 = .ok (.putfield 72, 3) := by decide +kernel
theorem dX6_addSource_67 : decode cX6_addSource 67 = .ok (.aload_n 0, 1) := by decide +kernel
theorem dX6_addSource_68 : decode cX6_addSource 68 = .ok (.getfield 72, 3) := by decide +kernel
theorem dX6_addSource_71 : decode cX6_addSource 71 = .ok (.iconst 1, 1) := by decide +kernel
theorem dX6_addSource_72 : decode cX6_addSource 72 = .ok (.isub, 1) := by decide +kernel
theorem dX6_addSource_73 : decode cX6_addSource 73 = .ok (.ireturn, 1) := by decide +kernel
set_option maxRecDepth 20000 in
theorem ggX6_addBus_X6_in : GoodIn wsX6_addBus wsX6_in := goodIn_r _ [8] (by decide +kernel) (by decide +kernel)
set_option maxRecDepth 20000 in
theorem gX6_addBus_X6_in : GoodIn wsX6_addBus (va_wsS RX6 75 yX6_in wsX6_in) := goodIn_app (goodIn_of _ (by decide +kernel)) ggX6_addBus_X6_in
set_option maxRecDepth 20000 in
theorem ggX6_addBus_X6_fails : GoodIn wsX6_addBus wsX6_fails := goodIn_r _ [12, 2, 13, 14, 15, 16, 17, 18, 19, 20, 21, 22, 23, 24, 25, 26, 27, 28, 29, 30, 31, 32, 33, 34, 35, 36, 37, 38, 39] (by decide +kernel) (by decide +kernel)
set_option maxRecDepth 20000 in
theorem gX6_addBus_X6_fails : GoodIn wsX6_addBus (wsV RX6 82 RX6 yX6_fails wsX6_fails) := goodIn_app (goodIn_of _ (by decide +kernel)) ggX6_addBus_X6_fails
theorem dX6_addBus_0 : decode cX6_addBus 0 = .ok (.iload_n 1, 1) := by decide +kernel
theorem dX6_addBus_1 : decode cX6_addBus 1 = .ok (.iconst 0, 1) := by decide +kernel
theorem dX6_addBus_2 : decode cX6_addBus 2 = .ok (.bipush 99, 2) := by decide +kernel
theorem dX6_addBus_4 : decode cX6_addBus 4 = .ok (.invokestatic 75, 3) := by decide +kernel
theorem dX6_addBus_7 : decode cX6_addBus 7 = .ok (.ifCond .eq 13, 3) := by decide +kernel
theorem dX6_addBus_10 : decode cX6_addBus 10 = .ok (.iload_n 2, 1) := by decide +kernel
theorem dX6_addBus_11 : decode cX6_addBus 11 = .ok (.iconst 0, 1) := by decide +kernel
theorem dX6_addBus_12 : decode cX6_addBus 12 = .ok (.bipush 9, 2) := by decide +kernel
theorem dX6_addBus_14 : decode cX6_addBus 14 = .ok (.invokestatic 75, 3) := by decide +kernel
theorem dX6_addBus_17 : decode cX6_addBus 17 = .ok (.ifCond .ne 9, 3) := by decide +kernel
theorem dX6_addBus_20 : decode cX6_addBus 20 = .ok (.aload_n 0, 1) := by decide +kernel
theorem dX6_addBus_21 : decode cX6_addBus 21 = .ok (.iconst 1, 1) := by decide +kernel
theorem dX6_addBus_22 : decode cX6_addBus 22 = .ok (.invokevirtual 82, 3) := by decide +kernel
theorem dX6_addBus_25 : decode cX6_addBus 25 = .ok (.ireturn, 1) := by decide +kernel
theorem dX6_addBus_26 : decode cX6_addBus 26 = .ok (.aload_n 0, 1) := by decide +kernel
theorem dX6_addBus_27 : decode cX6_addBus 27 = .ok (.getfield 72, 3) := by decide +kernel
theorem dX6_addBus_30 : decode cX6_addBus 30 = .ok (.bipush 10, 2) := by decide +kernel
theorem dX6_addBus_32 : decode cX6_addBus 32 = .ok (.if_icmp .ne 9, 3) := by decide +kernel
theorem dX6_addBus_35 : decode cX6_addBus 35 = .ok (.aload_n 0, 1) := by decide +kernel
theorem dX6_addBus_36 : decode cX6_addBus 36 = .ok (.iconst 2, 1) := by decide +kernel
theorem dX6_addBus_37 : decode cX6_addBus 37 = .ok (.invokevirtual 82, 3) := by decide +kernel
theorem dX6_addBus_40 : decode cX6_addBus 40 = .ok (.ireturn, 1) := by decide +kernel
theorem dX6_addBus_41 : decode cX6_addBus 41 = .ok (.aload_n 0, 1) := by decide +kernel
theorem dX6_addBus_42 : decode cX6_addBus 42 = .ok (.iconst 0, 1) := by decide +kernel
theorem dX6_addBus_43 : decode cX6_addBus 43 = .ok (.putfield 68, 3) := by decide +kernel
theorem dX6_addBus_46 : decode cX6_addBus 46 = .ok (.aload_n 0, 1) := by decide +kernel
theorem dX6_addBus_47 : decode cX6_addBus 47 = .ok (.getfield 17, 3) := by decide +kernel
theorem dX6_addBus_50 : decode cX6_addBus 50 = .ok (.aload_n 0, 1) := by decide +kernel
theorem dX6_addBus_51 : decode cX6_addBus 51 = .ok (.getfield 72, 3) := by decide +kernel
theorem dX6_addBus_54 : decode cX6_addBus 54 = .ok (.iload_n 1, 1) := by decide +kernel
theorem dX6_addBus_55 : decode cX6_addBus 55 = .ok (.iastore, 1) := by decide +kernel
theorem dX6_addBus_56 : decode cX6_addBus 56 = .ok (.aload_n 0, 1) := by decide +kernel
theorem dX6_addBus_57 : decode cX6_addBus 57 = .ok (.getfield 20, 3) := by decide +kernel
theorem dX6_addBus_60 : decode cX6_addBus 60 = .ok (.aload_n 0, 1) := by decide +kernel
theorem dX6_addBus_61 : decode cX6_addBus 61 = .ok (.getfield 72, 3) := by decide +kernel
theorem dX6_addBus_64 : decode cX6_addBus 64 = .ok (.iload_n 2, 1) := by decide +kernel
theorem dX6_addBus_65 : decode cX6_addBus 65 = .ok (.iastore, 1) := by decide +kernel
theorem dX6_addBus_66 : decode cX6_addBus 66 = .ok (.aload_n 0, 1) := by decide +kernel
theorem dX6_addBus_67 : decode cX6_addBus 67 = .ok (.dup, 1) := by decide +kernel
theorem dX6_addBus_68 : decode cX6_addBus 68 = .ok (.getfield 72, 3) := by decide +kernel
theorem dX6_addBus_71 : decode cX6_addBus 71 = .ok (.iconst 1, 1) := by decide +kernel
theorem dX6_addBus_72 : decode cX6_addBus 72 = .ok (.iadd, 1) := by decide +kernel
theorem dX6_addBus_73 : decode cX6_addBus 73 = .ok (.putfield 72, 3) := by decide +kernel
theorem dX6_addBus_76 : decode cX6_addBus 76 = .ok (.aload_n 0, 1) := by decide +kernel
theorem dX6_addBus_77 : decode cX6_addBus 77 = .ok (.getfield 72, 3) := by decide +kernel
theorem dX6_addBus_80 : decode cX6_addBus 80 = .ok (.iconst 1, 1) := by decide +kernel
theorem dX6_addBus_81 : decode cX6_addBus 81 = .ok (.isub, 1) := by decide +kernel
theorem dX6_addBus_82 : decode cX6_addBus 82 = .ok (.ireturn, 1) := by decide +kernel
set_option maxRecDepth 20000 in
theorem ggX6_addLine_X6_isNode : GoodIn wsX6_addLine wsX6_isNode := goodIn_r _ [13, 14, 15, 16, 12, 17, 22, 23, 24, 25, 26, 27, 28, 29, 30, 31, 32, 33, 34, 35, 36, 37, 38, 39, 40, 41, 42, 43, 44, 45, 46, 47, 48] (by decide +kernel) (by decide +kernel)
set_option maxRecDepth 20000 in
theorem gX6_addLine_X6_isNode : GoodIn wsX6_addLine (wsV RX6 86 RX6 yX6_isNode wsX6_isNode) := goodIn_app (goodIn_of _ (by decide +kernel)) ggX6_addLine_X6_isNode
set_option maxRecDepth 20000 in
theorem ggX6_addLine_X6_fails : GoodIn wsX6_addLine wsX6_fails := goodIn_r _ [21, 2, 22, 23, 24, 25, 26, 27, 28, 29, 30, 31, 32, 33, 34, 35, 36, 37, 38, 39, 40, 41, 42, 43, 44, 45, 46, 47, 48] (by decide +kernel) (by decide +kernel)
set_option maxRecDepth 20000 in
theorem gX6_addLine_X6_fails : GoodIn wsX6_addLine (wsV RX6 82 RX6 yX6_fails wsX6_fails) := goodIn_app (goodIn_of _ (by decide +kernel)) ggX6_addLine_X6_fails
set_option maxRecDepth 20000 in
theorem ggX6_addLine_X6_in : GoodIn wsX6_addLine wsX6_in := goodIn_r _ [17] (by decide +kernel) (by decide +kernel)
set_option maxRecDepth 20000 in
theorem gX6_addLine_X6_in : GoodIn wsX6_addLine (va_wsS RX6 75 yX6_in wsX6_in) := goodIn_app (goodIn_of _ (by decide +kernel)) ggX6_addLine_X6_in
theorem dX6_addLine_0 : decode cX6_addLine 0 = .ok (.aload_n 0, 1) := by decide +kernel
theorem dX6_addLine_1 : decode cX6_addLine 1 = .ok (.iload_n 1, 1) := by decide +kernel
theorem dX6_addLine_2 : decode cX6_addLine 2 = .ok (.invokevirtual 86, 3) := by decide +kernel
theorem dX6_addLine_5 : decode cX6_addLine 5 = .ok (.ifCond .eq 11, 3) := by decide +kernel
theorem dX6_addLine_8 : decode cX6_addLine 8 = .ok (.aload_n 0, 1) := by decide +kernel
theorem dX6_addLine_9 : decode cX6_addLine 9 = .ok (.iload_n 2, 1) := by decide +kernel
theorem dX6_addLine_10 : decode cX6_addLine 10 = .ok (.invokevirtual 86, 3) := by decide +kernel
theorem dX6_addLine_13 : decode cX6_addLine 13 = .ok (.ifCond .ne 9, 3) := by decide +kernel
theorem dX6_addLine_16 : decode cX6_addLine 16 = .ok (.aload_n 0, 1) := by decide +kernel
theorem dX6_addLine_17 : decode cX6_addLine 17 = .ok (.iconst 1, 1) := by decide +kernel
theorem dX6_addLine_18 : decode cX6_addLine 18 = .ok (.invokevirtual 82, 3) := by decide +kernel
theorem dX6_addLine_21 : decode cX6_addLine 21 = .ok (.ireturn, 1) := by decide +kernel
theorem dX6_addLine_22 : decode cX6_addLine 22 = .ok (.iload_n 1, 1) := by decide +kernel
theorem dX6_addLine_23 : decode cX6_addLine 23 = .ok (.iload_n 2, 1) := by decide +kernel
theorem dX6_addLine_24 : decode cX6_addLine 24 = .ok (.if_icmp .eq 14, 3) := by decide +kernel
theorem dX6_addLine_27 : decode cX6_addLine 27 = .ok (.iload_n 3, 1) := by decide +kernel
theorem dX6_addLine_28 : decode cX6_addLine 28 = .ok (.iconst 1, 1) := by decide +kernel
theorem dX6_addLine_29 : decode cX6_addLine 29 = .ok (.sipush 999, 3) := by decide +kernel
theorem dX6_addLine_32 : decode cX6_addLine 32 = .ok (.invokestatic 75, 3) := by decide +kernel
theorem dX6_addLine_35 : decode cX6_addLine 35 = .ok (.ifCond .ne 9, 3) := by decide +kernel
theorem dX6_addLine_38 : decode cX6_addLine 38 = .ok (.aload_n 0, 1) := by decide +kernel
theorem dX6_addLine_39 : decode cX6_addLine 39 = .ok (.iconst 2, 1) := by decide +kernel
theorem dX6_addLine_40 : decode cX6_addLine 40 = .ok (.invokevirtual 82, 3) := by decide +kernel
theorem dX6_addLine_43 : decode cX6_addLine 43 = .ok (.ireturn, 1) := by decide +kernel
theorem dX6_addLine_44 : decode cX6_addLine 44 = .ok (.aload_n 0, 1) := by decide +kernel
theorem dX6_addLine_45 : decode cX6_addLine 45 = .ok (.getfield 79, 3) := by decide +kernel
theorem dX6_addLine_48 : decode cX6_addLine 48 = .ok (.bipush 12, 2) := by decide +kernel
theorem dX6_addLine_50 : decode cX6_addLine 50 = .ok (.if_icmp .ne 9, 3) := by decide +kernel
theorem dX6_addLine_53 : decode cX6_addLine 53 = .ok (.aload_n 0, 1) := by decide +kernel
theorem dX6_addLine_54 : decode cX6_addLine 54 = .ok (.iconst 3, 1) := by decide +kernel
theorem dX6_addLine_55 : decode cX6_addLine 55 = .ok (.invokevirtual 82, 3) := by decide +kernel
theorem dX6_addLine_58 : decode cX6_addLine 58 = .ok (.ireturn, 1) := by decide +kernel
theorem dX6_addLine_59 : decode cX6_addLine 59 = .ok (.aload_n 0, 1) := by decide +kernel
theorem dX6_addLine_60 : decode cX6_addLine 60 = .ok (.iconst 0, 1) := by decide +kernel
theorem dX6_addLine_61 : decode cX6_addLine 61 = .ok (.putfield 68, 3) := by decide +kernel
theorem dX6_addLine_64 : decode cX6_addLine 64 = .ok (.aload_n 0, 1) := by decide +kernel
theorem dX6_addLine_65 : decode cX6_addLine 65 = .ok (.getfield 23, 3) := by decide +kernel
theorem dX6_addLine_68 : decode cX6_addLine 68 = .ok (.aload_n 0, 1) := by decide +kernel
theorem dX6_addLine_69 : decode cX6_addLine 69 = .ok (.getfield 79, 3) := by decide +kernel
theorem dX6_addLine_72 : decode cX6_addLine 72 = .ok (.iload_n 1, 1) := by decide +kernel
theorem dX6_addLine_73 : decode cX6_addLine 73 = .ok (.iastore, 1) := by decide +kernel
theorem dX6_addLine_74 : decode cX6_addLine 74 = .ok (.aload_n 0, 1) := by decide +kernel
theorem dX6_addLine_75 : decode cX6_addLine 75 = .ok (.getfield 26, 3) := by decide +kernel
theorem dX6_addLine_78 : decode cX6_addLine 78 = .ok (.aload_n 0, 1) := by decide +kernel
theorem dX6_addLine_79 : decode cX6_addLine 79 = .ok (.getfield 79, 3) := by decide +kernel
theorem dX6_addLine_82 : decode cX6_addLine 82 = .ok (.iload_n 2, 1) := by decide +kernel
theorem dX6_addLine_83 : decode cX6_addLine 83 = .ok (.iastore, 1) := by decide +kernel
theorem dX6_addLine_84 : decode cX6_addLine 84 = .ok (.aload_n 0, 1) := by decide +kernel
theorem dX6_addLine_85 : decode cX6_addLine 85 = .ok (.getfield 29, 3) := by decide +kernel
theorem dX6_addLine_88 : decode cX6_addLine 88 = .ok (.aload_n 0, 1) := by decide +kernel
theorem dX6_addLine_89 : decode cX6_addLine 89 = .ok (.getfield 79, 3) := by decide +kernel
theorem dX6_addLine_92 : decode cX6_addLine 92 = .ok (.iload_n 3, 1) := by decide +kernel
theorem dX6_addLine_93 : decode cX6_addLine 93 = .ok (.iastore, 1) := by decide +kernel
theorem dX6_addLine_94 : decode cX6_addLine 94 = .ok (.aload_n 0, 1) := by decide +kernel
theorem dX6_addLine_95 : decode cX6_addLine 95 = .ok (.getfield 41, 3) := by decide +kernel
theorem dX6_addLine_98 : decode cX6_addLine 98 = .ok (.aload_n 0, 1) := by decide +kernel
theorem dX6_addLine_99 : decode cX6_addLine 99 = .ok (.getfield 79, 3) := by decide +kernel
theorem dX6_addLine_102 : decode cX6_addLine 102 = .ok (.iload 4, 2) := by decide +kernel
theorem dX6_addLine_104 : decode cX6_addLine 104 = .ok (.bastore, 1) := by decide +kernel
theorem dX6_addLine_105 : decode cX6_addLine 105 = .ok (.aload_n 0, 1) := by decide +kernel
theorem dX6_addLine_106 : decode cX6_addLine 106 = .ok (.getfield 32, 3) := by decide +kernel
theorem dX6_addLine_109 : decode cX6_addLine 109 = .ok (.aload_n 0, 1) := by decide +kernel
theorem dX6_addLine_110 : decode cX6_addLine 110 = .ok (.getfield 79, 3) := by decide +kernel
theorem dX6_addLine_113 : decode cX6_addLine 113 = .ok (.iload_n 3, 1) := by decide +kernel
theorem dX6_addLine_114 : decode cX6_addLine 114 = .ok (.iastore, 1) := by decide +kernel
theorem dX6_addLine_115 : decode cX6_addLine 115 = .ok (.aload_n 0, 1) := by decide +kernel
theorem dX6_addLine_116 : decode cX6_addLine 116 = .ok (.getfield 35, 3) := by decide +kernel
theorem dX6_addLine_119 : decode cX6_addLine 119 = .ok (.aload_n 0, 1) := by decide +kernel
theorem dX6_addLine_120 : decode cX6_addLine 120 = .ok (.getfield 79, 3) := by decide +kernel
theorem dX6_addLine_123 : decode cX6_addLine 123 = .ok (.iconst 1, 1) := by decide +kernel
theorem dX6_addLine_124 : decode cX6_addLine 124 = .ok (.iastore, 1) := by decide +kernel
theorem dX6_addLine_125 : decode cX6_addLine 125 = .ok (.aload_n 0, 1) := by decide +kernel
theorem dX6_addLine_126 : decode cX6_addLine 126 = .ok (.dup, 1) := by decide +kernel
theorem dX6_addLine_127 : decode cX6_addLine 127 = .ok (.getfield 79, 3) := by decide +kernel
theorem dX6_addLine_130 : decode cX6_addLine 130 = .ok (.iconst 1, 1) := by decide +kernel
theorem dX6_addLine_131 : decode cX6_addLine 131 = .ok (.iadd, 1) := by decide +kernel
theorem dX6_addLine_132 : decode cX6_addLine 132 = .ok (.putfield 79, 3) := by decide +kernel
theorem dX6_addLine_135 : decode cX6_addLine 135 = .ok (.aload_n 0, 1) := by decide +kernel
theorem dX6_addLine_136 : decode cX6_addLine 136 = .ok (.getfield 79, 3) := by decide +kernel
theorem dX6_addLine_139 : decode cX6_addLine 139 = .ok (.iconst 1, 1) := by decide +kernel
theorem dX6_addLine_140 : decode cX6_addLine 140 = .ok (.isub, 1) := by decide +kernel
theorem dX6_addLine_141 : decode cX6_addLine 141 = .ok (.ireturn, 1) := by decide +kernel
theorem dX6_paints_0 : decode cX6_paints 0 = .ok (.iconst 0, 1) := by decide +kernel
theorem dX6_paints_1 : decode cX6_paints 1 = .ok (.istore_n 3, 1) := by decide +kernel
theorem dX6_paints_2 : decode cX6_paints 2 = .ok (.iload_n 3, 1) := by decide +kernel
theorem dX6_paints_3 : decode cX6_paints 3 = .ok (.aload_n 0, 1) := by decide +kernel
theorem dX6_paints_4 : decode cX6_paints 4 = .ok (.getfield 72, 3) := by decide +kernel
theorem dX6_paints_7 : decode cX6_paints 7 = .ok (.if_icmp .ge 16, 3) := by decide +kernel
theorem dX6_paints_10 : decode cX6_paints 10 = .ok (.aload_n 0, 1) := by decide +kernel
theorem dX6_paints_11 : decode cX6_paints 11 = .ok (.getfield 53, 3) := by decide +kernel
theorem dX6_paints_14 : decode cX6_paints 14 = .ok (.iload_n 3, 1) := by decide +kernel
theorem dX6_paints_15 : decode cX6_paints 15 = .ok (.iload_n 3, 1) := by decide +kernel
theorem dX6_paints_16 : decode cX6_paints 16 = .ok (.iastore, 1) := by decide +kernel
theorem dX6_paints_17 : decode cX6_paints 17 = .ok (.iinc 3 1, 3) := by decide +kernel
theorem dX6_paints_20 : decode cX6_paints 20 = .ok (.goto (-18), 3) := by decide +kernel
theorem dX6_paints_23 : decode cX6_paints 23 = .ok (.iconst 1, 1) := by decide +kernel
theorem dX6_paints_24 : decode cX6_paints 24 = .ok (.istore_n 3, 1) := by decide +kernel
theorem dX6_paints_25 : decode cX6_paints 25 = .ok (.iload_n 3, 1) := by decide +kernel
theorem dX6_paints_26 : decode cX6_paints 26 = .ok (.ifCond .eq 164, 3) := by decide +kernel
theorem dX6_paints_29 : decode cX6_paints 29 = .ok (.iconst 0, 1) := by decide +kernel
theorem dX6_paints_30 : decode cX6_paints 30 = .ok (.istore_n 3, 1) := by decide +kernel
theorem dX6_paints_31 : decode cX6_paints 31 = .ok (.iconst 0, 1) := by decide +kernel
theorem dX6_paints_32 : decode cX6_paints 32 = .ok (.istore 4, 2) := by decide +kernel
theorem dX6_paints_34 : decode cX6_paints 34 = .ok (.iload 4, 2) := by decide +kernel
theorem dX6_paints_36 : decode cX6_paints 36 = .ok (.aload_n 0, 1) := by decide +kernel
theorem dX6_paints_37 : decode cX6_paints 37 = .ok (.getfield 79, 3) := by decide +kernel
theorem dX6_paints_40 : decode cX6_paints 40 = .ok (.if_icmp .ge 147, 3) := by decide +kernel
theorem dX6_paints_43 : decode cX6_paints 43 = .ok (.iload 4, 2) := by decide +kernel
theorem dX6_paints_45 : decode cX6_paints 45 = .ok (.iload_n 1, 1) := by decide +kernel
theorem dX6_paints_46 : decode cX6_paints 46 = .ok (.if_icmp .eq 135, 3) := by decide +kernel
theorem dX6_paints_49 : decode cX6_paints 49 = .ok (.aload_n 0, 1) := by decide +kernel
theorem dX6_paints_50 : decode cX6_paints 50 = .ok (.getfield 44, 3) := by decide +kernel
theorem dX6_paints_53 : decode cX6_paints 53 = .ok (.iload 4, 2) := by decide +kernel
theorem dX6_paints_55 : decode cX6_paints 55 = .ok (.baload, 1) := by decide +kernel
theorem dX6_paints_56 : decode cX6_paints 56 = .ok (.ifCond .ne 9, 3) := by decide +kernel
theorem dX6_paints_59 : decode cX6_paints 59 = .ok (.iload 4, 2) := by decide +kernel
theorem dX6_paints_61 : decode cX6_paints 61 = .ok (.iload_n 2, 1) := by decide +kernel
theorem dX6_paints_62 : decode cX6_paints 62 = .ok (.if_icmp .ne 119, 3) := by decide +kernel
theorem dX6_paints_65 : decode cX6_paints 65 = .ok (.aload_n 0, 1) := by decide +kernel
theorem dX6_paints_66 : decode cX6_paints 66 = .ok (.getfield 53, 3) := by decide +kernel
theorem dX6_paints_69 : decode cX6_paints 69 = .ok (.aload_n 0, 1) := by decide +kernel
theorem dX6_paints_70 : decode cX6_paints 70 = .ok (.getfield 23, 3) := by decide +kernel
theorem dX6_paints_73 : decode cX6_paints 73 = .ok (.iload 4, 2) := by decide +kernel
theorem dX6_paints_75 : decode cX6_paints 75 = .ok (.iaload, 1) := by decide +kernel
theorem dX6_paints_76 : decode cX6_paints 76 = .ok (.iaload, 1) := by decide +kernel
theorem dX6_paints_77 : decode cX6_paints 77 = .ok (.aload_n 0, 1) := by decide +kernel
theorem dX6_paints_78 : decode cX6_paints 78 = .ok (.getfield 53, 3) := by decide +kernel
theorem dX6_paints_81 : decode cX6_paints 81 = .ok (.aload_n 0, 1) := by decide +kernel
theorem dX6_paints_82 : decode cX6_paints 82 = .ok (.getfield 26, 3) := by decide +kernel
theorem dX6_paints_85 : decode cX6_paints 85 = .ok (.iload 4, 2) := by decide +kernel
theorem dX6_paints_87 : decode cX6_paints 87 = .ok (.iaload, 1) := by decide +kernel
theorem dX6_paints_88 : decode cX6_paints 88 = .ok (.iaload, 1) := by decide +kernel
theorem dX6_paints_89 : decode cX6_paints 89 = .ok (.if_icmp .ne 6, 3) := by decide +kernel
theorem dX6_paints_92 : decode cX6_paints 92 = .ok (.goto 89, 3) := by decide +kernel
theorem dX6_paints_95 : decode cX6_paints 95 = .ok (.aload_n 0, 1) := by decide +kernel
theorem dX6_paints_96 : decode cX6_paints 96 = .ok (.getfield 53, 3) := by decide +kernel
theorem dX6_paints_99 : decode cX6_paints 99 = .ok (.aload_n 0, 1) := by decide +kernel
theorem dX6_paints_100 : decode cX6_paints 100 = .ok (.getfield 23, 3) := by decide +kernel
theorem dX6_paints_103 : decode cX6_paints 103 = .ok (.iload 4, 2) := by decide +kernel
theorem dX6_paints_105 : decode cX6_paints 105 = .ok (.iaload, 1) := by decide +kernel
theorem dX6_paints_106 : decode cX6_paints 106 = .ok (.iaload, 1) := by decide +kernel
theorem dX6_paints_107 : decode cX6_paints 107 = .ok (.aload_n 0, 1) := by decide +kernel
theorem dX6_paints_108 : decode cX6_paints 108 = .ok (.getfield 53, 3) := by decide +kernel
theorem dX6_paints_111 : decode cX6_paints 111 = .ok (.aload_n 0, 1) := by decide +kernel
theorem dX6_paints_112 : decode cX6_paints 112 = .ok (.getfield 26, 3) := by decide +kernel
theorem dX6_paints_115 : decode cX6_paints 115 = .ok (.iload 4, 2) := by decide +kernel
theorem dX6_paints_117 : decode cX6_paints 117 = .ok (.iaload, 1) := by decide +kernel
theorem dX6_paints_118 : decode cX6_paints 118 = .ok (.iaload, 1) := by decide +kernel
theorem dX6_paints_119 : decode cX6_paints 119 = .ok (.if_icmp .ge 18, 3) := by decide +kernel
theorem dX6_paints_122 : decode cX6_paints 122 = .ok (.aload_n 0, 1) := by decide +kernel
theorem dX6_paints_123 : decode cX6_paints 123 = .ok (.getfield 53, 3) := by decide +kernel
theorem dX6_paints_126 : decode cX6_paints 126 = .ok (.aload_n 0, 1) := by decide +kernel
theorem dX6_paints_127 : decode cX6_paints 127 = .ok (.getfield 23, 3) := by decide +kernel
theorem dX6_paints_130 : decode cX6_paints 130 = .ok (.iload 4, 2) := by decide +kernel
theorem dX6_paints_132 : decode cX6_paints 132 = .ok (.iaload, 1) := by decide +kernel
theorem dX6_paints_133 : decode cX6_paints 133 = .ok (.iaload, 1) := by decide +kernel
theorem dX6_paints_134 : decode cX6_paints 134 = .ok (.goto 15, 3) := by decide +kernel
theorem dX6_paints_137 : decode cX6_paints 137 = .ok (.aload_n 0, 1) := by decide +kernel
theorem dX6_paints_138 : decode cX6_paints 138 = .ok (.getfield 53, 3) := by decide +kernel
theorem dX6_paints_141 : decode cX6_paints 141 = .ok (.aload_n 0, 1) := by decide +kernel
theorem dX6_paints_142 : decode cX6_paints 142 = .ok (.getfield 26, 3) := by decide +kernel
theorem dX6_paints_145 : decode cX6_paints 145 = .ok (.iload 4, 2) := by decide +kernel
theorem dX6_paints_147 : decode cX6_paints 147 = .ok (.iaload, 1) := by decide +kernel
theorem dX6_paints_148 : decode cX6_paints 148 = .ok (.iaload, 1) := by decide +kernel
theorem dX6_paints_149 : decode cX6_paints 149 = .ok (.istore 5, 2) := by decide +kernel
theorem dX6_paints_151 : decode cX6_paints 151 = .ok (.aload_n 0, 1) := by decide +kernel
theorem dX6_paints_152 : decode cX6_paints 152 = .ok (.getfield 53, 3) := by decide +kernel
theorem dX6_paints_155 : decode cX6_paints 155 = .ok (.aload_n 0, 1) := by decide +kernel
theorem dX6_paints_156 : decode cX6_paints 156 = .ok (.getfield 23, 3) := by decide +kernel
theorem dX6_paints_159 : decode cX6_paints 159 = .ok (.iload 4, 2) := by decide +kernel
theorem dX6_paints_161 : decode cX6_paints 161 = .ok (.iaload, 1) := by decide +kernel
theorem dX6_paints_162 : decode cX6_paints 162 = .ok (.iload 5, 2) := by decide +kernel
theorem dX6_paints_164 : decode cX6_paints 164 = .ok (.iastore, 1) := by decide +kernel
theorem dX6_paints_165 : decode cX6_paints 165 = .ok (.aload_n 0, 1) := by decide +kernel
theorem dX6_paints_166 : decode cX6_paints 166 = .ok (.getfield 53, 3) := by decide +kernel
theorem dX6_paints_169 : decode cX6_paints 169 = .ok (.aload_n 0, 1) := by decide +kernel
theorem dX6_paints_170 : decode cX6_paints 170 = .ok (.getfield 26, 3) := by decide +kernel
theorem dX6_paints_173 : decode cX6_paints 173 = .ok (.iload 4, 2) := by decide +kernel
theorem dX6_paints_175 : decode cX6_paints 175 = .ok (.iaload, 1) := by decide +kernel
theorem dX6_paints_176 : decode cX6_paints 176 = .ok (.iload 5, 2) := by decide +kernel
theorem dX6_paints_178 : decode cX6_paints 178 = .ok (.iastore, 1) := by decide +kernel
theorem dX6_paints_179 : decode cX6_paints 179 = .ok (.iconst 1, 1) := by decide +kernel
theorem dX6_paints_180 : decode cX6_paints 180 = .ok (.istore_n 3, 1) := by decide +kernel
theorem dX6_paints_181 : decode cX6_paints 181 = .ok (.iinc 4 1, 3) := by decide +kernel
theorem dX6_paints_184 : decode cX6_paints 184 = .ok (.goto (-150), 3) := by decide +kernel
theorem dX6_paints_187 : decode cX6_paints 187 = .ok (.goto (-162), 3) := by decide +kernel
theorem dX6_paints_190 : decode cX6_paints 190 = .ok (.return_, 1) := by decide +kernel
theorem dX6_source_0 : decode cX6_source 0 = .ok (.iconst 0, 1) := by decide +kernel
theorem dX6_source_1 : decode cX6_source 1 = .ok (.istore_n 2, 1) := by decide +kernel
theorem dX6_source_2 : decode cX6_source 2 = .ok (.iload_n 2, 1) := by decide +kernel
theorem dX6_source_3 : decode cX6_source 3 = .ok (.aload_n 0, 1) := by decide +kernel
theorem dX6_source_4 : decode cX6_source 4 = .ok (.getfield 72, 3) := by decide +kernel
theorem dX6_source_7 : decode cX6_source 7 = .ok (.if_icmp .ge 30, 3) := by decide +kernel
theorem dX6_source_10 : decode cX6_source 10 = .ok (.aload_n 0, 1) := by decide +kernel
theorem dX6_source_11 : decode cX6_source 11 = .ok (.getfield 7, 3) := by decide +kernel
theorem dX6_source_14 : decode cX6_source 14 = .ok (.iload_n 2, 1) := by decide +kernel
theorem dX6_source_15 : decode cX6_source 15 = .ok (.baload, 1) := by decide +kernel
theorem dX6_source_16 : decode cX6_source 16 = .ok (.ifCond .eq 15, 3) := by decide +kernel
theorem dX6_source_19 : decode cX6_source 19 = .ok (.aload_n 0, 1) := by decide +kernel
theorem dX6_source_20 : decode cX6_source 20 = .ok (.getfield 53, 3) := by decide +kernel
theorem dX6_source_23 : decode cX6_source 23 = .ok (.iload_n 2, 1) := by decide +kernel
theorem dX6_source_24 : decode cX6_source 24 = .ok (.iaload, 1) := by decide +kernel
theorem dX6_source_25 : decode cX6_source 25 = .ok (.iload_n 1, 1) := by decide +kernel
theorem dX6_source_26 : decode cX6_source 26 = .ok (.if_icmp .ne 5, 3) := by decide +kernel
theorem dX6_source_29 : decode cX6_source 29 = .ok (.iload_n 2, 1) := by decide +kernel
theorem dX6_source_30 : decode cX6_source 30 = .ok (.ireturn, 1) := by decide +kernel
theorem dX6_source_31 : decode cX6_source 31 = .ok (.iinc 2 1, 3) := by decide +kernel
theorem dX6_source_34 : decode cX6_source 34 = .ok (.goto (-32), 3) := by decide +kernel
theorem dX6_source_37 : decode cX6_source 37 = .ok (.iconst (-1), 1) := by decide +kernel
theorem dX6_source_38 : decode cX6_source 38 = .ok (.ireturn, 1) := by decide +kernel
theorem dX6_sum_0 : decode cX6_sum 0 = .ok (.iconst 0, 1) := by decide +kernel
theorem dX6_sum_1 : decode cX6_sum 1 = .ok (.istore_n 2, 1) := by decide +kernel
theorem dX6_sum_2 : decode cX6_sum 2 = .ok (.iconst 0, 1) := by decide +kernel
theorem dX6_sum_3 : decode cX6_sum 3 = .ok (.istore_n 3, 1) := by decide +kernel
theorem dX6_sum_4 : decode cX6_sum 4 = .ok (.iload_n 3, 1) := by decide +kernel
theorem dX6_sum_5 : decode cX6_sum 5 = .ok (.aload_n 0, 1) := by decide +kernel
theorem dX6_sum_6 : decode cX6_sum 6 = .ok (.getfield 72, 3) := by decide +kernel
theorem dX6_sum_9 : decode cX6_sum 9 = .ok (.if_icmp .ge 32, 3) := by decide +kernel
theorem dX6_sum_12 : decode cX6_sum 12 = .ok (.iload_n 2, 1) := by decide +kernel
theorem dX6_sum_13 : decode cX6_sum 13 = .ok (.aload_n 0, 1) := by decide +kernel
theorem dX6_sum_14 : decode cX6_sum 14 = .ok (.getfield 53, 3) := by decide +kernel
theorem dX6_sum_17 : decode cX6_sum 17 = .ok (.iload_n 3, 1) := by decide +kernel
theorem dX6_sum_18 : decode cX6_sum 18 = .ok (.iaload, 1) := by decide +kernel
theorem dX6_sum_19 : decode cX6_sum 19 = .ok (.iload_n 1, 1) := by decide +kernel
theorem dX6_sum_20 : decode cX6_sum 20 = .ok (.if_icmp .ne 12, 3) := by decide +kernel
theorem dX6_sum_23 : decode cX6_sum 23 = .ok (.aload_n 0, 1) := by decide +kernel
theorem dX6_sum_24 : decode cX6_sum 24 = .ok (.getfield 17, 3) := by decide +kernel
theorem dX6_sum_27 : decode cX6_sum 27 = .ok (.iload_n 3, 1) := by decide +kernel
theorem dX6_sum_28 : decode cX6_sum 28 = .ok (.iaload, 1) := by decide +kernel
theorem dX6_sum_29 : decode cX6_sum 29 = .ok (.goto 4, 3) := by decide +kernel
theorem dX6_sum_32 : decode cX6_sum 32 = .ok (.iconst 0, 1) := by decide +kernel
theorem dX6_sum_33 : decode cX6_sum 33 = .ok (.iadd, 1) := by decide +kernel
theorem dX6_sum_34 : decode cX6_sum 34 = .ok (.istore_n 2, 1) := by decide +kernel
theorem dX6_sum_35 : decode cX6_sum 35 = .ok (.iinc 3 1, 3) := by decide +kernel
theorem dX6_sum_38 : decode cX6_sum 38 = .ok (.goto (-34), 3) := by decide +kernel
theorem dX6_sum_41 : decode cX6_sum 41 = .ok (.iload_n 2, 1) := by decide +kernel
theorem dX6_sum_42 : decode cX6_sum 42 = .ok (.ireturn, 1) := by decide +kernel
set_option maxRecDepth 20000 in
theorem ggX6_flow_X6_paints : GoodIn wsX6_flow wsX6_paints := goodIn_ca (goodIn_r _ [8, 9, 1, 10, 11, 2, 3, 22, 23, 24, 25, 26, 27, 28, 29, 30, 31, 32, 33, 34, 35, 36, 37, 38, 39, 40, 41, 42, 43, 44, 45, 46, 47, 48] (by decide +kernel) (by decide +kernel)) (goodIn_sub (fun _ h => List.mem_cons_of_mem _ (List.mem_append_right _ h)) (by decide +kernel))
set_option maxRecDepth 20000 in
theorem gX6_flow_X6_paints : GoodIn wsX6_flow (wsV RX6 90 RX6 yX6_paints wsX6_paints) := goodIn_app (goodIn_of _ (by decide +kernel)) ggX6_flow_X6_paints
set_option maxRecDepth 20000 in
theorem ggX6_flow_X6_source : GoodIn wsX6_flow wsX6_source := goodIn_ca (goodIn_r _ [15, 9, 16, 1, 22, 23, 24, 25, 26, 27, 28, 29, 30, 31, 32, 33, 34, 35, 36, 37, 38, 39, 40, 41, 42, 43, 44, 45, 46, 47, 48] (by decide +kernel) (by decide +kernel)) (goodIn_sub (fun _ h => List.mem_cons_of_mem _ (List.mem_append_right _ h)) (by decide +kernel))
set_option maxRecDepth 20000 in
theorem gX6_flow_X6_source : GoodIn wsX6_flow (wsV RX6 94 RX6 yX6_source wsX6_source) := goodIn_app (goodIn_of _ (by decide +kernel)) ggX6_flow_X6_source
set_option maxRecDepth 20000 in
theorem ggX6_flow_X6_sum : GoodIn wsX6_flow wsX6_sum := goodIn_ca (goodIn_r _ [20, 9, 1, 21, 22, 23, 24, 25, 26, 27, 28, 29, 30, 31, 32, 33, 34, 35, 36, 37, 38, 39, 40, 41, 42, 43, 44, 45, 46, 47, 48] (by decide +kernel) (by decide +kernel)) (goodIn_sub (fun _ h => List.mem_cons_of_mem _ (List.mem_append_right _ h)) (by decide +kernel))
set_option maxRecDepth 20000 in
theorem gX6_flow_X6_sum : GoodIn wsX6_flow (wsV RX6 97 RX6 yX6_sum wsX6_sum) := goodIn_app (goodIn_of _ (by decide +kernel)) ggX6_flow_X6_sum
theorem dX6_flow_0 : decode cX6_flow 0 = .ok (.aload_n 0, 1) := by decide +kernel
theorem dX6_flow_1 : decode cX6_flow 1 = .ok (.iload_n 1, 1) := by decide +kernel
theorem dX6_flow_2 : decode cX6_flow 2 = .ok (.iload_n 2, 1) := by decide +kernel
theorem dX6_flow_3 : decode cX6_flow 3 = .ok (.invokevirtual 90, 3) := by decide +kernel
theorem dX6_flow_6 : decode cX6_flow 6 = .ok (.aload_n 0, 1) := by decide +kernel
theorem dX6_flow_7 : decode cX6_flow 7 = .ok (.aload_n 0, 1) := by decide +kernel
theorem dX6_flow_8 : decode cX6_flow 8 = .ok (.getfield 53, 3) := by decide +kernel
theorem dX6_flow_11 : decode cX6_flow 11 = .ok (.aload_n 0, 1) := by decide +kernel
theorem dX6_flow_12 : decode cX6_flow 12 = .ok (.getfield 23, 3) := by decide +kernel
theorem dX6_flow_15 : decode cX6_flow 15 = .ok (.iload_n 1, 1) := by decide +kernel
theorem dX6_flow_16 : decode cX6_flow 16 = .ok (.iaload, 1) := by decide +kernel
theorem dX6_flow_17 : decode cX6_flow 17 = .ok (.iaload, 1) := by decide +kernel
theorem dX6_flow_18 : decode cX6_flow 18 = .ok (.invokevirtual 94, 3) := by decide +kernel
theorem dX6_flow_21 : decode cX6_flow 21 = .ok (.iconst (-1), 1) := by decide +kernel
theorem dX6_flow_22 : decode cX6_flow 22 = .ok (.if_icmp .eq 21, 3) := by decide +kernel
theorem dX6_flow_25 : decode cX6_flow 25 = .ok (.aload_n 0, 1) := by decide +kernel
theorem dX6_flow_26 : decode cX6_flow 26 = .ok (.aload_n 0, 1) := by decide +kernel
theorem dX6_flow_27 : decode cX6_flow 27 = .ok (.getfield 53, 3) := by decide +kernel
theorem dX6_flow_30 : decode cX6_flow 30 = .ok (.aload_n 0, 1) := by decide +kernel
theorem dX6_flow_31 : decode cX6_flow 31 = .ok (.getfield 26, 3) := by decide +kernel
theorem dX6_flow_34 : decode cX6_flow 34 = .ok (.iload_n 1, 1) := by decide +kernel
theorem dX6_flow_35 : decode cX6_flow 35 = .ok (.iaload, 1) := by decide +kernel
theorem dX6_flow_36 : decode cX6_flow 36 = .ok (.iaload, 1) := by decide +kernel
theorem dX6_flow_37 : decode cX6_flow 37 = .ok (.invokevirtual 97, 3) := by decide +kernel
theorem dX6_flow_40 : decode cX6_flow 40 = .ok (.goto 41, 3) := by decide +kernel
theorem dX6_flow_43 : decode cX6_flow 43 = .ok (.aload_n 0, 1) := by decide +kernel
theorem dX6_flow_44 : decode cX6_flow 44 = .ok (.aload_n 0, 1) := by decide +kernel
theorem dX6_flow_45 : decode cX6_flow 45 = .ok (.getfield 53, 3) := by decide +kernel
theorem dX6_flow_48 : decode cX6_flow 48 = .ok (.aload_n 0, 1) := by decide +kernel
theorem dX6_flow_49 : decode cX6_flow 49 = .ok (.getfield 26, 3) := by decide +kernel
theorem dX6_flow_52 : decode cX6_flow 52 = .ok (.iload_n 1, 1) := by decide +kernel
theorem dX6_flow_53 : decode cX6_flow 53 = .ok (.iaload, 1) := by decide +kernel
theorem dX6_flow_54 : decode cX6_flow 54 = .ok (.iaload, 1) := by decide +kernel
theorem dX6_flow_55 : decode cX6_flow 55 = .ok (.invokevirtual 94, 3) := by decide +kernel
theorem dX6_flow_58 : decode cX6_flow 58 = .ok (.iconst (-1), 1) := by decide +kernel
theorem dX6_flow_59 : decode cX6_flow 59 = .ok (.if_icmp .eq 21, 3) := by decide +kernel
theorem dX6_flow_62 : decode cX6_flow 62 = .ok (.aload_n 0, 1) := by decide +kernel
theorem dX6_flow_63 : decode cX6_flow 63 = .ok (.aload_n 0, 1) := by decide +kernel
theorem dX6_flow_64 : decode cX6_flow 64 = .ok (.getfield 53, 3) := by decide +kernel
theorem dX6_flow_67 : decode cX6_flow 67 = .ok (.aload_n 0, 1) := by decide +kernel
theorem dX6_flow_68 : decode cX6_flow 68 = .ok (.getfield 23, 3) := by decide +kernel
theorem dX6_flow_71 : decode cX6_flow 71 = .ok (.iload_n 1, 1) := by decide +kernel
theorem dX6_flow_72 : decode cX6_flow 72 = .ok (.iaload, 1) := by decide +kernel
theorem dX6_flow_73 : decode cX6_flow 73 = .ok (.iaload, 1) := by decide +kernel
theorem dX6_flow_74 : decode cX6_flow 74 = .ok (.invokevirtual 97, 3) := by decide +kernel
theorem dX6_flow_77 : decode cX6_flow 77 = .ok (.goto 4, 3) := by decide +kernel
theorem dX6_flow_80 : decode cX6_flow 80 = .ok (.iconst 0, 1) := by decide +kernel
theorem dX6_flow_81 : decode cX6_flow 81 = .ok (.ireturn, 1) := by decide +kernel
set_option maxRecDepth 20000 in
theorem ggX6_flowOf_X6_flow : GoodIn wsX6_flowOf wsX6_flow := goodIn_ca (goodIn_r _ [6, 7, 8, 9, 10, 11, 12, 5, 13, 14, 15, 1, 16, 17, 18, 19, 20, 21, 22, 23, 24, 25, 26, 27, 28, 29, 30, 31, 32, 33, 34, 35, 36, 37, 38, 39, 40, 41, 42, 43, 44, 45, 46, 47, 48, 49, 50, 51, 52] (by decide +kernel) (by decide +kernel)) (goodIn_sub (fun _ h => List.mem_cons_of_mem _ (List.mem_append_right _ h)) (by decide +kernel))
set_option maxRecDepth 20000 in
theorem gX6_flowOf_X6_flow : GoodIn wsX6_flowOf (wsV RX6 100 RX6 yX6_flow wsX6_flow) := goodIn_app (goodIn_of _ (by decide +kernel)) ggX6_flowOf_X6_flow
theorem dX6_flowOf_0 : decode cX6_flowOf 0 = .ok (.aload_n 0, 1) := by decide +kernel
theorem dX6_flowOf_1 : decode cX6_flowOf 1 = .ok (.getfield 44, 3) := by decide +kernel
theorem dX6_flowOf_4 : decode cX6_flowOf 4 = .ok (.iload_n 1, 1) := by decide +kernel
theorem dX6_flowOf_5 : decode cX6_flowOf 5 = .ok (.baload, 1) := by decide +kernel
theorem dX6_flowOf_6 : decode cX6_flowOf 6 = .ok (.ifCond .eq 12, 3) := by decide +kernel
theorem dX6_flowOf_9 : decode cX6_flowOf 9 = .ok (.aload_n 0, 1) := by decide +kernel
theorem dX6_flowOf_10 : decode cX6_flowOf 10 = .ok (.iload_n 1, 1) := by decide +kernel
theorem dX6_flowOf_11 : decode cX6_flowOf 11 = .ok (.iconst (-1), 1) := by decide +kernel
theorem dX6_flowOf_12 : decode cX6_flowOf 12 = .ok (.invokevirtual 100, 3) := by decide +kernel
theorem dX6_flowOf_15 : decode cX6_flowOf 15 = .ok (.goto 4, 3) := by decide +kernel
theorem dX6_flowOf_18 : decode cX6_flowOf 18 = .ok (.iconst 0, 1) := by decide +kernel
theorem dX6_flowOf_19 : decode cX6_flowOf 19 = .ok (.ireturn, 1) := by decide +kernel
set_option maxRecDepth 20000 in
theorem ggX6_tooMuch_X6_flow : GoodIn wsX6_tooMuch wsX6_flow := goodIn_ca (goodIn_r _ [8, 9, 10, 11, 12, 13, 14, 7, 15, 16, 1, 2, 17, 18, 19, 20, 21, 22, 23, 24, 25, 26, 27, 28, 29, 30, 31, 32, 33, 34, 35, 36, 37, 38, 39, 40, 41, 42, 43, 44, 45, 46, 47, 48, 49, 50, 51, 52, 53] (by decide +kernel) (by decide +kernel)) (goodIn_sub (fun _ h => List.mem_cons_of_mem _ (List.mem_append_right _ h)) (by decide +kernel))
set_option maxRecDepth 20000 in
theorem gX6_tooMuch_X6_flow : GoodIn wsX6_tooMuch (wsV RX6 100 RX6 yX6_flow wsX6_flow) := goodIn_app (goodIn_of _ (by decide +kernel)) ggX6_tooMuch_X6_flow
theorem dX6_tooMuch_0 : decode cX6_tooMuch 0 = .ok (.iconst 0, 1) := by decide +kernel
theorem dX6_tooMuch_1 : decode cX6_tooMuch 1 = .ok (.istore_n 2, 1) := by decide +kernel
theorem dX6_tooMuch_2 : decode cX6_tooMuch 2 = .ok (.iload_n 2, 1) := by decide +kernel
theorem dX6_tooMuch_3 : decode cX6_tooMuch 3 = .ok (.aload_n 0, 1) := by decide +kernel
theorem dX6_tooMuch_4 : decode cX6_tooMuch 4 = .ok (.getfield 79, 3) := by decide +kernel
theorem dX6_tooMuch_7 : decode cX6_tooMuch 7 = .ok (.if_icmp .ge 40, 3) := by decide +kernel
theorem dX6_tooMuch_10 : decode cX6_tooMuch 10 = .ok (.aload_n 0, 1) := by decide +kernel
theorem dX6_tooMuch_11 : decode cX6_tooMuch 11 = .ok (.getfield 44, 3) := by decide +kernel
theorem dX6_tooMuch_14 : decode cX6_tooMuch 14 = .ok (.iload_n 2, 1) := by decide +kernel
theorem dX6_tooMuch_15 : decode cX6_tooMuch 15 = .ok (.baload, 1) := by decide +kernel
theorem dX6_tooMuch_16 : decode cX6_tooMuch 16 = .ok (.ifCond .ne 8, 3) := by decide +kernel
theorem dX6_tooMuch_19 : decode cX6_tooMuch 19 = .ok (.iload_n 2, 1) := by decide +kernel
theorem dX6_tooMuch_20 : decode cX6_tooMuch 20 = .ok (.iload_n 1, 1) := by decide +kernel
theorem dX6_tooMuch_21 : decode cX6_tooMuch 21 = .ok (.if_icmp .ne 20, 3) := by decide +kernel
theorem dX6_tooMuch_24 : decode cX6_tooMuch 24 = .ok (.aload_n 0, 1) := by decide +kernel
theorem dX6_tooMuch_25 : decode cX6_tooMuch 25 = .ok (.iload_n 2, 1) := by decide +kernel
theorem dX6_tooMuch_26 : decode cX6_tooMuch 26 = .ok (.iload_n 1, 1) := by decide +kernel
theorem dX6_tooMuch_27 : decode cX6_tooMuch 27 = .ok (.invokevirtual 100, 3) := by decide +kernel
theorem dX6_tooMuch_30 : decode cX6_tooMuch 30 = .ok (.aload_n 0, 1) := by decide +kernel
theorem dX6_tooMuch_31 : decode cX6_tooMuch 31 = .ok (.getfield 29, 3) := by decide +kernel
theorem dX6_tooMuch_34 : decode cX6_tooMuch 34 = .ok (.iload_n 2, 1) := by decide +kernel
theorem dX6_tooMuch_35 : decode cX6_tooMuch 35 = .ok (.iaload, 1) := by decide +kernel
theorem dX6_tooMuch_36 : decode cX6_tooMuch 36 = .ok (.if_icmp .le 5, 3) := by decide +kernel
theorem dX6_tooMuch_39 : decode cX6_tooMuch 39 = .ok (.iload_n 2, 1) := by decide +kernel
theorem dX6_tooMuch_40 : decode cX6_tooMuch 40 = .ok (.ireturn, 1) := by decide +kernel
theorem dX6_tooMuch_41 : decode cX6_tooMuch 41 = .ok (.iinc 2 1, 3) := by decide +kernel
theorem dX6_tooMuch_44 : decode cX6_tooMuch 44 = .ok (.goto (-42), 3) := by decide +kernel
theorem dX6_tooMuch_47 : decode cX6_tooMuch 47 = .ok (.iconst (-1), 1) := by decide +kernel
theorem dX6_tooMuch_48 : decode cX6_tooMuch 48 = .ok (.ireturn, 1) := by decide +kernel
theorem dX6_hasFaultIn_0 : decode cX6_hasFaultIn 0 = .ok (.iconst 0, 1) := by decide +kernel
theorem dX6_hasFaultIn_1 : decode cX6_hasFaultIn 1 = .ok (.istore_n 2, 1) := by decide +kernel
theorem dX6_hasFaultIn_2 : decode cX6_hasFaultIn 2 = .ok (.iload_n 2, 1) := by decide +kernel
theorem dX6_hasFaultIn_3 : decode cX6_hasFaultIn 3 = .ok (.aload_n 0, 1) := by decide +kernel
theorem dX6_hasFaultIn_4 : decode cX6_hasFaultIn 4 = .ok (.getfield 79, 3) := by decide +kernel
theorem dX6_hasFaultIn_7 : decode cX6_hasFaultIn 7 = .ok (.if_icmp .ge 44, 3) := by decide +kernel
theorem dX6_hasFaultIn_10 : decode cX6_hasFaultIn 10 = .ok (.aload_n 0, 1) := by decide +kernel
theorem dX6_hasFaultIn_11 : decode cX6_hasFaultIn 11 = .ok (.getfield 44, 3) := by decide +kernel
theorem dX6_hasFaultIn_14 : decode cX6_hasFaultIn 14 = .ok (.iload_n 2, 1) := by decide +kernel
theorem dX6_hasFaultIn_15 : decode cX6_hasFaultIn 15 = .ok (.baload, 1) := by decide +kernel
theorem dX6_hasFaultIn_16 : decode cX6_hasFaultIn 16 = .ok (.ifCond .eq 29, 3) := by decide +kernel
theorem dX6_hasFaultIn_19 : decode cX6_hasFaultIn 19 = .ok (.aload_n 0, 1) := by decide +kernel
theorem dX6_hasFaultIn_20 : decode cX6_hasFaultIn 20 = .ok (.getfield 50, 3) := by decide +kernel
theorem dX6_hasFaultIn_23 : decode cX6_hasFaultIn 23 = .ok (.iload_n 2, 1) := by decide +kernel
theorem dX6_hasFaultIn_24 : decode cX6_hasFaultIn 24 = .ok (.baload, 1) := by decide +kernel
theorem dX6_hasFaultIn_25 : decode cX6_hasFaultIn 25 = .ok (.ifCond .eq 20, 3) := by decide +kernel
theorem dX6_hasFaultIn_28 : decode cX6_hasFaultIn 28 = .ok (.aload_n 0, 1) := by decide +kernel
theorem dX6_hasFaultIn_29 : decode cX6_hasFaultIn 29 = .ok (.getfield 53, 3) := by decide +kernel
theorem dX6_hasFaultIn_32 : decode cX6_hasFaultIn 32 = .ok (.aload_n 0, 1) := by decide +kernel
theorem dX6_hasFaultIn_33 : decode cX6_hasFaultIn 33 = .ok (.getfield 23, 3) := by decide +kernel
theorem dX6_hasFaultIn_36 : decode cX6_hasFaultIn 36 = .ok (.iload_n 2, 1) := by decide +kernel
theorem dX6_hasFaultIn_37 : decode cX6_hasFaultIn 37 = .ok (.iaload, 1) := by decide +kernel
theorem dX6_hasFaultIn_38 : decode cX6_hasFaultIn 38 = .ok (.iaload, 1) := by decide +kernel
theorem dX6_hasFaultIn_39 : decode cX6_hasFaultIn 39 = .ok (.iload_n 1, 1) := by decide +kernel
theorem dX6_hasFaultIn_40 : decode cX6_hasFaultIn 40 = .ok (.if_icmp .ne 5, 3) := by decide +kernel
theorem dX6_hasFaultIn_43 : decode cX6_hasFaultIn 43 = .ok (.iconst 1, 1) := by decide +kernel
theorem dX6_hasFaultIn_44 : decode cX6_hasFaultIn 44 = .ok (.ireturn, 1) := by decide +kernel
theorem dX6_hasFaultIn_45 : decode cX6_hasFaultIn 45 = .ok (.iinc 2 1, 3) := by decide +kernel
theorem dX6_hasFaultIn_48 : decode cX6_hasFaultIn 48 = .ok (.goto (-46), 3) := by decide +kernel
theorem dX6_hasFaultIn_51 : decode cX6_hasFaultIn 51 = .ok (.iconst 0, 1) := by decide +kernel
theorem dX6_hasFaultIn_52 : decode cX6_hasFaultIn 52 = .ok (.ireturn, 1) := by decide +kernel
set_option maxRecDepth 20000 in
theorem ggX6_reason_X6_paints : GoodIn wsX6_reason wsX6_paints := goodIn_ca (goodIn_r _ [13, 14, 4, 15, 1, 5, 6, 39, 40, 41, 42, 43, 44, 45, 46, 47, 48, 49, 50, 51, 52, 53, 54, 55, 56, 57, 58, 59, 60, 61, 62, 63, 64, 65] (by decide +kernel) (by decide +kernel)) (goodIn_sub (fun _ h => List.mem_cons_of_mem _ (List.mem_append_right _ h)) (by decide +kernel))
set_option maxRecDepth 20000 in
theorem gX6_reason_X6_paints : GoodIn wsX6_reason (wsV RX6 90 RX6 yX6_paints wsX6_paints) := goodIn_app (goodIn_of _ (by decide +kernel)) ggX6_reason_X6_paints
set_option maxRecDepth 20000 in
theorem ggX6_reason_X6_source : GoodIn wsX6_reason wsX6_source := goodIn_ca (goodIn_r _ [19, 14, 20, 4, 39, 40, 41, 42, 43, 44, 45, 46, 47, 48, 49, 50, 51, 52, 53, 54, 55, 56, 57, 58, 59, 60, 61, 62, 63, 64, 65] (by decide +kernel) (by decide +kernel)) (goodIn_sub (fun _ h => List.mem_cons_of_mem _ (List.mem_append_right _ h)) (by decide +kernel))
set_option maxRecDepth 20000 in
theorem gX6_reason_X6_source : GoodIn wsX6_reason (wsV RX6 94 RX6 yX6_source wsX6_source) := goodIn_app (goodIn_of _ (by decide +kernel)) ggX6_reason_X6_source
set_option maxRecDepth 20000 in
theorem ggX6_reason_X6_hasFaultIn : GoodIn wsX6_reason wsX6_hasFaultIn := goodIn_ca (goodIn_r _ [24, 15, 1, 3, 4, 5, 39, 40, 41, 42, 43, 44, 45, 46, 47, 48, 49, 50, 51, 52, 53, 54, 55, 56, 57, 58, 59, 60, 61, 62, 63, 64, 65] (by decide +kernel) (by decide +kernel)) (goodIn_sub (fun _ h => List.mem_cons_of_mem _ (List.mem_append_right _ h)) (by decide +kernel))
set_option maxRecDepth 20000 in
theorem gX6_reason_X6_hasFaultIn : GoodIn wsX6_reason (wsV RX6 104 RX6 yX6_hasFaultIn wsX6_hasFaultIn) := goodIn_app (goodIn_of _ (by decide +kernel)) ggX6_reason_X6_hasFaultIn
set_option maxRecDepth 20000 in
theorem ggX6_reason_X6_sum : GoodIn wsX6_reason wsX6_sum := goodIn_ca (goodIn_r _ [28, 14, 4, 29, 39, 40, 41, 42, 43, 44, 45, 46, 47, 48, 49, 50, 51, 52, 53, 54, 55, 56, 57, 58, 59, 60, 61, 62, 63, 64, 65] (by decide +kernel) (by decide +kernel)) (goodIn_sub (fun _ h => List.mem_cons_of_mem _ (List.mem_append_right _ h)) (by decide +kernel))
set_option maxRecDepth 20000 in
theorem gX6_reason_X6_sum : GoodIn wsX6_reason (wsV RX6 97 RX6 yX6_sum wsX6_sum) := goodIn_app (goodIn_of _ (by decide +kernel)) ggX6_reason_X6_sum
set_option maxRecDepth 20000 in
theorem ggX6_reason_X6_tooMuch : GoodIn wsX6_reason wsX6_tooMuch := goodIn_ca (goodIn_r _ [33, 15, 1, 34, 35, 36, 37, 12, 38, 4, 5, 6, 9, 10, 11, 13, 14, 16, 17, 18, 19, 20, 25, 26, 27, 28, 29, 39, 40, 41, 42, 43, 44, 45, 46, 47, 48, 49, 50, 51, 52, 53, 54, 55, 56, 57, 58, 59, 60, 61, 62, 63, 64, 65] (by decide +kernel) (by decide +kernel)) (goodIn_sub (fun _ h => List.mem_cons_of_mem _ (List.mem_append_right _ h)) (by decide +kernel))
set_option maxRecDepth 20000 in
theorem gX6_reason_X6_tooMuch : GoodIn wsX6_reason (wsV RX6 107 RX6 yX6_tooMuch wsX6_tooMuch) := goodIn_app (goodIn_of _ (by decide +kernel)) ggX6_reason_X6_tooMuch
theorem dX6_reason_0 : decode cX6_reason 0 = .ok (.aload_n 0, 1) := by decide +kernel
theorem dX6_reason_1 : decode cX6_reason 1 = .ok (.getfield 44, 3) := by decide +kernel
theorem dX6_reason_4 : decode cX6_reason 4 = .ok (.iload_n 1, 1) := by decide +kernel
theorem dX6_reason_5 : decode cX6_reason 5 = .ok (.baload, 1) := by decide +kernel
theorem dX6_reason_6 : decode cX6_reason 6 = .ok (.ifCond .eq 6, 3) := by decide +kernel
theorem dX6_reason_9 : decode cX6_reason 9 = .ok (.bipush 99, 2) := by decide +kernel
theorem dX6_reason_11 : decode cX6_reason 11 = .ok (.ireturn, 1) := by decide +kernel
theorem dX6_reason_12 : decode cX6_reason 12 = .ok (.aload_n 0, 1) := by decide +kernel
theorem dX6_reason_13 : decode cX6_reason 13 = .ok (.getfield 47, 3) := by decide +kernel
theorem dX6_reason_16 : decode cX6_reason 16 = .ok (.iload_n 1, 1) := by decide +kernel
theorem dX6_reason_17 : decode cX6_reason 17 = .ok (.baload, 1) := by decide +kernel
theorem dX6_reason_18 : decode cX6_reason 18 = .ok (.ifCond .eq 6, 3) := by decide +kernel
theorem dX6_reason_21 : decode cX6_reason 21 = .ok (.bipush 111, 2) := by decide +kernel
theorem dX6_reason_23 : decode cX6_reason 23 = .ok (.ireturn, 1) := by decide +kernel
theorem dX6_reason_24 : decode cX6_reason 24 = .ok (.aload_n 0, 1) := by decide +kernel
theorem dX6_reason_25 : decode cX6_reason 25 = .ok (.getfield 50, 3) := by decide +kernel
theorem dX6_reason_28 : decode cX6_reason 28 = .ok (.iload_n 1, 1) := by decide +kernel
theorem dX6_reason_29 : decode cX6_reason 29 = .ok (.baload, 1) := by decide +kernel
theorem dX6_reason_30 : decode cX6_reason 30 = .ok (.ifCond .eq 6, 3) := by decide +kernel
theorem dX6_reason_33 : decode cX6_reason 33 = .ok (.bipush 102, 2) := by decide +kernel
theorem dX6_reason_35 : decode cX6_reason 35 = .ok (.ireturn, 1) := by decide +kernel
theorem dX6_reason_36 : decode cX6_reason 36 = .ok (.aload_n 0, 1) := by decide +kernel
theorem dX6_reason_37 : decode cX6_reason 37 = .ok (.iconst (-1), 1) := by decide +kernel
theorem dX6_reason_38 : decode cX6_reason 38 = .ok (.iconst (-1), 1) := by decide +kernel
theorem dX6_reason_39 : decode cX6_reason 39 = .ok (.invokevirtual 90, 3) := by decide +kernel
theorem dX6_reason_42 : decode cX6_reason 42 = .ok (.aload_n 0, 1) := by decide +kernel
theorem dX6_reason_43 : decode cX6_reason 43 = .ok (.getfield 53, 3) := by decide +kernel
theorem dX6_reason_46 : decode cX6_reason 46 = .ok (.aload_n 0, 1) := by decide +kernel
theorem dX6_reason_47 : decode cX6_reason 47 = .ok (.getfield 23, 3) := by decide +kernel
theorem dX6_reason_50 : decode cX6_reason 50 = .ok (.iload_n 1, 1) := by decide +kernel
theorem dX6_reason_51 : decode cX6_reason 51 = .ok (.iaload, 1) := by decide +kernel
theorem dX6_reason_52 : decode cX6_reason 52 = .ok (.iaload, 1) := by decide +kernel
theorem dX6_reason_53 : decode cX6_reason 53 = .ok (.istore_n 2, 1) := by decide +kernel
theorem dX6_reason_54 : decode cX6_reason 54 = .ok (.aload_n 0, 1) := by decide +kernel
theorem dX6_reason_55 : decode cX6_reason 55 = .ok (.getfield 53, 3) := by decide +kernel
theorem dX6_reason_58 : decode cX6_reason 58 = .ok (.aload_n 0, 1) := by decide +kernel
theorem dX6_reason_59 : decode cX6_reason 59 = .ok (.getfield 26, 3) := by decide +kernel
theorem dX6_reason_62 : decode cX6_reason 62 = .ok (.iload_n 1, 1) := by decide +kernel
theorem dX6_reason_63 : decode cX6_reason 63 = .ok (.iaload, 1) := by decide +kernel
theorem dX6_reason_64 : decode cX6_reason 64 = .ok (.iaload, 1) := by decide +kernel
theorem dX6_reason_65 : decode cX6_reason 65 = .ok (.istore_n 3, 1) := by decide +kernel
theorem dX6_reason_66 : decode cX6_reason 66 = .ok (.aload_n 0, 1) := by decide +kernel
theorem dX6_reason_67 : decode cX6_reason 67 = .ok (.iload_n 2, 1) := by decide +kernel
theorem dX6_reason_68 : decode cX6_reason 68 = .ok (.invokevirtual 94, 3) := by decide +kernel
theorem dX6_reason_71 : decode cX6_reason 71 = .ok (.istore 4, 2) := by decide +kernel
theorem dX6_reason_73 : decode cX6_reason 73 = .ok (.aload_n 0, 1) := by decide +kernel
theorem dX6_reason_74 : decode cX6_reason 74 = .ok (.iload_n 3, 1) := by decide +kernel
theorem dX6_reason_75 : decode cX6_reason 75 = .ok (.invokevirtual 94, 3) := by decide +kernel
theorem dX6_reason_78 : decode cX6_reason 78 = .ok (.istore 5, 2) := by decide +kernel
theorem dX6_reason_80 : decode cX6_reason 80 = .ok (.iload 4, 2) := by decide +kernel
theorem dX6_reason_82 : decode cX6_reason 82 = .ok (.iconst (-1), 1) := by decide +kernel
theorem dX6_reason_83 : decode cX6_reason 83 = .ok (.if_icmp .ne 7, 3) := by decide +kernel
theorem dX6_reason_86 : decode cX6_reason 86 = .ok (.iconst 1, 1) := by decide +kernel
theorem dX6_reason_87 : decode cX6_reason 87 = .ok (.goto 4, 3) := by decide +kernel
theorem dX6_reason_90 : decode cX6_reason 90 = .ok (.iconst 0, 1) := by decide +kernel
theorem dX6_reason_91 : decode cX6_reason 91 = .ok (.iload 5, 2) := by decide +kernel
theorem dX6_reason_93 : decode cX6_reason 93 = .ok (.iconst (-1), 1) := by decide +kernel
theorem dX6_reason_94 : decode cX6_reason 94 = .ok (.if_icmp .ne 7, 3) := by decide +kernel
theorem dX6_reason_97 : decode cX6_reason 97 = .ok (.iconst 1, 1) := by decide +kernel
theorem dX6_reason_98 : decode cX6_reason 98 = .ok (.goto 4, 3) := by decide +kernel
theorem dX6_reason_101 : decode cX6_reason 101 = .ok (.iconst 0, 1) := by decide +kernel
theorem dX6_reason_102 : decode cX6_reason 102 = .ok (.if_icmp .eq 7, 3) := by decide +kernel
theorem dX6_reason_105 : decode cX6_reason 105 = .ok (.iconst 1, 1) := by decide +kernel
theorem dX6_reason_106 : decode cX6_reason 106 = .ok (.goto 4, 3) := by decide +kernel
theorem dX6_reason_109 : decode cX6_reason 109 = .ok (.iconst 0, 1) := by decide +kernel
theorem dX6_reason_110 : decode cX6_reason 110 = .ok (.istore 6, 2) := by decide +kernel
theorem dX6_reason_112 : decode cX6_reason 112 = .ok (.iload 4, 2) := by decide +kernel
theorem dX6_reason_114 : decode cX6_reason 114 = .ok (.iconst (-1), 1) := by decide +kernel
theorem dX6_reason_115 : decode cX6_reason 115 = .ok (.if_icmp .ne 7, 3) := by decide +kernel
theorem dX6_reason_118 : decode cX6_reason 118 = .ok (.iload_n 2, 1) := by decide +kernel
theorem dX6_reason_119 : decode cX6_reason 119 = .ok (.goto 4, 3) := by decide +kernel
theorem dX6_reason_122 : decode cX6_reason 122 = .ok (.iload_n 3, 1) := by decide +kernel
theorem dX6_reason_123 : decode cX6_reason 123 = .ok (.istore 7, 2) := by decide +kernel
theorem dX6_reason_125 : decode cX6_reason 125 = .ok (.iload 6, 2) := by decide +kernel
theorem dX6_reason_127 : decode cX6_reason 127 = .ok (.ifCond .eq 15, 3) := by decide +kernel
theorem dX6_reason_130 : decode cX6_reason 130 = .ok (.aload_n 0, 1) := by decide +kernel
theorem dX6_reason_131 : decode cX6_reason 131 = .ok (.iload 7, 2) := by decide +kernel
theorem dX6_reason_133 : decode cX6_reason 133 = .ok (.invokevirtual 104, 3) := by decide +kernel
theorem dX6_reason_136 : decode cX6_reason 136 = .ok (.ifCond .eq 6, 3) := by decide +kernel
theorem dX6_reason_139 : decode cX6_reason 139 = .ok (.bipush 102, 2) := by decide +kernel
theorem dX6_reason_141 : decode cX6_reason 141 = .ok (.ireturn, 1) := by decide +kernel
theorem dX6_reason_142 : decode cX6_reason 142 = .ok (.iload_n 2, 1) := by decide +kernel
theorem dX6_reason_143 : decode cX6_reason 143 = .ok (.iload_n 3, 1) := by decide +kernel
theorem dX6_reason_144 : decode cX6_reason 144 = .ok (.if_icmp .eq 15, 3) := by decide +kernel
theorem dX6_reason_147 : decode cX6_reason 147 = .ok (.iload 4, 2) := by decide +kernel
theorem dX6_reason_149 : decode cX6_reason 149 = .ok (.iconst (-1), 1) := by decide +kernel
theorem dX6_reason_150 : decode cX6_reason 150 = .ok (.if_icmp .eq 12, 3) := by decide +kernel
theorem dX6_reason_153 : decode cX6_reason 153 = .ok (.iload 5, 2) := by decide +kernel
theorem dX6_reason_155 : decode cX6_reason 155 = .ok (.iconst (-1), 1) := by decide +kernel
theorem dX6_reason_156 : decode cX6_reason 156 = .ok (.if_icmp .eq 6, 3) := by decide +kernel
theorem dX6_reason_159 : decode cX6_reason 159 = .ok (.bipush 114, 2) := by decide +kernel
theorem dX6_reason_161 : decode cX6_reason 161 = .ok (.ireturn, 1) := by decide +kernel
theorem dX6_reason_162 : decode cX6_reason 162 = .ok (.iload 6, 2) := by decide +kernel
theorem dX6_reason_164 : decode cX6_reason 164 = .ok (.ifCond .eq 24, 3) := by decide +kernel
theorem dX6_reason_167 : decode cX6_reason 167 = .ok (.aload_n 0, 1) := by decide +kernel
theorem dX6_reason_168 : decode cX6_reason 168 = .ok (.getfield 41, 3) := by decide +kernel
theorem dX6_reason_171 : decode cX6_reason 171 = .ok (.iload_n 1, 1) := by decide +kernel
theorem dX6_reason_172 : decode cX6_reason 172 = .ok (.baload, 1) := by decide +kernel
theorem dX6_reason_173 : decode cX6_reason 173 = .ok (.ifCond .ne 15, 3) := by decide +kernel
theorem dX6_reason_176 : decode cX6_reason 176 = .ok (.aload_n 0, 1) := by decide +kernel
theorem dX6_reason_177 : decode cX6_reason 177 = .ok (.iload 7, 2) := by decide +kernel
theorem dX6_reason_179 : decode cX6_reason 179 = .ok (.invokevirtual 97, 3) := by decide +kernel
theorem dX6_reason_182 : decode cX6_reason 182 = .ok (.ifCond .le 6, 3) := by decide +kernel
theorem dX6_reason_185 : decode cX6_reason 185 = .ok (.bipush 100, 2) := by decide +kernel
theorem dX6_reason_187 : decode cX6_reason 187 = .ok (.ireturn, 1) := by decide +kernel
theorem dX6_reason_188 : decode cX6_reason 188 = .ok (.iload 6, 2) := by decide +kernel
theorem dX6_reason_190 : decode cX6_reason 190 = .ok (.ifCond .eq 38, 3) := by decide +kernel
theorem dX6_reason_193 : decode cX6_reason 193 = .ok (.aload_n 0, 1) := by decide +kernel
theorem dX6_reason_194 : decode cX6_reason 194 = .ok (.iload_n 2, 1) := by decide +kernel
theorem dX6_reason_195 : decode cX6_reason 195 = .ok (.invokevirtual 97, 3) := by decide +kernel
theorem dX6_reason_198 : decode cX6_reason 198 = .ok (.aload_n 0, 1) := by decide +kernel
theorem dX6_reason_199 : decode cX6_reason 199 = .ok (.iload_n 3, 1) := by decide +kernel
theorem dX6_reason_200 : decode cX6_reason 200 = .ok (.invokevirtual 97, 3) := by decide +kernel
theorem dX6_reason_203 : decode cX6_reason 203 = .ok (.iadd, 1) := by decide +kernel
theorem dX6_reason_204 : decode cX6_reason 204 = .ok (.aload_n 0, 1) := by decide +kernel
theorem dX6_reason_205 : decode cX6_reason 205 = .ok (.getfield 13, 3) := by decide +kernel
theorem dX6_reason_208 : decode cX6_reason 208 = .ok (.iload 4, 2) := by decide +kernel
theorem dX6_reason_210 : decode cX6_reason 210 = .ok (.iconst (-1), 1) := by decide +kernel
theorem dX6_reason_211 : decode cX6_reason 211 = .ok (.if_icmp .ne 8, 3) := by decide +kernel
theorem dX6_reason_214 : decode cX6_reason 214 = .ok (.iload 5, 2) := by decide +kernel
theorem dX6_reason_216 : decode cX6_reason 216 = .ok (.goto 5, 3) := by decide +kernel
theorem dX6_reason_219 : decode cX6_reason 219 = .ok (.iload 4, 2) := by decide +kernel
theorem dX6_reason_221 : decode cX6_reason 221 = .ok (.iaload, 1) := by decide +kernel
theorem dX6_reason_222 : decode cX6_reason 222 = .ok (.if_icmp .le 6, 3) := by decide +kernel
theorem dX6_reason_225 : decode cX6_reason 225 = .ok (.bipush 115, 2) := by decide +kernel
theorem dX6_reason_227 : decode cX6_reason 227 = .ok (.ireturn, 1) := by decide +kernel
theorem dX6_reason_228 : decode cX6_reason 228 = .ok (.aload_n 0, 1) := by decide +kernel
theorem dX6_reason_229 : decode cX6_reason 229 = .ok (.iload_n 1, 1) := by decide +kernel
theorem dX6_reason_230 : decode cX6_reason 230 = .ok (.invokevirtual 107, 3) := by decide +kernel
theorem dX6_reason_233 : decode cX6_reason 233 = .ok (.iconst (-1), 1) := by decide +kernel
theorem dX6_reason_234 : decode cX6_reason 234 = .ok (.if_icmp .ne 8, 3) := by decide +kernel
theorem dX6_reason_237 : decode cX6_reason 237 = .ok (.bipush 110, 2) := by decide +kernel
theorem dX6_reason_239 : decode cX6_reason 239 = .ok (.goto 5, 3) := by decide +kernel
theorem dX6_reason_242 : decode cX6_reason 242 = .ok (.bipush 108, 2) := by decide +kernel
theorem dX6_reason_244 : decode cX6_reason 244 = .ok (.ireturn, 1) := by decide +kernel
set_option maxRecDepth 20000 in
theorem ggX6_reasonToOpen_X6_flowOf : GoodIn wsX6_reasonToOpen wsX6_flowOf := goodIn_ca (goodIn_r _ [7, 1, 8, 9, 10, 6, 11, 12, 13, 14, 15, 16, 17, 18, 19, 20, 21, 22, 23, 24, 25, 26, 27, 28, 29, 30, 31, 32, 33, 34, 35, 36, 37, 38, 39, 40, 41, 42, 43, 44, 45, 46, 47, 48, 49, 50, 51, 52, 53, 54, 55, 56, 57] (by decide +kernel) (by decide +kernel)) (goodIn_sub (fun _ h => List.mem_cons_of_mem _ (List.mem_append_right _ h)) (by decide +kernel))
set_option maxRecDepth 20000 in
theorem gX6_reasonToOpen_X6_flowOf : GoodIn wsX6_reasonToOpen (wsV RX6 110 RX6 yX6_flowOf wsX6_flowOf) := goodIn_app (goodIn_of _ (by decide +kernel)) ggX6_reasonToOpen_X6_flowOf
theorem dX6_reasonToOpen_0 : decode cX6_reasonToOpen 0 = .ok (.aload_n 0, 1) := by decide +kernel
theorem dX6_reasonToOpen_1 : decode cX6_reasonToOpen 1 = .ok (.getfield 44, 3) := by decide +kernel
theorem dX6_reasonToOpen_4 : decode cX6_reasonToOpen 4 = .ok (.iload_n 1, 1) := by decide +kernel
theorem dX6_reasonToOpen_5 : decode cX6_reasonToOpen 5 = .ok (.baload, 1) := by decide +kernel
theorem dX6_reasonToOpen_6 : decode cX6_reasonToOpen 6 = .ok (.ifCond .ne 8, 3) := by decide +kernel
theorem dX6_reasonToOpen_9 : decode cX6_reasonToOpen 9 = .ok (.bipush 99, 2) := by decide +kernel
theorem dX6_reasonToOpen_11 : decode cX6_reasonToOpen 11 = .ok (.goto 27, 3) := by decide +kernel
theorem dX6_reasonToOpen_14 : decode cX6_reasonToOpen 14 = .ok (.aload_n 0, 1) := by decide +kernel
theorem dX6_reasonToOpen_15 : decode cX6_reasonToOpen 15 = .ok (.getfield 41, 3) := by decide +kernel
theorem dX6_reasonToOpen_18 : decode cX6_reasonToOpen 18 = .ok (.iload_n 1, 1) := by decide +kernel
theorem dX6_reasonToOpen_19 : decode cX6_reasonToOpen 19 = .ok (.baload, 1) := by decide +kernel
theorem dX6_reasonToOpen_20 : decode cX6_reasonToOpen 20 = .ok (.ifCond .ne 11, 3) := by decide +kernel
theorem dX6_reasonToOpen_23 : decode cX6_reasonToOpen 23 = .ok (.aload_n 0, 1) := by decide +kernel
theorem dX6_reasonToOpen_24 : decode cX6_reasonToOpen 24 = .ok (.iload_n 1, 1) := by decide +kernel
theorem dX6_reasonToOpen_25 : decode cX6_reasonToOpen 25 = .ok (.invokevirtual 110, 3) := by decide +kernel
theorem dX6_reasonToOpen_28 : decode cX6_reasonToOpen 28 = .ok (.ifCond .ne 8, 3) := by decide +kernel
theorem dX6_reasonToOpen_31 : decode cX6_reasonToOpen 31 = .ok (.bipush 110, 2) := by decide +kernel
theorem dX6_reasonToOpen_33 : decode cX6_reasonToOpen 33 = .ok (.goto 5, 3) := by decide +kernel
theorem dX6_reasonToOpen_36 : decode cX6_reasonToOpen 36 = .ok (.bipush 100, 2) := by decide +kernel
theorem dX6_reasonToOpen_38 : decode cX6_reasonToOpen 38 = .ok (.ireturn, 1) := by decide +kernel
set_option maxRecDepth 20000 in
theorem ggX6_setLoad_X6_isNode : GoodIn wsX6_setLoad wsX6_isNode := goodIn_r _ [10, 11, 12, 13, 9, 14, 44, 45, 46, 47, 48, 49, 50, 51, 52, 53, 54, 55, 56, 57, 58, 59, 60, 61, 62, 63, 64, 65, 66, 67, 68, 69, 70] (by decide +kernel) (by decide +kernel)
set_option maxRecDepth 20000 in
theorem gX6_setLoad_X6_isNode : GoodIn wsX6_setLoad (wsV RX6 86 RX6 yX6_isNode wsX6_isNode) := goodIn_app (goodIn_of _ (by decide +kernel)) ggX6_setLoad_X6_isNode
set_option maxRecDepth 20000 in
theorem ggX6_setLoad_X6_fails : GoodIn wsX6_setLoad wsX6_fails := goodIn_r _ [18, 5, 44, 45, 46, 47, 48, 49, 50, 51, 52, 53, 54, 55, 56, 57, 58, 59, 60, 61, 62, 63, 64, 65, 66, 67, 68, 69, 70] (by decide +kernel) (by decide +kernel)
set_option maxRecDepth 20000 in
theorem gX6_setLoad_X6_fails : GoodIn wsX6_setLoad (wsV RX6 82 RX6 yX6_fails wsX6_fails) := goodIn_app (goodIn_of _ (by decide +kernel)) ggX6_setLoad_X6_fails
set_option maxRecDepth 20000 in
theorem ggX6_setLoad_X6_in : GoodIn wsX6_setLoad wsX6_in := goodIn_r _ [14] (by decide +kernel) (by decide +kernel)
set_option maxRecDepth 20000 in
theorem gX6_setLoad_X6_in : GoodIn wsX6_setLoad (va_wsS RX6 75 yX6_in wsX6_in) := goodIn_app (goodIn_of _ (by decide +kernel)) ggX6_setLoad_X6_in
set_option maxRecDepth 20000 in
theorem ggX6_setLoad_X6_paints : GoodIn wsX6_setLoad wsX6_paints := goodIn_ca (goodIn_r _ [22, 11, 3, 23, 24, 25, 26, 44, 45, 46, 47, 48, 49, 50, 51, 52, 53, 54, 55, 56, 57, 58, 59, 60, 61, 62, 63, 64, 65, 66, 67, 68, 69, 70] (by decide +kernel) (by decide +kernel)) (goodIn_sub (fun _ h => List.mem_cons_of_mem _ (List.mem_append_right _ h)) (by decide +kernel))
set_option maxRecDepth 20000 in
theorem gX6_setLoad_X6_paints : GoodIn wsX6_setLoad (wsV RX6 90 RX6 yX6_paints wsX6_paints) := goodIn_app (goodIn_of _ (by decide +kernel)) ggX6_setLoad_X6_paints
set_option maxRecDepth 20000 in
theorem ggX6_setLoad_X6_source : GoodIn wsX6_setLoad wsX6_source := goodIn_ca (goodIn_r _ [30, 11, 1, 3, 44, 45, 46, 47, 48, 49, 50, 51, 52, 53, 54, 55, 56, 57, 58, 59, 60, 61, 62, 63, 64, 65, 66, 67, 68, 69, 70] (by decide +kernel) (by decide +kernel)) (goodIn_sub (fun _ h => List.mem_cons_of_mem _ (List.mem_append_right _ h)) (by decide +kernel))
set_option maxRecDepth 20000 in
theorem gX6_setLoad_X6_source : GoodIn wsX6_setLoad (wsV RX6 94 RX6 yX6_source wsX6_source) := goodIn_app (goodIn_of _ (by decide +kernel)) ggX6_setLoad_X6_source
set_option maxRecDepth 20000 in
theorem ggX6_setLoad_X6_sum : GoodIn wsX6_setLoad wsX6_sum := goodIn_ca (goodIn_r _ [34, 11, 3, 2, 44, 45, 46, 47, 48, 49, 50, 51, 52, 53, 54, 55, 56, 57, 58, 59, 60, 61, 62, 63, 64, 65, 66, 67, 68, 69, 70] (by decide +kernel) (by decide +kernel)) (goodIn_sub (fun _ h => List.mem_cons_of_mem _ (List.mem_append_right _ h)) (by decide +kernel))
set_option maxRecDepth 20000 in
theorem gX6_setLoad_X6_sum : GoodIn wsX6_setLoad (wsV RX6 97 RX6 yX6_sum wsX6_sum) := goodIn_app (goodIn_of _ (by decide +kernel)) ggX6_setLoad_X6_sum
set_option maxRecDepth 20000 in
theorem ggX6_setLoad_X6_tooMuch : GoodIn wsX6_setLoad wsX6_tooMuch := goodIn_ca (goodIn_r _ [38, 23, 24, 39, 40, 41, 42, 9, 43, 3, 25, 26, 19, 20, 21, 22, 11, 27, 28, 29, 30, 1, 31, 32, 33, 34, 2, 44, 45, 46, 47, 48, 49, 50, 51, 52, 53, 54, 55, 56, 57, 58, 59, 60, 61, 62, 63, 64, 65, 66, 67, 68, 69, 70] (by decide +kernel) (by decide +kernel)) (goodIn_sub (fun _ h => List.mem_cons_of_mem _ (List.mem_append_right _ h)) (by decide +kernel))
set_option maxRecDepth 20000 in
theorem gX6_setLoad_X6_tooMuch : GoodIn wsX6_setLoad (wsV RX6 107 RX6 yX6_tooMuch wsX6_tooMuch) := goodIn_app (goodIn_of _ (by decide +kernel)) ggX6_setLoad_X6_tooMuch
theorem dX6_setLoad_0 : decode cX6_setLoad 0 = .ok (.aload_n 0, 1) := by decide +kernel
theorem dX6_setLoad_1 : decode cX6_setLoad 1 = .ok (.iload_n 1, 1) := by decide +kernel
theorem dX6_setLoad_2 : decode cX6_setLoad 2 = .ok (.invokevirtual 86, 3) := by decide +kernel
theorem dX6_setLoad_5 : decode cX6_setLoad 5 = .ok (.ifCond .ne 9, 3) := by decide +kernel
theorem dX6_setLoad_8 : decode cX6_setLoad 8 = .ok (.aload_n 0, 1) := by decide +kernel
theorem dX6_setLoad_9 : decode cX6_setLoad 9 = .ok (.iconst 1, 1) := by decide +kernel
theorem dX6_setLoad_10 : decode cX6_setLoad 10 = .ok (.invokevirtual 82, 3) := by decide +kernel
theorem dX6_setLoad_13 : decode cX6_setLoad 13 = .ok (.ireturn, 1) := by decide +kernel
theorem dX6_setLoad_14 : decode cX6_setLoad 14 = .ok (.iload_n 2, 1) := by decide +kernel
theorem dX6_setLoad_15 : decode cX6_setLoad 15 = .ok (.iconst 0, 1) := by decide +kernel
theorem dX6_setLoad_16 : decode cX6_setLoad 16 = .ok (.bipush 99, 2) := by decide +kernel
theorem dX6_setLoad_18 : decode cX6_setLoad 18 = .ok (.invokestatic 75, 3) := by decide +kernel
theorem dX6_setLoad_21 : decode cX6_setLoad 21 = .ok (.ifCond .ne 9, 3) := by decide +kernel
theorem dX6_setLoad_24 : decode cX6_setLoad 24 = .ok (.aload_n 0, 1) := by decide +kernel
theorem dX6_setLoad_25 : decode cX6_setLoad 25 = .ok (.iconst 2, 1) := by decide +kernel
theorem dX6_setLoad_26 : decode cX6_setLoad 26 = .ok (.invokevirtual 82, 3) := by decide +kernel
theorem dX6_setLoad_29 : decode cX6_setLoad 29 = .ok (.ireturn, 1) := by decide +kernel
theorem dX6_setLoad_30 : decode cX6_setLoad 30 = .ok (.aload_n 0, 1) := by decide +kernel
theorem dX6_setLoad_31 : decode cX6_setLoad 31 = .ok (.getfield 7, 3) := by decide +kernel
theorem dX6_setLoad_34 : decode cX6_setLoad 34 = .ok (.iload_n 1, 1) := by decide +kernel
theorem dX6_setLoad_35 : decode cX6_setLoad 35 = .ok (.baload, 1) := by decide +kernel
theorem dX6_setLoad_36 : decode cX6_setLoad 36 = .ok (.ifCond .eq 9, 3) := by decide +kernel
theorem dX6_setLoad_39 : decode cX6_setLoad 39 = .ok (.aload_n 0, 1) := by decide +kernel
theorem dX6_setLoad_40 : decode cX6_setLoad 40 = .ok (.iconst 3, 1) := by decide +kernel
theorem dX6_setLoad_41 : decode cX6_setLoad 41 = .ok (.invokevirtual 82, 3) := by decide +kernel
theorem dX6_setLoad_44 : decode cX6_setLoad 44 = .ok (.ireturn, 1) := by decide +kernel
theorem dX6_setLoad_45 : decode cX6_setLoad 45 = .ok (.aload_n 0, 1) := by decide +kernel
theorem dX6_setLoad_46 : decode cX6_setLoad 46 = .ok (.getfield 17, 3) := by decide +kernel
theorem dX6_setLoad_49 : decode cX6_setLoad 49 = .ok (.iload_n 1, 1) := by decide +kernel
theorem dX6_setLoad_50 : decode cX6_setLoad 50 = .ok (.iaload, 1) := by decide +kernel
theorem dX6_setLoad_51 : decode cX6_setLoad 51 = .ok (.istore_n 3, 1) := by decide +kernel
theorem dX6_setLoad_52 : decode cX6_setLoad 52 = .ok (.aload_n 0, 1) := by decide +kernel
theorem dX6_setLoad_53 : decode cX6_setLoad 53 = .ok (.getfield 17, 3) := by decide +kernel
theorem dX6_setLoad_56 : decode cX6_setLoad 56 = .ok (.iload_n 1, 1) := by decide +kernel
theorem dX6_setLoad_57 : decode cX6_setLoad 57 = .ok (.iload_n 2, 1) := by decide +kernel
theorem dX6_setLoad_58 : decode cX6_setLoad 58 = .ok (.iastore, 1) := by decide +kernel
theorem dX6_setLoad_59 : decode cX6_setLoad 59 = .ok (.aload_n 0, 1) := by decide +kernel
theorem dX6_setLoad_60 : decode cX6_setLoad 60 = .ok (.iconst (-1), 1) := by decide +kernel
theorem dX6_setLoad_61 : decode cX6_setLoad 61 = .ok (.iconst (-1), 1) := by decide +kernel
theorem dX6_setLoad_62 : decode cX6_setLoad 62 = .ok (.invokevirtual 90, 3) := by decide +kernel
theorem dX6_setLoad_65 : decode cX6_setLoad 65 = .ok (.aload_n 0, 1) := by decide +kernel
theorem dX6_setLoad_66 : decode cX6_setLoad 66 = .ok (.aload_n 0, 1) := by decide +kernel
theorem dX6_setLoad_67 : decode cX6_setLoad 67 = .ok (.getfield 53, 3) := by decide +kernel
theorem dX6_setLoad_70 : decode cX6_setLoad 70 = .ok (.iload_n 1, 1) := by decide +kernel
theorem dX6_setLoad_71 : decode cX6_setLoad 71 = .ok (.iaload, 1) := by decide +kernel
theorem dX6_setLoad_72 : decode cX6_setLoad 72 = .ok (.invokevirtual 94, 3) := by decide +kernel
theorem dX6_setLoad_75 : decode cX6_setLoad 75 = .ok (.istore 4, 2) := by decide +kernel
theorem dX6_setLoad_77 : decode cX6_setLoad 77 = .ok (.iload 4, 2) := by decide +kernel
theorem dX6_setLoad_79 : decode cX6_setLoad 79 = .ok (.iconst (-1), 1) := by decide +kernel
theorem dX6_setLoad_80 : decode cX6_setLoad 80 = .ok (.if_icmp .eq 23, 3) := by decide +kernel
theorem dX6_setLoad_83 : decode cX6_setLoad 83 = .ok (.aload_n 0, 1) := by decide +kernel
theorem dX6_setLoad_84 : decode cX6_setLoad 84 = .ok (.aload_n 0, 1) := by decide +kernel
theorem dX6_setLoad_85 : decode cX6_setLoad 85 = .ok (.getfield 53, 3) := by decide +kernel
theorem dX6_setLoad_88 : decode cX6_setLoad 88 = .ok (.iload_n 1, 1) := by decide +kernel
theorem dX6_setLoad_89 : decode cX6_setLoad 89 = .ok (.iaload, 1) := by decide +kernel
theorem dX6_setLoad_90 : decode cX6_setLoad 90 = .ok (.invokevirtual 97, 3) := by decide +kernel
theorem dX6_setLoad_93 : decode cX6_setLoad 93 = .ok (.aload_n 0, 1) := by decide +kernel
theorem dX6_setLoad_94 : decode cX6_setLoad 94 = .ok (.getfield 13, 3) := by decide +kernel
theorem dX6_setLoad_97 : decode cX6_setLoad 97 = .ok (.iload 4, 2) := by decide +kernel
theorem dX6_setLoad_99 : decode cX6_setLoad 99 = .ok (.iaload, 1) := by decide +kernel
theorem dX6_setLoad_100 : decode cX6_setLoad 100 = .ok (.if_icmp .gt 12, 3) := by decide +kernel
theorem dX6_setLoad_103 : decode cX6_setLoad 103 = .ok (.aload_n 0, 1) := by decide +kernel
theorem dX6_setLoad_104 : decode cX6_setLoad 104 = .ok (.iconst (-1), 1) := by decide +kernel
theorem dX6_setLoad_105 : decode cX6_setLoad 105 = .ok (.invokevirtual 107, 3) := by decide +kernel
theorem dX6_setLoad_108 : decode cX6_setLoad 108 = .ok (.iconst (-1), 1) := by decide +kernel
theorem dX6_setLoad_109 : decode cX6_setLoad 109 = .ok (.if_icmp .eq 7, 3) := by decide +kernel
theorem dX6_setLoad_112 : decode cX6_setLoad 112 = .ok (.iconst 1, 1) := by decide +kernel
theorem dX6_setLoad_113 : decode cX6_setLoad 113 = .ok (.goto 4, 3) := by decide +kernel
theorem dX6_setLoad_116 : decode cX6_setLoad 116 = .ok (.iconst 0, 1) := by decide +kernel
theorem dX6_setLoad_117 : decode cX6_setLoad 117 = .ok (.istore 5, 2) := by decide +kernel
theorem dX6_setLoad_119 : decode cX6_setLoad 119 = .ok (.iload 5, 2) := by decide +kernel
theorem dX6_setLoad_121 : decode cX6_setLoad 121 = .ok (.ifCond .eq 16, 3) := by decide +kernel
theorem dX6_setLoad_124 : decode cX6_setLoad 124 = .ok (.aload_n 0, 1) := by decide +kernel
theorem dX6_setLoad_125 : decode cX6_setLoad 125 = .ok (.getfield 17, 3) := by decide +kernel
theorem dX6_setLoad_128 : decode cX6_setLoad 128 = .ok (.iload_n 1, 1) := by decide +kernel
theorem dX6_setLoad_129 : decode cX6_setLoad 129 = .ok (.iload_n 3, 1) := by decide +kernel
theorem dX6_setLoad_130 : decode cX6_setLoad 130 = .ok (.iastore, 1) := by decide +kernel
theorem dX6_setLoad_131 : decode cX6_setLoad 131 = .ok (.aload_n 0, 1) := by decide +kernel
theorem dX6_setLoad_132 : decode cX6_setLoad 132 = .ok (.iconst 4, 1) := by decide +kernel
theorem dX6_setLoad_133 : decode cX6_setLoad 133 = .ok (.invokevirtual 82, 3) := by decide +kernel
theorem dX6_setLoad_136 : decode cX6_setLoad 136 = .ok (.ireturn, 1) := by decide +kernel
theorem dX6_setLoad_137 : decode cX6_setLoad 137 = .ok (.aload_n 0, 1) := by decide +kernel
theorem dX6_setLoad_138 : decode cX6_setLoad 138 = .ok (.iconst 0, 1) := by decide +kernel
theorem dX6_setLoad_139 : decode cX6_setLoad 139 = .ok (.putfield 68, 3) := by decide +kernel
theorem dX6_setLoad_142 : decode cX6_setLoad 142 = .ok (.iload_n 3, 1) := by decide +kernel
theorem dX6_setLoad_143 : decode cX6_setLoad 143 = .ok (.ireturn, 1) := by decide +kernel
set_option maxRecDepth 20000 in
theorem ggX6_setRelay_X6_isLine : GoodIn wsX6_setRelay wsX6_isLine := goodIn_r _ [10, 11, 12, 13, 9, 14, 19, 20, 21, 22, 23, 24, 25, 26, 27, 28, 29, 30, 31, 32, 33, 34, 35, 36, 37, 38, 39, 40, 41, 42, 43, 44, 45] (by decide +kernel) (by decide +kernel)
set_option maxRecDepth 20000 in
theorem gX6_setRelay_X6_isLine : GoodIn wsX6_setRelay (wsV RX6 113 RX6 yX6_isLine wsX6_isLine) := goodIn_app (goodIn_of _ (by decide +kernel)) ggX6_setRelay_X6_isLine
set_option maxRecDepth 20000 in
theorem ggX6_setRelay_X6_fails : GoodIn wsX6_setRelay wsX6_fails := goodIn_r _ [18, 2, 19, 20, 21, 22, 23, 24, 25, 26, 27, 28, 29, 30, 31, 32, 33, 34, 35, 36, 37, 38, 39, 40, 41, 42, 43, 44, 45] (by decide +kernel) (by decide +kernel)
set_option maxRecDepth 20000 in
theorem gX6_setRelay_X6_fails : GoodIn wsX6_setRelay (wsV RX6 82 RX6 yX6_fails wsX6_fails) := goodIn_app (goodIn_of _ (by decide +kernel)) ggX6_setRelay_X6_fails
set_option maxRecDepth 20000 in
theorem ggX6_setRelay_X6_in : GoodIn wsX6_setRelay wsX6_in := goodIn_r _ [14] (by decide +kernel) (by decide +kernel)
set_option maxRecDepth 20000 in
theorem gX6_setRelay_X6_in : GoodIn wsX6_setRelay (va_wsS RX6 75 yX6_in wsX6_in) := goodIn_app (goodIn_of _ (by decide +kernel)) ggX6_setRelay_X6_in
theorem dX6_setRelay_0 : decode cX6_setRelay 0 = .ok (.aload_n 0, 1) := by decide +kernel
theorem dX6_setRelay_1 : decode cX6_setRelay 1 = .ok (.iload_n 1, 1) := by decide +kernel
theorem dX6_setRelay_2 : decode cX6_setRelay 2 = .ok (.invokevirtual 113, 3) := by decide +kernel
theorem dX6_setRelay_5 : decode cX6_setRelay 5 = .ok (.ifCond .ne 9, 3) := by decide +kernel
theorem dX6_setRelay_8 : decode cX6_setRelay 8 = .ok (.aload_n 0, 1) := by decide +kernel
theorem dX6_setRelay_9 : decode cX6_setRelay 9 = .ok (.iconst 1, 1) := by decide +kernel
theorem dX6_setRelay_10 : decode cX6_setRelay 10 = .ok (.invokevirtual 82, 3) := by decide +kernel
