set_option maxRecDepth 20000 in
theorem gL_isRight_L_currentByCutting : GoodIn wsL_isRight (va_wsS RL 248 yL_currentByCutting wsL_currentByCutting) := goodIn_app (goodIn_of _ (by decide +kernel)) ggL_isRight_L_currentByCutting
set_option maxRecDepth 20000 in
theorem ggL_isRight_L_hasFault : GoodIn wsL_isRight wsL_hasFault := goodIn_ca (goodIn_r _ [190, 13, 191, 192, 193, 6, 194, 34, 132, 133, 134, 135, 22, 23, 8, 136, 137, 138, 27, 139, 50, 101, 51, 52, 335, 336, 337, 338, 339, 340, 351, 352, 353, 354, 355, 341, 342, 343, 344, 345, 346, 347, 348, 349, 350] (by decide +kernel) (by decide +kernel)) (goodIn_sub (fun _ h => List.mem_cons_of_mem _ (List.mem_append_left _ (List.mem_append_left _ (List.mem_append_left _ (List.mem_append_left _ (List.mem_append_right _ h)))))) (by decide +kernel))
set_option maxRecDepth 20000 in
theorem gL_isRight_L_hasFault : GoodIn wsL_isRight (va_wsS RL 184 yL_hasFault wsL_hasFault) := goodIn_app (goodIn_of _ (by decide +kernel)) ggL_isRight_L_hasFault
set_option maxRecDepth 20000 in
theorem ggL_isRight_L_isLocked : GoodIn wsL_isRight wsL_isLocked := goodIn_ca (goodIn_r _ [197, 13, 198, 199, 200, 6, 201, 34, 132, 133, 134, 135, 22, 23, 8, 136, 137, 138, 27, 139, 50, 101, 51, 52, 335, 336, 337, 338, 339, 340, 351, 352, 353, 354, 355, 341, 342, 343, 344, 345, 346, 347, 348, 349, 350] (by decide +kernel) (by decide +kernel)) (goodIn_sub (fun _ h => List.mem_cons_of_mem _ (List.mem_append_left _ (List.mem_append_left _ (List.mem_append_left _ (List.mem_append_left _ (List.mem_append_right _ h)))))) (by decide +kernel))
set_option maxRecDepth 20000 in
theorem gL_isRight_L_isLocked : GoodIn wsL_isRight (va_wsS RL 191 yL_isLocked wsL_isLocked) := goodIn_app (goodIn_of _ (by decide +kernel)) ggL_isRight_L_isLocked
set_option maxRecDepth 20000 in
theorem ggL_isRight_L_distance : GoodIn wsL_isRight wsL_distance := goodIn_ca (goodIn_ca (goodIn_ca (goodIn_r _ [204, 13, 63, 205, 206, 207, 6, 208, 132, 133, 134, 135, 22, 23, 8, 136, 137, 138, 27, 139, 50, 209, 210, 211, 212, 68, 69, 131, 34, 213, 214, 215, 143, 216, 145, 51, 52, 217, 218, 219, 220, 221, 156, 54, 55, 56, 57, 58, 335, 336, 337, 338, 339, 340, 341, 342, 343, 344, 345, 346, 347, 348, 349, 350, 351, 352, 353, 354, 355, 356, 357, 358] (by decide +kernel) (by decide +kernel)) (goodIn_sub (fun _ h => List.mem_cons_of_mem _ (List.mem_append_left _ (List.mem_append_left _ (List.mem_append_left _ (List.mem_append_left _ (List.mem_append_right _ h)))))) (by decide +kernel))) (goodIn_sub (fun _ h => List.mem_cons_of_mem _ (List.mem_append_left _ (List.mem_append_left _ (List.mem_append_left _ (List.mem_append_right _ h))))) (by decide +kernel))) (goodIn_sub (fun _ h => List.mem_cons_of_mem _ (List.mem_append_left _ (List.mem_append_left _ (List.mem_append_left _ (List.mem_append_left _ (List.mem_append_left _ (List.mem_append_left _ (List.mem_append_right _ h)))))))) (by decide +kernel))
set_option maxRecDepth 20000 in
theorem gL_isRight_L_distance : GoodIn wsL_isRight (va_wsS RL 250 yL_distance wsL_distance) := goodIn_app (goodIn_of _ (by decide +kernel)) ggL_isRight_L_distance
set_option maxRecDepth 20000 in
theorem ggL_isRight_L_pathAt : GoodIn wsL_isRight wsL_pathAt := goodIn_ca (goodIn_ca (goodIn_ca (goodIn_ca (goodIn_r _ [224, 13, 63, 225, 226, 227, 228, 6, 229, 230, 231, 131, 132, 133, 134, 135, 22, 23, 8, 136, 137, 138, 27, 139, 50, 209, 210, 211, 212, 68, 69, 34, 213, 214, 215, 143, 216, 145, 51, 52, 217, 218, 219, 220, 221, 156, 54, 55, 56, 57, 58, 232, 233, 234, 235, 335, 336, 337, 338, 339, 340, 341, 342, 343, 344, 345, 346, 347, 348, 349, 350, 351, 352, 353, 354, 355, 356, 357, 358] (by decide +kernel) (by decide +kernel)) (goodIn_sub (fun _ h => List.mem_cons_of_mem _ (List.mem_append_left _ (List.mem_append_left _ (List.mem_append_right _ h)))) (by decide +kernel))) (goodIn_sub (fun _ h => List.mem_cons_of_mem _ (List.mem_append_left _ (List.mem_append_left _ (List.mem_append_left _ (List.mem_append_left _ (List.mem_append_right _ h)))))) (by decide +kernel))) (goodIn_sub (fun _ h => List.mem_cons_of_mem _ (List.mem_append_left _ (List.mem_append_left _ (List.mem_append_left _ (List.mem_append_right _ h))))) (by decide +kernel))) (goodIn_sub (fun _ h => List.mem_cons_of_mem _ (List.mem_append_left _ (List.mem_append_left _ (List.mem_append_left _ (List.mem_append_left _ (List.mem_append_left _ (List.mem_append_left _ (List.mem_append_right _ h)))))))) (by decide +kernel))
set_option maxRecDepth 20000 in
theorem gL_isRight_L_pathAt : GoodIn wsL_isRight (va_wsS RL 252 yL_pathAt wsL_pathAt) := goodIn_app (goodIn_of _ (by decide +kernel)) ggL_isRight_L_pathAt
set_option maxRecDepth 20000 in
theorem ggL_isRight_L_faultCurrent : GoodIn wsL_isRight wsL_faultCurrent := goodIn_ca (goodIn_ca (goodIn_ca (goodIn_ca (goodIn_r _ [238, 13, 63, 239, 240, 241, 6, 242, 243, 34, 132, 133, 134, 135, 22, 23, 8, 136, 137, 138, 27, 139, 50, 209, 210, 211, 212, 68, 69, 131, 213, 214, 215, 143, 216, 145, 51, 52, 217, 218, 219, 220, 221, 156, 54, 55, 56, 57, 58, 244, 245, 246, 247, 248, 249, 250, 177, 178, 179, 180, 181, 182, 183, 184, 185, 36, 37, 38, 39, 40, 41, 42, 43, 44, 45, 46, 47, 48, 49, 53, 186, 71, 72, 73, 74, 251, 252, 253, 254, 255, 256, 25, 26, 28, 29, 335, 336, 337, 338, 339, 340, 351, 352, 353, 354, 355, 341, 342, 343, 344, 345, 346, 347, 348, 349, 350, 356, 357, 358, 359, 360, 361, 362, 363] (by decide +kernel) (by decide +kernel)) (goodIn_sub (fun _ h => List.mem_cons_of_mem _ (List.mem_append_left _ (List.mem_append_left _ (List.mem_append_left _ (List.mem_append_left _ (List.mem_append_right _ h)))))) (by decide +kernel))) (goodIn_sub (fun _ h => List.mem_cons_of_mem _ (List.mem_append_left _ (List.mem_append_left _ (List.mem_append_left _ (List.mem_append_right _ h))))) (by decide +kernel))) (goodIn_sub (fun _ h => List.mem_cons_of_mem _ (List.mem_append_left _ (List.mem_append_left _ (List.mem_append_left _ (List.mem_append_left _ (List.mem_append_left _ (List.mem_append_left _ (List.mem_append_right _ h)))))))) (by decide +kernel))) (goodIn_sub (fun _ h => List.mem_cons_of_mem _ (List.mem_append_left _ (List.mem_append_left _ (List.mem_append_left _ (List.mem_append_left _ (List.mem_append_left _ (List.mem_append_right _ h))))))) (by decide +kernel))
set_option maxRecDepth 20000 in
theorem gL_isRight_L_faultCurrent : GoodIn wsL_isRight (va_wsS RL 254 yL_faultCurrent wsL_faultCurrent) := goodIn_app (goodIn_of _ (by decide +kernel)) ggL_isRight_L_faultCurrent
set_option maxRecDepth 20000 in
theorem ggL_isRight_L_isSelective : GoodIn wsL_isRight wsL_isSelective := goodIn_ca (goodIn_ca (goodIn_ca (goodIn_r _ [259, 13, 260, 261, 262, 6, 263, 243, 34, 132, 133, 134, 135, 22, 23, 8, 136, 137, 138, 27, 139, 50, 264, 265, 266, 247, 267, 268, 269, 214, 215, 143, 216, 145, 51, 52, 217, 218, 219, 220, 221, 156, 54, 55, 56, 57, 58, 270, 245, 246, 248, 249, 250, 177, 178, 179, 180, 181, 182, 183, 184, 185, 36, 37, 38, 39, 40, 41, 42, 43, 44, 45, 46, 47, 48, 49, 53, 186, 71, 72, 73, 74, 251, 252, 253, 254, 255, 256, 25, 26, 28, 29, 271, 272, 273, 274, 275, 233, 234, 235, 276, 277, 278, 279, 280, 281, 282, 283, 335, 336, 337, 338, 339, 340, 351, 352, 353, 354, 355, 341, 342, 343, 344, 345, 346, 347, 348, 349, 350, 359, 360, 361, 362, 363, 356, 357, 358] (by decide +kernel) (by decide +kernel)) (goodIn_sub (fun _ h => List.mem_cons_of_mem _ (List.mem_append_left _ (List.mem_append_left _ (List.mem_append_left _ (List.mem_append_left _ (List.mem_append_right _ h)))))) (by decide +kernel))) (goodIn_sub (fun _ h => List.mem_cons_of_mem _ (List.mem_append_left _ (List.mem_append_left _ (List.mem_append_left _ (List.mem_append_left _ (List.mem_append_left _ (List.mem_append_left _ (List.mem_append_right _ h)))))))) (by decide +kernel))) (goodIn_sub (fun _ h => List.mem_cons_of_mem _ (List.mem_append_left _ (List.mem_append_left _ (List.mem_append_left _ (List.mem_append_left _ (List.mem_append_left _ (List.mem_append_right _ h))))))) (by decide +kernel))
set_option maxRecDepth 20000 in
theorem gL_isRight_L_isSelective : GoodIn wsL_isRight (va_wsS RL 256 yL_isSelective wsL_isSelective) := goodIn_app (goodIn_of _ (by decide +kernel)) ggL_isRight_L_isSelective
set_option maxRecDepth 20000 in
theorem ggL_isRight_L_wouldTrip : GoodIn wsL_isRight wsL_wouldTrip := goodIn_ca (goodIn_ca (goodIn_ca (goodIn_r _ [286, 13, 287, 288, 289, 6, 290, 243, 34, 132, 133, 134, 135, 22, 23, 8, 136, 137, 138, 27, 139, 50, 264, 265, 266, 247, 267, 268, 269, 214, 215, 143, 216, 145, 51, 52, 217, 218, 219, 220, 221, 156, 54, 55, 56, 57, 58, 270, 245, 246, 248, 249, 250, 177, 178, 179, 180, 181, 182, 183, 184, 185, 36, 37, 38, 39, 40, 41, 42, 43, 44, 45, 46, 47, 48, 49, 53, 186, 71, 72, 73, 74, 251, 252, 253, 254, 255, 256, 25, 26, 28, 29, 271, 272, 273, 274, 275, 233, 234, 235, 276, 277, 278, 279, 280, 281, 282, 283, 335, 336, 337, 338, 339, 340, 351, 352, 353, 354, 355, 341, 342, 343, 344, 345, 346, 347, 348, 349, 350, 359, 360, 361, 362, 363, 356, 357, 358] (by decide +kernel) (by decide +kernel)) (goodIn_sub (fun _ h => List.mem_cons_of_mem _ (List.mem_append_left _ (List.mem_append_left _ (List.mem_append_left _ (List.mem_append_left _ (List.mem_append_right _ h)))))) (by decide +kernel))) (goodIn_sub (fun _ h => List.mem_cons_of_mem _ (List.mem_append_left _ (List.mem_append_left _ (List.mem_append_left _ (List.mem_append_left _ (List.mem_append_left _ (List.mem_append_left _ (List.mem_append_right _ h)))))))) (by decide +kernel))) (goodIn_sub (fun _ h => List.mem_cons_of_mem _ (List.mem_append_left _ (List.mem_append_left _ (List.mem_append_left _ (List.mem_append_left _ (List.mem_append_left _ (List.mem_append_right _ h))))))) (by decide +kernel))
set_option maxRecDepth 20000 in
theorem gL_isRight_L_wouldTrip : GoodIn wsL_isRight (va_wsS RL 182 yL_wouldTrip wsL_wouldTrip) := goodIn_app (goodIn_of _ (by decide +kernel)) ggL_isRight_L_wouldTrip
set_option maxRecDepth 20000 in
theorem ggL_isRight_L_margin : GoodIn wsL_isRight wsL_margin := goodIn_ca (goodIn_ca (goodIn_ca (goodIn_ca (goodIn_ca (goodIn_r _ [293, 13, 63, 294, 295, 296, 297, 6, 298, 68, 69, 299, 300, 243, 34, 132, 133, 134, 135, 22, 23, 8, 136, 137, 138, 27, 139, 50, 264, 265, 266, 247, 267, 268, 269, 214, 215, 143, 216, 145, 51, 52, 217, 218, 219, 220, 221, 156, 54, 55, 56, 57, 58, 270, 245, 246, 248, 249, 250, 177, 178, 179, 180, 181, 182, 183, 184, 185, 36, 37, 38, 39, 40, 41, 42, 43, 44, 45, 46, 47, 48, 49, 53, 186, 71, 72, 73, 74, 251, 252, 253, 254, 255, 256, 25, 26, 28, 29, 271, 272, 273, 274, 275, 233, 234, 235, 276, 277, 278, 279, 280, 281, 282, 283, 301, 302, 303, 304, 335, 336, 337, 338, 339, 340, 351, 352, 353, 354, 355, 341, 342, 343, 344, 345, 346, 347, 348, 349, 350, 359, 360, 361, 362, 363, 356, 357, 358] (by decide +kernel) (by decide +kernel)) (goodIn_sub (fun _ h => List.mem_cons_of_mem _ (List.mem_append_left _ (List.mem_append_left _ (List.mem_append_left _ (List.mem_append_right _ h))))) (by decide +kernel))) (goodIn_sub (fun _ h => List.mem_cons_of_mem _ (List.mem_append_left _ (List.mem_append_right _ h))) (by decide +kernel))) (goodIn_sub (fun _ h => List.mem_cons_of_mem _ (List.mem_append_left _ (List.mem_append_left _ (List.mem_append_left _ (List.mem_append_left _ (List.mem_append_right _ h)))))) (by decide +kernel))) (goodIn_sub (fun _ h => List.mem_cons_of_mem _ (List.mem_append_left _ (List.mem_append_left _ (List.mem_append_left _ (List.mem_append_left _ (List.mem_append_left _ (List.mem_append_left _ (List.mem_append_right _ h)))))))) (by decide +kernel))) (goodIn_sub (fun _ h => List.mem_cons_of_mem _ (List.mem_append_left _ (List.mem_append_left _ (List.mem_append_left _ (List.mem_append_left _ (List.mem_append_left _ (List.mem_append_right _ h))))))) (by decide +kernel))
set_option maxRecDepth 20000 in
theorem gL_isRight_L_margin : GoodIn wsL_isRight (va_wsS RL 258 yL_margin wsL_margin) := goodIn_app (goodIn_of _ (by decide +kernel)) ggL_isRight_L_margin
set_option maxRecDepth 20000 in
theorem ggL_isRight_X5_islands : GoodIn wsL_isRight wsX5_islands := goodIn_ca (goodIn_r _ [308, 8, 30, 31, 32, 6, 33, 34, 35, 36, 37, 27, 38, 39, 40, 41, 42, 43, 44, 45, 46, 47, 48, 49, 50, 51, 52, 53, 54, 55, 56, 57, 58, 59, 335, 336, 337, 338, 339, 340, 341, 342, 343, 344, 345, 346, 347, 348, 349, 350, 351, 352, 353, 354, 355] (by decide +kernel) (by decide +kernel)) (goodIn_sub (fun _ h => List.mem_cons_of_mem _ (List.mem_append_left _ (List.mem_append_left _ (List.mem_append_left _ (List.mem_append_left _ (List.mem_append_left _ (List.mem_append_left _ (List.mem_append_right _ h)))))))) (by decide +kernel))
set_option maxRecDepth 20000 in
theorem gL_isRight_X5_islands : GoodIn wsL_isRight (wsV RL 260 RX5 yX5_islands wsX5_islands) := goodIn_app (goodIn_of _ (by decide +kernel)) ggL_isRight_X5_islands
set_option maxRecDepth 20000 in
theorem ggL_isRight_X5_darkLoad : GoodIn wsL_isRight wsX5_darkLoad := goodIn_ca (goodIn_r _ [312, 8, 313, 314, 315, 27, 316, 29, 39, 6, 40, 120, 121, 122, 123, 86, 51, 52, 317, 318, 319, 320, 34, 321, 322, 323, 324, 74, 185, 36, 37, 38, 41, 42, 43, 44, 45, 46, 47, 48, 49, 50, 53, 54, 55, 56, 57, 58, 335, 336, 337, 338, 339, 340, 341, 342, 343, 344, 345, 346, 347, 348, 349, 350, 351, 352, 353, 354, 355] (by decide +kernel) (by decide +kernel)) (goodIn_sub (fun _ h => List.mem_cons_of_mem _ (List.mem_append_left _ (List.mem_append_left _ (List.mem_append_left _ (List.mem_append_left _ (List.mem_append_left _ (List.mem_append_left _ (List.mem_append_right _ h)))))))) (by decide +kernel))
set_option maxRecDepth 20000 in
theorem gL_isRight_X5_darkLoad : GoodIn wsL_isRight (wsV RL 263 RX5 yX5_darkLoad wsX5_darkLoad) := goodIn_app (goodIn_of _ (by decide +kernel)) ggL_isRight_X5_darkLoad
set_option maxRecDepth 20000 in
theorem ggL_isRight_L_liveShare : GoodIn wsL_isRight wsL_liveShare := goodIn_ca (goodIn_ca (goodIn_r _ [327, 328, 2, 329, 330, 331, 6, 332, 333, 334, 8, 313, 314, 315, 27, 316, 29, 39, 40, 120, 121, 122, 123, 86, 51, 52, 317, 318, 319, 320, 34, 321, 322, 323, 324, 74, 185, 36, 37, 38, 41, 42, 43, 44, 45, 46, 47, 48, 49, 50, 53, 54, 55, 56, 57, 58, 335, 336, 337, 338, 339, 340, 341, 342, 343, 344, 345, 346, 347, 348, 349, 350, 351, 352, 353, 354, 355] (by decide +kernel) (by decide +kernel)) (goodIn_sub (fun _ h => List.mem_cons_of_mem _ (List.mem_append_right _ h)) (by decide +kernel))) (goodIn_sub (fun _ h => List.mem_cons_of_mem _ (List.mem_append_left _ (List.mem_append_left _ (List.mem_append_left _ (List.mem_append_left _ (List.mem_append_left _ (List.mem_append_left _ (List.mem_append_right _ h)))))))) (by decide +kernel))
set_option maxRecDepth 20000 in
theorem gL_isRight_L_liveShare : GoodIn wsL_isRight (va_wsS RL 266 yL_liveShare wsL_liveShare) := goodIn_app (goodIn_of _ (by decide +kernel)) ggL_isRight_L_liveShare
theorem dL_isRight_0 : decode cL_isRight 0 = .ok (.iconst 0, 1) := by decide +kernel
theorem dL_isRight_1 : decode cL_isRight 1 = .ok (.istore 5, 2) := by decide +kernel
theorem dL_isRight_3 : decode cL_isRight 3 = .ok (.iconst 0, 1) := by decide +kernel
theorem dL_isRight_4 : decode cL_isRight 4 = .ok (.istore 6, 2) := by decide +kernel
theorem dL_isRight_6 : decode cL_isRight 6 = .ok (.iconst 0, 1) := by decide +kernel
theorem dL_isRight_7 : decode cL_isRight 7 = .ok (.istore 7, 2) := by decide +kernel
theorem dL_isRight_9 : decode cL_isRight 9 = .ok (.bipush 10, 2) := by decide +kernel
theorem dL_isRight_11 : decode cL_isRight 11 = .ok (.newarray .int, 2) := by decide +kernel
theorem dL_isRight_13 : decode cL_isRight 13 = .ok (.astore 8, 2) := by decide +kernel
theorem dL_isRight_15 : decode cL_isRight 15 = .ok (.iconst 1, 1) := by decide +kernel
theorem dL_isRight_16 : decode cL_isRight 16 = .ok (.istore 9, 2) := by decide +kernel
theorem dL_isRight_18 : decode cL_isRight 18 = .ok (.iconst 0, 1) := by decide +kernel
theorem dL_isRight_19 : decode cL_isRight 19 = .ok (.istore 10, 2) := by decide +kernel
theorem dL_isRight_21 : decode cL_isRight 21 = .ok (.iload 10, 2) := by decide +kernel
theorem dL_isRight_23 : decode cL_isRight 23 = .ok (.aload_n 0, 1) := by decide +kernel
theorem dL_isRight_24 : decode cL_isRight 24 = .ok (.invokevirtual 227, 3) := by decide +kernel
theorem dL_isRight_27 : decode cL_isRight 27 = .ok (.if_icmp .ge 172, 3) := by decide +kernel
theorem dL_isRight_30 : decode cL_isRight 30 = .ok (.aload_n 0, 1) := by decide +kernel
theorem dL_isRight_31 : decode cL_isRight 31 = .ok (.iload 10, 2) := by decide +kernel
theorem dL_isRight_33 : decode cL_isRight 33 = .ok (.invokestatic 238, 3) := by decide +kernel
theorem dL_isRight_36 : decode cL_isRight 36 = .ok (.istore 11, 2) := by decide +kernel
theorem dL_isRight_38 : decode cL_isRight 38 = .ok (.aload_n 0, 1) := by decide +kernel
theorem dL_isRight_39 : decode cL_isRight 39 = .ok (.iload 10, 2) := by decide +kernel
theorem dL_isRight_41 : decode cL_isRight 41 = .ok (.invokestatic 240, 3) := by decide +kernel
theorem dL_isRight_44 : decode cL_isRight 44 = .ok (.istore 12, 2) := by decide +kernel
theorem dL_isRight_46 : decode cL_isRight 46 = .ok (.iload 7, 2) := by decide +kernel
theorem dL_isRight_48 : decode cL_isRight 48 = .ok (.aload_n 0, 1) := by decide +kernel
theorem dL_isRight_49 : decode cL_isRight 49 = .ok (.iload 10, 2) := by decide +kernel
theorem dL_isRight_51 : decode cL_isRight 51 = .ok (.invokestatic 173, 3) := by decide +kernel
theorem dL_isRight_54 : decode cL_isRight 54 = .ok (.iadd, 1) := by decide +kernel
theorem dL_isRight_55 : decode cL_isRight 55 = .ok (.istore 7, 2) := by decide +kernel
theorem dL_isRight_57 : decode cL_isRight 57 = .ok (.iload 6, 2) := by decide +kernel
theorem dL_isRight_59 : decode cL_isRight 59 = .ok (.aload_n 0, 1) := by decide +kernel
theorem dL_isRight_60 : decode cL_isRight 60 = .ok (.iload 10, 2) := by decide +kernel
theorem dL_isRight_62 : decode cL_isRight 62 = .ok (.invokestatic 234, 3) := by decide +kernel
theorem dL_isRight_65 : decode cL_isRight 65 = .ok (.iconst 1, 1) := by decide +kernel
theorem dL_isRight_66 : decode cL_isRight 66 = .ok (.if_icmp .ne 12, 3) := by decide +kernel
theorem dL_isRight_69 : decode cL_isRight 69 = .ok (.aload_n 0, 1) := by decide +kernel
theorem dL_isRight_70 : decode cL_isRight 70 = .ok (.iload 10, 2) := by decide +kernel
theorem dL_isRight_72 : decode cL_isRight 72 = .ok (.invokestatic 173, 3) := by decide +kernel
theorem dL_isRight_75 : decode cL_isRight 75 = .ok (.goto 4, 3) := by decide +kernel
theorem dL_isRight_78 : decode cL_isRight 78 = .ok (.iconst 0, 1) := by decide +kernel
theorem dL_isRight_79 : decode cL_isRight 79 = .ok (.iadd, 1) := by decide +kernel
theorem dL_isRight_80 : decode cL_isRight 80 = .ok (.istore 6, 2) := by decide +kernel
theorem dL_isRight_82 : decode cL_isRight 82 = .ok (.aload 8, 2) := by decide +kernel
theorem dL_isRight_84 : decode cL_isRight 84 = .ok (.iload 11, 2) := by decide +kernel
theorem dL_isRight_86 : decode cL_isRight 86 = .ok (.dup2, 1) := by decide +kernel
theorem dL_isRight_87 : decode cL_isRight 87 = .ok (.iaload, 1) := by decide +kernel
theorem dL_isRight_88 : decode cL_isRight 88 = .ok (.aload_n 0, 1) := by decide +kernel
theorem dL_isRight_89 : decode cL_isRight 89 = .ok (.iload 10, 2) := by decide +kernel
theorem dL_isRight_91 : decode cL_isRight 91 = .ok (.invokestatic 232, 3) := by decide +kernel
theorem dL_isRight_94 : decode cL_isRight 94 = .ok (.iadd, 1) := by decide +kernel
theorem dL_isRight_95 : decode cL_isRight 95 = .ok (.iastore, 1) := by decide +kernel
theorem dL_isRight_96 : decode cL_isRight 96 = .ok (.iload 9, 2) := by decide +kernel
theorem dL_isRight_98 : decode cL_isRight 98 = .ok (.iload 11, 2) := by decide +kernel
theorem dL_isRight_100 : decode cL_isRight 100 = .ok (.aload_n 0, 1) := by decide +kernel
theorem dL_isRight_101 : decode cL_isRight 101 = .ok (.iload 10, 2) := by decide +kernel
theorem dL_isRight_103 : decode cL_isRight 103 = .ok (.invokestatic 242, 3) := by decide +kernel
theorem dL_isRight_106 : decode cL_isRight 106 = .ok (.if_icmp .ne 83, 3) := by decide +kernel
theorem dL_isRight_109 : decode cL_isRight 109 = .ok (.aload_n 0, 1) := by decide +kernel
theorem dL_isRight_110 : decode cL_isRight 110 = .ok (.iload 11, 2) := by decide +kernel
theorem dL_isRight_112 : decode cL_isRight 112 = .ok (.invokestatic 238, 3) := by decide +kernel
theorem dL_isRight_115 : decode cL_isRight 115 = .ok (.iload 11, 2) := by decide +kernel
theorem dL_isRight_117 : decode cL_isRight 117 = .ok (.if_icmp .ne 72, 3) := by decide +kernel
theorem dL_isRight_120 : decode cL_isRight 120 = .ok (.iload 11, 2) := by decide +kernel
theorem dL_isRight_122 : decode cL_isRight 122 = .ok (.iload 10, 2) := by decide +kernel
theorem dL_isRight_124 : decode cL_isRight 124 = .ok (.if_icmp .gt 65, 3) := by decide +kernel
theorem dL_isRight_127 : decode cL_isRight 127 = .ok (.iload 12, 2) := by decide +kernel
theorem dL_isRight_129 : decode cL_isRight 129 = .ok (.ifCond .lt 7, 3) := by decide +kernel
theorem dL_isRight_132 : decode cL_isRight 132 = .ok (.iconst 1, 1) := by decide +kernel
theorem dL_isRight_133 : decode cL_isRight 133 = .ok (.goto 4, 3) := by decide +kernel
theorem dL_isRight_136 : decode cL_isRight 136 = .ok (.iconst 0, 1) := by decide +kernel
theorem dL_isRight_137 : decode cL_isRight 137 = .ok (.aload_n 0, 1) := by decide +kernel
theorem dL_isRight_138 : decode cL_isRight 138 = .ok (.iload 10, 2) := by decide +kernel
theorem dL_isRight_140 : decode cL_isRight 140 = .ok (.invokestatic 234, 3) := by decide +kernel
theorem dL_isRight_143 : decode cL_isRight 143 = .ok (.iconst 1, 1) := by decide +kernel
theorem dL_isRight_144 : decode cL_isRight 144 = .ok (.if_icmp .ne 7, 3) := by decide +kernel
theorem dL_isRight_147 : decode cL_isRight 147 = .ok (.iconst 1, 1) := by decide +kernel
theorem dL_isRight_148 : decode cL_isRight 148 = .ok (.goto 4, 3) := by decide +kernel
theorem dL_isRight_151 : decode cL_isRight 151 = .ok (.iconst 0, 1) := by decide +kernel
theorem dL_isRight_152 : decode cL_isRight 152 = .ok (.if_icmp .ne 37, 3) := by decide +kernel
theorem dL_isRight_155 : decode cL_isRight 155 = .ok (.iload 12, 2) := by decide +kernel
theorem dL_isRight_157 : decode cL_isRight 157 = .ok (.ifCond .lt 28, 3) := by decide +kernel
theorem dL_isRight_160 : decode cL_isRight 160 = .ok (.aload_n 0, 1) := by decide +kernel
theorem dL_isRight_161 : decode cL_isRight 161 = .ok (.iload 12, 2) := by decide +kernel
theorem dL_isRight_163 : decode cL_isRight 163 = .ok (.invokestatic 238, 3) := by decide +kernel
theorem dL_isRight_166 : decode cL_isRight 166 = .ok (.iload 11, 2) := by decide +kernel
theorem dL_isRight_168 : decode cL_isRight 168 = .ok (.if_icmp .ne 21, 3) := by decide +kernel
theorem dL_isRight_171 : decode cL_isRight 171 = .ok (.aload_n 0, 1) := by decide +kernel
theorem dL_isRight_172 : decode cL_isRight 172 = .ok (.iload 10, 2) := by decide +kernel
theorem dL_isRight_174 : decode cL_isRight 174 = .ok (.invokestatic 244, 3) := by decide +kernel
theorem dL_isRight_177 : decode cL_isRight 177 = .ok (.aload 4, 2) := by decide +kernel
theorem dL_isRight_179 : decode cL_isRight 179 = .ok (.iload 12, 2) := by decide +kernel
theorem dL_isRight_181 : decode cL_isRight 181 = .ok (.iaload, 1) := by decide +kernel
theorem dL_isRight_182 : decode cL_isRight 182 = .ok (.if_icmp .gt 7, 3) := by decide +kernel
theorem dL_isRight_185 : decode cL_isRight 185 = .ok (.iconst 1, 1) := by decide +kernel
theorem dL_isRight_186 : decode cL_isRight 186 = .ok (.goto 4, 3) := by decide +kernel
theorem dL_isRight_189 : decode cL_isRight 189 = .ok (.iconst 0, 1) := by decide +kernel
theorem dL_isRight_190 : decode cL_isRight 190 = .ok (.iand, 1) := by decide +kernel
theorem dL_isRight_191 : decode cL_isRight 191 = .ok (.istore 9, 2) := by decide +kernel
theorem dL_isRight_193 : decode cL_isRight 193 = .ok (.iinc 10 1, 3) := by decide +kernel
theorem dL_isRight_196 : decode cL_isRight 196 = .ok (.goto (-175), 3) := by decide +kernel
theorem dL_isRight_199 : decode cL_isRight 199 = .ok (.iconst 0, 1) := by decide +kernel
theorem dL_isRight_200 : decode cL_isRight 200 = .ok (.istore 10, 2) := by decide +kernel
theorem dL_isRight_202 : decode cL_isRight 202 = .ok (.iload 10, 2) := by decide +kernel
theorem dL_isRight_204 : decode cL_isRight 204 = .ok (.bipush 10, 2) := by decide +kernel
theorem dL_isRight_206 : decode cL_isRight 206 = .ok (.if_icmp .ge 28, 3) := by decide +kernel
theorem dL_isRight_209 : decode cL_isRight 209 = .ok (.iload 9, 2) := by decide +kernel
theorem dL_isRight_211 : decode cL_isRight 211 = .ok (.aload 8, 2) := by decide +kernel
theorem dL_isRight_213 : decode cL_isRight 213 = .ok (.iload 10, 2) := by decide +kernel
theorem dL_isRight_215 : decode cL_isRight 215 = .ok (.iaload, 1) := by decide +kernel
theorem dL_isRight_216 : decode cL_isRight 216 = .ok (.iconst 1, 1) := by decide +kernel
theorem dL_isRight_217 : decode cL_isRight 217 = .ok (.if_icmp .gt 7, 3) := by decide +kernel
theorem dL_isRight_220 : decode cL_isRight 220 = .ok (.iconst 1, 1) := by decide +kernel
theorem dL_isRight_221 : decode cL_isRight 221 = .ok (.goto 4, 3) := by decide +kernel
theorem dL_isRight_224 : decode cL_isRight 224 = .ok (.iconst 0, 1) := by decide +kernel
theorem dL_isRight_225 : decode cL_isRight 225 = .ok (.iand, 1) := by decide +kernel
theorem dL_isRight_226 : decode cL_isRight 226 = .ok (.istore 9, 2) := by decide +kernel
theorem dL_isRight_228 : decode cL_isRight 228 = .ok (.iinc 10 1, 3) := by decide +kernel
theorem dL_isRight_231 : decode cL_isRight 231 = .ok (.goto (-29), 3) := by decide +kernel
theorem dL_isRight_234 : decode cL_isRight 234 = .ok (.iconst 0, 1) := by decide +kernel
theorem dL_isRight_235 : decode cL_isRight 235 = .ok (.istore 10, 2) := by decide +kernel
theorem dL_isRight_237 : decode cL_isRight 237 = .ok (.iload 10, 2) := by decide +kernel
theorem dL_isRight_239 : decode cL_isRight 239 = .ok (.iload_n 1, 1) := by decide +kernel
theorem dL_isRight_240 : decode cL_isRight 240 = .ok (.if_icmp .ge 316, 3) := by decide +kernel
theorem dL_isRight_243 : decode cL_isRight 243 = .ok (.aload_n 0, 1) := by decide +kernel
theorem dL_isRight_244 : decode cL_isRight 244 = .ok (.iload 10, 2) := by decide +kernel
theorem dL_isRight_246 : decode cL_isRight 246 = .ok (.invokestatic 246, 3) := by decide +kernel
theorem dL_isRight_249 : decode cL_isRight 249 = .ok (.istore 11, 2) := by decide +kernel
theorem dL_isRight_251 : decode cL_isRight 251 = .ok (.aload_n 0, 1) := by decide +kernel
theorem dL_isRight_252 : decode cL_isRight 252 = .ok (.iload 10, 2) := by decide +kernel
theorem dL_isRight_254 : decode cL_isRight 254 = .ok (.invokestatic 167, 3) := by decide +kernel
theorem dL_isRight_257 : decode cL_isRight 257 = .ok (.iconst 1, 1) := by decide +kernel
theorem dL_isRight_258 : decode cL_isRight 258 = .ok (.if_icmp .ne 7, 3) := by decide +kernel
theorem dL_isRight_261 : decode cL_isRight 261 = .ok (.iconst 1, 1) := by decide +kernel
theorem dL_isRight_262 : decode cL_isRight 262 = .ok (.goto 4, 3) := by decide +kernel
theorem dL_isRight_265 : decode cL_isRight 265 = .ok (.iconst 0, 1) := by decide +kernel
theorem dL_isRight_266 : decode cL_isRight 266 = .ok (.istore 12, 2) := by decide +kernel
theorem dL_isRight_268 : decode cL_isRight 268 = .ok (.iload 12, 2) := by decide +kernel
theorem dL_isRight_270 : decode cL_isRight 270 = .ok (.ifCond .eq 21, 3) := by decide +kernel
theorem dL_isRight_273 : decode cL_isRight 273 = .ok (.aload_n 0, 1) := by decide +kernel
theorem dL_isRight_274 : decode cL_isRight 274 = .ok (.aload_n 2, 1) := by decide +kernel
theorem dL_isRight_275 : decode cL_isRight 275 = .ok (.iconst 2, 1) := by decide +kernel
theorem dL_isRight_276 : decode cL_isRight 276 = .ok (.iload 10, 2) := by decide +kernel
theorem dL_isRight_278 : decode cL_isRight 278 = .ok (.imul, 1) := by decide +kernel
theorem dL_isRight_279 : decode cL_isRight 279 = .ok (.iaload, 1) := by decide +kernel
theorem dL_isRight_280 : decode cL_isRight 280 = .ok (.invokestatic 234, 3) := by decide +kernel
theorem dL_isRight_283 : decode cL_isRight 283 = .ok (.iconst 1, 1) := by decide +kernel
theorem dL_isRight_284 : decode cL_isRight 284 = .ok (.if_icmp .ne 7, 3) := by decide +kernel
theorem dL_isRight_287 : decode cL_isRight 287 = .ok (.iconst 1, 1) := by decide +kernel
theorem dL_isRight_288 : decode cL_isRight 288 = .ok (.goto 4, 3) := by decide +kernel
theorem dL_isRight_291 : decode cL_isRight 291 = .ok (.iconst 0, 1) := by decide +kernel
theorem dL_isRight_292 : decode cL_isRight 292 = .ok (.istore 13, 2) := by decide +kernel
theorem dL_isRight_294 : decode cL_isRight 294 = .ok (.iload 5, 2) := by decide +kernel
theorem dL_isRight_296 : decode cL_isRight 296 = .ok (.iload 12, 2) := by decide +kernel
theorem dL_isRight_298 : decode cL_isRight 298 = .ok (.ifCond .eq 7, 3) := by decide +kernel
theorem dL_isRight_301 : decode cL_isRight 301 = .ok (.iconst 1, 1) := by decide +kernel
theorem dL_isRight_302 : decode cL_isRight 302 = .ok (.goto 4, 3) := by decide +kernel
theorem dL_isRight_305 : decode cL_isRight 305 = .ok (.iconst 0, 1) := by decide +kernel
theorem dL_isRight_306 : decode cL_isRight 306 = .ok (.iadd, 1) := by decide +kernel
theorem dL_isRight_307 : decode cL_isRight 307 = .ok (.istore 5, 2) := by decide +kernel
theorem dL_isRight_309 : decode cL_isRight 309 = .ok (.iload 9, 2) := by decide +kernel
theorem dL_isRight_311 : decode cL_isRight 311 = .ok (.iload 11, 2) := by decide +kernel
theorem dL_isRight_313 : decode cL_isRight 313 = .ok (.aload_n 0, 1) := by decide +kernel
theorem dL_isRight_314 : decode cL_isRight 314 = .ok (.iload 10, 2) := by decide +kernel
theorem dL_isRight_316 : decode cL_isRight 316 = .ok (.invokestatic 248, 3) := by decide +kernel
theorem dL_isRight_319 : decode cL_isRight 319 = .ok (.if_icmp .ne 91, 3) := by decide +kernel
theorem dL_isRight_322 : decode cL_isRight 322 = .ok (.iload 11, 2) := by decide +kernel
theorem dL_isRight_324 : decode cL_isRight 324 = .ok (.ifCond .lt 86, 3) := by decide +kernel
theorem dL_isRight_327 : decode cL_isRight 327 = .ok (.iload 11, 2) := by decide +kernel
theorem dL_isRight_329 : decode cL_isRight 329 = .ok (.aload_n 3, 1) := by decide +kernel
theorem dL_isRight_330 : decode cL_isRight 330 = .ok (.iload 10, 2) := by decide +kernel
theorem dL_isRight_332 : decode cL_isRight 332 = .ok (.iaload, 1) := by decide +kernel
theorem dL_isRight_333 : decode cL_isRight 333 = .ok (.if_icmp .gt 77, 3) := by decide +kernel
theorem dL_isRight_336 : decode cL_isRight 336 = .ok (.iload 13, 2) := by decide +kernel
theorem dL_isRight_338 : decode cL_isRight 338 = .ok (.ifCond .ne 8, 3) := by decide +kernel
theorem dL_isRight_341 : decode cL_isRight 341 = .ok (.iload 11, 2) := by decide +kernel
theorem dL_isRight_343 : decode cL_isRight 343 = .ok (.ifCond .ne 67, 3) := by decide +kernel
theorem dL_isRight_346 : decode cL_isRight 346 = .ok (.iload 12, 2) := by decide +kernel
theorem dL_isRight_348 : decode cL_isRight 348 = .ok (.ifCond .eq 28, 3) := by decide +kernel
theorem dL_isRight_351 : decode cL_isRight 351 = .ok (.aload_n 0, 1) := by decide +kernel
theorem dL_isRight_352 : decode cL_isRight 352 = .ok (.aload_n 2, 1) := by decide +kernel
theorem dL_isRight_353 : decode cL_isRight 353 = .ok (.iconst 2, 1) := by decide +kernel
theorem dL_isRight_354 : decode cL_isRight 354 = .ok (.iload 10, 2) := by decide +kernel
theorem dL_isRight_356 : decode cL_isRight 356 = .ok (.imul, 1) := by decide +kernel
theorem dL_isRight_357 : decode cL_isRight 357 = .ok (.iaload, 1) := by decide +kernel
theorem dL_isRight_358 : decode cL_isRight 358 = .ok (.invokestatic 238, 3) := by decide +kernel
theorem dL_isRight_361 : decode cL_isRight 361 = .ok (.aload_n 0, 1) := by decide +kernel
theorem dL_isRight_362 : decode cL_isRight 362 = .ok (.aload_n 2, 1) := by decide +kernel
theorem dL_isRight_363 : decode cL_isRight 363 = .ok (.iconst 2, 1) := by decide +kernel
theorem dL_isRight_364 : decode cL_isRight 364 = .ok (.iload 10, 2) := by decide +kernel
theorem dL_isRight_366 : decode cL_isRight 366 = .ok (.imul, 1) := by decide +kernel
theorem dL_isRight_367 : decode cL_isRight 367 = .ok (.iconst 1, 1) := by decide +kernel
theorem dL_isRight_368 : decode cL_isRight 368 = .ok (.iadd, 1) := by decide +kernel
theorem dL_isRight_369 : decode cL_isRight 369 = .ok (.iaload, 1) := by decide +kernel
theorem dL_isRight_370 : decode cL_isRight 370 = .ok (.invokestatic 238, 3) := by decide +kernel
theorem dL_isRight_373 : decode cL_isRight 373 = .ok (.if_icmp .ne 37, 3) := by decide +kernel
theorem dL_isRight_376 : decode cL_isRight 376 = .ok (.iload 13, 2) := by decide +kernel
theorem dL_isRight_378 : decode cL_isRight 378 = .ok (.ifCond .eq 13, 3) := by decide +kernel
theorem dL_isRight_381 : decode cL_isRight 381 = .ok (.aload_n 0, 1) := by decide +kernel
theorem dL_isRight_382 : decode cL_isRight 382 = .ok (.iload 10, 2) := by decide +kernel
theorem dL_isRight_384 : decode cL_isRight 384 = .ok (.invokestatic 184, 3) := by decide +kernel
theorem dL_isRight_387 : decode cL_isRight 387 = .ok (.iconst 1, 1) := by decide +kernel
theorem dL_isRight_388 : decode cL_isRight 388 = .ok (.if_icmp .eq 22, 3) := by decide +kernel
theorem dL_isRight_391 : decode cL_isRight 391 = .ok (.iload 12, 2) := by decide +kernel
theorem dL_isRight_393 : decode cL_isRight 393 = .ok (.ifCond .eq 13, 3) := by decide +kernel
theorem dL_isRight_396 : decode cL_isRight 396 = .ok (.aload_n 0, 1) := by decide +kernel
theorem dL_isRight_397 : decode cL_isRight 397 = .ok (.iload 10, 2) := by decide +kernel
theorem dL_isRight_399 : decode cL_isRight 399 = .ok (.invokestatic 191, 3) := by decide +kernel
theorem dL_isRight_402 : decode cL_isRight 402 = .ok (.iconst 1, 1) := by decide +kernel
theorem dL_isRight_403 : decode cL_isRight 403 = .ok (.if_icmp .eq 7, 3) := by decide +kernel
theorem dL_isRight_406 : decode cL_isRight 406 = .ok (.iconst 1, 1) := by decide +kernel
theorem dL_isRight_407 : decode cL_isRight 407 = .ok (.goto 4, 3) := by decide +kernel
theorem dL_isRight_410 : decode cL_isRight 410 = .ok (.iconst 0, 1) := by decide +kernel
theorem dL_isRight_411 : decode cL_isRight 411 = .ok (.iand, 1) := by decide +kernel
theorem dL_isRight_412 : decode cL_isRight 412 = .ok (.istore 9, 2) := by decide +kernel
theorem dL_isRight_414 : decode cL_isRight 414 = .ok (.aload_n 0, 1) := by decide +kernel
theorem dL_isRight_415 : decode cL_isRight 415 = .ok (.iload 10, 2) := by decide +kernel
theorem dL_isRight_417 : decode cL_isRight 417 = .ok (.invokestatic 250, 3) := by decide +kernel
theorem dL_isRight_420 : decode cL_isRight 420 = .ok (.istore 14, 2) := by decide +kernel
theorem dL_isRight_422 : decode cL_isRight 422 = .ok (.iload 9, 2) := by decide +kernel
theorem dL_isRight_424 : decode cL_isRight 424 = .ok (.iload 13, 2) := by decide +kernel
theorem dL_isRight_426 : decode cL_isRight 426 = .ok (.ifCond .eq 59, 3) := by decide +kernel
theorem dL_isRight_429 : decode cL_isRight 429 = .ok (.iload 14, 2) := by decide +kernel
theorem dL_isRight_431 : decode cL_isRight 431 = .ok (.ifCond .le 50, 3) := by decide +kernel
theorem dL_isRight_434 : decode cL_isRight 434 = .ok (.aload_n 0, 1) := by decide +kernel
theorem dL_isRight_435 : decode cL_isRight 435 = .ok (.iload 10, 2) := by decide +kernel
theorem dL_isRight_437 : decode cL_isRight 437 = .ok (.iload 14, 2) := by decide +kernel
theorem dL_isRight_439 : decode cL_isRight 439 = .ok (.iconst 1, 1) := by decide +kernel
theorem dL_isRight_440 : decode cL_isRight 440 = .ok (.isub, 1) := by decide +kernel
theorem dL_isRight_441 : decode cL_isRight 441 = .ok (.invokestatic 252, 3) := by decide +kernel
theorem dL_isRight_444 : decode cL_isRight 444 = .ok (.iload 10, 2) := by decide +kernel
theorem dL_isRight_446 : decode cL_isRight 446 = .ok (.if_icmp .ne 35, 3) := by decide +kernel
theorem dL_isRight_449 : decode cL_isRight 449 = .ok (.aload_n 0, 1) := by decide +kernel
theorem dL_isRight_450 : decode cL_isRight 450 = .ok (.iload 10, 2) := by decide +kernel
theorem dL_isRight_452 : decode cL_isRight 452 = .ok (.invokestatic 254, 3) := by decide +kernel
theorem dL_isRight_455 : decode cL_isRight 455 = .ok (.bipush 10, 2) := by decide +kernel
theorem dL_isRight_457 : decode cL_isRight 457 = .ok (.aload 4, 2) := by decide +kernel
theorem dL_isRight_459 : decode cL_isRight 459 = .ok (.aload_n 0, 1) := by decide +kernel
theorem dL_isRight_460 : decode cL_isRight 460 = .ok (.aload_n 2, 1) := by decide +kernel
theorem dL_isRight_461 : decode cL_isRight 461 = .ok (.iconst 2, 1) := by decide +kernel
theorem dL_isRight_462 : decode cL_isRight 462 = .ok (.iload 10, 2) := by decide +kernel
theorem dL_isRight_464 : decode cL_isRight 464 = .ok (.imul, 1) := by decide +kernel
theorem dL_isRight_465 : decode cL_isRight 465 = .ok (.iaload, 1) := by decide +kernel
theorem dL_isRight_466 : decode cL_isRight 466 = .ok (.invokestatic 240, 3) := by decide +kernel
theorem dL_isRight_469 : decode cL_isRight 469 = .ok (.iaload, 1) := by decide +kernel
theorem dL_isRight_470 : decode cL_isRight 470 = .ok (.imul, 1) := by decide +kernel
theorem dL_isRight_471 : decode cL_isRight 471 = .ok (.iload 14, 2) := by decide +kernel
theorem dL_isRight_473 : decode cL_isRight 473 = .ok (.idiv, 1) := by decide +kernel
theorem dL_isRight_474 : decode cL_isRight 474 = .ok (.if_icmp .ne 7, 3) := by decide +kernel
theorem dL_isRight_477 : decode cL_isRight 477 = .ok (.iconst 1, 1) := by decide +kernel
theorem dL_isRight_478 : decode cL_isRight 478 = .ok (.goto 19, 3) := by decide +kernel
theorem dL_isRight_481 : decode cL_isRight 481 = .ok (.iconst 0, 1) := by decide +kernel
theorem dL_isRight_482 : decode cL_isRight 482 = .ok (.goto 15, 3) := by decide +kernel
theorem dL_isRight_485 : decode cL_isRight 485 = .ok (.iload 14, 2) := by decide +kernel
theorem dL_isRight_487 : decode cL_isRight 487 = .ok (.bipush (-79), 2) := by decide +kernel
theorem dL_isRight_489 : decode cL_isRight 489 = .ok (.if_icmp .ne 7, 3) := by decide +kernel
theorem dL_isRight_492 : decode cL_isRight 492 = .ok (.iconst 1, 1) := by decide +kernel
theorem dL_isRight_493 : decode cL_isRight 493 = .ok (.goto 4, 3) := by decide +kernel
theorem dL_isRight_496 : decode cL_isRight 496 = .ok (.iconst 0, 1) := by decide +kernel
theorem dL_isRight_497 : decode cL_isRight 497 = .ok (.iand, 1) := by decide +kernel
theorem dL_isRight_498 : decode cL_isRight 498 = .ok (.istore 9, 2) := by decide +kernel
theorem dL_isRight_500 : decode cL_isRight 500 = .ok (.iload 9, 2) := by decide +kernel
theorem dL_isRight_502 : decode cL_isRight 502 = .ok (.aload_n 0, 1) := by decide +kernel
theorem dL_isRight_503 : decode cL_isRight 503 = .ok (.iload 10, 2) := by decide +kernel
theorem dL_isRight_505 : decode cL_isRight 505 = .ok (.invokestatic 256, 3) := by decide +kernel
theorem dL_isRight_508 : decode cL_isRight 508 = .ok (.iconst 1, 1) := by decide +kernel
theorem dL_isRight_509 : decode cL_isRight 509 = .ok (.if_icmp .ne 22, 3) := by decide +kernel
theorem dL_isRight_512 : decode cL_isRight 512 = .ok (.aload_n 0, 1) := by decide +kernel
theorem dL_isRight_513 : decode cL_isRight 513 = .ok (.iload 10, 2) := by decide +kernel
theorem dL_isRight_515 : decode cL_isRight 515 = .ok (.invokestatic 182, 3) := by decide +kernel
theorem dL_isRight_518 : decode cL_isRight 518 = .ok (.iload 10, 2) := by decide +kernel
theorem dL_isRight_520 : decode cL_isRight 520 = .ok (.if_icmp .ne 7, 3) := by decide +kernel
theorem dL_isRight_523 : decode cL_isRight 523 = .ok (.iconst 1, 1) := by decide +kernel
theorem dL_isRight_524 : decode cL_isRight 524 = .ok (.goto 23, 3) := by decide +kernel
theorem dL_isRight_527 : decode cL_isRight 527 = .ok (.iconst 0, 1) := by decide +kernel
theorem dL_isRight_528 : decode cL_isRight 528 = .ok (.goto 19, 3) := by decide +kernel
theorem dL_isRight_531 : decode cL_isRight 531 = .ok (.aload_n 0, 1) := by decide +kernel
theorem dL_isRight_532 : decode cL_isRight 532 = .ok (.iload 10, 2) := by decide +kernel
theorem dL_isRight_534 : decode cL_isRight 534 = .ok (.invokestatic 258, 3) := by decide +kernel
theorem dL_isRight_537 : decode cL_isRight 537 = .ok (.bipush (-79), 2) := by decide +kernel
theorem dL_isRight_539 : decode cL_isRight 539 = .ok (.if_icmp .ne 7, 3) := by decide +kernel
theorem dL_isRight_542 : decode cL_isRight 542 = .ok (.iconst 1, 1) := by decide +kernel
theorem dL_isRight_543 : decode cL_isRight 543 = .ok (.goto 4, 3) := by decide +kernel
theorem dL_isRight_546 : decode cL_isRight 546 = .ok (.iconst 0, 1) := by decide +kernel
theorem dL_isRight_547 : decode cL_isRight 547 = .ok (.iand, 1) := by decide +kernel
theorem dL_isRight_548 : decode cL_isRight 548 = .ok (.istore 9, 2) := by decide +kernel
theorem dL_isRight_550 : decode cL_isRight 550 = .ok (.iinc 10 1, 3) := by decide +kernel
theorem dL_isRight_553 : decode cL_isRight 553 = .ok (.goto (-316), 3) := by decide +kernel
theorem dL_isRight_556 : decode cL_isRight 556 = .ok (.iload 9, 2) := by decide +kernel
theorem dL_isRight_558 : decode cL_isRight 558 = .ok (.ifCond .eq 58, 3) := by decide +kernel
theorem dL_isRight_561 : decode cL_isRight 561 = .ok (.aload_n 0, 1) := by decide +kernel
theorem dL_isRight_562 : decode cL_isRight 562 = .ok (.invokevirtual 260, 3) := by decide +kernel
theorem dL_isRight_565 : decode cL_isRight 565 = .ok (.aload_n 0, 1) := by decide +kernel
theorem dL_isRight_566 : decode cL_isRight 566 = .ok (.invokevirtual 227, 3) := by decide +kernel
theorem dL_isRight_569 : decode cL_isRight 569 = .ok (.iload 5, 2) := by decide +kernel
theorem dL_isRight_571 : decode cL_isRight 571 = .ok (.isub, 1) := by decide +kernel
theorem dL_isRight_572 : decode cL_isRight 572 = .ok (.if_icmp .ne 44, 3) := by decide +kernel
theorem dL_isRight_575 : decode cL_isRight 575 = .ok (.aload_n 0, 1) := by decide +kernel
theorem dL_isRight_576 : decode cL_isRight 576 = .ok (.invokevirtual 263, 3) := by decide +kernel
theorem dL_isRight_579 : decode cL_isRight 579 = .ok (.iload 7, 2) := by decide +kernel
theorem dL_isRight_581 : decode cL_isRight 581 = .ok (.iload 6, 2) := by decide +kernel
theorem dL_isRight_583 : decode cL_isRight 583 = .ok (.isub, 1) := by decide +kernel
theorem dL_isRight_584 : decode cL_isRight 584 = .ok (.if_icmp .ne 32, 3) := by decide +kernel
theorem dL_isRight_587 : decode cL_isRight 587 = .ok (.aload_n 0, 1) := by decide +kernel
theorem dL_isRight_588 : decode cL_isRight 588 = .ok (.invokestatic 266, 3) := by decide +kernel
theorem dL_isRight_591 : decode cL_isRight 591 = .ok (.iload 7, 2) := by decide +kernel
theorem dL_isRight_593 : decode cL_isRight 593 = .ok (.ifCond .ne 8, 3) := by decide +kernel
theorem dL_isRight_596 : decode cL_isRight 596 = .ok (.ldc 144, 2) := by decide +kernel
theorem dL_isRight_598 : decode cL_isRight 598 = .ok (.goto 10, 3) := by decide +kernel
theorem dL_isRight_601 : decode cL_isRight 601 = .ok (.iload 6, 2) := by decide +kernel
theorem dL_isRight_603 : decode cL_isRight 603 = .ok (.i2f, 1) := by decide +kernel
theorem dL_isRight_604 : decode cL_isRight 604 = .ok (.iload 7, 2) := by decide +kernel
theorem dL_isRight_606 : decode cL_isRight 606 = .ok (.i2f, 1) := by decide +kernel
theorem dL_isRight_607 : decode cL_isRight 607 = .ok (.fdiv, 1) := by decide +kernel
theorem dL_isRight_608 : decode cL_isRight 608 = .ok (.fcmp .l, 1) := by decide +kernel
theorem dL_isRight_609 : decode cL_isRight 609 = .ok (.ifCond .ne 7, 3) := by decide +kernel
theorem dL_isRight_612 : decode cL_isRight 612 = .ok (.iconst 1, 1) := by decide +kernel
theorem dL_isRight_613 : decode cL_isRight 613 = .ok (.goto 4, 3) := by decide +kernel
theorem dL_isRight_616 : decode cL_isRight 616 = .ok (.iconst 0, 1) := by decide +kernel
theorem dL_isRight_617 : decode cL_isRight 617 = .ok (.ireturn, 1) := by decide +kernel
