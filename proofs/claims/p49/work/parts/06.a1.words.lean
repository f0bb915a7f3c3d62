theorem sg_pk2 {big ws : List Cond} (m : Nat) (h1 : ∀ w ∈ ws.take m, w ∈ big) (h2 : ∀ w ∈ ws.drop m, w ∈ big) : ∀ w ∈ ws, w ∈ big := fun w h => by
  rw [← List.take_append_drop m ws] at h
  exact (List.mem_append.mp h).elim (h1 w) (h2 w)
set_option maxRecDepth 20000 in
theorem wsL_law0_r1_in : ∀ w ∈ wsL_law0_r1, w ∈ lw_tbl := sg_pk [39, 40, 21, 94, 41, 42, 43, 44, 45, 46, 47, 48, 22, 183, 95, 96, 23, 184, 111, 112, 24, 185, 137, 138] (by decide +kernel)
set_option maxRecDepth 20000 in
theorem wsL_law0_r2_in : ∀ w ∈ wsL_law0_r2, w ∈ lw_tbl := sg_pk [25, 186, 159, 160, 26, 187, 50, 51, 52, 53, 54, 55, 56, 57, 58, 97, 98, 99, 100, 102, 103, 101, 113, 114] (by decide +kernel)
set_option maxRecDepth 20000 in
theorem wsL_law0_r3_in : ∀ w ∈ wsL_law0_r3, w ∈ lw_tbl := sg_pk [115, 116, 117, 118, 139, 140, 141, 142, 145, 146, 147, 143, 144, 161, 162, 163, 164, 165, 166, 355, 356, 20, 357, 358] (by decide +kernel)
set_option maxRecDepth 20000 in
theorem wsL_law0_r4_in : ∀ w ∈ wsL_law0_r4, w ∈ lw_tbl := sg_pk [359, 360, 361, 362, 363, 364, 365, 366, 367, 368, 369, 370, 371, 30, 443, 444, 445, 446, 59, 65, 238, 239, 447, 448] (by decide +kernel)
set_option maxRecDepth 20000 in
theorem wsL_law0_r5_in : ∀ w ∈ wsL_law0_r5, w ∈ lw_tbl := sg_pk [449, 450, 31, 466, 467, 468, 469, 470, 471, 472, 473, 474, 475, 478, 479, 480, 481, 482, 483, 484, 485, 486, 488, 9] (by decide +kernel)
