set_option maxRecDepth 20000 in
theorem wsL_law0_r23_c0 : ∀ w ∈ (wsL_law0_r23).take 8, w ∈ lw_tbl := sg_pk [350, 821, 822, 823, 824, 825, 826, 827] (by decide +kernel)
set_option maxRecDepth 20000 in
theorem wsL_law0_r23_c1 : ∀ w ∈ ((wsL_law0_r23).drop 8).take 8, w ∈ lw_tbl := sg_pk [828, 829, 830, 831, 832, 833, 834, 835] (by decide +kernel)
set_option maxRecDepth 20000 in
theorem wsL_law0_r23_c2 : ∀ w ∈ ((wsL_law0_r23).drop 8).drop 8, w ∈ lw_tbl := sg_pk [836, 837, 838, 840, 17, 841, 842, 843] (by decide +kernel)
theorem wsL_law0_r23_in : ∀ w ∈ wsL_law0_r23, w ∈ lw_tbl := (sg_pk2 8 wsL_law0_r23_c0 (sg_pk2 8 wsL_law0_r23_c1 wsL_law0_r23_c2))
theorem sg_pk1 {big : List Cond} {c : Cond} {r : List Cond} (h : c ∈ big) (hr : ∀ w ∈ r, w ∈ big) : ∀ w ∈ c :: r, w ∈ big := fun w q => (List.mem_cons.mp q).elim (fun e => by rw [e]; exact h) (hr w)
theorem sg_isr : Cond.code yL_isRight cL_isRight 15 (some .boolean) ∈ lw_tbl := by
  show _ ∈ k2_sels lw_privs ++ (tables_1_1 ++ (tables_1_2 ++ (tables_1_3 ++ (tables_1_4 ++ tables_1_5))))
  exact List.mem_append_right _ (List.mem_append_right _ (List.mem_append_right _ (List.mem_append_right _ (List.mem_append_left _ (List.mem_of_getElem? (i := 114) rfl)))))
set_option maxRecDepth 20000 in
theorem wsL_law0_r24_c0 : ∀ w ∈ (wsL_law0_r24).take 10, w ∈ lw_tbl := sg_pk [844, 845, 846, 847, 848, 849, 850, 851, 852, 853] (by decide +kernel)
set_option maxRecDepth 20000 in
theorem wsL_law0_r24_c1 : ∀ w ∈ ((wsL_law0_r24).drop 11).take 7, w ∈ lw_tbl := sg_pk [1001, 855, 856, 857, 858, 859, 860] (by decide +kernel)
set_option maxRecDepth 20000 in
theorem wsL_law0_r24_c2 : ∀ w ∈ ((wsL_law0_r24).drop 11).drop 7, w ∈ lw_tbl := sg_pk [861, 862, 863, 864, 865, 866] (by decide +kernel)
theorem wsL_law0_r24_in : ∀ w ∈ wsL_law0_r24, w ∈ lw_tbl := sg_pk2 10 wsL_law0_r24_c0 (show ∀ w ∈ Cond.code yL_isRight cL_isRight 15 (some .boolean) :: (wsL_law0_r24).drop 11, w ∈ lw_tbl from sg_pk1 sg_isr (sg_pk2 7 wsL_law0_r24_c1 wsL_law0_r24_c2))
set_option maxRecDepth 20000 in
theorem wsL_law0_r25_c0 : ∀ w ∈ (wsL_law0_r25).take 8, w ∈ lw_tbl := sg_pk [867, 868, 869, 871, 872, 873, 874, 875] (by decide +kernel)
set_option maxRecDepth 20000 in
theorem wsL_law0_r25_c1 : ∀ w ∈ ((wsL_law0_r25).drop 8).take 8, w ∈ lw_tbl := sg_pk [876, 877, 878, 879, 880, 881, 882, 883] (by decide +kernel)
set_option maxRecDepth 20000 in
theorem wsL_law0_r25_c2 : ∀ w ∈ ((wsL_law0_r25).drop 8).drop 8, w ∈ lw_tbl := sg_pk [884, 885, 886, 887, 888, 889, 890, 891] (by decide +kernel)
theorem wsL_law0_r25_in : ∀ w ∈ wsL_law0_r25, w ∈ lw_tbl := (sg_pk2 8 wsL_law0_r25_c0 (sg_pk2 8 wsL_law0_r25_c1 wsL_law0_r25_c2))
set_option maxRecDepth 20000 in
theorem wsL_law0_r26_c0 : ∀ w ∈ (wsL_law0_r26).take 8, w ∈ lw_tbl := sg_pk [892, 893, 894, 895, 896, 897, 898, 899] (by decide +kernel)
set_option maxRecDepth 20000 in
theorem wsL_law0_r26_c1 : ∀ w ∈ ((wsL_law0_r26).drop 8).take 8, w ∈ lw_tbl := sg_pk [900, 901, 902, 903, 904, 905, 906, 907] (by decide +kernel)
set_option maxRecDepth 20000 in
theorem wsL_law0_r26_c2 : ∀ w ∈ ((wsL_law0_r26).drop 8).drop 8, w ∈ lw_tbl := sg_pk [908, 909, 910, 911, 912, 913, 914, 915] (by decide +kernel)
theorem wsL_law0_r26_in : ∀ w ∈ wsL_law0_r26, w ∈ lw_tbl := (sg_pk2 8 wsL_law0_r26_c0 (sg_pk2 8 wsL_law0_r26_c1 wsL_law0_r26_c2))
