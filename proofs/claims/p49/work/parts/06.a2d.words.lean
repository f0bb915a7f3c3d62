set_option maxRecDepth 20000 in
theorem wsL_law0_r27_c0 : ∀ w ∈ (wsL_law0_r27).take 8, w ∈ lw_tbl := sg_pk [916, 917, 919, 18, 920, 921, 923, 924] (by decide +kernel)
set_option maxRecDepth 20000 in
theorem wsL_law0_r27_c1 : ∀ w ∈ ((wsL_law0_r27).drop 8).take 8, w ∈ lw_tbl := sg_pk [925, 926, 927, 928, 929, 931, 932, 933] (by decide +kernel)
set_option maxRecDepth 20000 in
theorem wsL_law0_r27_c2 : ∀ w ∈ ((wsL_law0_r27).drop 8).drop 8, w ∈ lw_tbl := sg_pk [934, 935, 936, 937, 938, 939, 940, 941] (by decide +kernel)
theorem wsL_law0_r27_in : ∀ w ∈ wsL_law0_r27, w ∈ lw_tbl := (sg_pk2 8 wsL_law0_r27_c0 (sg_pk2 8 wsL_law0_r27_c1 wsL_law0_r27_c2))
set_option maxRecDepth 20000 in
theorem wsL_law0_r28_c0 : ∀ w ∈ (wsL_law0_r28).take 8, w ∈ lw_tbl := sg_pk [942, 943, 944, 945, 946, 947, 948, 949] (by decide +kernel)
set_option maxRecDepth 20000 in
theorem wsL_law0_r28_c1 : ∀ w ∈ ((wsL_law0_r28).drop 8).take 8, w ∈ lw_tbl := sg_pk [950, 951, 952, 953, 955, 956, 957, 958] (by decide +kernel)
set_option maxRecDepth 20000 in
theorem wsL_law0_r28_c2 : ∀ w ∈ ((wsL_law0_r28).drop 8).drop 8, w ∈ lw_tbl := sg_pk [960, 961, 962, 963, 964, 965, 966, 967] (by decide +kernel)
theorem wsL_law0_r28_in : ∀ w ∈ wsL_law0_r28, w ∈ lw_tbl := (sg_pk2 8 wsL_law0_r28_c0 (sg_pk2 8 wsL_law0_r28_c1 wsL_law0_r28_c2))
set_option maxRecDepth 20000 in
theorem wsL_law0_r29_c0 : ∀ w ∈ (wsL_law0_r29).take 8, w ∈ lw_tbl := sg_pk [968, 969, 970, 971, 972, 974, 19, 975] (by decide +kernel)
set_option maxRecDepth 20000 in
theorem wsL_law0_r29_c1 : ∀ w ∈ ((wsL_law0_r29).drop 8).take 8, w ∈ lw_tbl := sg_pk [976, 977, 978, 979, 980, 994, 995, 996] (by decide +kernel)
set_option maxRecDepth 20000 in
theorem wsL_law0_r29_c2 : ∀ w ∈ ((wsL_law0_r29).drop 8).drop 8, w ∈ lw_tbl := sg_pk [997, 998, 38] (by decide +kernel)
theorem wsL_law0_r29_in : ∀ w ∈ wsL_law0_r29, w ∈ lw_tbl := (sg_pk2 8 wsL_law0_r29_c0 (sg_pk2 8 wsL_law0_r29_c1 wsL_law0_r29_c2))
