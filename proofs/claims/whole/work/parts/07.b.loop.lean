set_option maxRecDepth 100000 in
set_option maxHeartbeats 8000000 in
/-- THE LAW'S LOOP: at its head, with i ints read, class and reference agree -/
theorem law_loop {p : Program} {l : Launch} {e : Env} {s0 : State} {d0 : Drawn} {m : MethodId} {below : List Frame} {meth : Method} {c : Code} {b L : Nat} {xs : Nat → Int32} {D : va_G} {cA : Nat → ClassId} {ax am : Nat → Nat} {qo qe N : Nat} {I : sg_St → sg_St → Prop} (hlt : l.stackTraces = false) (hL : L ≤ 2560) (hd0 : s0.drawn.sameBut d0 lw_cs) (C0 : sg_LA p (s0.setDrawn d0) m meth c b L xs D cA) (hs0 : ∀ u v, I u v → ∀ p1 : Int32, sb_0 N I u v p1) (hs1 : ∀ u v, I u v → ∀ p1 p2 : Int32, sb_1 N I u v p1 p2) (hs2 : ∀ u v, I u v → ∀ p1 p2 p3 p4 : Int32, sb_2 N I u v p1 p2 p3 p4) (hs3 : ∀ u v, I u v → ∀ p1 p2 : Int32, sb_3 N I u v p1 p2) (hs4 : ∀ u v, I u v → ∀ p1 p2 p3 p4 : Int32, sb_4 N I u v p1 p2 p3 p4) (hs5 : ∀ u v, I u v → ∀ p1 : Int32, sb_5 N I u v p1) (hs6 : ∀ u v, I u v → ∀ p1 : Int32, sb_6 N I u v p1) (hs7 : ∀ u v, I u v → ∀ p1 : Int32, sb_7 N I u v p1) (hs8 : ∀ u v, I u v → ∀ p1 : Int32, sb_8 N I u v p1) (hs9 : ∀ u v, I u v → ∀ p1 : Int32, sb_9 N I u v p1) (hs10 : ∀ u v, I u v → ∀ p1 : Int32, sb_10 N I u v p1) (hs11 : ∀ u v, I u v → ∀ p1 : Int32, sb_11 N I u v p1) (hs12 : ∀ u v, I u v → ∀ p1 : Int32, sb_12 N I u v p1) (hs13 : ∀ u v, I u v → ∀ _ : Unit, sb_13 N I u v) (hs14 : ∀ u v, I u v → ∀ _ : Unit, sb_14 N I u v) (hs15 : ∀ u v, I u v → ∀ p1 : Int32, sb_15 N I u v p1) (hs16 : ∀ u v, I u v → ∀ p1 : Int32, sb_16 N I u v p1) (hs17 : ∀ u v, I u v → ∀ p1 : Int32, sb_17 N I u v p1) (hs18 : ∀ u v, I u v → ∀ p1 : Int32, sb_18 N I u v p1) (hs19 : ∀ u v, I u v → ∀ p1 : Int32, sb_19 N I u v p1) (hs20 : ∀ u v, I u v → ∀ p1 : Int32, sb_20 N I u v p1) (hs21 : ∀ u v, I u v → ∀ p1 : Int32, sb_21 N I u v p1) (hs22 : ∀ u v, I u v → ∀ p1 : Int32, sb_22 N I u v p1) (hs23 : ∀ u v, I u v → ∀ _ : Unit, sb_23 N I u v) (hs24 : ∀ u v, I u v → ∀ p1 : Int32, sb_24 N I u v p1) (hs25 : ∀ u v, I u v → ∀ p1 : Int32, sb_25 N I u v p1) (hs26 : ∀ u v, I u v → ∀ p1 : Int32, sb_26 N I u v p1) (hs27 : ∀ u v, I u v → ∀ p1 : Int32, sb_27 N I u v p1) (hs28 : ∀ u v, I u v → ∀ p1 : Int32, sb_28 N I u v p1) (hs29 : ∀ u v, I u v → ∀ p1 : Int32, sb_29 N I u v p1) (hs30 : ∀ u v, I u v → ∀ p1 p2 : Int32, sb_30 N I u v p1 p2) (hs31 : ∀ u v, I u v → ∀ p1 : Int32, sb_31 N I u v p1) (hs32 : ∀ u v, I u v → ∀ p1 p2 : Int32, sb_32 N I u v p1 p2) (hs33 : ∀ u v, I u v → ∀ p1 : Int32, sb_33 N I u v p1) (hs34 : ∀ u v, I u v → ∀ p1 : Int32, sb_34 N I u v p1) (hs35 : ∀ u v, I u v → ∀ p1 : Int32, sb_35 N I u v p1) (hs36 : ∀ u v, I u v → ∀ _ : Unit, sb_36 N I u v) (hs37 : ∀ u v, I u v → ∀ _ : Unit, sb_37 N I u v) (hs38 : ∀ u v, I u v → ∀ _ : Unit, sb_38 N I u v) (hs39 : ∀ u v, I u v → ∀ _ : Unit, sb_39 N I u v) (hs40 : ∀ u v, I u v → ∀ p1 : Int32, sb_40 N I u v p1) (hs41 : ∀ u v, I u v → ∀ _ : Unit, sb_41 N I u v) (hs42 : ∀ u v, I u v → ∀ _ : Unit, sb_42 N I u v) (hs43 : ∀ u v, I u v → ∀ _ : Unit, sb_43 N I u v) (hs44 : ∀ u v, I u v → ∀ _ : Unit, sb_44 N I u v) (hs45 : ∀ u v, I u v → ∀ _ : Unit, sb_45 N I u v) : ∀ (n i : Nat) (x5 : Int32) (u v : sg_St) (o : Nat → Int64) (od : Nat → UInt64) (H : Heap) (locs : List Loc) (ls : Array Slot), i ≤ L → L < i + n → x5 = nI i → I u v → va_P D vwCl (sg_WW cA ax am qo qe u v o od) H → va_D (fun q : Nat => (s0.setDrawn d0).heap.size ≤ q) (sg_WW cA ax am qo qe u v o od) → va_S (fun q : Nat => (s0.setDrawn d0).heap.size ≤ q) (s0.setDrawn d0).heap H locs → lv_has ls 9 [(0, .ref b), (1, .ref (ax 0)), (2, .ref (am 0)), (3, .ref qo), (4, .ref qe), (5, .int x5)] → W p l e room_1 (s0.setDrawn d0) m #[Value.ref b] below meth c H locs (40 + 2 * i) (500 + 12 * i) (lw_Z below #[Value.ref b] s0) (F0 m 28 ls []) := by
  have C1 := C0
  obtain ⟨hx, hb, hr, hml, hown, hts, hX, hbl, hK, hT, hN, hlocks⟩ := C0
  have hbA : ¬ (fun q : Nat => (s0.setDrawn d0).heap.size ≤ q) b := Nat.not_le.mpr hbl
  intro n
  induction n with
  | zero => intro i x5 u v o od H locs ls h1 h2; exact absurd h2 (by omega)
  | succ n ih =>
    intro i x5 u v o od H locs ls hi hin ex5 hI hP hD hS hl
    refine lv_iload hx hb dL_law_28 (lv_at hl 5 rfl) ?_
    refine lv_aload_n hx hb dL_law_30 rfl (lv_at hl 0 rfl) ?_
    refine va_slen hx hb hX hbl hbA hS dL_law_31 ?_
    refine lv_iconst (v := 5) hx hb dL_law_32 (by decide) ?_
    refine lv_isub hx hb dL_law_33 ?_
    have hLi : (Int32.ofNat L - 5).toInt = (L : Int) - 5 := pk_sub_toInt (a := L) (b := 5) (by omega) (by omega)
    have hxi : x5.toInt = (i : Int) := by rw [ex5]; exact nI_toInt (by omega)
    refine lv_icmp_gt (tgt := 2662) hx hb dL_law_34 (by decide) (fun hc => ?_) (fun hc => ?_)
    · refine lv_iconst (v := 1) hx hb dL_law_2662 (by decide) ?_
      refine va_forget (fun q hq => hS.2.2 q hq) ?_
      refine W.widen (k := 649553) (n := 7063476) (by omega) (by omega) ?_
      exact lw_ret hd0 hx hb hr hlocks dL_law_2663
    · have hlt2 : i + 5 ≤ L := by
        rw [Int32.lt_iff_toInt_lt, hLi, hxi] at hc
        omega
      have hv0 : vp_in x5 L := by rw [ex5]; exact vp_in_nI (by omega) (by omega)
      have hv1 : vp_in (x5 + 1) L := by rw [ex5]; exact (nI_add i 1) ▸ vp_in_nI (n := i + 1) (by omega) (by omega)
      have hv2 : vp_in (x5 + 2) L := by rw [ex5]; exact (nI_add i 2) ▸ vp_in_nI (n := i + 2) (by omega) (by omega)
      have hv3 : vp_in (x5 + 3) L := by rw [ex5]; exact (nI_add i 3) ▸ vp_in_nI (n := i + 3) (by omega) (by omega)
      have hv4 : vp_in (x5 + 4) L := by rw [ex5]; exact (nI_add i 4) ▸ vp_in_nI (n := i + 4) (by omega) (by omega)
      have hnext : ∀ (u' v' : sg_St) (o' : Nat → Int64) (od' : Nat → UInt64) (H : Heap) (locs : List Loc) (ls : Array Slot), I u' v' → va_P D vwCl (sg_WW cA ax am qo qe u' v' o' od') H → va_D (fun q : Nat => (s0.setDrawn d0).heap.size ≤ q) (sg_WW cA ax am qo qe u' v' o' od') → va_S (fun q : Nat => (s0.setDrawn d0).heap.size ≤ q) (s0.setDrawn d0).heap H locs → lv_has ls 9 [(0, .ref b), (1, .ref (ax 0)), (2, .ref (am 0)), (3, .ref qo), (4, .ref qe), (5, .int x5)] → W p l e room_1 (s0.setDrawn d0) m #[Value.ref b] below meth c H locs (40 + 2 * i + 10) (500 + 12 * i + 60) (lw_Z below #[Value.ref b] s0) (F0 m 2656 ls []) := by
        intro u1 v1 o1 od1 H locs ls hI1 hP hD hS hl
        refine lv_iinc (v := x5 + 5) (lv' := [(5, .int (x5 + 5)), (0, .ref b), (1, .ref (ax 0)), (2, .ref (am 0)), (3, .ref qo), (4, .ref qe)]) hx hb dL_law_2656 hl (k := 5) rfl rfl (by decide) rfl (fun ls hl => ?_)
        refine lv_goto (tgt := 28) hx hb dL_law_2659 (by decide) ?_
        refine W.widen (k := 40 + 2 * (i + 5)) (n := 500 + 12 * (i + 5)) (by omega) (by omega) ?_
        exact ih (i + 5) (x5 + 5) u1 v1 o1 od1 H locs ls hlt2 (by omega) (by rw [ex5]; exact nI_add i 5) hI1 hP hD hS (lv_sub hl [1, 2, 3, 4, 5, 0] rfl)
      refine lv_aload_n hx hb dL_law_37 rfl (lv_at hl 0 rfl) ?_
      refine lv_iload hx hb dL_law_38 (lv_at hl 5 rfl) ?_
      refine va_sld hx hb hX hbl hbA hS hv0 dL_law_40 ?_
      refine lv_bipush (v := 63) hx hb dL_law_41 (by decide) ?_
      refine lv_iand hx hb dL_law_43 ?_
      obtain ⟨j, hj, ej⟩ := pk_andE (xs x5.toNatClampNeg) (m := 63) 6 (by decide)
      rw [ej]
      have hcases : j = 0 ∨ j = 1 ∨ j = 2 ∨ j = 3 ∨ j = 4 ∨ j = 5 ∨ j = 6 ∨ j = 7 ∨ j = 8 ∨ j = 9 ∨ j = 10 ∨ j = 11 ∨ j = 12 ∨ j = 13 ∨ j = 14 ∨ j = 15 ∨ j = 16 ∨ j = 17 ∨ j = 18 ∨ j = 19 ∨ j = 20 ∨ j = 21 ∨ j = 22 ∨ j = 23 ∨ j = 24 ∨ j = 25 ∨ j = 26 ∨ j = 27 ∨ j = 28 ∨ j = 29 ∨ j = 30 ∨ j = 31 ∨ j = 32 ∨ j = 33 ∨ j = 34 ∨ j = 35 ∨ j = 36 ∨ j = 37 ∨ j = 38 ∨ j = 39 ∨ j = 40 ∨ j = 41 ∨ j = 42 ∨ j = 43 ∨ j = 44 ∨ j = 45 ∨ 46 ≤ j := by omega
      rcases hcases with rfl | rfl | rfl | rfl | rfl | rfl | rfl | rfl | rfl | rfl | rfl | rfl | rfl | rfl | rfl | rfl | rfl | rfl | rfl | rfl | rfl | rfl | rfl | rfl | rfl | rfl | rfl | rfl | rfl | rfl | rfl | rfl | rfl | rfl | rfl | rfl | rfl | rfl | rfl | rfl | rfl | rfl | rfl | rfl | rfl | rfl | hbig
      · refine lv_tableIn (off := 200) (tgt := 244) hx hb dL_law_44 (by decide) (by decide) (by decide) (by decide) ?_
        exact lw_case0 hlt C1 (hs0 _ _ hI _) hv1 hP hD hS hl ⟨by omega, by omega⟩ hnext
      · refine lv_tableIn (off := 256) (tgt := 300) hx hb dL_law_44 (by decide) (by decide) (by decide) (by decide) ?_
        exact lw_case1 hlt C1 (hs1 _ _ hI _ _) hv1 hv2 hP hD hS hl ⟨by omega, by omega⟩ hnext
      · refine lv_tableIn (off := 324) (tgt := 368) hx hb dL_law_44 (by decide) (by decide) (by decide) (by decide) ?_
        exact lw_case2 hlt C1 (hs2 _ _ hI _ _ _ _) hv1 hv2 hv3 hv4 hP hD hS hl ⟨by omega, by omega⟩ hnext
      · refine lv_tableIn (off := 432) (tgt := 476) hx hb dL_law_44 (by decide) (by decide) (by decide) (by decide) ?_
        exact lw_case3 hlt C1 (hs3 _ _ hI _ _) hv1 hv2 hP hD hS hl ⟨by omega, by omega⟩ hnext
      · refine lv_tableIn (off := 500) (tgt := 544) hx hb dL_law_44 (by decide) (by decide) (by decide) (by decide) ?_
        exact lw_case4 hlt C1 (hs4 _ _ hI _ _ _ _) hv1 hv2 hv3 hv4 hP hD hS hl ⟨by omega, by omega⟩ hnext
      · refine lv_tableIn (off := 592) (tgt := 636) hx hb dL_law_44 (by decide) (by decide) (by decide) (by decide) ?_
        exact lw_case5 hlt C1 (hs5 _ _ hI _) hv1 hP hD hS hl ⟨by omega, by omega⟩ hnext
      · refine lv_tableIn (off := 648) (tgt := 692) hx hb dL_law_44 (by decide) (by decide) (by decide) (by decide) ?_
        exact lw_case6 hlt C1 (hs6 _ _ hI _) hv1 hP hD hS hl ⟨by omega, by omega⟩ hnext
      · refine lv_tableIn (off := 704) (tgt := 748) hx hb dL_law_44 (by decide) (by decide) (by decide) (by decide) ?_
        exact lw_case7 hlt C1 (hs7 _ _ hI _) hv1 hP hD hS hl ⟨by omega, by omega⟩ hnext
      · refine lv_tableIn (off := 760) (tgt := 804) hx hb dL_law_44 (by decide) (by decide) (by decide) (by decide) ?_
        exact lw_case8 hlt C1 (hs8 _ _ hI _) hv1 hP hD hS hl ⟨by omega, by omega⟩ hnext
      · refine lv_tableIn (off := 816) (tgt := 860) hx hb dL_law_44 (by decide) (by decide) (by decide) (by decide) ?_
        exact lw_case9 hlt C1 (hs9 _ _ hI _) hv1 hP hD hS hl ⟨by omega, by omega⟩ hnext
      · refine lv_tableIn (off := 872) (tgt := 916) hx hb dL_law_44 (by decide) (by decide) (by decide) (by decide) ?_
        exact lw_case10 hlt C1 (hs10 _ _ hI _) hv1 hP hD hS hl ⟨by omega, by omega⟩ hnext
      · refine lv_tableIn (off := 928) (tgt := 972) hx hb dL_law_44 (by decide) (by decide) (by decide) (by decide) ?_
        exact lw_case11 hlt C1 (hs11 _ _ hI _) hv1 hP hD hS hl ⟨by omega, by omega⟩ hnext
      · refine lv_tableIn (off := 991) (tgt := 1035) hx hb dL_law_44 (by decide) (by decide) (by decide) (by decide) ?_
        exact lw_case12 hlt C1 (hs12 _ _ hI _) hv1 hP hD hS hl ⟨by omega, by omega⟩ hnext
      · refine lv_tableIn (off := 1047) (tgt := 1091) hx hb dL_law_44 (by decide) (by decide) (by decide) (by decide) ?_
        exact lw_case13 hlt C1 (hs13 _ _ hI ()) hP hD hS hl ⟨by omega, by omega⟩ hnext
      · refine lv_tableIn (off := 1060) (tgt := 1104) hx hb dL_law_44 (by decide) (by decide) (by decide) (by decide) ?_
        exact lw_case14 hlt C1 (hs14 _ _ hI ()) hP hD hS hl ⟨by omega, by omega⟩ hnext
      · refine lv_tableIn (off := 1073) (tgt := 1117) hx hb dL_law_44 (by decide) (by decide) (by decide) (by decide) ?_
        exact lw_case15 hlt C1 (hs15 _ _ hI _) hv1 hP hD hS hl ⟨by omega, by omega⟩ hnext
      · refine lv_tableIn (off := 1136) (tgt := 1180) hx hb dL_law_44 (by decide) (by decide) (by decide) (by decide) ?_
        exact lw_case16 hlt C1 (hs16 _ _ hI _) hv1 hP hD hS hl ⟨by omega, by omega⟩ hnext
      · refine lv_tableIn (off := 1192) (tgt := 1236) hx hb dL_law_44 (by decide) (by decide) (by decide) (by decide) ?_
        exact lw_case17 hlt C1 (hs17 _ _ hI _) hv1 hP hD hS hl ⟨by omega, by omega⟩ hnext
      · refine lv_tableIn (off := 1248) (tgt := 1292) hx hb dL_law_44 (by decide) (by decide) (by decide) (by decide) ?_
        exact lw_case18 hlt C1 (hs18 _ _ hI _) hv1 hP hD hS hl ⟨by omega, by omega⟩ hnext
      · refine lv_tableIn (off := 1311) (tgt := 1355) hx hb dL_law_44 (by decide) (by decide) (by decide) (by decide) ?_
        exact lw_case19 hlt C1 (hs19 _ _ hI _) hv1 hP hD hS hl ⟨by omega, by omega⟩ hnext
      · refine lv_tableIn (off := 1374) (tgt := 1418) hx hb dL_law_44 (by decide) (by decide) (by decide) (by decide) ?_
        exact lw_case20 hlt C1 (hs20 _ _ hI _) hv1 hP hD hS hl ⟨by omega, by omega⟩ hnext
      · refine lv_tableIn (off := 1437) (tgt := 1481) hx hb dL_law_44 (by decide) (by decide) (by decide) (by decide) ?_
        exact lw_case21 hlt C1 (hs21 _ _ hI _) hv1 hP hD hS hl ⟨by omega, by omega⟩ hnext
      · refine lv_tableIn (off := 1493) (tgt := 1537) hx hb dL_law_44 (by decide) (by decide) (by decide) (by decide) ?_
        exact lw_case22 hlt C1 (hs22 _ _ hI _) hv1 hP hD hS hl ⟨by omega, by omega⟩ hnext
      · refine lv_tableIn (off := 1549) (tgt := 1593) hx hb dL_law_44 (by decide) (by decide) (by decide) (by decide) ?_
        exact lw_case23 hlt C1 (hs23 _ _ hI ()) hP hD hS hl ⟨by omega, by omega⟩ hnext
      · refine lv_tableIn (off := 1562) (tgt := 1606) hx hb dL_law_44 (by decide) (by decide) (by decide) (by decide) ?_
        exact lw_case24 hlt C1 (hs24 _ _ hI _) hv1 hP hD hS hl ⟨by omega, by omega⟩ hnext
      · refine lv_tableIn (off := 1625) (tgt := 1669) hx hb dL_law_44 (by decide) (by decide) (by decide) (by decide) ?_
        exact lw_case25 hlt C1 (hs25 _ _ hI _) hv1 hP hD hS hl ⟨by omega, by omega⟩ hnext
      · refine lv_tableIn (off := 1681) (tgt := 1725) hx hb dL_law_44 (by decide) (by decide) (by decide) (by decide) ?_
        exact lw_case26 hlt C1 (hs26 _ _ hI _) hv1 hP hD hS hl ⟨by omega, by omega⟩ hnext
      · refine lv_tableIn (off := 1737) (tgt := 1781) hx hb dL_law_44 (by decide) (by decide) (by decide) (by decide) ?_
        exact lw_case27 hlt C1 (hs27 _ _ hI _) hv1 hP hD hS hl ⟨by omega, by omega⟩ hnext
      · refine lv_tableIn (off := 1793) (tgt := 1837) hx hb dL_law_44 (by decide) (by decide) (by decide) (by decide) ?_
        exact lw_case28 hlt C1 (hs28 _ _ hI _) hv1 hP hD hS hl ⟨by omega, by omega⟩ hnext
      · refine lv_tableIn (off := 1849) (tgt := 1893) hx hb dL_law_44 (by decide) (by decide) (by decide) (by decide) ?_
        exact lw_case29 hlt C1 (hs29 _ _ hI _) hv1 hP hD hS hl ⟨by omega, by omega⟩ hnext
      · refine lv_tableIn (off := 1905) (tgt := 1949) hx hb dL_law_44 (by decide) (by decide) (by decide) (by decide) ?_
        exact lw_case30 hlt C1 (hs30 _ _ hI _ _) hv1 hv2 hP hD hS hl ⟨by omega, by omega⟩ hnext
      · refine lv_tableIn (off := 1973) (tgt := 2017) hx hb dL_law_44 (by decide) (by decide) (by decide) (by decide) ?_
        exact lw_case31 hlt C1 (hs31 _ _ hI _) hv1 hP hD hS hl ⟨by omega, by omega⟩ hnext
      · refine lv_tableIn (off := 2029) (tgt := 2073) hx hb dL_law_44 (by decide) (by decide) (by decide) (by decide) ?_
        exact lw_case32 hlt C1 (hs32 _ _ hI _ _) hv1 hv2 hP hD hS hl ⟨by omega, by omega⟩ hnext
      · refine lv_tableIn (off := 2097) (tgt := 2141) hx hb dL_law_44 (by decide) (by decide) (by decide) (by decide) ?_
        exact lw_case33 hlt C1 (hs33 _ _ hI _) hv1 hP hD hS hl ⟨by omega, by omega⟩ hnext
      · refine lv_tableIn (off := 2153) (tgt := 2197) hx hb dL_law_44 (by decide) (by decide) (by decide) (by decide) ?_
        exact lw_case34 hlt C1 (hs34 _ _ hI _) hv1 hP hD hS hl ⟨by omega, by omega⟩ hnext
      · refine lv_tableIn (off := 2216) (tgt := 2260) hx hb dL_law_44 (by decide) (by decide) (by decide) (by decide) ?_
        exact lw_case35 hlt C1 (hs35 _ _ hI _) hv1 hP hD hS hl ⟨by omega, by omega⟩ hnext
      · refine lv_tableIn (off := 2272) (tgt := 2316) hx hb dL_law_44 (by decide) (by decide) (by decide) (by decide) ?_
        exact lw_case36 hlt C1 (hs36 _ _ hI ()) hP hD hS hl ⟨by omega, by omega⟩ hnext
      · refine lv_tableIn (off := 2285) (tgt := 2329) hx hb dL_law_44 (by decide) (by decide) (by decide) (by decide) ?_
        exact lw_case37 hlt C1 (hs37 _ _ hI ()) hP hD hS hl ⟨by omega, by omega⟩ hnext
      · refine lv_tableIn (off := 2298) (tgt := 2342) hx hb dL_law_44 (by decide) (by decide) (by decide) (by decide) ?_
        exact lw_case38 hlt C1 (hs38 _ _ hI ()) hP hD hS hl ⟨by omega, by omega⟩ hnext
      · refine lv_tableIn (off := 2311) (tgt := 2355) hx hb dL_law_44 (by decide) (by decide) (by decide) (by decide) ?_
        exact lw_case39 hlt C1 (hs39 _ _ hI ()) hP hD hS hl ⟨by omega, by omega⟩ hnext
      · refine lv_tableIn (off := 2324) (tgt := 2368) hx hb dL_law_44 (by decide) (by decide) (by decide) (by decide) ?_
        exact lw_case40 hlt C1 (hs40 _ _ hI _) hv1 hP hD hS hl ⟨by omega, by omega⟩ hnext
      · refine lv_tableIn (off := 2380) (tgt := 2424) hx hb dL_law_44 (by decide) (by decide) (by decide) (by decide) ?_
        exact lw_case41 hlt C1 (hs41 _ _ hI ()) hP hD hS hl ⟨by omega, by omega⟩ hnext
      · refine lv_tableIn (off := 2424) (tgt := 2468) hx hb dL_law_44 (by decide) (by decide) (by decide) (by decide) ?_
        exact lw_case42 hlt C1 (hs42 _ _ hI ()) hP hD hS hl ⟨by omega, by omega⟩ hnext
      · refine lv_tableIn (off := 2468) (tgt := 2512) hx hb dL_law_44 (by decide) (by decide) (by decide) (by decide) ?_
        exact lw_case43 hlt C1 (hs43 _ _ hI ()) hP hD hS hl ⟨by omega, by omega⟩ hnext
      · refine lv_tableIn (off := 2481) (tgt := 2525) hx hb dL_law_44 (by decide) (by decide) (by decide) (by decide) ?_
        exact lw_case44 hlt C1 (hs44 _ _ hI ()) hP hD hS hl ⟨by omega, by omega⟩ hnext
      · refine lv_tableIn (off := 2547) (tgt := 2591) hx hb dL_law_44 (by decide) (by decide) (by decide) (by decide) ?_
        exact lw_case45 hlt C1 (hs45 _ _ hI ()) hP hD hS hl ⟨by omega, by omega⟩ hnext
      · refine lv_tableOut (tgt := 2656) hx hb dL_law_44 (Or.inr (by rw [nI_toInt (by omega)]; omega)) (by decide) ?_
        refine W.widen (k := 40 + 2 * i + 10) (n := 500 + 12 * i + 60) (by omega) (by omega) ?_
        exact hnext _ _ _ _ _ _ _ hI hP hD hS hl
