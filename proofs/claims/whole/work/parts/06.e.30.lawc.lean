set_option maxRecDepth 100000 in
set_option maxHeartbeats 4000000 in
theorem lw_case30 {p : Program} {l : Launch} {e : Env} {s : State} {m : MethodId} {below : List Frame} {meth : Method} {c : Code} {b L : Nat} {xs : Nat → Int32} {D : va_G} {cA : Nat → ClassId} {ax am : Nat → Nat} {qo qe N : Nat} {I : sg_St → sg_St → Prop} {Q : State → Prop} {cells slots : Nat} {H : Heap} {locs : List Loc} {ls : Array Slot} {x5 : Int32} {u v : sg_St} {o : Nat → Int64} {od : Nat → UInt64} (hlt : l.stackTraces = false) (C0 : sg_LA p s m meth c b L xs D cA) (hB : ∃ (R : (Nat ⊕ Int32) × sg_St) (r1 : Int32) (v1 : sg_St), fX5_pathAt N u (xs (x5 + 1).toNatClampNeg) (xs (x5 + 2).toNatClampNeg) = some R ∧ fX6_pathAt N v (xs (x5 + 1).toNatClampNeg) (xs (x5 + 2).toNatClampNeg) = some (r1, v1) ∧ sg_Rel I [5, 0, 2] R r1 v1) (hv1 : vp_in (x5 + 1) L) (hv2 : vp_in (x5 + 2) L) (hP : va_P D vwCl (sg_WW cA ax am qo qe u v o od) H) (hD : va_D (fun q : Nat => s.heap.size ≤ q) (sg_WW cA ax am qo qe u v o od)) (hS : va_S (fun q : Nat => s.heap.size ≤ q) s.heap H locs) (hl : lv_has ls 9 [(0, .ref b), (1, .ref (ax 0)), (2, .ref (am 0)), (3, .ref qo), (4, .ref qe), (5, .int x5)]) (hcs : cells + 10 ≤ 649553 ∧ slots + 60 ≤ 7063476) (kk : ∀ (u' v' : sg_St) (o' : Nat → Int64) (od' : Nat → UInt64) (H : Heap) (locs : List Loc) (ls : Array Slot), I u' v' → va_P D vwCl (sg_WW cA ax am qo qe u' v' o' od') H → va_D (fun q : Nat => s.heap.size ≤ q) (sg_WW cA ax am qo qe u' v' o' od') → va_S (fun q : Nat => s.heap.size ≤ q) s.heap H locs → lv_has ls 9 [(0, .ref b), (1, .ref (ax 0)), (2, .ref (am 0)), (3, .ref qo), (4, .ref qe), (5, .int x5)] → W p l e room_1 s m #[Value.ref b] below meth c H locs (cells + 10) (slots + 60) Q (F0 m 2656 ls [])) : W p l e room_1 s m #[Value.ref b] below meth c H locs cells slots Q (F0 m 1949 ls []) := by
  obtain ⟨hx, hb, hr, hml, hown, hts, hX, hbl, hK, hT, hN, hlocks⟩ := C0
  have hA : ∀ q : Nat, s.heap.size ≤ q → (fun q : Nat => s.heap.size ≤ q) q := fun _ h => h
  have hbA : ¬ (fun q : Nat => s.heap.size ≤ q) b := Nat.not_le.mpr hbl
  obtain ⟨R, r1, v1, hf1, hf2, hRel⟩ := hB
  have hR9 : ∀ k t, R = (.inl k, t) → k ∈ [5, 0, 2] := fun k t e9 => sg_Rel_in hRel e9
  refine lv_aload_n hx hb dL_law_1949 rfl (lv_at hl 1 rfl) ?_
  refine lv_aload_n hx hb dL_law_1950 rfl (lv_at hl 0 rfl) ?_
  refine lv_iload hx hb dL_law_1951 (lv_at hl 5 rfl) ?_
  refine lv_iconst (v := 1) hx hb dL_law_1953 (by decide) ?_
  refine lv_iadd hx hb dL_law_1954 ?_
  refine va_sld hx hb hX hbl hbA hS hv1 dL_law_1955 ?_
  refine lv_aload_n hx hb dL_law_1956 rfl (lv_at hl 0 rfl) ?_
  refine lv_iload hx hb dL_law_1957 (lv_at hl 5 rfl) ?_
  refine lv_iconst (v := 2) hx hb dL_law_1959 (by decide) ?_
  refine lv_iadd hx hb dL_law_1960 ?_
  refine va_sld hx hb hX hbl hbA hS hv2 dL_law_1961 ?_
  refine lv_aload_n hx hb dL_law_1962 rfl (lv_at hl 3 rfl) ?_
  refine sg_hw (vx_runSW (As := [.ref (ax 0), .int (xs (x5 + 1).toNatClampNeg), .int (xs (x5 + 2).toNatClampNeg), .ref qo]) (rest := []) ⟨hx, hb, hml, hown, hts⟩ (c_L_pathAt l hlt D cA ax qo o N u _ _ R hf1 hR9 _) (vx_cwSW (hh := [(0, 10, 13, 25), (0, 10, 17, 15), (0, 10, 21, 107)]) 4 hts gL_law_L_pathAt rfl rfl rfl (by decide +kernel) ⟨Nat.le_of_ble_eq_true rfl, Nat.le_of_ble_eq_true rfl⟩) (sg_preL (w0 := sg_WL cA ax qo u o) hK (hP.sub [0, 2, 3, 4, 5, 6, 7, 8, 9, 10, 11, 12, 13, 14, 15, 16, 17, 18] rfl) (hD.sub [0, 2, 3, 4, 5, 6, 7, 8, 9, 10, 11, 12, 13, 14, 15, 16, 17, 18] (by decide) rfl) hT hN hS hA) rfl rfl hl.1 rfl (lv_room (Nat.le_of_ble_eq_true rfl)) dL_law_1963 ⟨by show cells + 3 ≤ 649553; omega, by show slots + 18 ≤ 7063476; omega⟩) hP hD hS hA (fun r u1 o1 H locs hlp hP hD hS => ?_)
  obtain ⟨hth, hI1, hout⟩ := sg_agree (by decide) hRel hlp
  refine lv_istore (lv' := [(6, .int r), (0, .ref b), (1, .ref (ax 0)), (2, .ref (am 0)), (3, .ref qo), (4, .ref qe), (5, .int x5)]) hx hb dL_law_1966 hl (by decide) rfl (fun ls hl => ?_)
  refine lv_aload_n hx hb dL_law_1968 rfl (lv_at hl 3 rfl) ?_
  refine lv_aload_n hx hb dL_law_1969 rfl (lv_at hl 1 rfl) ?_
  refine lv_iload hx hb dL_law_1970 (lv_at hl 6 rfl) ?_
  refine lv_iconst (v := 1) hx hb dL_law_1972 (by decide) ?_
  refine lv_iadd hx hb dL_law_1973 ?_
  refine va_sld hx hb hX hbl hbA hS hv1 dL_law_1974 ?_
  refine lv_aload_n hx hb dL_law_1975 rfl (lv_at hl 1 rfl) ?_
  refine lv_iload hx hb dL_law_1976 (lv_at hl 6 rfl) ?_
  refine lv_iconst (v := 2) hx hb dL_law_1978 (by decide) ?_
  refine lv_iadd hx hb dL_law_1979 ?_
  refine va_sld hx hb hX hbl hbA hS hv2 dL_law_1980 ?_
  refine sg_mi (va_runV (As := [.int (xs (x5 + 1).toNatClampNeg), .int (xs (x5 + 2).toNatClampNeg)]) (rest := []) ⟨hx, hb, hml, hown, hts⟩ (c_X6_pathAt l D cA am N _ _ _ _ _ hf2 _) (cwV 2 hts gL_law_X6_pathAt rfl rfl rfl (by decide +kernel) ⟨Nat.le_of_ble_eq_true rfl, Nat.le_of_ble_eq_true rfl⟩) (sg_pre (Wf := sg_WM cA am) hK (hP.sub [19, 20, 21, 22, 23, 24, 25, 26, 27, 28, 29, 30, 31, 32, 33, 34, 35, 36, 37, 38] rfl) (hD.sub [19, 20, 21, 22, 23, 24, 25, 26, 27, 28, 29, 30, 31, 32, 33, 34, 35, 36, 37, 38] (by decide) rfl) (ci := 8) (q0 := 0) rfl rfl) rfl rfl hl.1 rfl (lv_room (Nat.le_of_ble_eq_true rfl)) dL_law_1981 ⟨by show cells + 3 + 0 ≤ 649553; omega, by show slots + 18 + 0 ≤ 7063476; omega⟩) hP hD hS hA (fun H locs hP hD hS => ?_)
  refine lv_istore (lv' := [(7, .int r1), (6, .int r), (0, .ref b), (1, .ref (ax 0)), (2, .ref (am 0)), (3, .ref qo), (4, .ref qe), (5, .int x5)]) hx hb dL_law_1984 hl (by decide) rfl (fun ls hl => ?_)
  refine lv_aload_n hx hb dL_law_1986 rfl (lv_at hl 4 rfl) ?_
  refine sg_mi (va_runV (As := []) (rest := []) ⟨hx, hb, hml, hown, hts⟩ (c_X6_thrown l D cA am N v1 (v1 0 0) rfl _) (cwV 0 hts gL_law_X6_thrown rfl rfl rfl (by decide +kernel) ⟨Nat.le_of_ble_eq_true rfl, Nat.le_of_ble_eq_true rfl⟩) (sg_pre (Wf := sg_WM cA am) hK (hP.sub [19, 20, 21, 22, 23, 24, 25, 26, 27, 28, 29, 30, 31, 32, 33, 34, 35, 36, 37, 38] rfl) (hD.sub [19, 20, 21, 22, 23, 24, 25, 26, 27, 28, 29, 30, 31, 32, 33, 34, 35, 36, 37, 38] (by decide) rfl) (ci := 8) (q0 := 0) rfl rfl) rfl rfl hl.1 rfl (lv_room (Nat.le_of_ble_eq_true rfl)) dL_law_1987 ⟨by show cells + 3 + 0 ≤ 649553; omega, by show slots + 18 + 0 ≤ 7063476; omega⟩) hP hD hS hA (fun H locs hP hD hS => ?_)
  refine lv_iload hx hb dL_law_1990 (lv_at hl 1 rfl) ?_
  refine lv_icmp_eq (tgt := 1997) hx hb dL_law_1992 (by decide) (fun _ => ?_) (fun hz3 => absurd hth hz3)
  refine lv_iload hx hb dL_law_1997 (lv_at hl 1 rfl) ?_
  refine lv_if_ne (tgt := 2014) hx hb dL_law_1999 (by decide) (fun hr0 => ?_) (fun hr0 => ?_)
  · refine lv_goto (tgt := 2656) hx hb dL_law_2014 (by decide) ?_
    refine W.widen (k := cells + 10) (n := slots + 60) (by omega) (by omega) ?_
    exact kk _ _ _ _ _ _ _ hI1 hP hD hS (lv_sub hl [2, 3, 4, 5, 6, 7] rfl)
  · obtain ⟨ho, hRr⟩ := hout hr0
    subst ho
    refine lv_aload_n hx hb dL_law_2002 rfl (lv_at hl 5 rfl) ?_
    refine lv_iconst (v := 0) hx hb dL_law_2003 (by decide) ?_
    refine va_lald hx hb hK.1 hP 0 2 rfl rfl (sg_inb_s (i := 0) (n := 1) (by decide)) dL_law_2004 ?_
    refine lv_iload hx hb dL_law_2005 (lv_at hl 0 rfl) ?_
    refine lv_i2l (v := r1.toInt64) hx hb dL_law_2007 rfl ?_
    refine W.lcmp hx hb dL_law_2008 ?_
    refine lv_if_eq (tgt := 2014) hx hb dL_law_2009 (by decide) (fun _ => ?_) (fun hz4 => absurd (by exact sg_cmp64) hz4)
    refine lv_goto (tgt := 2656) hx hb dL_law_2014 (by decide) ?_
    refine W.widen (k := cells + 10) (n := slots + 60) (by omega) (by omega) ?_
    exact kk _ _ _ _ _ _ _ hI1 hP hD hS (lv_sub hl [2, 3, 4, 5, 6, 7] rfl)
