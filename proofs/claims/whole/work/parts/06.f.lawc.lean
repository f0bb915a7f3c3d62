set_option maxRecDepth 100000 in
set_option maxHeartbeats 4000000 in
theorem lw_case23 {p : Program} {l : Launch} {e : Env} {s : State} {m : MethodId} {below : List Frame} {meth : Method} {c : Code} {b L : Nat} {xs : Nat → Int32} {D : va_G} {cA : Nat → ClassId} {ax am : Nat → Nat} {qo qe N : Nat} {I : sg_St → sg_St → Prop} {Q : State → Prop} {cells slots : Nat} {H : Heap} {locs : List Loc} {ls : Array Slot} {x5 : Int32} {u v : sg_St} {o : Nat → Int64} {od : Nat → UInt64} (hlt : l.stackTraces = false) (C0 : sg_LA p s m meth c b L xs D cA) (hB : ∃ (r1 : Int32) (u1 v1 : sg_St), fX5_islands N u = some r1 ∧ fX6_islands N v = some (r1, v1) ∧ I u1 v1 ∧ u1 = u) (hP : va_P D vwCl (sg_WW cA ax am qo qe u v o od) H) (hD : va_D (fun q : Nat => s.heap.size ≤ q) (sg_WW cA ax am qo qe u v o od)) (hS : va_S (fun q : Nat => s.heap.size ≤ q) s.heap H locs) (hl : lv_has ls 9 [(0, .ref b), (1, .ref (ax 0)), (2, .ref (am 0)), (3, .ref qo), (4, .ref qe), (5, .int x5)]) (hcs : cells + 10 ≤ 649553 ∧ slots + 60 ≤ 7063476) (kk : ∀ (u' v' : sg_St) (o' : Nat → Int64) (od' : Nat → UInt64) (H : Heap) (locs : List Loc) (ls : Array Slot), I u' v' → va_P D vwCl (sg_WW cA ax am qo qe u' v' o' od') H → va_D (fun q : Nat => s.heap.size ≤ q) (sg_WW cA ax am qo qe u' v' o' od') → va_S (fun q : Nat => s.heap.size ≤ q) s.heap H locs → lv_has ls 9 [(0, .ref b), (1, .ref (ax 0)), (2, .ref (am 0)), (3, .ref qo), (4, .ref qe), (5, .int x5)] → W p l e room_1 s m #[Value.ref b] below meth c H locs (cells + 10) (slots + 60) Q (F0 m 2656 ls [])) : W p l e room_1 s m #[Value.ref b] below meth c H locs cells slots Q (F0 m 1593 ls []) := by
  obtain ⟨hx, hb, hr, hml, hown, hts, hX, hbl, hK, hT, hN, hlocks⟩ := C0
  have hA : ∀ q : Nat, s.heap.size ≤ q → (fun q : Nat => s.heap.size ≤ q) q := fun _ h => h
  have hbA : ¬ (fun q : Nat => s.heap.size ≤ q) b := Nat.not_le.mpr hbl
  obtain ⟨r1, u1, v1, hf1, hf2, hI1, rfl⟩ := hB
  refine lv_aload_n hx hb dL_law_1593 rfl (lv_at hl 1 rfl) ?_
  refine sg_xx (va_runV (As := []) (rest := []) ⟨hx, hb, hml, hown, hts⟩ (c_X5_islands l D cA ax N _ _ hf1 _) (cwV 0 hts gL_law_X5_islands rfl rfl rfl (by decide +kernel) ⟨Nat.le_of_ble_eq_true rfl, Nat.le_of_ble_eq_true rfl⟩) (sg_pre (Wf := sg_WX cA ax) hK (hP.sub [2, 3, 4, 5, 6, 7, 8, 9, 10, 11, 12, 13, 14, 15, 16, 17, 18] rfl) (hD.sub [2, 3, 4, 5, 6, 7, 8, 9, 10, 11, 12, 13, 14, 15, 16, 17, 18] (by decide) rfl) (ci := 7) (q0 := 0) rfl rfl) rfl rfl hl.1 rfl (lv_room (Nat.le_of_ble_eq_true rfl)) dL_law_1594 ⟨by show cells + 0 ≤ 649553; omega, by show slots + 0 ≤ 7063476; omega⟩) hP hD hS hA (fun H locs hP hD hS => ?_)
  refine lv_aload_n hx hb dL_law_1597 rfl (lv_at hl 2 rfl) ?_
  refine sg_mi (va_runV (As := []) (rest := [.int r1]) ⟨hx, hb, hml, hown, hts⟩ (c_X6_islands l D cA am N _ _ _ hf2 _) (cwV 0 hts gL_law_X6_islands rfl rfl rfl (by decide +kernel) ⟨Nat.le_of_ble_eq_true rfl, Nat.le_of_ble_eq_true rfl⟩) (sg_pre (Wf := sg_WM cA am) hK (hP.sub [19, 20, 21, 22, 23, 24, 25, 26, 27, 28, 29, 30, 31, 32, 33, 34, 35, 36, 37, 38] rfl) (hD.sub [19, 20, 21, 22, 23, 24, 25, 26, 27, 28, 29, 30, 31, 32, 33, 34, 35, 36, 37, 38] (by decide) rfl) (ci := 8) (q0 := 0) rfl rfl) rfl rfl hl.1 rfl (lv_room (Nat.le_of_ble_eq_true rfl)) dL_law_1598 ⟨by show cells + 0 ≤ 649553; omega, by show slots + 0 ≤ 7063476; omega⟩) hP hD hS hA (fun H locs hP hD hS => ?_)
  refine lv_icmp_eq (tgt := 2656) hx hb dL_law_1601 (by decide) (fun _ => ?_) (fun hz3 => absurd rfl hz3)
  refine W.widen (k := cells + 10) (n := slots + 60) (by omega) (by omega) ?_
  exact kk _ _ _ _ _ _ _ hI1 hP hD hS (lv_sub hl [0, 1, 2, 3, 4, 5] rfl)
set_option maxRecDepth 100000 in
set_option maxHeartbeats 4000000 in
theorem lw_case24 {p : Program} {l : Launch} {e : Env} {s : State} {m : MethodId} {below : List Frame} {meth : Method} {c : Code} {b L : Nat} {xs : Nat → Int32} {D : va_G} {cA : Nat → ClassId} {ax am : Nat → Nat} {qo qe N : Nat} {I : sg_St → sg_St → Prop} {Q : State → Prop} {cells slots : Nat} {H : Heap} {locs : List Loc} {ls : Array Slot} {x5 : Int32} {u v : sg_St} {o : Nat → Int64} {od : Nat → UInt64} (hlt : l.stackTraces = false) (C0 : sg_LA p s m meth c b L xs D cA) (hB : ∃ (R : (Nat ⊕ Int32) × sg_St) (r1 : Int32) (v1 : sg_St), fX5_isLive N u (xs (x5 + 1).toNatClampNeg) = some R ∧ fX6_isLive N v (xs (x5 + 1).toNatClampNeg) = some (r1, v1) ∧ sg_Rel I [5] R r1 v1) (hv1 : vp_in (x5 + 1) L) (hP : va_P D vwCl (sg_WW cA ax am qo qe u v o od) H) (hD : va_D (fun q : Nat => s.heap.size ≤ q) (sg_WW cA ax am qo qe u v o od)) (hS : va_S (fun q : Nat => s.heap.size ≤ q) s.heap H locs) (hl : lv_has ls 9 [(0, .ref b), (1, .ref (ax 0)), (2, .ref (am 0)), (3, .ref qo), (4, .ref qe), (5, .int x5)]) (hcs : cells + 10 ≤ 649553 ∧ slots + 60 ≤ 7063476) (kk : ∀ (u' v' : sg_St) (o' : Nat → Int64) (od' : Nat → UInt64) (H : Heap) (locs : List Loc) (ls : Array Slot), I u' v' → va_P D vwCl (sg_WW cA ax am qo qe u' v' o' od') H → va_D (fun q : Nat => s.heap.size ≤ q) (sg_WW cA ax am qo qe u' v' o' od') → va_S (fun q : Nat => s.heap.size ≤ q) s.heap H locs → lv_has ls 9 [(0, .ref b), (1, .ref (ax 0)), (2, .ref (am 0)), (3, .ref qo), (4, .ref qe), (5, .int x5)] → W p l e room_1 s m #[Value.ref b] below meth c H locs (cells + 10) (slots + 60) Q (F0 m 2656 ls [])) : W p l e room_1 s m #[Value.ref b] below meth c H locs cells slots Q (F0 m 1606 ls []) := by
  obtain ⟨hx, hb, hr, hml, hown, hts, hX, hbl, hK, hT, hN, hlocks⟩ := C0
  have hA : ∀ q : Nat, s.heap.size ≤ q → (fun q : Nat => s.heap.size ≤ q) q := fun _ h => h
  have hbA : ¬ (fun q : Nat => s.heap.size ≤ q) b := Nat.not_le.mpr hbl
  obtain ⟨R, r1, v1, hf1, hf2, hRel⟩ := hB
  have hR9 : ∀ k t, R = (.inl k, t) → k ∈ [5] := fun k t e9 => sg_Rel_in hRel e9
  refine lv_aload_n hx hb dL_law_1606 rfl (lv_at hl 1 rfl) ?_
  refine lv_aload_n hx hb dL_law_1607 rfl (lv_at hl 0 rfl) ?_
  refine lv_iload hx hb dL_law_1608 (lv_at hl 5 rfl) ?_
  refine lv_iconst (v := 1) hx hb dL_law_1610 (by decide) ?_
  refine lv_iadd hx hb dL_law_1611 ?_
  refine va_sld hx hb hX hbl hbA hS hv1 dL_law_1612 ?_
  refine lv_aload_n hx hb dL_law_1613 rfl (lv_at hl 3 rfl) ?_
  refine sg_hw (vx_runSW (As := [.ref (ax 0), .int (xs (x5 + 1).toNatClampNeg), .ref qo]) (rest := []) ⟨hx, hb, hml, hown, hts⟩ (c_L_isLive l hlt D cA ax qo o N u _ R hf1 hR9 _) (vx_cwSW (hh := [(0, 16, 19, 25)]) 3 hts gL_law_L_isLive rfl rfl rfl (by decide +kernel) ⟨Nat.le_of_ble_eq_true rfl, Nat.le_of_ble_eq_true rfl⟩) (sg_preL (w0 := sg_WL cA ax qo u o) hK (hP.sub [0, 2, 3, 4, 5, 6, 7, 8, 9, 10, 11, 12, 13, 14, 15, 16, 17, 18] rfl) (hD.sub [0, 2, 3, 4, 5, 6, 7, 8, 9, 10, 11, 12, 13, 14, 15, 16, 17, 18] (by decide) rfl) hT hN hS hA) rfl rfl hl.1 rfl (lv_room (Nat.le_of_ble_eq_true rfl)) dL_law_1614 ⟨by show cells + 1 ≤ 649553; omega, by show slots + 6 ≤ 7063476; omega⟩) hP hD hS hA (fun r u1 o1 H locs hlp hP hD hS => ?_)
  obtain ⟨hth, hI1, hout⟩ := sg_agree (by decide) hRel hlp
  refine lv_istore (lv' := [(6, .int r), (0, .ref b), (1, .ref (ax 0)), (2, .ref (am 0)), (3, .ref qo), (4, .ref qe), (5, .int x5)]) hx hb dL_law_1617 hl (by decide) rfl (fun ls hl => ?_)
  refine lv_aload_n hx hb dL_law_1619 rfl (lv_at hl 3 rfl) ?_
  refine lv_aload_n hx hb dL_law_1620 rfl (lv_at hl 1 rfl) ?_
  refine lv_iload hx hb dL_law_1621 (lv_at hl 6 rfl) ?_
  refine lv_iconst (v := 1) hx hb dL_law_1623 (by decide) ?_
  refine lv_iadd hx hb dL_law_1624 ?_
  refine va_sld hx hb hX hbl hbA hS hv1 dL_law_1625 ?_
  refine sg_mi (va_runV (As := [.int (xs (x5 + 1).toNatClampNeg)]) (rest := []) ⟨hx, hb, hml, hown, hts⟩ (c_X6_isLive l D cA am N _ _ _ _ hf2 _) (cwV 1 hts gL_law_X6_isLive rfl rfl rfl (by decide +kernel) ⟨Nat.le_of_ble_eq_true rfl, Nat.le_of_ble_eq_true rfl⟩) (sg_pre (Wf := sg_WM cA am) hK (hP.sub [19, 20, 21, 22, 23, 24, 25, 26, 27, 28, 29, 30, 31, 32, 33, 34, 35, 36, 37, 38] rfl) (hD.sub [19, 20, 21, 22, 23, 24, 25, 26, 27, 28, 29, 30, 31, 32, 33, 34, 35, 36, 37, 38] (by decide) rfl) (ci := 8) (q0 := 0) rfl rfl) rfl rfl hl.1 rfl (lv_room (Nat.le_of_ble_eq_true rfl)) dL_law_1626 ⟨by show cells + 1 + 0 ≤ 649553; omega, by show slots + 6 + 0 ≤ 7063476; omega⟩) hP hD hS hA (fun H locs hP hD hS => ?_)
  refine lv_istore (lv' := [(7, .int r1), (6, .int r), (0, .ref b), (1, .ref (ax 0)), (2, .ref (am 0)), (3, .ref qo), (4, .ref qe), (5, .int x5)]) hx hb dL_law_1629 hl (by decide) rfl (fun ls hl => ?_)
  refine lv_aload_n hx hb dL_law_1631 rfl (lv_at hl 4 rfl) ?_
  refine sg_mi (va_runV (As := []) (rest := []) ⟨hx, hb, hml, hown, hts⟩ (c_X6_thrown l D cA am N v1 (v1 0 0) rfl _) (cwV 0 hts gL_law_X6_thrown rfl rfl rfl (by decide +kernel) ⟨Nat.le_of_ble_eq_true rfl, Nat.le_of_ble_eq_true rfl⟩) (sg_pre (Wf := sg_WM cA am) hK (hP.sub [19, 20, 21, 22, 23, 24, 25, 26, 27, 28, 29, 30, 31, 32, 33, 34, 35, 36, 37, 38] rfl) (hD.sub [19, 20, 21, 22, 23, 24, 25, 26, 27, 28, 29, 30, 31, 32, 33, 34, 35, 36, 37, 38] (by decide) rfl) (ci := 8) (q0 := 0) rfl rfl) rfl rfl hl.1 rfl (lv_room (Nat.le_of_ble_eq_true rfl)) dL_law_1632 ⟨by show cells + 1 + 0 ≤ 649553; omega, by show slots + 6 + 0 ≤ 7063476; omega⟩) hP hD hS hA (fun H locs hP hD hS => ?_)
  refine lv_iload hx hb dL_law_1635 (lv_at hl 1 rfl) ?_
  refine lv_icmp_eq (tgt := 1642) hx hb dL_law_1637 (by decide) (fun _ => ?_) (fun hz3 => absurd hth hz3)
  refine lv_iload hx hb dL_law_1642 (lv_at hl 1 rfl) ?_
  refine lv_if_ne (tgt := 1666) hx hb dL_law_1644 (by decide) (fun hr0 => ?_) (fun hr0 => ?_)
  · refine lv_goto (tgt := 2656) hx hb dL_law_1666 (by decide) ?_
    refine W.widen (k := cells + 10) (n := slots + 60) (by omega) (by omega) ?_
    exact kk _ _ _ _ _ _ _ hI1 hP hD hS (lv_sub hl [2, 3, 4, 5, 6, 7] rfl)
  · obtain ⟨ho, hRr⟩ := hout hr0
    subst ho
    refine lv_aload_n hx hb dL_law_1647 rfl (lv_at hl 5 rfl) ?_
    refine lv_iconst (v := 0) hx hb dL_law_1648 (by decide) ?_
    refine va_lald hx hb hK.1 hP 0 2 rfl rfl (sg_inb_s (i := 0) (n := 1) (by decide)) dL_law_1649 ?_
    refine lv_iload hx hb dL_law_1650 (lv_at hl 0 rfl) ?_
    refine lv_if_eq (tgt := 1659) hx hb dL_law_1652 (by decide) (fun hb1 => ?_) (fun hb1 => ?_)
    · refine lv_lconst (v := 0) hx hb dL_law_1659 (by decide) ?_
      refine W.lcmp hx hb dL_law_1660 ?_
      refine lv_if_eq (tgt := 1666) hx hb dL_law_1661 (by decide) (fun _ => ?_) (fun hz4 => absurd (by first | exact sg_cmp64 | exact sg_cmpB0 hb1 | exact sg_cmpB1 hb1) hz4)
      refine lv_goto (tgt := 2656) hx hb dL_law_1666 (by decide) ?_
      refine W.widen (k := cells + 10) (n := slots + 60) (by omega) (by omega) ?_
      exact kk _ _ _ _ _ _ _ hI1 hP hD hS (lv_sub hl [2, 3, 4, 5, 6, 7] rfl)
    · refine lv_lconst (v := 1) hx hb dL_law_1655 (by decide) ?_
      refine lv_goto (tgt := 1660) hx hb dL_law_1656 (by decide) ?_
      refine W.lcmp hx hb dL_law_1660 ?_
      refine lv_if_eq (tgt := 1666) hx hb dL_law_1661 (by decide) (fun _ => ?_) (fun hz4 => absurd (by first | exact sg_cmp64 | exact sg_cmpB0 hb1 | exact sg_cmpB1 hb1) hz4)
      refine lv_goto (tgt := 2656) hx hb dL_law_1666 (by decide) ?_
      refine W.widen (k := cells + 10) (n := slots + 60) (by omega) (by omega) ?_
      exact kk _ _ _ _ _ _ _ hI1 hP hD hS (lv_sub hl [2, 3, 4, 5, 6, 7] rfl)
set_option maxRecDepth 100000 in
set_option maxHeartbeats 4000000 in
theorem lw_case25 {p : Program} {l : Launch} {e : Env} {s : State} {m : MethodId} {below : List Frame} {meth : Method} {c : Code} {b L : Nat} {xs : Nat → Int32} {D : va_G} {cA : Nat → ClassId} {ax am : Nat → Nat} {qo qe N : Nat} {I : sg_St → sg_St → Prop} {Q : State → Prop} {cells slots : Nat} {H : Heap} {locs : List Loc} {ls : Array Slot} {x5 : Int32} {u v : sg_St} {o : Nat → Int64} {od : Nat → UInt64} (hlt : l.stackTraces = false) (C0 : sg_LA p s m meth c b L xs D cA) (hB : ∃ (R : (Nat ⊕ Int32) × sg_St) (r1 : Int32) (v1 : sg_St), fX5_sourceOf N u (xs (x5 + 1).toNatClampNeg) = some R ∧ fX6_sourceOf N v (xs (x5 + 1).toNatClampNeg) = some (r1, v1) ∧ sg_Rel I [5, 0] R r1 v1) (hv1 : vp_in (x5 + 1) L) (hP : va_P D vwCl (sg_WW cA ax am qo qe u v o od) H) (hD : va_D (fun q : Nat => s.heap.size ≤ q) (sg_WW cA ax am qo qe u v o od)) (hS : va_S (fun q : Nat => s.heap.size ≤ q) s.heap H locs) (hl : lv_has ls 9 [(0, .ref b), (1, .ref (ax 0)), (2, .ref (am 0)), (3, .ref qo), (4, .ref qe), (5, .int x5)]) (hcs : cells + 10 ≤ 649553 ∧ slots + 60 ≤ 7063476) (kk : ∀ (u' v' : sg_St) (o' : Nat → Int64) (od' : Nat → UInt64) (H : Heap) (locs : List Loc) (ls : Array Slot), I u' v' → va_P D vwCl (sg_WW cA ax am qo qe u' v' o' od') H → va_D (fun q : Nat => s.heap.size ≤ q) (sg_WW cA ax am qo qe u' v' o' od') → va_S (fun q : Nat => s.heap.size ≤ q) s.heap H locs → lv_has ls 9 [(0, .ref b), (1, .ref (ax 0)), (2, .ref (am 0)), (3, .ref qo), (4, .ref qe), (5, .int x5)] → W p l e room_1 s m #[Value.ref b] below meth c H locs (cells + 10) (slots + 60) Q (F0 m 2656 ls [])) : W p l e room_1 s m #[Value.ref b] below meth c H locs cells slots Q (F0 m 1669 ls []) := by
  obtain ⟨hx, hb, hr, hml, hown, hts, hX, hbl, hK, hT, hN, hlocks⟩ := C0
  have hA : ∀ q : Nat, s.heap.size ≤ q → (fun q : Nat => s.heap.size ≤ q) q := fun _ h => h
  have hbA : ¬ (fun q : Nat => s.heap.size ≤ q) b := Nat.not_le.mpr hbl
  obtain ⟨R, r1, v1, hf1, hf2, hRel⟩ := hB
  have hR9 : ∀ k t, R = (.inl k, t) → k ∈ [5, 0] := fun k t e9 => sg_Rel_in hRel e9
  refine lv_aload_n hx hb dL_law_1669 rfl (lv_at hl 1 rfl) ?_
  refine lv_aload_n hx hb dL_law_1670 rfl (lv_at hl 0 rfl) ?_
  refine lv_iload hx hb dL_law_1671 (lv_at hl 5 rfl) ?_
  refine lv_iconst (v := 1) hx hb dL_law_1673 (by decide) ?_
  refine lv_iadd hx hb dL_law_1674 ?_
  refine va_sld hx hb hX hbl hbA hS hv1 dL_law_1675 ?_
  refine lv_aload_n hx hb dL_law_1676 rfl (lv_at hl 3 rfl) ?_
  refine sg_hw (vx_runSW (As := [.ref (ax 0), .int (xs (x5 + 1).toNatClampNeg), .ref qo]) (rest := []) ⟨hx, hb, hml, hown, hts⟩ (c_L_sourceOf l hlt D cA ax qo o N u _ R hf1 hR9 _) (vx_cwSW (hh := [(0, 9, 12, 25), (0, 9, 15, 15)]) 3 hts gL_law_L_sourceOf rfl rfl rfl (by decide +kernel) ⟨Nat.le_of_ble_eq_true rfl, Nat.le_of_ble_eq_true rfl⟩) (sg_preL (w0 := sg_WL cA ax qo u o) hK (hP.sub [0, 2, 3, 4, 5, 6, 7, 8, 9, 10, 11, 12, 13, 14, 15, 16, 17, 18] rfl) (hD.sub [0, 2, 3, 4, 5, 6, 7, 8, 9, 10, 11, 12, 13, 14, 15, 16, 17, 18] (by decide) rfl) hT hN hS hA) rfl rfl hl.1 rfl (lv_room (Nat.le_of_ble_eq_true rfl)) dL_law_1677 ⟨by show cells + 2 ≤ 649553; omega, by show slots + 12 ≤ 7063476; omega⟩) hP hD hS hA (fun r u1 o1 H locs hlp hP hD hS => ?_)
  obtain ⟨hth, hI1, hout⟩ := sg_agree (by decide) hRel hlp
  refine lv_istore (lv' := [(6, .int r), (0, .ref b), (1, .ref (ax 0)), (2, .ref (am 0)), (3, .ref qo), (4, .ref qe), (5, .int x5)]) hx hb dL_law_1680 hl (by decide) rfl (fun ls hl => ?_)
  refine lv_aload_n hx hb dL_law_1682 rfl (lv_at hl 3 rfl) ?_
  refine lv_aload_n hx hb dL_law_1683 rfl (lv_at hl 1 rfl) ?_
  refine lv_iload hx hb dL_law_1684 (lv_at hl 6 rfl) ?_
  refine lv_iconst (v := 1) hx hb dL_law_1686 (by decide) ?_
  refine lv_iadd hx hb dL_law_1687 ?_
  refine va_sld hx hb hX hbl hbA hS hv1 dL_law_1688 ?_
  refine sg_mi (va_runV (As := [.int (xs (x5 + 1).toNatClampNeg)]) (rest := []) ⟨hx, hb, hml, hown, hts⟩ (c_X6_sourceOf l D cA am N _ _ _ _ hf2 _) (cwV 1 hts gL_law_X6_sourceOf rfl rfl rfl (by decide +kernel) ⟨Nat.le_of_ble_eq_true rfl, Nat.le_of_ble_eq_true rfl⟩) (sg_pre (Wf := sg_WM cA am) hK (hP.sub [19, 20, 21, 22, 23, 24, 25, 26, 27, 28, 29, 30, 31, 32, 33, 34, 35, 36, 37, 38] rfl) (hD.sub [19, 20, 21, 22, 23, 24, 25, 26, 27, 28, 29, 30, 31, 32, 33, 34, 35, 36, 37, 38] (by decide) rfl) (ci := 8) (q0 := 0) rfl rfl) rfl rfl hl.1 rfl (lv_room (Nat.le_of_ble_eq_true rfl)) dL_law_1689 ⟨by show cells + 2 + 0 ≤ 649553; omega, by show slots + 12 + 0 ≤ 7063476; omega⟩) hP hD hS hA (fun H locs hP hD hS => ?_)
  refine lv_istore (lv' := [(7, .int r1), (6, .int r), (0, .ref b), (1, .ref (ax 0)), (2, .ref (am 0)), (3, .ref qo), (4, .ref qe), (5, .int x5)]) hx hb dL_law_1692 hl (by decide) rfl (fun ls hl => ?_)
  refine lv_aload_n hx hb dL_law_1694 rfl (lv_at hl 4 rfl) ?_
  refine sg_mi (va_runV (As := []) (rest := []) ⟨hx, hb, hml, hown, hts⟩ (c_X6_thrown l D cA am N v1 (v1 0 0) rfl _) (cwV 0 hts gL_law_X6_thrown rfl rfl rfl (by decide +kernel) ⟨Nat.le_of_ble_eq_true rfl, Nat.le_of_ble_eq_true rfl⟩) (sg_pre (Wf := sg_WM cA am) hK (hP.sub [19, 20, 21, 22, 23, 24, 25, 26, 27, 28, 29, 30, 31, 32, 33, 34, 35, 36, 37, 38] rfl) (hD.sub [19, 20, 21, 22, 23, 24, 25, 26, 27, 28, 29, 30, 31, 32, 33, 34, 35, 36, 37, 38] (by decide) rfl) (ci := 8) (q0 := 0) rfl rfl) rfl rfl hl.1 rfl (lv_room (Nat.le_of_ble_eq_true rfl)) dL_law_1695 ⟨by show cells + 2 + 0 ≤ 649553; omega, by show slots + 12 + 0 ≤ 7063476; omega⟩) hP hD hS hA (fun H locs hP hD hS => ?_)
  refine lv_iload hx hb dL_law_1698 (lv_at hl 1 rfl) ?_
  refine lv_icmp_eq (tgt := 1705) hx hb dL_law_1700 (by decide) (fun _ => ?_) (fun hz3 => absurd hth hz3)
  refine lv_iload hx hb dL_law_1705 (lv_at hl 1 rfl) ?_
  refine lv_if_ne (tgt := 1722) hx hb dL_law_1707 (by decide) (fun hr0 => ?_) (fun hr0 => ?_)
  · refine lv_goto (tgt := 2656) hx hb dL_law_1722 (by decide) ?_
    refine W.widen (k := cells + 10) (n := slots + 60) (by omega) (by omega) ?_
    exact kk _ _ _ _ _ _ _ hI1 hP hD hS (lv_sub hl [2, 3, 4, 5, 6, 7] rfl)
  · obtain ⟨ho, hRr⟩ := hout hr0
    subst ho
    refine lv_aload_n hx hb dL_law_1710 rfl (lv_at hl 5 rfl) ?_
    refine lv_iconst (v := 0) hx hb dL_law_1711 (by decide) ?_
    refine va_lald hx hb hK.1 hP 0 2 rfl rfl (sg_inb_s (i := 0) (n := 1) (by decide)) dL_law_1712 ?_
    refine lv_iload hx hb dL_law_1713 (lv_at hl 0 rfl) ?_
    refine lv_i2l (v := r1.toInt64) hx hb dL_law_1715 rfl ?_
    refine W.lcmp hx hb dL_law_1716 ?_
    refine lv_if_eq (tgt := 1722) hx hb dL_law_1717 (by decide) (fun _ => ?_) (fun hz4 => absurd (by first | exact sg_cmp64 | exact sg_cmpB0 hb1 | exact sg_cmpB1 hb1) hz4)
    refine lv_goto (tgt := 2656) hx hb dL_law_1722 (by decide) ?_
    refine W.widen (k := cells + 10) (n := slots + 60) (by omega) (by omega) ?_
    exact kk _ _ _ _ _ _ _ hI1 hP hD hS (lv_sub hl [2, 3, 4, 5, 6, 7] rfl)
set_option maxRecDepth 100000 in
set_option maxHeartbeats 4000000 in
theorem lw_case26 {p : Program} {l : Launch} {e : Env} {s : State} {m : MethodId} {below : List Frame} {meth : Method} {c : Code} {b L : Nat} {xs : Nat → Int32} {D : va_G} {cA : Nat → ClassId} {ax am : Nat → Nat} {qo qe N : Nat} {I : sg_St → sg_St → Prop} {Q : State → Prop} {cells slots : Nat} {H : Heap} {locs : List Loc} {ls : Array Slot} {x5 : Int32} {u v : sg_St} {o : Nat → Int64} {od : Nat → UInt64} (hlt : l.stackTraces = false) (C0 : sg_LA p s m meth c b L xs D cA) (hB : ∃ (R : (Nat ⊕ Int32) × sg_St) (r1 : Int32) (v1 : sg_St), fX5_islandLoad N u (xs (x5 + 1).toNatClampNeg) = some R ∧ fX6_islandLoad N v (xs (x5 + 1).toNatClampNeg) = some (r1, v1) ∧ sg_Rel I [5] R r1 v1) (hv1 : vp_in (x5 + 1) L) (hP : va_P D vwCl (sg_WW cA ax am qo qe u v o od) H) (hD : va_D (fun q : Nat => s.heap.size ≤ q) (sg_WW cA ax am qo qe u v o od)) (hS : va_S (fun q : Nat => s.heap.size ≤ q) s.heap H locs) (hl : lv_has ls 9 [(0, .ref b), (1, .ref (ax 0)), (2, .ref (am 0)), (3, .ref qo), (4, .ref qe), (5, .int x5)]) (hcs : cells + 10 ≤ 649553 ∧ slots + 60 ≤ 7063476) (kk : ∀ (u' v' : sg_St) (o' : Nat → Int64) (od' : Nat → UInt64) (H : Heap) (locs : List Loc) (ls : Array Slot), I u' v' → va_P D vwCl (sg_WW cA ax am qo qe u' v' o' od') H → va_D (fun q : Nat => s.heap.size ≤ q) (sg_WW cA ax am qo qe u' v' o' od') → va_S (fun q : Nat => s.heap.size ≤ q) s.heap H locs → lv_has ls 9 [(0, .ref b), (1, .ref (ax 0)), (2, .ref (am 0)), (3, .ref qo), (4, .ref qe), (5, .int x5)] → W p l e room_1 s m #[Value.ref b] below meth c H locs (cells + 10) (slots + 60) Q (F0 m 2656 ls [])) : W p l e room_1 s m #[Value.ref b] below meth c H locs cells slots Q (F0 m 1725 ls []) := by
  obtain ⟨hx, hb, hr, hml, hown, hts, hX, hbl, hK, hT, hN, hlocks⟩ := C0
  have hA : ∀ q : Nat, s.heap.size ≤ q → (fun q : Nat => s.heap.size ≤ q) q := fun _ h => h
  have hbA : ¬ (fun q : Nat => s.heap.size ≤ q) b := Nat.not_le.mpr hbl
  obtain ⟨R, r1, v1, hf1, hf2, hRel⟩ := hB
  have hR9 : ∀ k t, R = (.inl k, t) → k ∈ [5] := fun k t e9 => sg_Rel_in hRel e9
  refine lv_aload_n hx hb dL_law_1725 rfl (lv_at hl 1 rfl) ?_
  refine lv_aload_n hx hb dL_law_1726 rfl (lv_at hl 0 rfl) ?_
  refine lv_iload hx hb dL_law_1727 (lv_at hl 5 rfl) ?_
  refine lv_iconst (v := 1) hx hb dL_law_1729 (by decide) ?_
  refine lv_iadd hx hb dL_law_1730 ?_
  refine va_sld hx hb hX hbl hbA hS hv1 dL_law_1731 ?_
  refine lv_aload_n hx hb dL_law_1732 rfl (lv_at hl 3 rfl) ?_
  refine sg_hw (vx_runSW (As := [.ref (ax 0), .int (xs (x5 + 1).toNatClampNeg), .ref qo]) (rest := []) ⟨hx, hb, hml, hown, hts⟩ (c_L_islandLoad l hlt D cA ax qo o N u _ R hf1 hR9 _) (vx_cwSW (hh := [(0, 9, 12, 25)]) 3 hts gL_law_L_islandLoad rfl rfl rfl (by decide +kernel) ⟨Nat.le_of_ble_eq_true rfl, Nat.le_of_ble_eq_true rfl⟩) (sg_preL (w0 := sg_WL cA ax qo u o) hK (hP.sub [0, 2, 3, 4, 5, 6, 7, 8, 9, 10, 11, 12, 13, 14, 15, 16, 17, 18] rfl) (hD.sub [0, 2, 3, 4, 5, 6, 7, 8, 9, 10, 11, 12, 13, 14, 15, 16, 17, 18] (by decide) rfl) hT hN hS hA) rfl rfl hl.1 rfl (lv_room (Nat.le_of_ble_eq_true rfl)) dL_law_1733 ⟨by show cells + 1 ≤ 649553; omega, by show slots + 6 ≤ 7063476; omega⟩) hP hD hS hA (fun r u1 o1 H locs hlp hP hD hS => ?_)
  obtain ⟨hth, hI1, hout⟩ := sg_agree (by decide) hRel hlp
  refine lv_istore (lv' := [(6, .int r), (0, .ref b), (1, .ref (ax 0)), (2, .ref (am 0)), (3, .ref qo), (4, .ref qe), (5, .int x5)]) hx hb dL_law_1736 hl (by decide) rfl (fun ls hl => ?_)
  refine lv_aload_n hx hb dL_law_1738 rfl (lv_at hl 3 rfl) ?_
  refine lv_aload_n hx hb dL_law_1739 rfl (lv_at hl 1 rfl) ?_
  refine lv_iload hx hb dL_law_1740 (lv_at hl 6 rfl) ?_
  refine lv_iconst (v := 1) hx hb dL_law_1742 (by decide) ?_
  refine lv_iadd hx hb dL_law_1743 ?_
  refine va_sld hx hb hX hbl hbA hS hv1 dL_law_1744 ?_
  refine sg_mi (va_runV (As := [.int (xs (x5 + 1).toNatClampNeg)]) (rest := []) ⟨hx, hb, hml, hown, hts⟩ (c_X6_islandLoad l D cA am N _ _ _ _ hf2 _) (cwV 1 hts gL_law_X6_islandLoad rfl rfl rfl (by decide +kernel) ⟨Nat.le_of_ble_eq_true rfl, Nat.le_of_ble_eq_true rfl⟩) (sg_pre (Wf := sg_WM cA am) hK (hP.sub [19, 20, 21, 22, 23, 24, 25, 26, 27, 28, 29, 30, 31, 32, 33, 34, 35, 36, 37, 38] rfl) (hD.sub [19, 20, 21, 22, 23, 24, 25, 26, 27, 28, 29, 30, 31, 32, 33, 34, 35, 36, 37, 38] (by decide) rfl) (ci := 8) (q0 := 0) rfl rfl) rfl rfl hl.1 rfl (lv_room (Nat.le_of_ble_eq_true rfl)) dL_law_1745 ⟨by show cells + 1 + 0 ≤ 649553; omega, by show slots + 6 + 0 ≤ 7063476; omega⟩) hP hD hS hA (fun H locs hP hD hS => ?_)
  refine lv_istore (lv' := [(7, .int r1), (6, .int r), (0, .ref b), (1, .ref (ax 0)), (2, .ref (am 0)), (3, .ref qo), (4, .ref qe), (5, .int x5)]) hx hb dL_law_1748 hl (by decide) rfl (fun ls hl => ?_)
  refine lv_aload_n hx hb dL_law_1750 rfl (lv_at hl 4 rfl) ?_
  refine sg_mi (va_runV (As := []) (rest := []) ⟨hx, hb, hml, hown, hts⟩ (c_X6_thrown l D cA am N v1 (v1 0 0) rfl _) (cwV 0 hts gL_law_X6_thrown rfl rfl rfl (by decide +kernel) ⟨Nat.le_of_ble_eq_true rfl, Nat.le_of_ble_eq_true rfl⟩) (sg_pre (Wf := sg_WM cA am) hK (hP.sub [19, 20, 21, 22, 23, 24, 25, 26, 27, 28, 29, 30, 31, 32, 33, 34, 35, 36, 37, 38] rfl) (hD.sub [19, 20, 21, 22, 23, 24, 25, 26, 27, 28, 29, 30, 31, 32, 33, 34, 35, 36, 37, 38] (by decide) rfl) (ci := 8) (q0 := 0) rfl rfl) rfl rfl hl.1 rfl (lv_room (Nat.le_of_ble_eq_true rfl)) dL_law_1751 ⟨by show cells + 1 + 0 ≤ 649553; omega, by show slots + 6 + 0 ≤ 7063476; omega⟩) hP hD hS hA (fun H locs hP hD hS => ?_)
  refine lv_iload hx hb dL_law_1754 (lv_at hl 1 rfl) ?_
  refine lv_icmp_eq (tgt := 1761) hx hb dL_law_1756 (by decide) (fun _ => ?_) (fun hz3 => absurd hth hz3)
  refine lv_iload hx hb dL_law_1761 (lv_at hl 1 rfl) ?_
  refine lv_if_ne (tgt := 1778) hx hb dL_law_1763 (by decide) (fun hr0 => ?_) (fun hr0 => ?_)
  · refine lv_goto (tgt := 2656) hx hb dL_law_1778 (by decide) ?_
    refine W.widen (k := cells + 10) (n := slots + 60) (by omega) (by omega) ?_
    exact kk _ _ _ _ _ _ _ hI1 hP hD hS (lv_sub hl [2, 3, 4, 5, 6, 7] rfl)
  · obtain ⟨ho, hRr⟩ := hout hr0
    subst ho
    refine lv_aload_n hx hb dL_law_1766 rfl (lv_at hl 5 rfl) ?_
    refine lv_iconst (v := 0) hx hb dL_law_1767 (by decide) ?_
    refine va_lald hx hb hK.1 hP 0 2 rfl rfl (sg_inb_s (i := 0) (n := 1) (by decide)) dL_law_1768 ?_
    refine lv_iload hx hb dL_law_1769 (lv_at hl 0 rfl) ?_
    refine lv_i2l (v := r1.toInt64) hx hb dL_law_1771 rfl ?_
    refine W.lcmp hx hb dL_law_1772 ?_
    refine lv_if_eq (tgt := 1778) hx hb dL_law_1773 (by decide) (fun _ => ?_) (fun hz4 => absurd (by first | exact sg_cmp64 | exact sg_cmpB0 hb1 | exact sg_cmpB1 hb1) hz4)
    refine lv_goto (tgt := 2656) hx hb dL_law_1778 (by decide) ?_
    refine W.widen (k := cells + 10) (n := slots + 60) (by omega) (by omega) ?_
    exact kk _ _ _ _ _ _ _ hI1 hP hD hS (lv_sub hl [2, 3, 4, 5, 6, 7] rfl)
set_option maxRecDepth 100000 in
set_option maxHeartbeats 4000000 in
theorem lw_case27 {p : Program} {l : Launch} {e : Env} {s : State} {m : MethodId} {below : List Frame} {meth : Method} {c : Code} {b L : Nat} {xs : Nat → Int32} {D : va_G} {cA : Nat → ClassId} {ax am : Nat → Nat} {qo qe N : Nat} {I : sg_St → sg_St → Prop} {Q : State → Prop} {cells slots : Nat} {H : Heap} {locs : List Loc} {ls : Array Slot} {x5 : Int32} {u v : sg_St} {o : Nat → Int64} {od : Nat → UInt64} (hlt : l.stackTraces = false) (C0 : sg_LA p s m meth c b L xs D cA) (hB : ∃ (R : (Nat ⊕ Int32) × sg_St) (r1 : Int32) (v1 : sg_St), fX5_current N u (xs (x5 + 1).toNatClampNeg) = some R ∧ fX6_current N v (xs (x5 + 1).toNatClampNeg) = some (r1, v1) ∧ sg_Rel I [5] R r1 v1) (hv1 : vp_in (x5 + 1) L) (hP : va_P D vwCl (sg_WW cA ax am qo qe u v o od) H) (hD : va_D (fun q : Nat => s.heap.size ≤ q) (sg_WW cA ax am qo qe u v o od)) (hS : va_S (fun q : Nat => s.heap.size ≤ q) s.heap H locs) (hl : lv_has ls 9 [(0, .ref b), (1, .ref (ax 0)), (2, .ref (am 0)), (3, .ref qo), (4, .ref qe), (5, .int x5)]) (hcs : cells + 10 ≤ 649553 ∧ slots + 60 ≤ 7063476) (kk : ∀ (u' v' : sg_St) (o' : Nat → Int64) (od' : Nat → UInt64) (H : Heap) (locs : List Loc) (ls : Array Slot), I u' v' → va_P D vwCl (sg_WW cA ax am qo qe u' v' o' od') H → va_D (fun q : Nat => s.heap.size ≤ q) (sg_WW cA ax am qo qe u' v' o' od') → va_S (fun q : Nat => s.heap.size ≤ q) s.heap H locs → lv_has ls 9 [(0, .ref b), (1, .ref (ax 0)), (2, .ref (am 0)), (3, .ref qo), (4, .ref qe), (5, .int x5)] → W p l e room_1 s m #[Value.ref b] below meth c H locs (cells + 10) (slots + 60) Q (F0 m 2656 ls [])) : W p l e room_1 s m #[Value.ref b] below meth c H locs cells slots Q (F0 m 1781 ls []) := by
  obtain ⟨hx, hb, hr, hml, hown, hts, hX, hbl, hK, hT, hN, hlocks⟩ := C0
  have hA : ∀ q : Nat, s.heap.size ≤ q → (fun q : Nat => s.heap.size ≤ q) q := fun _ h => h
  have hbA : ¬ (fun q : Nat => s.heap.size ≤ q) b := Nat.not_le.mpr hbl
  obtain ⟨R, r1, v1, hf1, hf2, hRel⟩ := hB
  have hR9 : ∀ k t, R = (.inl k, t) → k ∈ [5] := fun k t e9 => sg_Rel_in hRel e9
  refine lv_aload_n hx hb dL_law_1781 rfl (lv_at hl 1 rfl) ?_
  refine lv_aload_n hx hb dL_law_1782 rfl (lv_at hl 0 rfl) ?_
  refine lv_iload hx hb dL_law_1783 (lv_at hl 5 rfl) ?_
  refine lv_iconst (v := 1) hx hb dL_law_1785 (by decide) ?_
  refine lv_iadd hx hb dL_law_1786 ?_
  refine va_sld hx hb hX hbl hbA hS hv1 dL_law_1787 ?_
  refine lv_aload_n hx hb dL_law_1788 rfl (lv_at hl 3 rfl) ?_
  refine sg_hw (vx_runSW (As := [.ref (ax 0), .int (xs (x5 + 1).toNatClampNeg), .ref qo]) (rest := []) ⟨hx, hb, hml, hown, hts⟩ (c_L_current l hlt D cA ax qo o N u _ R hf1 hR9 _) (vx_cwSW (hh := [(0, 9, 12, 25)]) 3 hts gL_law_L_current rfl rfl rfl (by decide +kernel) ⟨Nat.le_of_ble_eq_true rfl, Nat.le_of_ble_eq_true rfl⟩) (sg_preL (w0 := sg_WL cA ax qo u o) hK (hP.sub [0, 2, 3, 4, 5, 6, 7, 8, 9, 10, 11, 12, 13, 14, 15, 16, 17, 18] rfl) (hD.sub [0, 2, 3, 4, 5, 6, 7, 8, 9, 10, 11, 12, 13, 14, 15, 16, 17, 18] (by decide) rfl) hT hN hS hA) rfl rfl hl.1 rfl (lv_room (Nat.le_of_ble_eq_true rfl)) dL_law_1789 ⟨by show cells + 1 ≤ 649553; omega, by show slots + 6 ≤ 7063476; omega⟩) hP hD hS hA (fun r u1 o1 H locs hlp hP hD hS => ?_)
  obtain ⟨hth, hI1, hout⟩ := sg_agree (by decide) hRel hlp
  refine lv_istore (lv' := [(6, .int r), (0, .ref b), (1, .ref (ax 0)), (2, .ref (am 0)), (3, .ref qo), (4, .ref qe), (5, .int x5)]) hx hb dL_law_1792 hl (by decide) rfl (fun ls hl => ?_)
  refine lv_aload_n hx hb dL_law_1794 rfl (lv_at hl 3 rfl) ?_
  refine lv_aload_n hx hb dL_law_1795 rfl (lv_at hl 1 rfl) ?_
  refine lv_iload hx hb dL_law_1796 (lv_at hl 6 rfl) ?_
  refine lv_iconst (v := 1) hx hb dL_law_1798 (by decide) ?_
  refine lv_iadd hx hb dL_law_1799 ?_
  refine va_sld hx hb hX hbl hbA hS hv1 dL_law_1800 ?_
  refine sg_mi (va_runV (As := [.int (xs (x5 + 1).toNatClampNeg)]) (rest := []) ⟨hx, hb, hml, hown, hts⟩ (c_X6_current l D cA am N _ _ _ _ hf2 _) (cwV 1 hts gL_law_X6_current rfl rfl rfl (by decide +kernel) ⟨Nat.le_of_ble_eq_true rfl, Nat.le_of_ble_eq_true rfl⟩) (sg_pre (Wf := sg_WM cA am) hK (hP.sub [19, 20, 21, 22, 23, 24, 25, 26, 27, 28, 29, 30, 31, 32, 33, 34, 35, 36, 37, 38] rfl) (hD.sub [19, 20, 21, 22, 23, 24, 25, 26, 27, 28, 29, 30, 31, 32, 33, 34, 35, 36, 37, 38] (by decide) rfl) (ci := 8) (q0 := 0) rfl rfl) rfl rfl hl.1 rfl (lv_room (Nat.le_of_ble_eq_true rfl)) dL_law_1801 ⟨by show cells + 1 + 0 ≤ 649553; omega, by show slots + 6 + 0 ≤ 7063476; omega⟩) hP hD hS hA (fun H locs hP hD hS => ?_)
  refine lv_istore (lv' := [(7, .int r1), (6, .int r), (0, .ref b), (1, .ref (ax 0)), (2, .ref (am 0)), (3, .ref qo), (4, .ref qe), (5, .int x5)]) hx hb dL_law_1804 hl (by decide) rfl (fun ls hl => ?_)
  refine lv_aload_n hx hb dL_law_1806 rfl (lv_at hl 4 rfl) ?_
  refine sg_mi (va_runV (As := []) (rest := []) ⟨hx, hb, hml, hown, hts⟩ (c_X6_thrown l D cA am N v1 (v1 0 0) rfl _) (cwV 0 hts gL_law_X6_thrown rfl rfl rfl (by decide +kernel) ⟨Nat.le_of_ble_eq_true rfl, Nat.le_of_ble_eq_true rfl⟩) (sg_pre (Wf := sg_WM cA am) hK (hP.sub [19, 20, 21, 22, 23, 24, 25, 26, 27, 28, 29, 30, 31, 32, 33, 34, 35, 36, 37, 38] rfl) (hD.sub [19, 20, 21, 22, 23, 24, 25, 26, 27, 28, 29, 30, 31, 32, 33, 34, 35, 36, 37, 38] (by decide) rfl) (ci := 8) (q0 := 0) rfl rfl) rfl rfl hl.1 rfl (lv_room (Nat.le_of_ble_eq_true rfl)) dL_law_1807 ⟨by show cells + 1 + 0 ≤ 649553; omega, by show slots + 6 + 0 ≤ 7063476; omega⟩) hP hD hS hA (fun H locs hP hD hS => ?_)
  refine lv_iload hx hb dL_law_1810 (lv_at hl 1 rfl) ?_
  refine lv_icmp_eq (tgt := 1817) hx hb dL_law_1812 (by decide) (fun _ => ?_) (fun hz3 => absurd hth hz3)
  refine lv_iload hx hb dL_law_1817 (lv_at hl 1 rfl) ?_
  refine lv_if_ne (tgt := 1834) hx hb dL_law_1819 (by decide) (fun hr0 => ?_) (fun hr0 => ?_)
  · refine lv_goto (tgt := 2656) hx hb dL_law_1834 (by decide) ?_
    refine W.widen (k := cells + 10) (n := slots + 60) (by omega) (by omega) ?_
    exact kk _ _ _ _ _ _ _ hI1 hP hD hS (lv_sub hl [2, 3, 4, 5, 6, 7] rfl)
  · obtain ⟨ho, hRr⟩ := hout hr0
    subst ho
    refine lv_aload_n hx hb dL_law_1822 rfl (lv_at hl 5 rfl) ?_
    refine lv_iconst (v := 0) hx hb dL_law_1823 (by decide) ?_
    refine va_lald hx hb hK.1 hP 0 2 rfl rfl (sg_inb_s (i := 0) (n := 1) (by decide)) dL_law_1824 ?_
    refine lv_iload hx hb dL_law_1825 (lv_at hl 0 rfl) ?_
    refine lv_i2l (v := r1.toInt64) hx hb dL_law_1827 rfl ?_
    refine W.lcmp hx hb dL_law_1828 ?_
    refine lv_if_eq (tgt := 1834) hx hb dL_law_1829 (by decide) (fun _ => ?_) (fun hz4 => absurd (by first | exact sg_cmp64 | exact sg_cmpB0 hb1 | exact sg_cmpB1 hb1) hz4)
    refine lv_goto (tgt := 2656) hx hb dL_law_1834 (by decide) ?_
    refine W.widen (k := cells + 10) (n := slots + 60) (by omega) (by omega) ?_
    exact kk _ _ _ _ _ _ _ hI1 hP hD hS (lv_sub hl [2, 3, 4, 5, 6, 7] rfl)
set_option maxRecDepth 100000 in
set_option maxHeartbeats 4000000 in
theorem lw_case28 {p : Program} {l : Launch} {e : Env} {s : State} {m : MethodId} {below : List Frame} {meth : Method} {c : Code} {b L : Nat} {xs : Nat → Int32} {D : va_G} {cA : Nat → ClassId} {ax am : Nat → Nat} {qo qe N : Nat} {I : sg_St → sg_St → Prop} {Q : State → Prop} {cells slots : Nat} {H : Heap} {locs : List Loc} {ls : Array Slot} {x5 : Int32} {u v : sg_St} {o : Nat → Int64} {od : Nat → UInt64} (hlt : l.stackTraces = false) (C0 : sg_LA p s m meth c b L xs D cA) (hB : ∃ (R : (Nat ⊕ Int32) × sg_St) (r1 : Int32) (v1 : sg_St), fX5_currentByCutting N u (xs (x5 + 1).toNatClampNeg) = some R ∧ fX6_currentByCutting N v (xs (x5 + 1).toNatClampNeg) = some (r1, v1) ∧ sg_Rel I [5] R r1 v1) (hv1 : vp_in (x5 + 1) L) (hP : va_P D vwCl (sg_WW cA ax am qo qe u v o od) H) (hD : va_D (fun q : Nat => s.heap.size ≤ q) (sg_WW cA ax am qo qe u v o od)) (hS : va_S (fun q : Nat => s.heap.size ≤ q) s.heap H locs) (hl : lv_has ls 9 [(0, .ref b), (1, .ref (ax 0)), (2, .ref (am 0)), (3, .ref qo), (4, .ref qe), (5, .int x5)]) (hcs : cells + 10 ≤ 649553 ∧ slots + 60 ≤ 7063476) (kk : ∀ (u' v' : sg_St) (o' : Nat → Int64) (od' : Nat → UInt64) (H : Heap) (locs : List Loc) (ls : Array Slot), I u' v' → va_P D vwCl (sg_WW cA ax am qo qe u' v' o' od') H → va_D (fun q : Nat => s.heap.size ≤ q) (sg_WW cA ax am qo qe u' v' o' od') → va_S (fun q : Nat => s.heap.size ≤ q) s.heap H locs → lv_has ls 9 [(0, .ref b), (1, .ref (ax 0)), (2, .ref (am 0)), (3, .ref qo), (4, .ref qe), (5, .int x5)] → W p l e room_1 s m #[Value.ref b] below meth c H locs (cells + 10) (slots + 60) Q (F0 m 2656 ls [])) : W p l e room_1 s m #[Value.ref b] below meth c H locs cells slots Q (F0 m 1837 ls []) := by
  obtain ⟨hx, hb, hr, hml, hown, hts, hX, hbl, hK, hT, hN, hlocks⟩ := C0
  have hA : ∀ q : Nat, s.heap.size ≤ q → (fun q : Nat => s.heap.size ≤ q) q := fun _ h => h
  have hbA : ¬ (fun q : Nat => s.heap.size ≤ q) b := Nat.not_le.mpr hbl
  obtain ⟨R, r1, v1, hf1, hf2, hRel⟩ := hB
  have hR9 : ∀ k t, R = (.inl k, t) → k ∈ [5] := fun k t e9 => sg_Rel_in hRel e9
  refine lv_aload_n hx hb dL_law_1837 rfl (lv_at hl 1 rfl) ?_
  refine lv_aload_n hx hb dL_law_1838 rfl (lv_at hl 0 rfl) ?_
  refine lv_iload hx hb dL_law_1839 (lv_at hl 5 rfl) ?_
  refine lv_iconst (v := 1) hx hb dL_law_1841 (by decide) ?_
  refine lv_iadd hx hb dL_law_1842 ?_
  refine va_sld hx hb hX hbl hbA hS hv1 dL_law_1843 ?_
  refine lv_aload_n hx hb dL_law_1844 rfl (lv_at hl 3 rfl) ?_
  refine sg_hw (vx_runSW (As := [.ref (ax 0), .int (xs (x5 + 1).toNatClampNeg), .ref qo]) (rest := []) ⟨hx, hb, hml, hown, hts⟩ (c_L_currentByCutting l hlt D cA ax qo o N u _ R hf1 hR9 _) (vx_cwSW (hh := [(0, 9, 12, 25)]) 3 hts gL_law_L_currentByCutting rfl rfl rfl (by decide +kernel) ⟨Nat.le_of_ble_eq_true rfl, Nat.le_of_ble_eq_true rfl⟩) (sg_preL (w0 := sg_WL cA ax qo u o) hK (hP.sub [0, 2, 3, 4, 5, 6, 7, 8, 9, 10, 11, 12, 13, 14, 15, 16, 17, 18] rfl) (hD.sub [0, 2, 3, 4, 5, 6, 7, 8, 9, 10, 11, 12, 13, 14, 15, 16, 17, 18] (by decide) rfl) hT hN hS hA) rfl rfl hl.1 rfl (lv_room (Nat.le_of_ble_eq_true rfl)) dL_law_1845 ⟨by show cells + 1 ≤ 649553; omega, by show slots + 6 ≤ 7063476; omega⟩) hP hD hS hA (fun r u1 o1 H locs hlp hP hD hS => ?_)
  obtain ⟨hth, hI1, hout⟩ := sg_agree (by decide) hRel hlp
  refine lv_istore (lv' := [(6, .int r), (0, .ref b), (1, .ref (ax 0)), (2, .ref (am 0)), (3, .ref qo), (4, .ref qe), (5, .int x5)]) hx hb dL_law_1848 hl (by decide) rfl (fun ls hl => ?_)
  refine lv_aload_n hx hb dL_law_1850 rfl (lv_at hl 3 rfl) ?_
  refine lv_aload_n hx hb dL_law_1851 rfl (lv_at hl 1 rfl) ?_
  refine lv_iload hx hb dL_law_1852 (lv_at hl 6 rfl) ?_
  refine lv_iconst (v := 1) hx hb dL_law_1854 (by decide) ?_
  refine lv_iadd hx hb dL_law_1855 ?_
  refine va_sld hx hb hX hbl hbA hS hv1 dL_law_1856 ?_
  refine sg_mi (va_runV (As := [.int (xs (x5 + 1).toNatClampNeg)]) (rest := []) ⟨hx, hb, hml, hown, hts⟩ (c_X6_currentByCutting l D cA am N _ _ _ _ hf2 _) (cwV 1 hts gL_law_X6_currentByCutting rfl rfl rfl (by decide +kernel) ⟨Nat.le_of_ble_eq_true rfl, Nat.le_of_ble_eq_true rfl⟩) (sg_pre (Wf := sg_WM cA am) hK (hP.sub [19, 20, 21, 22, 23, 24, 25, 26, 27, 28, 29, 30, 31, 32, 33, 34, 35, 36, 37, 38] rfl) (hD.sub [19, 20, 21, 22, 23, 24, 25, 26, 27, 28, 29, 30, 31, 32, 33, 34, 35, 36, 37, 38] (by decide) rfl) (ci := 8) (q0 := 0) rfl rfl) rfl rfl hl.1 rfl (lv_room (Nat.le_of_ble_eq_true rfl)) dL_law_1857 ⟨by show cells + 1 + 0 ≤ 649553; omega, by show slots + 6 + 0 ≤ 7063476; omega⟩) hP hD hS hA (fun H locs hP hD hS => ?_)
  refine lv_istore (lv' := [(7, .int r1), (6, .int r), (0, .ref b), (1, .ref (ax 0)), (2, .ref (am 0)), (3, .ref qo), (4, .ref qe), (5, .int x5)]) hx hb dL_law_1860 hl (by decide) rfl (fun ls hl => ?_)
  refine lv_aload_n hx hb dL_law_1862 rfl (lv_at hl 4 rfl) ?_
  refine sg_mi (va_runV (As := []) (rest := []) ⟨hx, hb, hml, hown, hts⟩ (c_X6_thrown l D cA am N v1 (v1 0 0) rfl _) (cwV 0 hts gL_law_X6_thrown rfl rfl rfl (by decide +kernel) ⟨Nat.le_of_ble_eq_true rfl, Nat.le_of_ble_eq_true rfl⟩) (sg_pre (Wf := sg_WM cA am) hK (hP.sub [19, 20, 21, 22, 23, 24, 25, 26, 27, 28, 29, 30, 31, 32, 33, 34, 35, 36, 37, 38] rfl) (hD.sub [19, 20, 21, 22, 23, 24, 25, 26, 27, 28, 29, 30, 31, 32, 33, 34, 35, 36, 37, 38] (by decide) rfl) (ci := 8) (q0 := 0) rfl rfl) rfl rfl hl.1 rfl (lv_room (Nat.le_of_ble_eq_true rfl)) dL_law_1863 ⟨by show cells + 1 + 0 ≤ 649553; omega, by show slots + 6 + 0 ≤ 7063476; omega⟩) hP hD hS hA (fun H locs hP hD hS => ?_)
  refine lv_iload hx hb dL_law_1866 (lv_at hl 1 rfl) ?_
  refine lv_icmp_eq (tgt := 1873) hx hb dL_law_1868 (by decide) (fun _ => ?_) (fun hz3 => absurd hth hz3)
  refine lv_iload hx hb dL_law_1873 (lv_at hl 1 rfl) ?_
  refine lv_if_ne (tgt := 1890) hx hb dL_law_1875 (by decide) (fun hr0 => ?_) (fun hr0 => ?_)
  · refine lv_goto (tgt := 2656) hx hb dL_law_1890 (by decide) ?_
    refine W.widen (k := cells + 10) (n := slots + 60) (by omega) (by omega) ?_
    exact kk _ _ _ _ _ _ _ hI1 hP hD hS (lv_sub hl [2, 3, 4, 5, 6, 7] rfl)
  · obtain ⟨ho, hRr⟩ := hout hr0
    subst ho
    refine lv_aload_n hx hb dL_law_1878 rfl (lv_at hl 5 rfl) ?_
    refine lv_iconst (v := 0) hx hb dL_law_1879 (by decide) ?_
    refine va_lald hx hb hK.1 hP 0 2 rfl rfl (sg_inb_s (i := 0) (n := 1) (by decide)) dL_law_1880 ?_
    refine lv_iload hx hb dL_law_1881 (lv_at hl 0 rfl) ?_
    refine lv_i2l (v := r1.toInt64) hx hb dL_law_1883 rfl ?_
    refine W.lcmp hx hb dL_law_1884 ?_
    refine lv_if_eq (tgt := 1890) hx hb dL_law_1885 (by decide) (fun _ => ?_) (fun hz4 => absurd (by first | exact sg_cmp64 | exact sg_cmpB0 hb1 | exact sg_cmpB1 hb1) hz4)
    refine lv_goto (tgt := 2656) hx hb dL_law_1890 (by decide) ?_
    refine W.widen (k := cells + 10) (n := slots + 60) (by omega) (by omega) ?_
    exact kk _ _ _ _ _ _ _ hI1 hP hD hS (lv_sub hl [2, 3, 4, 5, 6, 7] rfl)
set_option maxRecDepth 100000 in
set_option maxHeartbeats 4000000 in
theorem lw_case29 {p : Program} {l : Launch} {e : Env} {s : State} {m : MethodId} {below : List Frame} {meth : Method} {c : Code} {b L : Nat} {xs : Nat → Int32} {D : va_G} {cA : Nat → ClassId} {ax am : Nat → Nat} {qo qe N : Nat} {I : sg_St → sg_St → Prop} {Q : State → Prop} {cells slots : Nat} {H : Heap} {locs : List Loc} {ls : Array Slot} {x5 : Int32} {u v : sg_St} {o : Nat → Int64} {od : Nat → UInt64} (hlt : l.stackTraces = false) (C0 : sg_LA p s m meth c b L xs D cA) (hB : ∃ (R : (Nat ⊕ Int32) × sg_St) (r1 : Int32) (v1 : sg_St), fX5_distance N u (xs (x5 + 1).toNatClampNeg) = some R ∧ fX6_distance N v (xs (x5 + 1).toNatClampNeg) = some (r1, v1) ∧ sg_Rel I [5, 0] R r1 v1) (hv1 : vp_in (x5 + 1) L) (hP : va_P D vwCl (sg_WW cA ax am qo qe u v o od) H) (hD : va_D (fun q : Nat => s.heap.size ≤ q) (sg_WW cA ax am qo qe u v o od)) (hS : va_S (fun q : Nat => s.heap.size ≤ q) s.heap H locs) (hl : lv_has ls 9 [(0, .ref b), (1, .ref (ax 0)), (2, .ref (am 0)), (3, .ref qo), (4, .ref qe), (5, .int x5)]) (hcs : cells + 10 ≤ 649553 ∧ slots + 60 ≤ 7063476) (kk : ∀ (u' v' : sg_St) (o' : Nat → Int64) (od' : Nat → UInt64) (H : Heap) (locs : List Loc) (ls : Array Slot), I u' v' → va_P D vwCl (sg_WW cA ax am qo qe u' v' o' od') H → va_D (fun q : Nat => s.heap.size ≤ q) (sg_WW cA ax am qo qe u' v' o' od') → va_S (fun q : Nat => s.heap.size ≤ q) s.heap H locs → lv_has ls 9 [(0, .ref b), (1, .ref (ax 0)), (2, .ref (am 0)), (3, .ref qo), (4, .ref qe), (5, .int x5)] → W p l e room_1 s m #[Value.ref b] below meth c H locs (cells + 10) (slots + 60) Q (F0 m 2656 ls [])) : W p l e room_1 s m #[Value.ref b] below meth c H locs cells slots Q (F0 m 1893 ls []) := by
  obtain ⟨hx, hb, hr, hml, hown, hts, hX, hbl, hK, hT, hN, hlocks⟩ := C0
  have hA : ∀ q : Nat, s.heap.size ≤ q → (fun q : Nat => s.heap.size ≤ q) q := fun _ h => h
  have hbA : ¬ (fun q : Nat => s.heap.size ≤ q) b := Nat.not_le.mpr hbl
  obtain ⟨R, r1, v1, hf1, hf2, hRel⟩ := hB
  have hR9 : ∀ k t, R = (.inl k, t) → k ∈ [5, 0] := fun k t e9 => sg_Rel_in hRel e9
  refine lv_aload_n hx hb dL_law_1893 rfl (lv_at hl 1 rfl) ?_
  refine lv_aload_n hx hb dL_law_1894 rfl (lv_at hl 0 rfl) ?_
  refine lv_iload hx hb dL_law_1895 (lv_at hl 5 rfl) ?_
  refine lv_iconst (v := 1) hx hb dL_law_1897 (by decide) ?_
  refine lv_iadd hx hb dL_law_1898 ?_
  refine va_sld hx hb hX hbl hbA hS hv1 dL_law_1899 ?_
  refine lv_aload_n hx hb dL_law_1900 rfl (lv_at hl 3 rfl) ?_
  refine sg_hw (vx_runSW (As := [.ref (ax 0), .int (xs (x5 + 1).toNatClampNeg), .ref qo]) (rest := []) ⟨hx, hb, hml, hown, hts⟩ (c_L_distance l hlt D cA ax qo o N u _ R hf1 hR9 _) (vx_cwSW (hh := [(0, 9, 12, 25), (0, 9, 15, 15)]) 3 hts gL_law_L_distance rfl rfl rfl (by decide +kernel) ⟨Nat.le_of_ble_eq_true rfl, Nat.le_of_ble_eq_true rfl⟩) (sg_preL (w0 := sg_WL cA ax qo u o) hK (hP.sub [0, 2, 3, 4, 5, 6, 7, 8, 9, 10, 11, 12, 13, 14, 15, 16, 17, 18] rfl) (hD.sub [0, 2, 3, 4, 5, 6, 7, 8, 9, 10, 11, 12, 13, 14, 15, 16, 17, 18] (by decide) rfl) hT hN hS hA) rfl rfl hl.1 rfl (lv_room (Nat.le_of_ble_eq_true rfl)) dL_law_1901 ⟨by show cells + 2 ≤ 649553; omega, by show slots + 12 ≤ 7063476; omega⟩) hP hD hS hA (fun r u1 o1 H locs hlp hP hD hS => ?_)
  obtain ⟨hth, hI1, hout⟩ := sg_agree (by decide) hRel hlp
  refine lv_istore (lv' := [(6, .int r), (0, .ref b), (1, .ref (ax 0)), (2, .ref (am 0)), (3, .ref qo), (4, .ref qe), (5, .int x5)]) hx hb dL_law_1904 hl (by decide) rfl (fun ls hl => ?_)
  refine lv_aload_n hx hb dL_law_1906 rfl (lv_at hl 3 rfl) ?_
  refine lv_aload_n hx hb dL_law_1907 rfl (lv_at hl 1 rfl) ?_
  refine lv_iload hx hb dL_law_1908 (lv_at hl 6 rfl) ?_
  refine lv_iconst (v := 1) hx hb dL_law_1910 (by decide) ?_
  refine lv_iadd hx hb dL_law_1911 ?_
  refine va_sld hx hb hX hbl hbA hS hv1 dL_law_1912 ?_
  refine sg_mi (va_runV (As := [.int (xs (x5 + 1).toNatClampNeg)]) (rest := []) ⟨hx, hb, hml, hown, hts⟩ (c_X6_distance l D cA am N _ _ _ _ hf2 _) (cwV 1 hts gL_law_X6_distance rfl rfl rfl (by decide +kernel) ⟨Nat.le_of_ble_eq_true rfl, Nat.le_of_ble_eq_true rfl⟩) (sg_pre (Wf := sg_WM cA am) hK (hP.sub [19, 20, 21, 22, 23, 24, 25, 26, 27, 28, 29, 30, 31, 32, 33, 34, 35, 36, 37, 38] rfl) (hD.sub [19, 20, 21, 22, 23, 24, 25, 26, 27, 28, 29, 30, 31, 32, 33, 34, 35, 36, 37, 38] (by decide) rfl) (ci := 8) (q0 := 0) rfl rfl) rfl rfl hl.1 rfl (lv_room (Nat.le_of_ble_eq_true rfl)) dL_law_1913 ⟨by show cells + 2 + 0 ≤ 649553; omega, by show slots + 12 + 0 ≤ 7063476; omega⟩) hP hD hS hA (fun H locs hP hD hS => ?_)
  refine lv_istore (lv' := [(7, .int r1), (6, .int r), (0, .ref b), (1, .ref (ax 0)), (2, .ref (am 0)), (3, .ref qo), (4, .ref qe), (5, .int x5)]) hx hb dL_law_1916 hl (by decide) rfl (fun ls hl => ?_)
  refine lv_aload_n hx hb dL_law_1918 rfl (lv_at hl 4 rfl) ?_
  refine sg_mi (va_runV (As := []) (rest := []) ⟨hx, hb, hml, hown, hts⟩ (c_X6_thrown l D cA am N v1 (v1 0 0) rfl _) (cwV 0 hts gL_law_X6_thrown rfl rfl rfl (by decide +kernel) ⟨Nat.le_of_ble_eq_true rfl, Nat.le_of_ble_eq_true rfl⟩) (sg_pre (Wf := sg_WM cA am) hK (hP.sub [19, 20, 21, 22, 23, 24, 25, 26, 27, 28, 29, 30, 31, 32, 33, 34, 35, 36, 37, 38] rfl) (hD.sub [19, 20, 21, 22, 23, 24, 25, 26, 27, 28, 29, 30, 31, 32, 33, 34, 35, 36, 37, 38] (by decide) rfl) (ci := 8) (q0 := 0) rfl rfl) rfl rfl hl.1 rfl (lv_room (Nat.le_of_ble_eq_true rfl)) dL_law_1919 ⟨by show cells + 2 + 0 ≤ 649553; omega, by show slots + 12 + 0 ≤ 7063476; omega⟩) hP hD hS hA (fun H locs hP hD hS => ?_)
  refine lv_iload hx hb dL_law_1922 (lv_at hl 1 rfl) ?_
  refine lv_icmp_eq (tgt := 1929) hx hb dL_law_1924 (by decide) (fun _ => ?_) (fun hz3 => absurd hth hz3)
  refine lv_iload hx hb dL_law_1929 (lv_at hl 1 rfl) ?_
  refine lv_if_ne (tgt := 1946) hx hb dL_law_1931 (by decide) (fun hr0 => ?_) (fun hr0 => ?_)
  · refine lv_goto (tgt := 2656) hx hb dL_law_1946 (by decide) ?_
    refine W.widen (k := cells + 10) (n := slots + 60) (by omega) (by omega) ?_
    exact kk _ _ _ _ _ _ _ hI1 hP hD hS (lv_sub hl [2, 3, 4, 5, 6, 7] rfl)
  · obtain ⟨ho, hRr⟩ := hout hr0
    subst ho
    refine lv_aload_n hx hb dL_law_1934 rfl (lv_at hl 5 rfl) ?_
    refine lv_iconst (v := 0) hx hb dL_law_1935 (by decide) ?_
    refine va_lald hx hb hK.1 hP 0 2 rfl rfl (sg_inb_s (i := 0) (n := 1) (by decide)) dL_law_1936 ?_
    refine lv_iload hx hb dL_law_1937 (lv_at hl 0 rfl) ?_
    refine lv_i2l (v := r1.toInt64) hx hb dL_law_1939 rfl ?_
    refine W.lcmp hx hb dL_law_1940 ?_
    refine lv_if_eq (tgt := 1946) hx hb dL_law_1941 (by decide) (fun _ => ?_) (fun hz4 => absurd (by first | exact sg_cmp64 | exact sg_cmpB0 hb1 | exact sg_cmpB1 hb1) hz4)
    refine lv_goto (tgt := 2656) hx hb dL_law_1946 (by decide) ?_
    refine W.widen (k := cells + 10) (n := slots + 60) (by omega) (by omega) ?_
    exact kk _ _ _ _ _ _ _ hI1 hP hD hS (lv_sub hl [2, 3, 4, 5, 6, 7] rfl)
set_option maxRecDepth 100000 in
set_option maxHeartbeats 4000000 in
theorem lw_case30 {p : Program} {l : Launch} {e : Env} {s : State} {m : MethodId} {below : List Frame} {meth : Method} {c : Code} {b L : Nat} {xs : Nat → Int32} {D : va_G} {cA : Nat → ClassId} {ax am : Nat → Nat} {qo qe N : Nat} {I : sg_St → sg_St → Prop} {Q : State → Prop} {cells slots : Nat} {H : Heap} {locs : List Loc} {ls : Array Slot} {x5 : Int32} {u v : sg_St} {o : Nat → Int64} {od : Nat → UInt64} (hlt : l.stackTraces = false) (C0 : sg_LA p s m meth c b L xs D cA) (hB : ∃ (R : (Nat ⊕ Int32) × sg_St) (r1 : Int32) (v1 : sg_St), fX5_pathAt N u (xs (x5 + 1).toNatClampNeg) (xs (x5 + 2).toNatClampNeg) = some R ∧ fX6_pathAt N v (xs (x5 + 1).toNatClampNeg) (xs (x5 + 2).toNatClampNeg) = some (r1, v1) ∧ sg_Rel I [5, 0, 2] R r1 v1) (hv1 : vp_in (x5 + 1) L) (hv2 : vp_in (x5 + 2) L) (hP : va_P D vwCl (sg_WW cA ax am qo qe u v o od) H) (hD : va_D (fun q : Nat => s.heap.size ≤ q) (sg_WW cA ax am qo qe u v o od)) (hS : va_S (fun q : Nat => s.heap.size ≤ q) s.heap H locs) (hl : lv_has ls 9 [(0, .ref b), (1, .ref (ax 0)), (2, .ref (am 0)), (3, .ref qo), (4, .ref qe), (5, .int x5)]) (hcs : cells + 10 ≤ 649553 ∧ slots + 60 ≤ 7063476) (kk : ∀ (u' v' : sg_St) (o' : Nat → Int64) (od' : Nat → UInt64) (H : Heap) (locs : List Loc) (ls : Array Slot), I u' v' → va_P D vwCl (sg_WW cA ax am qo qe u' v' o' od') H → va_D (fun q : Nat => s.heap.size ≤ q) (sg_WW cA ax am qo qe u' v' o' od') → va_S (fun q : Nat => s.heap.size ≤ q) s.heap H locs → lv_has ls 9 [(0, .ref b), (1, .ref (ax 0)), (2, .ref (am 0)), (3, .ref qo), (4, .ref qe), (5, .int x5)] → W p l e room_1 s m #[Value.ref b] below meth c H locs (cells + 10) (slots + 60) Q (F0 m 2656 ls [])) : W p l e room_1 s m #[Value.ref b] below meth c H locs cells slots Q (F0 m 1949 ls []) := by
  obtain ⟨hx, hb, hr, hml, hown, hts, hX, hbl, hK, hT, hN, hlocks⟩ := C0
  have hA : ∀ q : Nat, s.heap.size ≤ q → (fun q : Nat => s.heap.size ≤ q) q := fun _ h => h
  have hbA : ¬ (fun q : Nat => s.heap.size ≤ q) b := Nat.not_le.mpr hbl
  obtain ⟨R, r1, v1, hf1, hf2, hRel⟩ := hB
  have hR9 : ∀ k t, R = (.inl k, t) → k ∈ [5, 0, 2] := fun k t e9 => sg_Rel_in hRel e9
  refine lv_aload_n hx hb dL_law_1949 rfl (lv_at hl 1 rfl) ?_
  refine lv_aload_n hx hb dL_law_1950 rfl (lv_at hl 0 rfl) ?_
  refine lv_iload hx hb dL_law_1951 (lv_at hl 5 rfl) ?_
  refine lv_iconst (v := 1) hx hb dL_law_1953 (by decide) ?_
  refine lv_iadd hx hb dL_law_1954 ?_
  refine va_sld hx hb hX hbl hbA hS hv1 dL_law_1955 ?_
  refine lv_aload_n hx hb dL_law_1956 rfl (lv_at hl 0 rfl) ?_
  refine lv_iload hx hb dL_law_1957 (lv_at hl 5 rfl) ?_
  refine lv_iconst (v := 2) hx hb dL_law_1959 (by decide) ?_
  refine lv_iadd hx hb dL_law_1960 ?_
  refine va_sld hx hb hX hbl hbA hS hv2 dL_law_1961 ?_
  refine lv_aload_n hx hb dL_law_1962 rfl (lv_at hl 3 rfl) ?_
  refine sg_hw (vx_runSW (As := [.ref (ax 0), .int (xs (x5 + 1).toNatClampNeg), .int (xs (x5 + 2).toNatClampNeg), .ref qo]) (rest := []) ⟨hx, hb, hml, hown, hts⟩ (c_L_pathAt l hlt D cA ax qo o N u _ _ R hf1 hR9 _) (vx_cwSW (hh := [(0, 10, 13, 25), (0, 10, 17, 15), (0, 10, 21, 107)]) 4 hts gL_law_L_pathAt rfl rfl rfl (by decide +kernel) ⟨Nat.le_of_ble_eq_true rfl, Nat.le_of_ble_eq_true rfl⟩) (sg_preL (w0 := sg_WL cA ax qo u o) hK (hP.sub [0, 2, 3, 4, 5, 6, 7, 8, 9, 10, 11, 12, 13, 14, 15, 16, 17, 18] rfl) (hD.sub [0, 2, 3, 4, 5, 6, 7, 8, 9, 10, 11, 12, 13, 14, 15, 16, 17, 18] (by decide) rfl) hT hN hS hA) rfl rfl hl.1 rfl (lv_room (Nat.le_of_ble_eq_true rfl)) dL_law_1963 ⟨by show cells + 3 ≤ 649553; omega, by show slots + 18 ≤ 7063476; omega⟩) hP hD hS hA (fun r u1 o1 H locs hlp hP hD hS => ?_)
  obtain ⟨hth, hI1, hout⟩ := sg_agree (by decide) hRel hlp
  refine lv_istore (lv' := [(6, .int r), (0, .ref b), (1, .ref (ax 0)), (2, .ref (am 0)), (3, .ref qo), (4, .ref qe), (5, .int x5)]) hx hb dL_law_1966 hl (by decide) rfl (fun ls hl => ?_)
  refine lv_aload_n hx hb dL_law_1968 rfl (lv_at hl 3 rfl) ?_
  refine lv_aload_n hx hb dL_law_1969 rfl (lv_at hl 1 rfl) ?_
  refine lv_iload hx hb dL_law_1970 (lv_at hl 6 rfl) ?_
  refine lv_iconst (v := 1) hx hb dL_law_1972 (by decide) ?_
  refine lv_iadd hx hb dL_law_1973 ?_
  refine va_sld hx hb hX hbl hbA hS hv1 dL_law_1974 ?_
  refine lv_aload_n hx hb dL_law_1975 rfl (lv_at hl 1 rfl) ?_
  refine lv_iload hx hb dL_law_1976 (lv_at hl 6 rfl) ?_
  refine lv_iconst (v := 2) hx hb dL_law_1978 (by decide) ?_
  refine lv_iadd hx hb dL_law_1979 ?_
  refine va_sld hx hb hX hbl hbA hS hv2 dL_law_1980 ?_
  refine sg_mi (va_runV (As := [.int (xs (x5 + 1).toNatClampNeg), .int (xs (x5 + 2).toNatClampNeg)]) (rest := []) ⟨hx, hb, hml, hown, hts⟩ (c_X6_pathAt l D cA am N _ _ _ _ _ hf2 _) (cwV 2 hts gL_law_X6_pathAt rfl rfl rfl (by decide +kernel) ⟨Nat.le_of_ble_eq_true rfl, Nat.le_of_ble_eq_true rfl⟩) (sg_pre (Wf := sg_WM cA am) hK (hP.sub [19, 20, 21, 22, 23, 24, 25, 26, 27, 28, 29, 30, 31, 32, 33, 34, 35, 36, 37, 38] rfl) (hD.sub [19, 20, 21, 22, 23, 24, 25, 26, 27, 28, 29, 30, 31, 32, 33, 34, 35, 36, 37, 38] (by decide) rfl) (ci := 8) (q0 := 0) rfl rfl) rfl rfl hl.1 rfl (lv_room (Nat.le_of_ble_eq_true rfl)) dL_law_1981 ⟨by show cells + 3 + 0 ≤ 649553; omega, by show slots + 18 + 0 ≤ 7063476; omega⟩) hP hD hS hA (fun H locs hP hD hS => ?_)
  refine lv_istore (lv' := [(7, .int r1), (6, .int r), (0, .ref b), (1, .ref (ax 0)), (2, .ref (am 0)), (3, .ref qo), (4, .ref qe), (5, .int x5)]) hx hb dL_law_1984 hl (by decide) rfl (fun ls hl => ?_)
  refine lv_aload_n hx hb dL_law_1986 rfl (lv_at hl 4 rfl) ?_
  refine sg_mi (va_runV (As := []) (rest := []) ⟨hx, hb, hml, hown, hts⟩ (c_X6_thrown l D cA am N v1 (v1 0 0) rfl _) (cwV 0 hts gL_law_X6_thrown rfl rfl rfl (by decide +kernel) ⟨Nat.le_of_ble_eq_true rfl, Nat.le_of_ble_eq_true rfl⟩) (sg_pre (Wf := sg_WM cA am) hK (hP.sub [19, 20, 21, 22, 23, 24, 25, 26, 27, 28, 29, 30, 31, 32, 33, 34, 35, 36, 37, 38] rfl) (hD.sub [19, 20, 21, 22, 23, 24, 25, 26, 27, 28, 29, 30, 31, 32, 33, 34, 35, 36, 37, 38] (by decide) rfl) (ci := 8) (q0 := 0) rfl rfl) rfl rfl hl.1 rfl (lv_room (Nat.le_of_ble_eq_true rfl)) dL_law_1987 ⟨by show cells + 3 + 0 ≤ 649553; omega, by show slots + 18 + 0 ≤ 7063476; omega⟩) hP hD hS hA (fun H locs hP hD hS => ?_)
  refine lv_iload hx hb dL_law_1990 (lv_at hl 1 rfl) ?_
  refine lv_icmp_eq (tgt := 1997) hx hb dL_law_1992 (by decide) (fun _ => ?_) (fun hz3 => absurd hth hz3)
  refine lv_iload hx hb dL_law_1997 (lv_at hl 1 rfl) ?_
  refine lv_if_ne (tgt := 2014) hx hb dL_law_1999 (by decide) (fun hr0 => ?_) (fun hr0 => ?_)
  · refine lv_goto (tgt := 2656) hx hb dL_law_2014 (by decide) ?_
    refine W.widen (k := cells + 10) (n := slots + 60) (by omega) (by omega) ?_
    exact kk _ _ _ _ _ _ _ hI1 hP hD hS (lv_sub hl [2, 3, 4, 5, 6, 7] rfl)
  · obtain ⟨ho, hRr⟩ := hout hr0
    subst ho
    refine lv_aload_n hx hb dL_law_2002 rfl (lv_at hl 5 rfl) ?_
    refine lv_iconst (v := 0) hx hb dL_law_2003 (by decide) ?_
    refine va_lald hx hb hK.1 hP 0 2 rfl rfl (sg_inb_s (i := 0) (n := 1) (by decide)) dL_law_2004 ?_
    refine lv_iload hx hb dL_law_2005 (lv_at hl 0 rfl) ?_
    refine lv_i2l (v := r1.toInt64) hx hb dL_law_2007 rfl ?_
    refine W.lcmp hx hb dL_law_2008 ?_
    refine lv_if_eq (tgt := 2014) hx hb dL_law_2009 (by decide) (fun _ => ?_) (fun hz4 => absurd (by first | exact sg_cmp64 | exact sg_cmpB0 hb1 | exact sg_cmpB1 hb1) hz4)
    refine lv_goto (tgt := 2656) hx hb dL_law_2014 (by decide) ?_
    refine W.widen (k := cells + 10) (n := slots + 60) (by omega) (by omega) ?_
    exact kk _ _ _ _ _ _ _ hI1 hP hD hS (lv_sub hl [2, 3, 4, 5, 6, 7] rfl)
set_option maxRecDepth 100000 in
set_option maxHeartbeats 4000000 in
theorem lw_case31 {p : Program} {l : Launch} {e : Env} {s : State} {m : MethodId} {below : List Frame} {meth : Method} {c : Code} {b L : Nat} {xs : Nat → Int32} {D : va_G} {cA : Nat → ClassId} {ax am : Nat → Nat} {qo qe N : Nat} {I : sg_St → sg_St → Prop} {Q : State → Prop} {cells slots : Nat} {H : Heap} {locs : List Loc} {ls : Array Slot} {x5 : Int32} {u v : sg_St} {o : Nat → Int64} {od : Nat → UInt64} (hlt : l.stackTraces = false) (C0 : sg_LA p s m meth c b L xs D cA) (hB : ∃ (R : (Nat ⊕ Int32) × sg_St) (r1 : Int32) (v1 : sg_St), fX5_faultCurrent N u (xs (x5 + 1).toNatClampNeg) = some R ∧ fX6_faultCurrent N v (xs (x5 + 1).toNatClampNeg) = some (r1, v1) ∧ sg_Rel I [5, 0] R r1 v1) (hv1 : vp_in (x5 + 1) L) (hP : va_P D vwCl (sg_WW cA ax am qo qe u v o od) H) (hD : va_D (fun q : Nat => s.heap.size ≤ q) (sg_WW cA ax am qo qe u v o od)) (hS : va_S (fun q : Nat => s.heap.size ≤ q) s.heap H locs) (hl : lv_has ls 9 [(0, .ref b), (1, .ref (ax 0)), (2, .ref (am 0)), (3, .ref qo), (4, .ref qe), (5, .int x5)]) (hcs : cells + 10 ≤ 649553 ∧ slots + 60 ≤ 7063476) (kk : ∀ (u' v' : sg_St) (o' : Nat → Int64) (od' : Nat → UInt64) (H : Heap) (locs : List Loc) (ls : Array Slot), I u' v' → va_P D vwCl (sg_WW cA ax am qo qe u' v' o' od') H → va_D (fun q : Nat => s.heap.size ≤ q) (sg_WW cA ax am qo qe u' v' o' od') → va_S (fun q : Nat => s.heap.size ≤ q) s.heap H locs → lv_has ls 9 [(0, .ref b), (1, .ref (ax 0)), (2, .ref (am 0)), (3, .ref qo), (4, .ref qe), (5, .int x5)] → W p l e room_1 s m #[Value.ref b] below meth c H locs (cells + 10) (slots + 60) Q (F0 m 2656 ls [])) : W p l e room_1 s m #[Value.ref b] below meth c H locs cells slots Q (F0 m 2017 ls []) := by
  obtain ⟨hx, hb, hr, hml, hown, hts, hX, hbl, hK, hT, hN, hlocks⟩ := C0
  have hA : ∀ q : Nat, s.heap.size ≤ q → (fun q : Nat => s.heap.size ≤ q) q := fun _ h => h
  have hbA : ¬ (fun q : Nat => s.heap.size ≤ q) b := Nat.not_le.mpr hbl
  obtain ⟨R, r1, v1, hf1, hf2, hRel⟩ := hB
  have hR9 : ∀ k t, R = (.inl k, t) → k ∈ [5, 0] := fun k t e9 => sg_Rel_in hRel e9
  refine lv_aload_n hx hb dL_law_2017 rfl (lv_at hl 1 rfl) ?_
  refine lv_aload_n hx hb dL_law_2018 rfl (lv_at hl 0 rfl) ?_
  refine lv_iload hx hb dL_law_2019 (lv_at hl 5 rfl) ?_
  refine lv_iconst (v := 1) hx hb dL_law_2021 (by decide) ?_
  refine lv_iadd hx hb dL_law_2022 ?_
  refine va_sld hx hb hX hbl hbA hS hv1 dL_law_2023 ?_
  refine lv_aload_n hx hb dL_law_2024 rfl (lv_at hl 3 rfl) ?_
  refine sg_hw (vx_runSW (As := [.ref (ax 0), .int (xs (x5 + 1).toNatClampNeg), .ref qo]) (rest := []) ⟨hx, hb, hml, hown, hts⟩ (c_L_faultCurrent l hlt D cA ax qo o N u _ R hf1 hR9 _) (vx_cwSW (hh := [(0, 9, 12, 25), (0, 9, 15, 15)]) 3 hts gL_law_L_faultCurrent rfl rfl rfl (by decide +kernel) ⟨Nat.le_of_ble_eq_true rfl, Nat.le_of_ble_eq_true rfl⟩) (sg_preL (w0 := sg_WL cA ax qo u o) hK (hP.sub [0, 2, 3, 4, 5, 6, 7, 8, 9, 10, 11, 12, 13, 14, 15, 16, 17, 18] rfl) (hD.sub [0, 2, 3, 4, 5, 6, 7, 8, 9, 10, 11, 12, 13, 14, 15, 16, 17, 18] (by decide) rfl) hT hN hS hA) rfl rfl hl.1 rfl (lv_room (Nat.le_of_ble_eq_true rfl)) dL_law_2025 ⟨by show cells + 2 ≤ 649553; omega, by show slots + 12 ≤ 7063476; omega⟩) hP hD hS hA (fun r u1 o1 H locs hlp hP hD hS => ?_)
  obtain ⟨hth, hI1, hout⟩ := sg_agree (by decide) hRel hlp
  refine lv_istore (lv' := [(6, .int r), (0, .ref b), (1, .ref (ax 0)), (2, .ref (am 0)), (3, .ref qo), (4, .ref qe), (5, .int x5)]) hx hb dL_law_2028 hl (by decide) rfl (fun ls hl => ?_)
  refine lv_aload_n hx hb dL_law_2030 rfl (lv_at hl 3 rfl) ?_
  refine lv_aload_n hx hb dL_law_2031 rfl (lv_at hl 1 rfl) ?_
  refine lv_iload hx hb dL_law_2032 (lv_at hl 6 rfl) ?_
  refine lv_iconst (v := 1) hx hb dL_law_2034 (by decide) ?_
  refine lv_iadd hx hb dL_law_2035 ?_
  refine va_sld hx hb hX hbl hbA hS hv1 dL_law_2036 ?_
  refine sg_mi (va_runV (As := [.int (xs (x5 + 1).toNatClampNeg)]) (rest := []) ⟨hx, hb, hml, hown, hts⟩ (c_X6_faultCurrent l D cA am N _ _ _ _ hf2 _) (cwV 1 hts gL_law_X6_faultCurrent rfl rfl rfl (by decide +kernel) ⟨Nat.le_of_ble_eq_true rfl, Nat.le_of_ble_eq_true rfl⟩) (sg_pre (Wf := sg_WM cA am) hK (hP.sub [19, 20, 21, 22, 23, 24, 25, 26, 27, 28, 29, 30, 31, 32, 33, 34, 35, 36, 37, 38] rfl) (hD.sub [19, 20, 21, 22, 23, 24, 25, 26, 27, 28, 29, 30, 31, 32, 33, 34, 35, 36, 37, 38] (by decide) rfl) (ci := 8) (q0 := 0) rfl rfl) rfl rfl hl.1 rfl (lv_room (Nat.le_of_ble_eq_true rfl)) dL_law_2037 ⟨by show cells + 2 + 0 ≤ 649553; omega, by show slots + 12 + 0 ≤ 7063476; omega⟩) hP hD hS hA (fun H locs hP hD hS => ?_)
  refine lv_istore (lv' := [(7, .int r1), (6, .int r), (0, .ref b), (1, .ref (ax 0)), (2, .ref (am 0)), (3, .ref qo), (4, .ref qe), (5, .int x5)]) hx hb dL_law_2040 hl (by decide) rfl (fun ls hl => ?_)
  refine lv_aload_n hx hb dL_law_2042 rfl (lv_at hl 4 rfl) ?_
  refine sg_mi (va_runV (As := []) (rest := []) ⟨hx, hb, hml, hown, hts⟩ (c_X6_thrown l D cA am N v1 (v1 0 0) rfl _) (cwV 0 hts gL_law_X6_thrown rfl rfl rfl (by decide +kernel) ⟨Nat.le_of_ble_eq_true rfl, Nat.le_of_ble_eq_true rfl⟩) (sg_pre (Wf := sg_WM cA am) hK (hP.sub [19, 20, 21, 22, 23, 24, 25, 26, 27, 28, 29, 30, 31, 32, 33, 34, 35, 36, 37, 38] rfl) (hD.sub [19, 20, 21, 22, 23, 24, 25, 26, 27, 28, 29, 30, 31, 32, 33, 34, 35, 36, 37, 38] (by decide) rfl) (ci := 8) (q0 := 0) rfl rfl) rfl rfl hl.1 rfl (lv_room (Nat.le_of_ble_eq_true rfl)) dL_law_2043 ⟨by show cells + 2 + 0 ≤ 649553; omega, by show slots + 12 + 0 ≤ 7063476; omega⟩) hP hD hS hA (fun H locs hP hD hS => ?_)
  refine lv_iload hx hb dL_law_2046 (lv_at hl 1 rfl) ?_
  refine lv_icmp_eq (tgt := 2053) hx hb dL_law_2048 (by decide) (fun _ => ?_) (fun hz3 => absurd hth hz3)
  refine lv_iload hx hb dL_law_2053 (lv_at hl 1 rfl) ?_
  refine lv_if_ne (tgt := 2070) hx hb dL_law_2055 (by decide) (fun hr0 => ?_) (fun hr0 => ?_)
  · refine lv_goto (tgt := 2656) hx hb dL_law_2070 (by decide) ?_
    refine W.widen (k := cells + 10) (n := slots + 60) (by omega) (by omega) ?_
    exact kk _ _ _ _ _ _ _ hI1 hP hD hS (lv_sub hl [2, 3, 4, 5, 6, 7] rfl)
  · obtain ⟨ho, hRr⟩ := hout hr0
    subst ho
    refine lv_aload_n hx hb dL_law_2058 rfl (lv_at hl 5 rfl) ?_
    refine lv_iconst (v := 0) hx hb dL_law_2059 (by decide) ?_
    refine va_lald hx hb hK.1 hP 0 2 rfl rfl (sg_inb_s (i := 0) (n := 1) (by decide)) dL_law_2060 ?_
    refine lv_iload hx hb dL_law_2061 (lv_at hl 0 rfl) ?_
    refine lv_i2l (v := r1.toInt64) hx hb dL_law_2063 rfl ?_
    refine W.lcmp hx hb dL_law_2064 ?_
    refine lv_if_eq (tgt := 2070) hx hb dL_law_2065 (by decide) (fun _ => ?_) (fun hz4 => absurd (by first | exact sg_cmp64 | exact sg_cmpB0 hb1 | exact sg_cmpB1 hb1) hz4)
    refine lv_goto (tgt := 2656) hx hb dL_law_2070 (by decide) ?_
    refine W.widen (k := cells + 10) (n := slots + 60) (by omega) (by omega) ?_
    exact kk _ _ _ _ _ _ _ hI1 hP hD hS (lv_sub hl [2, 3, 4, 5, 6, 7] rfl)
set_option maxRecDepth 100000 in
set_option maxHeartbeats 4000000 in
theorem lw_case32 {p : Program} {l : Launch} {e : Env} {s : State} {m : MethodId} {below : List Frame} {meth : Method} {c : Code} {b L : Nat} {xs : Nat → Int32} {D : va_G} {cA : Nat → ClassId} {ax am : Nat → Nat} {qo qe N : Nat} {I : sg_St → sg_St → Prop} {Q : State → Prop} {cells slots : Nat} {H : Heap} {locs : List Loc} {ls : Array Slot} {x5 : Int32} {u v : sg_St} {o : Nat → Int64} {od : Nat → UInt64} (hlt : l.stackTraces = false) (C0 : sg_LA p s m meth c b L xs D cA) (hB : ∃ (R : (Nat ⊕ Int32) × sg_St) (r1 : Int32) (v1 : sg_St), fX5_tripTime N u (xs (x5 + 1).toNatClampNeg) (xs (x5 + 2).toNatClampNeg) = some R ∧ fX6_tripTime N v (xs (x5 + 1).toNatClampNeg) (xs (x5 + 2).toNatClampNeg) = some (r1, v1) ∧ sg_Rel I [5, 1, 4] R r1 v1) (hv1 : vp_in (x5 + 1) L) (hv2 : vp_in (x5 + 2) L) (hP : va_P D vwCl (sg_WW cA ax am qo qe u v o od) H) (hD : va_D (fun q : Nat => s.heap.size ≤ q) (sg_WW cA ax am qo qe u v o od)) (hS : va_S (fun q : Nat => s.heap.size ≤ q) s.heap H locs) (hl : lv_has ls 9 [(0, .ref b), (1, .ref (ax 0)), (2, .ref (am 0)), (3, .ref qo), (4, .ref qe), (5, .int x5)]) (hcs : cells + 10 ≤ 649553 ∧ slots + 60 ≤ 7063476) (kk : ∀ (u' v' : sg_St) (o' : Nat → Int64) (od' : Nat → UInt64) (H : Heap) (locs : List Loc) (ls : Array Slot), I u' v' → va_P D vwCl (sg_WW cA ax am qo qe u' v' o' od') H → va_D (fun q : Nat => s.heap.size ≤ q) (sg_WW cA ax am qo qe u' v' o' od') → va_S (fun q : Nat => s.heap.size ≤ q) s.heap H locs → lv_has ls 9 [(0, .ref b), (1, .ref (ax 0)), (2, .ref (am 0)), (3, .ref qo), (4, .ref qe), (5, .int x5)] → W p l e room_1 s m #[Value.ref b] below meth c H locs (cells + 10) (slots + 60) Q (F0 m 2656 ls [])) : W p l e room_1 s m #[Value.ref b] below meth c H locs cells slots Q (F0 m 2073 ls []) := by
  obtain ⟨hx, hb, hr, hml, hown, hts, hX, hbl, hK, hT, hN, hlocks⟩ := C0
  have hA : ∀ q : Nat, s.heap.size ≤ q → (fun q : Nat => s.heap.size ≤ q) q := fun _ h => h
  have hbA : ¬ (fun q : Nat => s.heap.size ≤ q) b := Nat.not_le.mpr hbl
  obtain ⟨R, r1, v1, hf1, hf2, hRel⟩ := hB
  have hR9 : ∀ k t, R = (.inl k, t) → k ∈ [5, 1, 4] := fun k t e9 => sg_Rel_in hRel e9
  refine lv_aload_n hx hb dL_law_2073 rfl (lv_at hl 1 rfl) ?_
  refine lv_aload_n hx hb dL_law_2074 rfl (lv_at hl 0 rfl) ?_
  refine lv_iload hx hb dL_law_2075 (lv_at hl 5 rfl) ?_
  refine lv_iconst (v := 1) hx hb dL_law_2077 (by decide) ?_
  refine lv_iadd hx hb dL_law_2078 ?_
  refine va_sld hx hb hX hbl hbA hS hv1 dL_law_2079 ?_
  refine lv_aload_n hx hb dL_law_2080 rfl (lv_at hl 0 rfl) ?_
  refine lv_iload hx hb dL_law_2081 (lv_at hl 5 rfl) ?_
  refine lv_iconst (v := 2) hx hb dL_law_2083 (by decide) ?_
  refine lv_iadd hx hb dL_law_2084 ?_
  refine va_sld hx hb hX hbl hbA hS hv2 dL_law_2085 ?_
  refine lv_aload_n hx hb dL_law_2086 rfl (lv_at hl 3 rfl) ?_
  refine sg_hw (vx_runSW (As := [.ref (ax 0), .int (xs (x5 + 1).toNatClampNeg), .int (xs (x5 + 2).toNatClampNeg), .ref qo]) (rest := []) ⟨hx, hb, hml, hown, hts⟩ (c_L_tripTime l hlt D cA ax qo o N u _ _ R hf1 hR9 _) (vx_cwSW (hh := [(0, 10, 13, 25), (0, 10, 17, 13), (0, 10, 21, 30)]) 4 hts gL_law_L_tripTime rfl rfl rfl (by decide +kernel) ⟨Nat.le_of_ble_eq_true rfl, Nat.le_of_ble_eq_true rfl⟩) (sg_preL (w0 := sg_WL cA ax qo u o) hK (hP.sub [0, 2, 3, 4, 5, 6, 7, 8, 9, 10, 11, 12, 13, 14, 15, 16, 17, 18] rfl) (hD.sub [0, 2, 3, 4, 5, 6, 7, 8, 9, 10, 11, 12, 13, 14, 15, 16, 17, 18] (by decide) rfl) hT hN hS hA) rfl rfl hl.1 rfl (lv_room (Nat.le_of_ble_eq_true rfl)) dL_law_2087 ⟨by show cells + 3 ≤ 649553; omega, by show slots + 18 ≤ 7063476; omega⟩) hP hD hS hA (fun r u1 o1 H locs hlp hP hD hS => ?_)
  obtain ⟨hth, hI1, hout⟩ := sg_agree (by decide) hRel hlp
  refine lv_istore (lv' := [(6, .int r), (0, .ref b), (1, .ref (ax 0)), (2, .ref (am 0)), (3, .ref qo), (4, .ref qe), (5, .int x5)]) hx hb dL_law_2090 hl (by decide) rfl (fun ls hl => ?_)
  refine lv_aload_n hx hb dL_law_2092 rfl (lv_at hl 3 rfl) ?_
  refine lv_aload_n hx hb dL_law_2093 rfl (lv_at hl 1 rfl) ?_
  refine lv_iload hx hb dL_law_2094 (lv_at hl 6 rfl) ?_
  refine lv_iconst (v := 1) hx hb dL_law_2096 (by decide) ?_
  refine lv_iadd hx hb dL_law_2097 ?_
  refine va_sld hx hb hX hbl hbA hS hv1 dL_law_2098 ?_
  refine lv_aload_n hx hb dL_law_2099 rfl (lv_at hl 1 rfl) ?_
  refine lv_iload hx hb dL_law_2100 (lv_at hl 6 rfl) ?_
  refine lv_iconst (v := 2) hx hb dL_law_2102 (by decide) ?_
  refine lv_iadd hx hb dL_law_2103 ?_
  refine va_sld hx hb hX hbl hbA hS hv2 dL_law_2104 ?_
  refine sg_mi (va_runV (As := [.int (xs (x5 + 1).toNatClampNeg), .int (xs (x5 + 2).toNatClampNeg)]) (rest := []) ⟨hx, hb, hml, hown, hts⟩ (c_X6_tripTime l D cA am N _ _ _ _ _ hf2 _) (cwV 2 hts gL_law_X6_tripTime rfl rfl rfl (by decide +kernel) ⟨Nat.le_of_ble_eq_true rfl, Nat.le_of_ble_eq_true rfl⟩) (sg_pre (Wf := sg_WM cA am) hK (hP.sub [19, 20, 21, 22, 23, 24, 25, 26, 27, 28, 29, 30, 31, 32, 33, 34, 35, 36, 37, 38] rfl) (hD.sub [19, 20, 21, 22, 23, 24, 25, 26, 27, 28, 29, 30, 31, 32, 33, 34, 35, 36, 37, 38] (by decide) rfl) (ci := 8) (q0 := 0) rfl rfl) rfl rfl hl.1 rfl (lv_room (Nat.le_of_ble_eq_true rfl)) dL_law_2105 ⟨by show cells + 3 + 0 ≤ 649553; omega, by show slots + 18 + 0 ≤ 7063476; omega⟩) hP hD hS hA (fun H locs hP hD hS => ?_)
  refine lv_istore (lv' := [(7, .int r1), (6, .int r), (0, .ref b), (1, .ref (ax 0)), (2, .ref (am 0)), (3, .ref qo), (4, .ref qe), (5, .int x5)]) hx hb dL_law_2108 hl (by decide) rfl (fun ls hl => ?_)
  refine lv_aload_n hx hb dL_law_2110 rfl (lv_at hl 4 rfl) ?_
  refine sg_mi (va_runV (As := []) (rest := []) ⟨hx, hb, hml, hown, hts⟩ (c_X6_thrown l D cA am N v1 (v1 0 0) rfl _) (cwV 0 hts gL_law_X6_thrown rfl rfl rfl (by decide +kernel) ⟨Nat.le_of_ble_eq_true rfl, Nat.le_of_ble_eq_true rfl⟩) (sg_pre (Wf := sg_WM cA am) hK (hP.sub [19, 20, 21, 22, 23, 24, 25, 26, 27, 28, 29, 30, 31, 32, 33, 34, 35, 36, 37, 38] rfl) (hD.sub [19, 20, 21, 22, 23, 24, 25, 26, 27, 28, 29, 30, 31, 32, 33, 34, 35, 36, 37, 38] (by decide) rfl) (ci := 8) (q0 := 0) rfl rfl) rfl rfl hl.1 rfl (lv_room (Nat.le_of_ble_eq_true rfl)) dL_law_2111 ⟨by show cells + 3 + 0 ≤ 649553; omega, by show slots + 18 + 0 ≤ 7063476; omega⟩) hP hD hS hA (fun H locs hP hD hS => ?_)
  refine lv_iload hx hb dL_law_2114 (lv_at hl 1 rfl) ?_
  refine lv_icmp_eq (tgt := 2121) hx hb dL_law_2116 (by decide) (fun _ => ?_) (fun hz3 => absurd hth hz3)
  refine lv_iload hx hb dL_law_2121 (lv_at hl 1 rfl) ?_
  refine lv_if_ne (tgt := 2138) hx hb dL_law_2123 (by decide) (fun hr0 => ?_) (fun hr0 => ?_)
  · refine lv_goto (tgt := 2656) hx hb dL_law_2138 (by decide) ?_
    refine W.widen (k := cells + 10) (n := slots + 60) (by omega) (by omega) ?_
    exact kk _ _ _ _ _ _ _ hI1 hP hD hS (lv_sub hl [2, 3, 4, 5, 6, 7] rfl)
  · obtain ⟨ho, hRr⟩ := hout hr0
    subst ho
    refine lv_aload_n hx hb dL_law_2126 rfl (lv_at hl 5 rfl) ?_
    refine lv_iconst (v := 0) hx hb dL_law_2127 (by decide) ?_
    refine va_lald hx hb hK.1 hP 0 2 rfl rfl (sg_inb_s (i := 0) (n := 1) (by decide)) dL_law_2128 ?_
    refine lv_iload hx hb dL_law_2129 (lv_at hl 0 rfl) ?_
    refine lv_i2l (v := r1.toInt64) hx hb dL_law_2131 rfl ?_
    refine W.lcmp hx hb dL_law_2132 ?_
    refine lv_if_eq (tgt := 2138) hx hb dL_law_2133 (by decide) (fun _ => ?_) (fun hz4 => absurd (by first | exact sg_cmp64 | exact sg_cmpB0 hb1 | exact sg_cmpB1 hb1) hz4)
    refine lv_goto (tgt := 2656) hx hb dL_law_2138 (by decide) ?_
    refine W.widen (k := cells + 10) (n := slots + 60) (by omega) (by omega) ?_
    exact kk _ _ _ _ _ _ _ hI1 hP hD hS (lv_sub hl [2, 3, 4, 5, 6, 7] rfl)
set_option maxRecDepth 100000 in
set_option maxHeartbeats 4000000 in
theorem lw_case33 {p : Program} {l : Launch} {e : Env} {s : State} {m : MethodId} {below : List Frame} {meth : Method} {c : Code} {b L : Nat} {xs : Nat → Int32} {D : va_G} {cA : Nat → ClassId} {ax am : Nat → Nat} {qo qe N : Nat} {I : sg_St → sg_St → Prop} {Q : State → Prop} {cells slots : Nat} {H : Heap} {locs : List Loc} {ls : Array Slot} {x5 : Int32} {u v : sg_St} {o : Nat → Int64} {od : Nat → UInt64} (hlt : l.stackTraces = false) (C0 : sg_LA p s m meth c b L xs D cA) (hB : ∃ (R : (Nat ⊕ Int32) × sg_St) (r1 : Int32) (v1 : sg_St), fX5_wouldTrip N u (xs (x5 + 1).toNatClampNeg) = some R ∧ fX6_wouldTrip N v (xs (x5 + 1).toNatClampNeg) = some (r1, v1) ∧ sg_Rel I [5] R r1 v1) (hv1 : vp_in (x5 + 1) L) (hP : va_P D vwCl (sg_WW cA ax am qo qe u v o od) H) (hD : va_D (fun q : Nat => s.heap.size ≤ q) (sg_WW cA ax am qo qe u v o od)) (hS : va_S (fun q : Nat => s.heap.size ≤ q) s.heap H locs) (hl : lv_has ls 9 [(0, .ref b), (1, .ref (ax 0)), (2, .ref (am 0)), (3, .ref qo), (4, .ref qe), (5, .int x5)]) (hcs : cells + 10 ≤ 649553 ∧ slots + 60 ≤ 7063476) (kk : ∀ (u' v' : sg_St) (o' : Nat → Int64) (od' : Nat → UInt64) (H : Heap) (locs : List Loc) (ls : Array Slot), I u' v' → va_P D vwCl (sg_WW cA ax am qo qe u' v' o' od') H → va_D (fun q : Nat => s.heap.size ≤ q) (sg_WW cA ax am qo qe u' v' o' od') → va_S (fun q : Nat => s.heap.size ≤ q) s.heap H locs → lv_has ls 9 [(0, .ref b), (1, .ref (ax 0)), (2, .ref (am 0)), (3, .ref qo), (4, .ref qe), (5, .int x5)] → W p l e room_1 s m #[Value.ref b] below meth c H locs (cells + 10) (slots + 60) Q (F0 m 2656 ls [])) : W p l e room_1 s m #[Value.ref b] below meth c H locs cells slots Q (F0 m 2141 ls []) := by
  obtain ⟨hx, hb, hr, hml, hown, hts, hX, hbl, hK, hT, hN, hlocks⟩ := C0
  have hA : ∀ q : Nat, s.heap.size ≤ q → (fun q : Nat => s.heap.size ≤ q) q := fun _ h => h
  have hbA : ¬ (fun q : Nat => s.heap.size ≤ q) b := Nat.not_le.mpr hbl
  obtain ⟨R, r1, v1, hf1, hf2, hRel⟩ := hB
  have hR9 : ∀ k t, R = (.inl k, t) → k ∈ [5] := fun k t e9 => sg_Rel_in hRel e9
  refine lv_aload_n hx hb dL_law_2141 rfl (lv_at hl 1 rfl) ?_
  refine lv_aload_n hx hb dL_law_2142 rfl (lv_at hl 0 rfl) ?_
  refine lv_iload hx hb dL_law_2143 (lv_at hl 5 rfl) ?_
  refine lv_iconst (v := 1) hx hb dL_law_2145 (by decide) ?_
  refine lv_iadd hx hb dL_law_2146 ?_
  refine va_sld hx hb hX hbl hbA hS hv1 dL_law_2147 ?_
  refine lv_aload_n hx hb dL_law_2148 rfl (lv_at hl 3 rfl) ?_
  refine sg_hw (vx_runSW (As := [.ref (ax 0), .int (xs (x5 + 1).toNatClampNeg), .ref qo]) (rest := []) ⟨hx, hb, hml, hown, hts⟩ (c_L_wouldTrip l hlt D cA ax qo o N u _ R hf1 hR9 _) (vx_cwSW (hh := [(0, 9, 12, 25)]) 3 hts gL_law_L_wouldTrip rfl rfl rfl (by decide +kernel) ⟨Nat.le_of_ble_eq_true rfl, Nat.le_of_ble_eq_true rfl⟩) (sg_preL (w0 := sg_WL cA ax qo u o) hK (hP.sub [0, 2, 3, 4, 5, 6, 7, 8, 9, 10, 11, 12, 13, 14, 15, 16, 17, 18] rfl) (hD.sub [0, 2, 3, 4, 5, 6, 7, 8, 9, 10, 11, 12, 13, 14, 15, 16, 17, 18] (by decide) rfl) hT hN hS hA) rfl rfl hl.1 rfl (lv_room (Nat.le_of_ble_eq_true rfl)) dL_law_2149 ⟨by show cells + 1 ≤ 649553; omega, by show slots + 6 ≤ 7063476; omega⟩) hP hD hS hA (fun r u1 o1 H locs hlp hP hD hS => ?_)
  obtain ⟨hth, hI1, hout⟩ := sg_agree (by decide) hRel hlp
  refine lv_istore (lv' := [(6, .int r), (0, .ref b), (1, .ref (ax 0)), (2, .ref (am 0)), (3, .ref qo), (4, .ref qe), (5, .int x5)]) hx hb dL_law_2152 hl (by decide) rfl (fun ls hl => ?_)
  refine lv_aload_n hx hb dL_law_2154 rfl (lv_at hl 3 rfl) ?_
  refine lv_aload_n hx hb dL_law_2155 rfl (lv_at hl 1 rfl) ?_
  refine lv_iload hx hb dL_law_2156 (lv_at hl 6 rfl) ?_
  refine lv_iconst (v := 1) hx hb dL_law_2158 (by decide) ?_
  refine lv_iadd hx hb dL_law_2159 ?_
  refine va_sld hx hb hX hbl hbA hS hv1 dL_law_2160 ?_
  refine sg_mi (va_runV (As := [.int (xs (x5 + 1).toNatClampNeg)]) (rest := []) ⟨hx, hb, hml, hown, hts⟩ (c_X6_wouldTrip l D cA am N _ _ _ _ hf2 _) (cwV 1 hts gL_law_X6_wouldTrip rfl rfl rfl (by decide +kernel) ⟨Nat.le_of_ble_eq_true rfl, Nat.le_of_ble_eq_true rfl⟩) (sg_pre (Wf := sg_WM cA am) hK (hP.sub [19, 20, 21, 22, 23, 24, 25, 26, 27, 28, 29, 30, 31, 32, 33, 34, 35, 36, 37, 38] rfl) (hD.sub [19, 20, 21, 22, 23, 24, 25, 26, 27, 28, 29, 30, 31, 32, 33, 34, 35, 36, 37, 38] (by decide) rfl) (ci := 8) (q0 := 0) rfl rfl) rfl rfl hl.1 rfl (lv_room (Nat.le_of_ble_eq_true rfl)) dL_law_2161 ⟨by show cells + 1 + 0 ≤ 649553; omega, by show slots + 6 + 0 ≤ 7063476; omega⟩) hP hD hS hA (fun H locs hP hD hS => ?_)
  refine lv_istore (lv' := [(7, .int r1), (6, .int r), (0, .ref b), (1, .ref (ax 0)), (2, .ref (am 0)), (3, .ref qo), (4, .ref qe), (5, .int x5)]) hx hb dL_law_2164 hl (by decide) rfl (fun ls hl => ?_)
  refine lv_aload_n hx hb dL_law_2166 rfl (lv_at hl 4 rfl) ?_
  refine sg_mi (va_runV (As := []) (rest := []) ⟨hx, hb, hml, hown, hts⟩ (c_X6_thrown l D cA am N v1 (v1 0 0) rfl _) (cwV 0 hts gL_law_X6_thrown rfl rfl rfl (by decide +kernel) ⟨Nat.le_of_ble_eq_true rfl, Nat.le_of_ble_eq_true rfl⟩) (sg_pre (Wf := sg_WM cA am) hK (hP.sub [19, 20, 21, 22, 23, 24, 25, 26, 27, 28, 29, 30, 31, 32, 33, 34, 35, 36, 37, 38] rfl) (hD.sub [19, 20, 21, 22, 23, 24, 25, 26, 27, 28, 29, 30, 31, 32, 33, 34, 35, 36, 37, 38] (by decide) rfl) (ci := 8) (q0 := 0) rfl rfl) rfl rfl hl.1 rfl (lv_room (Nat.le_of_ble_eq_true rfl)) dL_law_2167 ⟨by show cells + 1 + 0 ≤ 649553; omega, by show slots + 6 + 0 ≤ 7063476; omega⟩) hP hD hS hA (fun H locs hP hD hS => ?_)
  refine lv_iload hx hb dL_law_2170 (lv_at hl 1 rfl) ?_
  refine lv_icmp_eq (tgt := 2177) hx hb dL_law_2172 (by decide) (fun _ => ?_) (fun hz3 => absurd hth hz3)
  refine lv_iload hx hb dL_law_2177 (lv_at hl 1 rfl) ?_
  refine lv_if_ne (tgt := 2194) hx hb dL_law_2179 (by decide) (fun hr0 => ?_) (fun hr0 => ?_)
  · refine lv_goto (tgt := 2656) hx hb dL_law_2194 (by decide) ?_
    refine W.widen (k := cells + 10) (n := slots + 60) (by omega) (by omega) ?_
    exact kk _ _ _ _ _ _ _ hI1 hP hD hS (lv_sub hl [2, 3, 4, 5, 6, 7] rfl)
  · obtain ⟨ho, hRr⟩ := hout hr0
    subst ho
    refine lv_aload_n hx hb dL_law_2182 rfl (lv_at hl 5 rfl) ?_
    refine lv_iconst (v := 0) hx hb dL_law_2183 (by decide) ?_
    refine va_lald hx hb hK.1 hP 0 2 rfl rfl (sg_inb_s (i := 0) (n := 1) (by decide)) dL_law_2184 ?_
    refine lv_iload hx hb dL_law_2185 (lv_at hl 0 rfl) ?_
    refine lv_i2l (v := r1.toInt64) hx hb dL_law_2187 rfl ?_
    refine W.lcmp hx hb dL_law_2188 ?_
    refine lv_if_eq (tgt := 2194) hx hb dL_law_2189 (by decide) (fun _ => ?_) (fun hz4 => absurd (by first | exact sg_cmp64 | exact sg_cmpB0 hb1 | exact sg_cmpB1 hb1) hz4)
    refine lv_goto (tgt := 2656) hx hb dL_law_2194 (by decide) ?_
    refine W.widen (k := cells + 10) (n := slots + 60) (by omega) (by omega) ?_
    exact kk _ _ _ _ _ _ _ hI1 hP hD hS (lv_sub hl [2, 3, 4, 5, 6, 7] rfl)
set_option maxRecDepth 100000 in
set_option maxHeartbeats 4000000 in
theorem lw_case34 {p : Program} {l : Launch} {e : Env} {s : State} {m : MethodId} {below : List Frame} {meth : Method} {c : Code} {b L : Nat} {xs : Nat → Int32} {D : va_G} {cA : Nat → ClassId} {ax am : Nat → Nat} {qo qe N : Nat} {I : sg_St → sg_St → Prop} {Q : State → Prop} {cells slots : Nat} {H : Heap} {locs : List Loc} {ls : Array Slot} {x5 : Int32} {u v : sg_St} {o : Nat → Int64} {od : Nat → UInt64} (hlt : l.stackTraces = false) (C0 : sg_LA p s m meth c b L xs D cA) (hB : ∃ (R : (Nat ⊕ Int32) × sg_St) (r1 : Int32) (v1 : sg_St), fX5_isSelective N u (xs (x5 + 1).toNatClampNeg) = some R ∧ fX6_isSelective N v (xs (x5 + 1).toNatClampNeg) = some (r1, v1) ∧ sg_Rel I [5] R r1 v1) (hv1 : vp_in (x5 + 1) L) (hP : va_P D vwCl (sg_WW cA ax am qo qe u v o od) H) (hD : va_D (fun q : Nat => s.heap.size ≤ q) (sg_WW cA ax am qo qe u v o od)) (hS : va_S (fun q : Nat => s.heap.size ≤ q) s.heap H locs) (hl : lv_has ls 9 [(0, .ref b), (1, .ref (ax 0)), (2, .ref (am 0)), (3, .ref qo), (4, .ref qe), (5, .int x5)]) (hcs : cells + 10 ≤ 649553 ∧ slots + 60 ≤ 7063476) (kk : ∀ (u' v' : sg_St) (o' : Nat → Int64) (od' : Nat → UInt64) (H : Heap) (locs : List Loc) (ls : Array Slot), I u' v' → va_P D vwCl (sg_WW cA ax am qo qe u' v' o' od') H → va_D (fun q : Nat => s.heap.size ≤ q) (sg_WW cA ax am qo qe u' v' o' od') → va_S (fun q : Nat => s.heap.size ≤ q) s.heap H locs → lv_has ls 9 [(0, .ref b), (1, .ref (ax 0)), (2, .ref (am 0)), (3, .ref qo), (4, .ref qe), (5, .int x5)] → W p l e room_1 s m #[Value.ref b] below meth c H locs (cells + 10) (slots + 60) Q (F0 m 2656 ls [])) : W p l e room_1 s m #[Value.ref b] below meth c H locs cells slots Q (F0 m 2197 ls []) := by
  obtain ⟨hx, hb, hr, hml, hown, hts, hX, hbl, hK, hT, hN, hlocks⟩ := C0
  have hA : ∀ q : Nat, s.heap.size ≤ q → (fun q : Nat => s.heap.size ≤ q) q := fun _ h => h
  have hbA : ¬ (fun q : Nat => s.heap.size ≤ q) b := Nat.not_le.mpr hbl
  obtain ⟨R, r1, v1, hf1, hf2, hRel⟩ := hB
  have hR9 : ∀ k t, R = (.inl k, t) → k ∈ [5] := fun k t e9 => sg_Rel_in hRel e9
  refine lv_aload_n hx hb dL_law_2197 rfl (lv_at hl 1 rfl) ?_
  refine lv_aload_n hx hb dL_law_2198 rfl (lv_at hl 0 rfl) ?_
  refine lv_iload hx hb dL_law_2199 (lv_at hl 5 rfl) ?_
  refine lv_iconst (v := 1) hx hb dL_law_2201 (by decide) ?_
  refine lv_iadd hx hb dL_law_2202 ?_
  refine va_sld hx hb hX hbl hbA hS hv1 dL_law_2203 ?_
  refine lv_aload_n hx hb dL_law_2204 rfl (lv_at hl 3 rfl) ?_
  refine sg_hw (vx_runSW (As := [.ref (ax 0), .int (xs (x5 + 1).toNatClampNeg), .ref qo]) (rest := []) ⟨hx, hb, hml, hown, hts⟩ (c_L_isSelective l hlt D cA ax qo o N u _ R hf1 hR9 _) (vx_cwSW (hh := [(0, 16, 19, 25)]) 3 hts gL_law_L_isSelective rfl rfl rfl (by decide +kernel) ⟨Nat.le_of_ble_eq_true rfl, Nat.le_of_ble_eq_true rfl⟩) (sg_preL (w0 := sg_WL cA ax qo u o) hK (hP.sub [0, 2, 3, 4, 5, 6, 7, 8, 9, 10, 11, 12, 13, 14, 15, 16, 17, 18] rfl) (hD.sub [0, 2, 3, 4, 5, 6, 7, 8, 9, 10, 11, 12, 13, 14, 15, 16, 17, 18] (by decide) rfl) hT hN hS hA) rfl rfl hl.1 rfl (lv_room (Nat.le_of_ble_eq_true rfl)) dL_law_2205 ⟨by show cells + 1 ≤ 649553; omega, by show slots + 6 ≤ 7063476; omega⟩) hP hD hS hA (fun r u1 o1 H locs hlp hP hD hS => ?_)
  obtain ⟨hth, hI1, hout⟩ := sg_agree (by decide) hRel hlp
  refine lv_istore (lv' := [(6, .int r), (0, .ref b), (1, .ref (ax 0)), (2, .ref (am 0)), (3, .ref qo), (4, .ref qe), (5, .int x5)]) hx hb dL_law_2208 hl (by decide) rfl (fun ls hl => ?_)
  refine lv_aload_n hx hb dL_law_2210 rfl (lv_at hl 3 rfl) ?_
  refine lv_aload_n hx hb dL_law_2211 rfl (lv_at hl 1 rfl) ?_
  refine lv_iload hx hb dL_law_2212 (lv_at hl 6 rfl) ?_
  refine lv_iconst (v := 1) hx hb dL_law_2214 (by decide) ?_
  refine lv_iadd hx hb dL_law_2215 ?_
  refine va_sld hx hb hX hbl hbA hS hv1 dL_law_2216 ?_
  refine sg_mi (va_runV (As := [.int (xs (x5 + 1).toNatClampNeg)]) (rest := []) ⟨hx, hb, hml, hown, hts⟩ (c_X6_isSelective l D cA am N _ _ _ _ hf2 _) (cwV 1 hts gL_law_X6_isSelective rfl rfl rfl (by decide +kernel) ⟨Nat.le_of_ble_eq_true rfl, Nat.le_of_ble_eq_true rfl⟩) (sg_pre (Wf := sg_WM cA am) hK (hP.sub [19, 20, 21, 22, 23, 24, 25, 26, 27, 28, 29, 30, 31, 32, 33, 34, 35, 36, 37, 38] rfl) (hD.sub [19, 20, 21, 22, 23, 24, 25, 26, 27, 28, 29, 30, 31, 32, 33, 34, 35, 36, 37, 38] (by decide) rfl) (ci := 8) (q0 := 0) rfl rfl) rfl rfl hl.1 rfl (lv_room (Nat.le_of_ble_eq_true rfl)) dL_law_2217 ⟨by show cells + 1 + 0 ≤ 649553; omega, by show slots + 6 + 0 ≤ 7063476; omega⟩) hP hD hS hA (fun H locs hP hD hS => ?_)
  refine lv_istore (lv' := [(7, .int r1), (6, .int r), (0, .ref b), (1, .ref (ax 0)), (2, .ref (am 0)), (3, .ref qo), (4, .ref qe), (5, .int x5)]) hx hb dL_law_2220 hl (by decide) rfl (fun ls hl => ?_)
  refine lv_aload_n hx hb dL_law_2222 rfl (lv_at hl 4 rfl) ?_
  refine sg_mi (va_runV (As := []) (rest := []) ⟨hx, hb, hml, hown, hts⟩ (c_X6_thrown l D cA am N v1 (v1 0 0) rfl _) (cwV 0 hts gL_law_X6_thrown rfl rfl rfl (by decide +kernel) ⟨Nat.le_of_ble_eq_true rfl, Nat.le_of_ble_eq_true rfl⟩) (sg_pre (Wf := sg_WM cA am) hK (hP.sub [19, 20, 21, 22, 23, 24, 25, 26, 27, 28, 29, 30, 31, 32, 33, 34, 35, 36, 37, 38] rfl) (hD.sub [19, 20, 21, 22, 23, 24, 25, 26, 27, 28, 29, 30, 31, 32, 33, 34, 35, 36, 37, 38] (by decide) rfl) (ci := 8) (q0 := 0) rfl rfl) rfl rfl hl.1 rfl (lv_room (Nat.le_of_ble_eq_true rfl)) dL_law_2223 ⟨by show cells + 1 + 0 ≤ 649553; omega, by show slots + 6 + 0 ≤ 7063476; omega⟩) hP hD hS hA (fun H locs hP hD hS => ?_)
  refine lv_iload hx hb dL_law_2226 (lv_at hl 1 rfl) ?_
  refine lv_icmp_eq (tgt := 2233) hx hb dL_law_2228 (by decide) (fun _ => ?_) (fun hz3 => absurd hth hz3)
  refine lv_iload hx hb dL_law_2233 (lv_at hl 1 rfl) ?_
  refine lv_if_ne (tgt := 2257) hx hb dL_law_2235 (by decide) (fun hr0 => ?_) (fun hr0 => ?_)
  · refine lv_goto (tgt := 2656) hx hb dL_law_2257 (by decide) ?_
    refine W.widen (k := cells + 10) (n := slots + 60) (by omega) (by omega) ?_
    exact kk _ _ _ _ _ _ _ hI1 hP hD hS (lv_sub hl [2, 3, 4, 5, 6, 7] rfl)
  · obtain ⟨ho, hRr⟩ := hout hr0
    subst ho
    refine lv_aload_n hx hb dL_law_2238 rfl (lv_at hl 5 rfl) ?_
    refine lv_iconst (v := 0) hx hb dL_law_2239 (by decide) ?_
    refine va_lald hx hb hK.1 hP 0 2 rfl rfl (sg_inb_s (i := 0) (n := 1) (by decide)) dL_law_2240 ?_
    refine lv_iload hx hb dL_law_2241 (lv_at hl 0 rfl) ?_
    refine lv_if_eq (tgt := 2250) hx hb dL_law_2243 (by decide) (fun hb1 => ?_) (fun hb1 => ?_)
    · refine lv_lconst (v := 0) hx hb dL_law_2250 (by decide) ?_
      refine W.lcmp hx hb dL_law_2251 ?_
      refine lv_if_eq (tgt := 2257) hx hb dL_law_2252 (by decide) (fun _ => ?_) (fun hz4 => absurd (by first | exact sg_cmp64 | exact sg_cmpB0 hb1 | exact sg_cmpB1 hb1) hz4)
      refine lv_goto (tgt := 2656) hx hb dL_law_2257 (by decide) ?_
      refine W.widen (k := cells + 10) (n := slots + 60) (by omega) (by omega) ?_
      exact kk _ _ _ _ _ _ _ hI1 hP hD hS (lv_sub hl [2, 3, 4, 5, 6, 7] rfl)
    · refine lv_lconst (v := 1) hx hb dL_law_2246 (by decide) ?_
      refine lv_goto (tgt := 2251) hx hb dL_law_2247 (by decide) ?_
      refine W.lcmp hx hb dL_law_2251 ?_
      refine lv_if_eq (tgt := 2257) hx hb dL_law_2252 (by decide) (fun _ => ?_) (fun hz4 => absurd (by first | exact sg_cmp64 | exact sg_cmpB0 hb1 | exact sg_cmpB1 hb1) hz4)
      refine lv_goto (tgt := 2656) hx hb dL_law_2257 (by decide) ?_
      refine W.widen (k := cells + 10) (n := slots + 60) (by omega) (by omega) ?_
      exact kk _ _ _ _ _ _ _ hI1 hP hD hS (lv_sub hl [2, 3, 4, 5, 6, 7] rfl)
set_option maxRecDepth 100000 in
set_option maxHeartbeats 4000000 in
theorem lw_case35 {p : Program} {l : Launch} {e : Env} {s : State} {m : MethodId} {below : List Frame} {meth : Method} {c : Code} {b L : Nat} {xs : Nat → Int32} {D : va_G} {cA : Nat → ClassId} {ax am : Nat → Nat} {qo qe N : Nat} {I : sg_St → sg_St → Prop} {Q : State → Prop} {cells slots : Nat} {H : Heap} {locs : List Loc} {ls : Array Slot} {x5 : Int32} {u v : sg_St} {o : Nat → Int64} {od : Nat → UInt64} (hlt : l.stackTraces = false) (C0 : sg_LA p s m meth c b L xs D cA) (hB : ∃ (R : (Nat ⊕ Int32) × sg_St) (r1 : Int32) (v1 : sg_St), fX5_margin N u (xs (x5 + 1).toNatClampNeg) = some R ∧ fX6_margin N v (xs (x5 + 1).toNatClampNeg) = some (r1, v1) ∧ sg_Rel I [5, 0, 4] R r1 v1) (hv1 : vp_in (x5 + 1) L) (hP : va_P D vwCl (sg_WW cA ax am qo qe u v o od) H) (hD : va_D (fun q : Nat => s.heap.size ≤ q) (sg_WW cA ax am qo qe u v o od)) (hS : va_S (fun q : Nat => s.heap.size ≤ q) s.heap H locs) (hl : lv_has ls 9 [(0, .ref b), (1, .ref (ax 0)), (2, .ref (am 0)), (3, .ref qo), (4, .ref qe), (5, .int x5)]) (hcs : cells + 10 ≤ 649553 ∧ slots + 60 ≤ 7063476) (kk : ∀ (u' v' : sg_St) (o' : Nat → Int64) (od' : Nat → UInt64) (H : Heap) (locs : List Loc) (ls : Array Slot), I u' v' → va_P D vwCl (sg_WW cA ax am qo qe u' v' o' od') H → va_D (fun q : Nat => s.heap.size ≤ q) (sg_WW cA ax am qo qe u' v' o' od') → va_S (fun q : Nat => s.heap.size ≤ q) s.heap H locs → lv_has ls 9 [(0, .ref b), (1, .ref (ax 0)), (2, .ref (am 0)), (3, .ref qo), (4, .ref qe), (5, .int x5)] → W p l e room_1 s m #[Value.ref b] below meth c H locs (cells + 10) (slots + 60) Q (F0 m 2656 ls [])) : W p l e room_1 s m #[Value.ref b] below meth c H locs cells slots Q (F0 m 2260 ls []) := by
  obtain ⟨hx, hb, hr, hml, hown, hts, hX, hbl, hK, hT, hN, hlocks⟩ := C0
  have hA : ∀ q : Nat, s.heap.size ≤ q → (fun q : Nat => s.heap.size ≤ q) q := fun _ h => h
  have hbA : ¬ (fun q : Nat => s.heap.size ≤ q) b := Nat.not_le.mpr hbl
  obtain ⟨R, r1, v1, hf1, hf2, hRel⟩ := hB
  have hR9 : ∀ k t, R = (.inl k, t) → k ∈ [5, 0, 4] := fun k t e9 => sg_Rel_in hRel e9
  refine lv_aload_n hx hb dL_law_2260 rfl (lv_at hl 1 rfl) ?_
  refine lv_aload_n hx hb dL_law_2261 rfl (lv_at hl 0 rfl) ?_
  refine lv_iload hx hb dL_law_2262 (lv_at hl 5 rfl) ?_
  refine lv_iconst (v := 1) hx hb dL_law_2264 (by decide) ?_
  refine lv_iadd hx hb dL_law_2265 ?_
  refine va_sld hx hb hX hbl hbA hS hv1 dL_law_2266 ?_
  refine lv_aload_n hx hb dL_law_2267 rfl (lv_at hl 3 rfl) ?_
  refine sg_hw (vx_runSW (As := [.ref (ax 0), .int (xs (x5 + 1).toNatClampNeg), .ref qo]) (rest := []) ⟨hx, hb, hml, hown, hts⟩ (c_L_margin l hlt D cA ax qo o N u _ R hf1 hR9 _) (vx_cwSW (hh := [(0, 9, 12, 25), (0, 9, 15, 15), (0, 9, 18, 30)]) 3 hts gL_law_L_margin rfl rfl rfl (by decide +kernel) ⟨Nat.le_of_ble_eq_true rfl, Nat.le_of_ble_eq_true rfl⟩) (sg_preL (w0 := sg_WL cA ax qo u o) hK (hP.sub [0, 2, 3, 4, 5, 6, 7, 8, 9, 10, 11, 12, 13, 14, 15, 16, 17, 18] rfl) (hD.sub [0, 2, 3, 4, 5, 6, 7, 8, 9, 10, 11, 12, 13, 14, 15, 16, 17, 18] (by decide) rfl) hT hN hS hA) rfl rfl hl.1 rfl (lv_room (Nat.le_of_ble_eq_true rfl)) dL_law_2268 ⟨by show cells + 2 ≤ 649553; omega, by show slots + 12 ≤ 7063476; omega⟩) hP hD hS hA (fun r u1 o1 H locs hlp hP hD hS => ?_)
  obtain ⟨hth, hI1, hout⟩ := sg_agree (by decide) hRel hlp
  refine lv_istore (lv' := [(6, .int r), (0, .ref b), (1, .ref (ax 0)), (2, .ref (am 0)), (3, .ref qo), (4, .ref qe), (5, .int x5)]) hx hb dL_law_2271 hl (by decide) rfl (fun ls hl => ?_)
  refine lv_aload_n hx hb dL_law_2273 rfl (lv_at hl 3 rfl) ?_
  refine lv_aload_n hx hb dL_law_2274 rfl (lv_at hl 1 rfl) ?_
  refine lv_iload hx hb dL_law_2275 (lv_at hl 6 rfl) ?_
  refine lv_iconst (v := 1) hx hb dL_law_2277 (by decide) ?_
  refine lv_iadd hx hb dL_law_2278 ?_
  refine va_sld hx hb hX hbl hbA hS hv1 dL_law_2279 ?_
  refine sg_mi (va_runV (As := [.int (xs (x5 + 1).toNatClampNeg)]) (rest := []) ⟨hx, hb, hml, hown, hts⟩ (c_X6_margin l D cA am N _ _ _ _ hf2 _) (cwV 1 hts gL_law_X6_margin rfl rfl rfl (by decide +kernel) ⟨Nat.le_of_ble_eq_true rfl, Nat.le_of_ble_eq_true rfl⟩) (sg_pre (Wf := sg_WM cA am) hK (hP.sub [19, 20, 21, 22, 23, 24, 25, 26, 27, 28, 29, 30, 31, 32, 33, 34, 35, 36, 37, 38] rfl) (hD.sub [19, 20, 21, 22, 23, 24, 25, 26, 27, 28, 29, 30, 31, 32, 33, 34, 35, 36, 37, 38] (by decide) rfl) (ci := 8) (q0 := 0) rfl rfl) rfl rfl hl.1 rfl (lv_room (Nat.le_of_ble_eq_true rfl)) dL_law_2280 ⟨by show cells + 2 + 0 ≤ 649553; omega, by show slots + 12 + 0 ≤ 7063476; omega⟩) hP hD hS hA (fun H locs hP hD hS => ?_)
  refine lv_istore (lv' := [(7, .int r1), (6, .int r), (0, .ref b), (1, .ref (ax 0)), (2, .ref (am 0)), (3, .ref qo), (4, .ref qe), (5, .int x5)]) hx hb dL_law_2283 hl (by decide) rfl (fun ls hl => ?_)
  refine lv_aload_n hx hb dL_law_2285 rfl (lv_at hl 4 rfl) ?_
  refine sg_mi (va_runV (As := []) (rest := []) ⟨hx, hb, hml, hown, hts⟩ (c_X6_thrown l D cA am N v1 (v1 0 0) rfl _) (cwV 0 hts gL_law_X6_thrown rfl rfl rfl (by decide +kernel) ⟨Nat.le_of_ble_eq_true rfl, Nat.le_of_ble_eq_true rfl⟩) (sg_pre (Wf := sg_WM cA am) hK (hP.sub [19, 20, 21, 22, 23, 24, 25, 26, 27, 28, 29, 30, 31, 32, 33, 34, 35, 36, 37, 38] rfl) (hD.sub [19, 20, 21, 22, 23, 24, 25, 26, 27, 28, 29, 30, 31, 32, 33, 34, 35, 36, 37, 38] (by decide) rfl) (ci := 8) (q0 := 0) rfl rfl) rfl rfl hl.1 rfl (lv_room (Nat.le_of_ble_eq_true rfl)) dL_law_2286 ⟨by show cells + 2 + 0 ≤ 649553; omega, by show slots + 12 + 0 ≤ 7063476; omega⟩) hP hD hS hA (fun H locs hP hD hS => ?_)
  refine lv_iload hx hb dL_law_2289 (lv_at hl 1 rfl) ?_
  refine lv_icmp_eq (tgt := 2296) hx hb dL_law_2291 (by decide) (fun _ => ?_) (fun hz3 => absurd hth hz3)
  refine lv_iload hx hb dL_law_2296 (lv_at hl 1 rfl) ?_
  refine lv_if_ne (tgt := 2313) hx hb dL_law_2298 (by decide) (fun hr0 => ?_) (fun hr0 => ?_)
  · refine lv_goto (tgt := 2656) hx hb dL_law_2313 (by decide) ?_
    refine W.widen (k := cells + 10) (n := slots + 60) (by omega) (by omega) ?_
    exact kk _ _ _ _ _ _ _ hI1 hP hD hS (lv_sub hl [2, 3, 4, 5, 6, 7] rfl)
  · obtain ⟨ho, hRr⟩ := hout hr0
    subst ho
    refine lv_aload_n hx hb dL_law_2301 rfl (lv_at hl 5 rfl) ?_
    refine lv_iconst (v := 0) hx hb dL_law_2302 (by decide) ?_
    refine va_lald hx hb hK.1 hP 0 2 rfl rfl (sg_inb_s (i := 0) (n := 1) (by decide)) dL_law_2303 ?_
    refine lv_iload hx hb dL_law_2304 (lv_at hl 0 rfl) ?_
    refine lv_i2l (v := r1.toInt64) hx hb dL_law_2306 rfl ?_
    refine W.lcmp hx hb dL_law_2307 ?_
    refine lv_if_eq (tgt := 2313) hx hb dL_law_2308 (by decide) (fun _ => ?_) (fun hz4 => absurd (by first | exact sg_cmp64 | exact sg_cmpB0 hb1 | exact sg_cmpB1 hb1) hz4)
    refine lv_goto (tgt := 2656) hx hb dL_law_2313 (by decide) ?_
    refine W.widen (k := cells + 10) (n := slots + 60) (by omega) (by omega) ?_
    exact kk _ _ _ _ _ _ _ hI1 hP hD hS (lv_sub hl [2, 3, 4, 5, 6, 7] rfl)
set_option maxRecDepth 100000 in
set_option maxHeartbeats 4000000 in
theorem lw_case36 {p : Program} {l : Launch} {e : Env} {s : State} {m : MethodId} {below : List Frame} {meth : Method} {c : Code} {b L : Nat} {xs : Nat → Int32} {D : va_G} {cA : Nat → ClassId} {ax am : Nat → Nat} {qo qe N : Nat} {I : sg_St → sg_St → Prop} {Q : State → Prop} {cells slots : Nat} {H : Heap} {locs : List Loc} {ls : Array Slot} {x5 : Int32} {u v : sg_St} {o : Nat → Int64} {od : Nat → UInt64} (hlt : l.stackTraces = false) (C0 : sg_LA p s m meth c b L xs D cA) (hB : ∃ (r1 : Int32) (u1 v1 : sg_St), fX5_trips N u = some r1 ∧ fX6_trips N v = some (r1, v1) ∧ I u1 v1 ∧ u1 = u) (hP : va_P D vwCl (sg_WW cA ax am qo qe u v o od) H) (hD : va_D (fun q : Nat => s.heap.size ≤ q) (sg_WW cA ax am qo qe u v o od)) (hS : va_S (fun q : Nat => s.heap.size ≤ q) s.heap H locs) (hl : lv_has ls 9 [(0, .ref b), (1, .ref (ax 0)), (2, .ref (am 0)), (3, .ref qo), (4, .ref qe), (5, .int x5)]) (hcs : cells + 10 ≤ 649553 ∧ slots + 60 ≤ 7063476) (kk : ∀ (u' v' : sg_St) (o' : Nat → Int64) (od' : Nat → UInt64) (H : Heap) (locs : List Loc) (ls : Array Slot), I u' v' → va_P D vwCl (sg_WW cA ax am qo qe u' v' o' od') H → va_D (fun q : Nat => s.heap.size ≤ q) (sg_WW cA ax am qo qe u' v' o' od') → va_S (fun q : Nat => s.heap.size ≤ q) s.heap H locs → lv_has ls 9 [(0, .ref b), (1, .ref (ax 0)), (2, .ref (am 0)), (3, .ref qo), (4, .ref qe), (5, .int x5)] → W p l e room_1 s m #[Value.ref b] below meth c H locs (cells + 10) (slots + 60) Q (F0 m 2656 ls [])) : W p l e room_1 s m #[Value.ref b] below meth c H locs cells slots Q (F0 m 2316 ls []) := by
  obtain ⟨hx, hb, hr, hml, hown, hts, hX, hbl, hK, hT, hN, hlocks⟩ := C0
  have hA : ∀ q : Nat, s.heap.size ≤ q → (fun q : Nat => s.heap.size ≤ q) q := fun _ h => h
  have hbA : ¬ (fun q : Nat => s.heap.size ≤ q) b := Nat.not_le.mpr hbl
  obtain ⟨r1, u1, v1, hf1, hf2, hI1, rfl⟩ := hB
  refine lv_aload_n hx hb dL_law_2316 rfl (lv_at hl 1 rfl) ?_
  refine sg_xx (va_runV (As := []) (rest := []) ⟨hx, hb, hml, hown, hts⟩ (c_X5_trips l D cA ax N _ _ hf1 _) (cwV 0 hts gL_law_X5_trips rfl rfl rfl (by decide +kernel) ⟨Nat.le_of_ble_eq_true rfl, Nat.le_of_ble_eq_true rfl⟩) (sg_pre (Wf := sg_WX cA ax) hK (hP.sub [2, 3, 4, 5, 6, 7, 8, 9, 10, 11, 12, 13, 14, 15, 16, 17, 18] rfl) (hD.sub [2, 3, 4, 5, 6, 7, 8, 9, 10, 11, 12, 13, 14, 15, 16, 17, 18] (by decide) rfl) (ci := 7) (q0 := 0) rfl rfl) rfl rfl hl.1 rfl (lv_room (Nat.le_of_ble_eq_true rfl)) dL_law_2317 ⟨by show cells + 0 ≤ 649553; omega, by show slots + 0 ≤ 7063476; omega⟩) hP hD hS hA (fun H locs hP hD hS => ?_)
  refine lv_aload_n hx hb dL_law_2320 rfl (lv_at hl 2 rfl) ?_
  refine sg_mi (va_runV (As := []) (rest := [.int r1]) ⟨hx, hb, hml, hown, hts⟩ (c_X6_trips l D cA am N _ _ _ hf2 _) (cwV 0 hts gL_law_X6_trips rfl rfl rfl (by decide +kernel) ⟨Nat.le_of_ble_eq_true rfl, Nat.le_of_ble_eq_true rfl⟩) (sg_pre (Wf := sg_WM cA am) hK (hP.sub [19, 20, 21, 22, 23, 24, 25, 26, 27, 28, 29, 30, 31, 32, 33, 34, 35, 36, 37, 38] rfl) (hD.sub [19, 20, 21, 22, 23, 24, 25, 26, 27, 28, 29, 30, 31, 32, 33, 34, 35, 36, 37, 38] (by decide) rfl) (ci := 8) (q0 := 0) rfl rfl) rfl rfl hl.1 rfl (lv_room (Nat.le_of_ble_eq_true rfl)) dL_law_2321 ⟨by show cells + 0 ≤ 649553; omega, by show slots + 0 ≤ 7063476; omega⟩) hP hD hS hA (fun H locs hP hD hS => ?_)
  refine lv_icmp_eq (tgt := 2656) hx hb dL_law_2324 (by decide) (fun _ => ?_) (fun hz3 => absurd rfl hz3)
  refine W.widen (k := cells + 10) (n := slots + 60) (by omega) (by omega) ?_
  exact kk _ _ _ _ _ _ _ hI1 hP hD hS (lv_sub hl [0, 1, 2, 3, 4, 5] rfl)
set_option maxRecDepth 100000 in
set_option maxHeartbeats 4000000 in
theorem lw_case37 {p : Program} {l : Launch} {e : Env} {s : State} {m : MethodId} {below : List Frame} {meth : Method} {c : Code} {b L : Nat} {xs : Nat → Int32} {D : va_G} {cA : Nat → ClassId} {ax am : Nat → Nat} {qo qe N : Nat} {I : sg_St → sg_St → Prop} {Q : State → Prop} {cells slots : Nat} {H : Heap} {locs : List Loc} {ls : Array Slot} {x5 : Int32} {u v : sg_St} {o : Nat → Int64} {od : Nat → UInt64} (hlt : l.stackTraces = false) (C0 : sg_LA p s m meth c b L xs D cA) (hB : ∃ (r1 : Int32) (u1 v1 : sg_St), fX5_darkLoad N u = some r1 ∧ fX6_darkLoad N v = some (r1, v1) ∧ I u1 v1 ∧ u1 = u) (hP : va_P D vwCl (sg_WW cA ax am qo qe u v o od) H) (hD : va_D (fun q : Nat => s.heap.size ≤ q) (sg_WW cA ax am qo qe u v o od)) (hS : va_S (fun q : Nat => s.heap.size ≤ q) s.heap H locs) (hl : lv_has ls 9 [(0, .ref b), (1, .ref (ax 0)), (2, .ref (am 0)), (3, .ref qo), (4, .ref qe), (5, .int x5)]) (hcs : cells + 10 ≤ 649553 ∧ slots + 60 ≤ 7063476) (kk : ∀ (u' v' : sg_St) (o' : Nat → Int64) (od' : Nat → UInt64) (H : Heap) (locs : List Loc) (ls : Array Slot), I u' v' → va_P D vwCl (sg_WW cA ax am qo qe u' v' o' od') H → va_D (fun q : Nat => s.heap.size ≤ q) (sg_WW cA ax am qo qe u' v' o' od') → va_S (fun q : Nat => s.heap.size ≤ q) s.heap H locs → lv_has ls 9 [(0, .ref b), (1, .ref (ax 0)), (2, .ref (am 0)), (3, .ref qo), (4, .ref qe), (5, .int x5)] → W p l e room_1 s m #[Value.ref b] below meth c H locs (cells + 10) (slots + 60) Q (F0 m 2656 ls [])) : W p l e room_1 s m #[Value.ref b] below meth c H locs cells slots Q (F0 m 2329 ls []) := by
  obtain ⟨hx, hb, hr, hml, hown, hts, hX, hbl, hK, hT, hN, hlocks⟩ := C0
  have hA : ∀ q : Nat, s.heap.size ≤ q → (fun q : Nat => s.heap.size ≤ q) q := fun _ h => h
  have hbA : ¬ (fun q : Nat => s.heap.size ≤ q) b := Nat.not_le.mpr hbl
  obtain ⟨r1, u1, v1, hf1, hf2, hI1, rfl⟩ := hB
  refine lv_aload_n hx hb dL_law_2329 rfl (lv_at hl 1 rfl) ?_
  refine sg_xx (va_runV (As := []) (rest := []) ⟨hx, hb, hml, hown, hts⟩ (c_X5_darkLoad l D cA ax N _ _ hf1 _) (cwV 0 hts gL_law_X5_darkLoad rfl rfl rfl (by decide +kernel) ⟨Nat.le_of_ble_eq_true rfl, Nat.le_of_ble_eq_true rfl⟩) (sg_pre (Wf := sg_WX cA ax) hK (hP.sub [2, 3, 4, 5, 6, 7, 8, 9, 10, 11, 12, 13, 14, 15, 16, 17, 18] rfl) (hD.sub [2, 3, 4, 5, 6, 7, 8, 9, 10, 11, 12, 13, 14, 15, 16, 17, 18] (by decide) rfl) (ci := 7) (q0 := 0) rfl rfl) rfl rfl hl.1 rfl (lv_room (Nat.le_of_ble_eq_true rfl)) dL_law_2330 ⟨by show cells + 0 ≤ 649553; omega, by show slots + 0 ≤ 7063476; omega⟩) hP hD hS hA (fun H locs hP hD hS => ?_)
  refine lv_aload_n hx hb dL_law_2333 rfl (lv_at hl 2 rfl) ?_
  refine sg_mi (va_runV (As := []) (rest := [.int r1]) ⟨hx, hb, hml, hown, hts⟩ (c_X6_darkLoad l D cA am N _ _ _ hf2 _) (cwV 0 hts gL_law_X6_darkLoad rfl rfl rfl (by decide +kernel) ⟨Nat.le_of_ble_eq_true rfl, Nat.le_of_ble_eq_true rfl⟩) (sg_pre (Wf := sg_WM cA am) hK (hP.sub [19, 20, 21, 22, 23, 24, 25, 26, 27, 28, 29, 30, 31, 32, 33, 34, 35, 36, 37, 38] rfl) (hD.sub [19, 20, 21, 22, 23, 24, 25, 26, 27, 28, 29, 30, 31, 32, 33, 34, 35, 36, 37, 38] (by decide) rfl) (ci := 8) (q0 := 0) rfl rfl) rfl rfl hl.1 rfl (lv_room (Nat.le_of_ble_eq_true rfl)) dL_law_2334 ⟨by show cells + 0 ≤ 649553; omega, by show slots + 0 ≤ 7063476; omega⟩) hP hD hS hA (fun H locs hP hD hS => ?_)
  refine lv_icmp_eq (tgt := 2656) hx hb dL_law_2337 (by decide) (fun _ => ?_) (fun hz3 => absurd rfl hz3)
  refine W.widen (k := cells + 10) (n := slots + 60) (by omega) (by omega) ?_
  exact kk _ _ _ _ _ _ _ hI1 hP hD hS (lv_sub hl [0, 1, 2, 3, 4, 5] rfl)
set_option maxRecDepth 100000 in
set_option maxHeartbeats 4000000 in
theorem lw_case38 {p : Program} {l : Launch} {e : Env} {s : State} {m : MethodId} {below : List Frame} {meth : Method} {c : Code} {b L : Nat} {xs : Nat → Int32} {D : va_G} {cA : Nat → ClassId} {ax am : Nat → Nat} {qo qe N : Nat} {I : sg_St → sg_St → Prop} {Q : State → Prop} {cells slots : Nat} {H : Heap} {locs : List Loc} {ls : Array Slot} {x5 : Int32} {u v : sg_St} {o : Nat → Int64} {od : Nat → UInt64} (hlt : l.stackTraces = false) (C0 : sg_LA p s m meth c b L xs D cA) (hB : ∃ (r1 : Int32) (u1 v1 : sg_St), fX5_bestValue N u = some (r1, u1) ∧ fX6_bestValue N v = some (r1, v1) ∧ I u1 v1) (hP : va_P D vwCl (sg_WW cA ax am qo qe u v o od) H) (hD : va_D (fun q : Nat => s.heap.size ≤ q) (sg_WW cA ax am qo qe u v o od)) (hS : va_S (fun q : Nat => s.heap.size ≤ q) s.heap H locs) (hl : lv_has ls 9 [(0, .ref b), (1, .ref (ax 0)), (2, .ref (am 0)), (3, .ref qo), (4, .ref qe), (5, .int x5)]) (hcs : cells + 10 ≤ 649553 ∧ slots + 60 ≤ 7063476) (kk : ∀ (u' v' : sg_St) (o' : Nat → Int64) (od' : Nat → UInt64) (H : Heap) (locs : List Loc) (ls : Array Slot), I u' v' → va_P D vwCl (sg_WW cA ax am qo qe u' v' o' od') H → va_D (fun q : Nat => s.heap.size ≤ q) (sg_WW cA ax am qo qe u' v' o' od') → va_S (fun q : Nat => s.heap.size ≤ q) s.heap H locs → lv_has ls 9 [(0, .ref b), (1, .ref (ax 0)), (2, .ref (am 0)), (3, .ref qo), (4, .ref qe), (5, .int x5)] → W p l e room_1 s m #[Value.ref b] below meth c H locs (cells + 10) (slots + 60) Q (F0 m 2656 ls [])) : W p l e room_1 s m #[Value.ref b] below meth c H locs cells slots Q (F0 m 2342 ls []) := by
  obtain ⟨hx, hb, hr, hml, hown, hts, hX, hbl, hK, hT, hN, hlocks⟩ := C0
  have hA : ∀ q : Nat, s.heap.size ≤ q → (fun q : Nat => s.heap.size ≤ q) q := fun _ h => h
  have hbA : ¬ (fun q : Nat => s.heap.size ≤ q) b := Nat.not_le.mpr hbl
  obtain ⟨r1, u1, v1, hf1, hf2, hI1⟩ := hB
  refine lv_aload_n hx hb dL_law_2342 rfl (lv_at hl 1 rfl) ?_
  refine sg_xx (va_runV (As := []) (rest := []) ⟨hx, hb, hml, hown, hts⟩ (c_X5_bestValue l D cA ax N _ _ _ hf1 _) (cwV 0 hts gL_law_X5_bestValue rfl rfl rfl (by decide +kernel) ⟨Nat.le_of_ble_eq_true rfl, Nat.le_of_ble_eq_true rfl⟩) (sg_pre (Wf := sg_WX cA ax) hK (hP.sub [2, 3, 4, 5, 6, 7, 8, 9, 10, 11, 12, 13, 14, 15, 16, 17, 18] rfl) (hD.sub [2, 3, 4, 5, 6, 7, 8, 9, 10, 11, 12, 13, 14, 15, 16, 17, 18] (by decide) rfl) (ci := 7) (q0 := 0) rfl rfl) rfl rfl hl.1 rfl (lv_room (Nat.le_of_ble_eq_true rfl)) dL_law_2343 ⟨by show cells + 0 ≤ 649553; omega, by show slots + 0 ≤ 7063476; omega⟩) hP hD hS hA (fun H locs hP hD hS => ?_)
  refine lv_aload_n hx hb dL_law_2346 rfl (lv_at hl 2 rfl) ?_
  refine sg_mi (va_runV (As := []) (rest := [.int r1]) ⟨hx, hb, hml, hown, hts⟩ (c_X6_bestValue l D cA am N _ _ _ hf2 _) (cwV 0 hts gL_law_X6_bestValue rfl rfl rfl (by decide +kernel) ⟨Nat.le_of_ble_eq_true rfl, Nat.le_of_ble_eq_true rfl⟩) (sg_pre (Wf := sg_WM cA am) hK (hP.sub [19, 20, 21, 22, 23, 24, 25, 26, 27, 28, 29, 30, 31, 32, 33, 34, 35, 36, 37, 38] rfl) (hD.sub [19, 20, 21, 22, 23, 24, 25, 26, 27, 28, 29, 30, 31, 32, 33, 34, 35, 36, 37, 38] (by decide) rfl) (ci := 8) (q0 := 0) rfl rfl) rfl rfl hl.1 rfl (lv_room (Nat.le_of_ble_eq_true rfl)) dL_law_2347 ⟨by show cells + 0 ≤ 649553; omega, by show slots + 0 ≤ 7063476; omega⟩) hP hD hS hA (fun H locs hP hD hS => ?_)
  refine lv_icmp_eq (tgt := 2656) hx hb dL_law_2350 (by decide) (fun _ => ?_) (fun hz3 => absurd rfl hz3)
  refine W.widen (k := cells + 10) (n := slots + 60) (by omega) (by omega) ?_
  exact kk _ _ _ _ _ _ _ hI1 hP hD hS (lv_sub hl [0, 1, 2, 3, 4, 5] rfl)
set_option maxRecDepth 100000 in
set_option maxHeartbeats 4000000 in
theorem lw_case39 {p : Program} {l : Launch} {e : Env} {s : State} {m : MethodId} {below : List Frame} {meth : Method} {c : Code} {b L : Nat} {xs : Nat → Int32} {D : va_G} {cA : Nat → ClassId} {ax am : Nat → Nat} {qo qe N : Nat} {I : sg_St → sg_St → Prop} {Q : State → Prop} {cells slots : Nat} {H : Heap} {locs : List Loc} {ls : Array Slot} {x5 : Int32} {u v : sg_St} {o : Nat → Int64} {od : Nat → UInt64} (hlt : l.stackTraces = false) (C0 : sg_LA p s m meth c b L xs D cA) (hB : ∃ (r1 : Int32) (u1 v1 : sg_St), fX5_bestSize N u = some (r1, u1) ∧ fX6_bestSize N v = some (r1, v1) ∧ I u1 v1) (hP : va_P D vwCl (sg_WW cA ax am qo qe u v o od) H) (hD : va_D (fun q : Nat => s.heap.size ≤ q) (sg_WW cA ax am qo qe u v o od)) (hS : va_S (fun q : Nat => s.heap.size ≤ q) s.heap H locs) (hl : lv_has ls 9 [(0, .ref b), (1, .ref (ax 0)), (2, .ref (am 0)), (3, .ref qo), (4, .ref qe), (5, .int x5)]) (hcs : cells + 10 ≤ 649553 ∧ slots + 60 ≤ 7063476) (kk : ∀ (u' v' : sg_St) (o' : Nat → Int64) (od' : Nat → UInt64) (H : Heap) (locs : List Loc) (ls : Array Slot), I u' v' → va_P D vwCl (sg_WW cA ax am qo qe u' v' o' od') H → va_D (fun q : Nat => s.heap.size ≤ q) (sg_WW cA ax am qo qe u' v' o' od') → va_S (fun q : Nat => s.heap.size ≤ q) s.heap H locs → lv_has ls 9 [(0, .ref b), (1, .ref (ax 0)), (2, .ref (am 0)), (3, .ref qo), (4, .ref qe), (5, .int x5)] → W p l e room_1 s m #[Value.ref b] below meth c H locs (cells + 10) (slots + 60) Q (F0 m 2656 ls [])) : W p l e room_1 s m #[Value.ref b] below meth c H locs cells slots Q (F0 m 2355 ls []) := by
  obtain ⟨hx, hb, hr, hml, hown, hts, hX, hbl, hK, hT, hN, hlocks⟩ := C0
  have hA : ∀ q : Nat, s.heap.size ≤ q → (fun q : Nat => s.heap.size ≤ q) q := fun _ h => h
  have hbA : ¬ (fun q : Nat => s.heap.size ≤ q) b := Nat.not_le.mpr hbl
  obtain ⟨r1, u1, v1, hf1, hf2, hI1⟩ := hB
  refine lv_aload_n hx hb dL_law_2355 rfl (lv_at hl 1 rfl) ?_
  refine sg_xx (va_runV (As := []) (rest := []) ⟨hx, hb, hml, hown, hts⟩ (c_X5_bestSize l D cA ax N _ _ _ hf1 _) (cwV 0 hts gL_law_X5_bestSize rfl rfl rfl (by decide +kernel) ⟨Nat.le_of_ble_eq_true rfl, Nat.le_of_ble_eq_true rfl⟩) (sg_pre (Wf := sg_WX cA ax) hK (hP.sub [2, 3, 4, 5, 6, 7, 8, 9, 10, 11, 12, 13, 14, 15, 16, 17, 18] rfl) (hD.sub [2, 3, 4, 5, 6, 7, 8, 9, 10, 11, 12, 13, 14, 15, 16, 17, 18] (by decide) rfl) (ci := 7) (q0 := 0) rfl rfl) rfl rfl hl.1 rfl (lv_room (Nat.le_of_ble_eq_true rfl)) dL_law_2356 ⟨by show cells + 0 ≤ 649553; omega, by show slots + 0 ≤ 7063476; omega⟩) hP hD hS hA (fun H locs hP hD hS => ?_)
  refine lv_aload_n hx hb dL_law_2359 rfl (lv_at hl 2 rfl) ?_
  refine sg_mi (va_runV (As := []) (rest := [.int r1]) ⟨hx, hb, hml, hown, hts⟩ (c_X6_bestSize l D cA am N _ _ _ hf2 _) (cwV 0 hts gL_law_X6_bestSize rfl rfl rfl (by decide +kernel) ⟨Nat.le_of_ble_eq_true rfl, Nat.le_of_ble_eq_true rfl⟩) (sg_pre (Wf := sg_WM cA am) hK (hP.sub [19, 20, 21, 22, 23, 24, 25, 26, 27, 28, 29, 30, 31, 32, 33, 34, 35, 36, 37, 38] rfl) (hD.sub [19, 20, 21, 22, 23, 24, 25, 26, 27, 28, 29, 30, 31, 32, 33, 34, 35, 36, 37, 38] (by decide) rfl) (ci := 8) (q0 := 0) rfl rfl) rfl rfl hl.1 rfl (lv_room (Nat.le_of_ble_eq_true rfl)) dL_law_2360 ⟨by show cells + 0 ≤ 649553; omega, by show slots + 0 ≤ 7063476; omega⟩) hP hD hS hA (fun H locs hP hD hS => ?_)
  refine lv_icmp_eq (tgt := 2656) hx hb dL_law_2363 (by decide) (fun _ => ?_) (fun hz3 => absurd rfl hz3)
  refine W.widen (k := cells + 10) (n := slots + 60) (by omega) (by omega) ?_
  exact kk _ _ _ _ _ _ _ hI1 hP hD hS (lv_sub hl [0, 1, 2, 3, 4, 5] rfl)
set_option maxRecDepth 100000 in
set_option maxHeartbeats 4000000 in
theorem lw_case40 {p : Program} {l : Launch} {e : Env} {s : State} {m : MethodId} {below : List Frame} {meth : Method} {c : Code} {b L : Nat} {xs : Nat → Int32} {D : va_G} {cA : Nat → ClassId} {ax am : Nat → Nat} {qo qe N : Nat} {I : sg_St → sg_St → Prop} {Q : State → Prop} {cells slots : Nat} {H : Heap} {locs : List Loc} {ls : Array Slot} {x5 : Int32} {u v : sg_St} {o : Nat → Int64} {od : Nat → UInt64} (hlt : l.stackTraces = false) (C0 : sg_LA p s m meth c b L xs D cA) (hB : ∃ (R : (Nat ⊕ Int32) × sg_St) (r1 : Int32) (v1 : sg_St), fX5_bestAt N u (xs (x5 + 1).toNatClampNeg) = some R ∧ fX6_bestAt N v (xs (x5 + 1).toNatClampNeg) = some (r1, v1) ∧ sg_Rel I [2] R r1 v1) (hv1 : vp_in (x5 + 1) L) (hP : va_P D vwCl (sg_WW cA ax am qo qe u v o od) H) (hD : va_D (fun q : Nat => s.heap.size ≤ q) (sg_WW cA ax am qo qe u v o od)) (hS : va_S (fun q : Nat => s.heap.size ≤ q) s.heap H locs) (hl : lv_has ls 9 [(0, .ref b), (1, .ref (ax 0)), (2, .ref (am 0)), (3, .ref qo), (4, .ref qe), (5, .int x5)]) (hcs : cells + 10 ≤ 649553 ∧ slots + 60 ≤ 7063476) (kk : ∀ (u' v' : sg_St) (o' : Nat → Int64) (od' : Nat → UInt64) (H : Heap) (locs : List Loc) (ls : Array Slot), I u' v' → va_P D vwCl (sg_WW cA ax am qo qe u' v' o' od') H → va_D (fun q : Nat => s.heap.size ≤ q) (sg_WW cA ax am qo qe u' v' o' od') → va_S (fun q : Nat => s.heap.size ≤ q) s.heap H locs → lv_has ls 9 [(0, .ref b), (1, .ref (ax 0)), (2, .ref (am 0)), (3, .ref qo), (4, .ref qe), (5, .int x5)] → W p l e room_1 s m #[Value.ref b] below meth c H locs (cells + 10) (slots + 60) Q (F0 m 2656 ls [])) : W p l e room_1 s m #[Value.ref b] below meth c H locs cells slots Q (F0 m 2368 ls []) := by
  obtain ⟨hx, hb, hr, hml, hown, hts, hX, hbl, hK, hT, hN, hlocks⟩ := C0
  have hA : ∀ q : Nat, s.heap.size ≤ q → (fun q : Nat => s.heap.size ≤ q) q := fun _ h => h
  have hbA : ¬ (fun q : Nat => s.heap.size ≤ q) b := Nat.not_le.mpr hbl
  obtain ⟨R, r1, v1, hf1, hf2, hRel⟩ := hB
  have hR9 : ∀ k t, R = (.inl k, t) → k ∈ [2] := fun k t e9 => sg_Rel_in hRel e9
  refine lv_aload_n hx hb dL_law_2368 rfl (lv_at hl 1 rfl) ?_
  refine lv_aload_n hx hb dL_law_2369 rfl (lv_at hl 0 rfl) ?_
  refine lv_iload hx hb dL_law_2370 (lv_at hl 5 rfl) ?_
  refine lv_iconst (v := 1) hx hb dL_law_2372 (by decide) ?_
  refine lv_iadd hx hb dL_law_2373 ?_
  refine va_sld hx hb hX hbl hbA hS hv1 dL_law_2374 ?_
  refine lv_aload_n hx hb dL_law_2375 rfl (lv_at hl 3 rfl) ?_
  refine sg_hw (vx_runSW (As := [.ref (ax 0), .int (xs (x5 + 1).toNatClampNeg), .ref qo]) (rest := []) ⟨hx, hb, hml, hown, hts⟩ (c_L_bestAt l hlt D cA ax qo o N u _ R hf1 hR9 _) (vx_cwSW (hh := [(0, 9, 12, 107)]) 3 hts gL_law_L_bestAt rfl rfl rfl (by decide +kernel) ⟨Nat.le_of_ble_eq_true rfl, Nat.le_of_ble_eq_true rfl⟩) (sg_preL (w0 := sg_WL cA ax qo u o) hK (hP.sub [0, 2, 3, 4, 5, 6, 7, 8, 9, 10, 11, 12, 13, 14, 15, 16, 17, 18] rfl) (hD.sub [0, 2, 3, 4, 5, 6, 7, 8, 9, 10, 11, 12, 13, 14, 15, 16, 17, 18] (by decide) rfl) hT hN hS hA) rfl rfl hl.1 rfl (lv_room (Nat.le_of_ble_eq_true rfl)) dL_law_2376 ⟨by show cells + 1 ≤ 649553; omega, by show slots + 6 ≤ 7063476; omega⟩) hP hD hS hA (fun r u1 o1 H locs hlp hP hD hS => ?_)
  obtain ⟨hth, hI1, hout⟩ := sg_agree (by decide) hRel hlp
  refine lv_istore (lv' := [(6, .int r), (0, .ref b), (1, .ref (ax 0)), (2, .ref (am 0)), (3, .ref qo), (4, .ref qe), (5, .int x5)]) hx hb dL_law_2379 hl (by decide) rfl (fun ls hl => ?_)
  refine lv_aload_n hx hb dL_law_2381 rfl (lv_at hl 3 rfl) ?_
  refine lv_aload_n hx hb dL_law_2382 rfl (lv_at hl 1 rfl) ?_
  refine lv_iload hx hb dL_law_2383 (lv_at hl 6 rfl) ?_
  refine lv_iconst (v := 1) hx hb dL_law_2385 (by decide) ?_
  refine lv_iadd hx hb dL_law_2386 ?_
  refine va_sld hx hb hX hbl hbA hS hv1 dL_law_2387 ?_
  refine sg_mi (va_runV (As := [.int (xs (x5 + 1).toNatClampNeg)]) (rest := []) ⟨hx, hb, hml, hown, hts⟩ (c_X6_bestAt l D cA am N _ _ _ _ hf2 _) (cwV 1 hts gL_law_X6_bestAt rfl rfl rfl (by decide +kernel) ⟨Nat.le_of_ble_eq_true rfl, Nat.le_of_ble_eq_true rfl⟩) (sg_pre (Wf := sg_WM cA am) hK (hP.sub [19, 20, 21, 22, 23, 24, 25, 26, 27, 28, 29, 30, 31, 32, 33, 34, 35, 36, 37, 38] rfl) (hD.sub [19, 20, 21, 22, 23, 24, 25, 26, 27, 28, 29, 30, 31, 32, 33, 34, 35, 36, 37, 38] (by decide) rfl) (ci := 8) (q0 := 0) rfl rfl) rfl rfl hl.1 rfl (lv_room (Nat.le_of_ble_eq_true rfl)) dL_law_2388 ⟨by show cells + 1 + 0 ≤ 649553; omega, by show slots + 6 + 0 ≤ 7063476; omega⟩) hP hD hS hA (fun H locs hP hD hS => ?_)
  refine lv_istore (lv' := [(7, .int r1), (6, .int r), (0, .ref b), (1, .ref (ax 0)), (2, .ref (am 0)), (3, .ref qo), (4, .ref qe), (5, .int x5)]) hx hb dL_law_2391 hl (by decide) rfl (fun ls hl => ?_)
  refine lv_aload_n hx hb dL_law_2393 rfl (lv_at hl 4 rfl) ?_
  refine sg_mi (va_runV (As := []) (rest := []) ⟨hx, hb, hml, hown, hts⟩ (c_X6_thrown l D cA am N v1 (v1 0 0) rfl _) (cwV 0 hts gL_law_X6_thrown rfl rfl rfl (by decide +kernel) ⟨Nat.le_of_ble_eq_true rfl, Nat.le_of_ble_eq_true rfl⟩) (sg_pre (Wf := sg_WM cA am) hK (hP.sub [19, 20, 21, 22, 23, 24, 25, 26, 27, 28, 29, 30, 31, 32, 33, 34, 35, 36, 37, 38] rfl) (hD.sub [19, 20, 21, 22, 23, 24, 25, 26, 27, 28, 29, 30, 31, 32, 33, 34, 35, 36, 37, 38] (by decide) rfl) (ci := 8) (q0 := 0) rfl rfl) rfl rfl hl.1 rfl (lv_room (Nat.le_of_ble_eq_true rfl)) dL_law_2394 ⟨by show cells + 1 + 0 ≤ 649553; omega, by show slots + 6 + 0 ≤ 7063476; omega⟩) hP hD hS hA (fun H locs hP hD hS => ?_)
  refine lv_iload hx hb dL_law_2397 (lv_at hl 1 rfl) ?_
  refine lv_icmp_eq (tgt := 2404) hx hb dL_law_2399 (by decide) (fun _ => ?_) (fun hz3 => absurd hth hz3)
  refine lv_iload hx hb dL_law_2404 (lv_at hl 1 rfl) ?_
  refine lv_if_ne (tgt := 2421) hx hb dL_law_2406 (by decide) (fun hr0 => ?_) (fun hr0 => ?_)
  · refine lv_goto (tgt := 2656) hx hb dL_law_2421 (by decide) ?_
    refine W.widen (k := cells + 10) (n := slots + 60) (by omega) (by omega) ?_
    exact kk _ _ _ _ _ _ _ hI1 hP hD hS (lv_sub hl [2, 3, 4, 5, 6, 7] rfl)
  · obtain ⟨ho, hRr⟩ := hout hr0
    subst ho
    refine lv_aload_n hx hb dL_law_2409 rfl (lv_at hl 5 rfl) ?_
    refine lv_iconst (v := 0) hx hb dL_law_2410 (by decide) ?_
    refine va_lald hx hb hK.1 hP 0 2 rfl rfl (sg_inb_s (i := 0) (n := 1) (by decide)) dL_law_2411 ?_
    refine lv_iload hx hb dL_law_2412 (lv_at hl 0 rfl) ?_
    refine lv_i2l (v := r1.toInt64) hx hb dL_law_2414 rfl ?_
    refine W.lcmp hx hb dL_law_2415 ?_
    refine lv_if_eq (tgt := 2421) hx hb dL_law_2416 (by decide) (fun _ => ?_) (fun hz4 => absurd (by first | exact sg_cmp64 | exact sg_cmpB0 hb1 | exact sg_cmpB1 hb1) hz4)
    refine lv_goto (tgt := 2656) hx hb dL_law_2421 (by decide) ?_
    refine W.widen (k := cells + 10) (n := slots + 60) (by omega) (by omega) ?_
    exact kk _ _ _ _ _ _ _ hI1 hP hD hS (lv_sub hl [2, 3, 4, 5, 6, 7] rfl)
set_option maxRecDepth 100000 in
set_option maxHeartbeats 4000000 in
theorem lw_case41 {p : Program} {l : Launch} {e : Env} {s : State} {m : MethodId} {below : List Frame} {meth : Method} {c : Code} {b L : Nat} {xs : Nat → Int32} {D : va_G} {cA : Nat → ClassId} {ax am : Nat → Nat} {qo qe N : Nat} {I : sg_St → sg_St → Prop} {Q : State → Prop} {cells slots : Nat} {H : Heap} {locs : List Loc} {ls : Array Slot} {x5 : Int32} {u v : sg_St} {o : Nat → Int64} {od : Nat → UInt64} (hlt : l.stackTraces = false) (C0 : sg_LA p s m meth c b L xs D cA) (hB : ∃ (R : (Nat ⊕ Int32) × sg_St) (r1 : Int32) (v1 : sg_St), fX5_valueByTrying N u = some R ∧ fX6_valueByTrying N v = some (r1, v1) ∧ sg_Rel I [4] R r1 v1) (hP : va_P D vwCl (sg_WW cA ax am qo qe u v o od) H) (hD : va_D (fun q : Nat => s.heap.size ≤ q) (sg_WW cA ax am qo qe u v o od)) (hS : va_S (fun q : Nat => s.heap.size ≤ q) s.heap H locs) (hl : lv_has ls 9 [(0, .ref b), (1, .ref (ax 0)), (2, .ref (am 0)), (3, .ref qo), (4, .ref qe), (5, .int x5)]) (hcs : cells + 10 ≤ 649553 ∧ slots + 60 ≤ 7063476) (kk : ∀ (u' v' : sg_St) (o' : Nat → Int64) (od' : Nat → UInt64) (H : Heap) (locs : List Loc) (ls : Array Slot), I u' v' → va_P D vwCl (sg_WW cA ax am qo qe u' v' o' od') H → va_D (fun q : Nat => s.heap.size ≤ q) (sg_WW cA ax am qo qe u' v' o' od') → va_S (fun q : Nat => s.heap.size ≤ q) s.heap H locs → lv_has ls 9 [(0, .ref b), (1, .ref (ax 0)), (2, .ref (am 0)), (3, .ref qo), (4, .ref qe), (5, .int x5)] → W p l e room_1 s m #[Value.ref b] below meth c H locs (cells + 10) (slots + 60) Q (F0 m 2656 ls [])) : W p l e room_1 s m #[Value.ref b] below meth c H locs cells slots Q (F0 m 2424 ls []) := by
  obtain ⟨hx, hb, hr, hml, hown, hts, hX, hbl, hK, hT, hN, hlocks⟩ := C0
  have hA : ∀ q : Nat, s.heap.size ≤ q → (fun q : Nat => s.heap.size ≤ q) q := fun _ h => h
  have hbA : ¬ (fun q : Nat => s.heap.size ≤ q) b := Nat.not_le.mpr hbl
  obtain ⟨R, r1, v1, hf1, hf2, hRel⟩ := hB
  have hR9 : ∀ k t, R = (.inl k, t) → k ∈ [4] := fun k t e9 => sg_Rel_in hRel e9
  refine lv_aload_n hx hb dL_law_2424 rfl (lv_at hl 1 rfl) ?_
  refine lv_aload_n hx hb dL_law_2425 rfl (lv_at hl 3 rfl) ?_
  refine sg_hw (vx_runSW (As := [.ref (ax 0), .ref qo]) (rest := []) ⟨hx, hb, hml, hown, hts⟩ (c_L_valueByTrying l hlt D cA ax qo o N u R hf1 hR9 _) (vx_cwSW (hh := [(0, 8, 11, 30)]) 2 hts gL_law_L_valueByTrying rfl rfl rfl (by decide +kernel) ⟨Nat.le_of_ble_eq_true rfl, Nat.le_of_ble_eq_true rfl⟩) (sg_preL (w0 := sg_WL cA ax qo u o) hK (hP.sub [0, 2, 3, 4, 5, 6, 7, 8, 9, 10, 11, 12, 13, 14, 15, 16, 17, 18] rfl) (hD.sub [0, 2, 3, 4, 5, 6, 7, 8, 9, 10, 11, 12, 13, 14, 15, 16, 17, 18] (by decide) rfl) hT hN hS hA) rfl rfl hl.1 rfl (lv_room (Nat.le_of_ble_eq_true rfl)) dL_law_2426 ⟨by show cells + 1 ≤ 649553; omega, by show slots + 6 ≤ 7063476; omega⟩) hP hD hS hA (fun r u1 o1 H locs hlp hP hD hS => ?_)
  obtain ⟨hth, hI1, hout⟩ := sg_agree (by decide) hRel hlp
  refine lv_istore (lv' := [(6, .int r), (0, .ref b), (1, .ref (ax 0)), (2, .ref (am 0)), (3, .ref qo), (4, .ref qe), (5, .int x5)]) hx hb dL_law_2429 hl (by decide) rfl (fun ls hl => ?_)
  refine lv_aload_n hx hb dL_law_2431 rfl (lv_at hl 3 rfl) ?_
  refine sg_mi (va_runV (As := []) (rest := []) ⟨hx, hb, hml, hown, hts⟩ (c_X6_valueByTrying l D cA am N _ _ _ hf2 _) (cwV 0 hts gL_law_X6_valueByTrying rfl rfl rfl (by decide +kernel) ⟨Nat.le_of_ble_eq_true rfl, Nat.le_of_ble_eq_true rfl⟩) (sg_pre (Wf := sg_WM cA am) hK (hP.sub [19, 20, 21, 22, 23, 24, 25, 26, 27, 28, 29, 30, 31, 32, 33, 34, 35, 36, 37, 38] rfl) (hD.sub [19, 20, 21, 22, 23, 24, 25, 26, 27, 28, 29, 30, 31, 32, 33, 34, 35, 36, 37, 38] (by decide) rfl) (ci := 8) (q0 := 0) rfl rfl) rfl rfl hl.1 rfl (lv_room (Nat.le_of_ble_eq_true rfl)) dL_law_2432 ⟨by show cells + 1 + 0 ≤ 649553; omega, by show slots + 6 + 0 ≤ 7063476; omega⟩) hP hD hS hA (fun H locs hP hD hS => ?_)
  refine lv_istore (lv' := [(7, .int r1), (6, .int r), (0, .ref b), (1, .ref (ax 0)), (2, .ref (am 0)), (3, .ref qo), (4, .ref qe), (5, .int x5)]) hx hb dL_law_2435 hl (by decide) rfl (fun ls hl => ?_)
  refine lv_aload_n hx hb dL_law_2437 rfl (lv_at hl 4 rfl) ?_
  refine sg_mi (va_runV (As := []) (rest := []) ⟨hx, hb, hml, hown, hts⟩ (c_X6_thrown l D cA am N v1 (v1 0 0) rfl _) (cwV 0 hts gL_law_X6_thrown rfl rfl rfl (by decide +kernel) ⟨Nat.le_of_ble_eq_true rfl, Nat.le_of_ble_eq_true rfl⟩) (sg_pre (Wf := sg_WM cA am) hK (hP.sub [19, 20, 21, 22, 23, 24, 25, 26, 27, 28, 29, 30, 31, 32, 33, 34, 35, 36, 37, 38] rfl) (hD.sub [19, 20, 21, 22, 23, 24, 25, 26, 27, 28, 29, 30, 31, 32, 33, 34, 35, 36, 37, 38] (by decide) rfl) (ci := 8) (q0 := 0) rfl rfl) rfl rfl hl.1 rfl (lv_room (Nat.le_of_ble_eq_true rfl)) dL_law_2438 ⟨by show cells + 1 + 0 ≤ 649553; omega, by show slots + 6 + 0 ≤ 7063476; omega⟩) hP hD hS hA (fun H locs hP hD hS => ?_)
  refine lv_iload hx hb dL_law_2441 (lv_at hl 1 rfl) ?_
  refine lv_icmp_eq (tgt := 2448) hx hb dL_law_2443 (by decide) (fun _ => ?_) (fun hz3 => absurd hth hz3)
  refine lv_iload hx hb dL_law_2448 (lv_at hl 1 rfl) ?_
  refine lv_if_ne (tgt := 2465) hx hb dL_law_2450 (by decide) (fun hr0 => ?_) (fun hr0 => ?_)
  · refine lv_goto (tgt := 2656) hx hb dL_law_2465 (by decide) ?_
    refine W.widen (k := cells + 10) (n := slots + 60) (by omega) (by omega) ?_
    exact kk _ _ _ _ _ _ _ hI1 hP hD hS (lv_sub hl [2, 3, 4, 5, 6, 7] rfl)
  · obtain ⟨ho, hRr⟩ := hout hr0
    subst ho
    refine lv_aload_n hx hb dL_law_2453 rfl (lv_at hl 5 rfl) ?_
    refine lv_iconst (v := 0) hx hb dL_law_2454 (by decide) ?_
    refine va_lald hx hb hK.1 hP 0 2 rfl rfl (sg_inb_s (i := 0) (n := 1) (by decide)) dL_law_2455 ?_
    refine lv_iload hx hb dL_law_2456 (lv_at hl 0 rfl) ?_
    refine lv_i2l (v := r1.toInt64) hx hb dL_law_2458 rfl ?_
    refine W.lcmp hx hb dL_law_2459 ?_
    refine lv_if_eq (tgt := 2465) hx hb dL_law_2460 (by decide) (fun _ => ?_) (fun hz4 => absurd (by first | exact sg_cmp64 | exact sg_cmpB0 hb1 | exact sg_cmpB1 hb1) hz4)
    refine lv_goto (tgt := 2656) hx hb dL_law_2465 (by decide) ?_
    refine W.widen (k := cells + 10) (n := slots + 60) (by omega) (by omega) ?_
    exact kk _ _ _ _ _ _ _ hI1 hP hD hS (lv_sub hl [2, 3, 4, 5, 6, 7] rfl)
set_option maxRecDepth 100000 in
set_option maxHeartbeats 4000000 in
theorem lw_case42 {p : Program} {l : Launch} {e : Env} {s : State} {m : MethodId} {below : List Frame} {meth : Method} {c : Code} {b L : Nat} {xs : Nat → Int32} {D : va_G} {cA : Nat → ClassId} {ax am : Nat → Nat} {qo qe N : Nat} {I : sg_St → sg_St → Prop} {Q : State → Prop} {cells slots : Nat} {H : Heap} {locs : List Loc} {ls : Array Slot} {x5 : Int32} {u v : sg_St} {o : Nat → Int64} {od : Nat → UInt64} (hlt : l.stackTraces = false) (C0 : sg_LA p s m meth c b L xs D cA) (hB : ∃ (R : (Nat ⊕ Int32) × sg_St) (r1 : Int32) (v1 : sg_St), fX5_sizeByTrying N u = some R ∧ fX6_sizeByTrying N v = some (r1, v1) ∧ sg_Rel I [4] R r1 v1) (hP : va_P D vwCl (sg_WW cA ax am qo qe u v o od) H) (hD : va_D (fun q : Nat => s.heap.size ≤ q) (sg_WW cA ax am qo qe u v o od)) (hS : va_S (fun q : Nat => s.heap.size ≤ q) s.heap H locs) (hl : lv_has ls 9 [(0, .ref b), (1, .ref (ax 0)), (2, .ref (am 0)), (3, .ref qo), (4, .ref qe), (5, .int x5)]) (hcs : cells + 10 ≤ 649553 ∧ slots + 60 ≤ 7063476) (kk : ∀ (u' v' : sg_St) (o' : Nat → Int64) (od' : Nat → UInt64) (H : Heap) (locs : List Loc) (ls : Array Slot), I u' v' → va_P D vwCl (sg_WW cA ax am qo qe u' v' o' od') H → va_D (fun q : Nat => s.heap.size ≤ q) (sg_WW cA ax am qo qe u' v' o' od') → va_S (fun q : Nat => s.heap.size ≤ q) s.heap H locs → lv_has ls 9 [(0, .ref b), (1, .ref (ax 0)), (2, .ref (am 0)), (3, .ref qo), (4, .ref qe), (5, .int x5)] → W p l e room_1 s m #[Value.ref b] below meth c H locs (cells + 10) (slots + 60) Q (F0 m 2656 ls [])) : W p l e room_1 s m #[Value.ref b] below meth c H locs cells slots Q (F0 m 2468 ls []) := by
  obtain ⟨hx, hb, hr, hml, hown, hts, hX, hbl, hK, hT, hN, hlocks⟩ := C0
  have hA : ∀ q : Nat, s.heap.size ≤ q → (fun q : Nat => s.heap.size ≤ q) q := fun _ h => h
  have hbA : ¬ (fun q : Nat => s.heap.size ≤ q) b := Nat.not_le.mpr hbl
  obtain ⟨R, r1, v1, hf1, hf2, hRel⟩ := hB
  have hR9 : ∀ k t, R = (.inl k, t) → k ∈ [4] := fun k t e9 => sg_Rel_in hRel e9
  refine lv_aload_n hx hb dL_law_2468 rfl (lv_at hl 1 rfl) ?_
  refine lv_aload_n hx hb dL_law_2469 rfl (lv_at hl 3 rfl) ?_
  refine sg_hw (vx_runSW (As := [.ref (ax 0), .ref qo]) (rest := []) ⟨hx, hb, hml, hown, hts⟩ (c_L_sizeByTrying l hlt D cA ax qo o N u R hf1 hR9 _) (vx_cwSW (hh := [(0, 8, 11, 30)]) 2 hts gL_law_L_sizeByTrying rfl rfl rfl (by decide +kernel) ⟨Nat.le_of_ble_eq_true rfl, Nat.le_of_ble_eq_true rfl⟩) (sg_preL (w0 := sg_WL cA ax qo u o) hK (hP.sub [0, 2, 3, 4, 5, 6, 7, 8, 9, 10, 11, 12, 13, 14, 15, 16, 17, 18] rfl) (hD.sub [0, 2, 3, 4, 5, 6, 7, 8, 9, 10, 11, 12, 13, 14, 15, 16, 17, 18] (by decide) rfl) hT hN hS hA) rfl rfl hl.1 rfl (lv_room (Nat.le_of_ble_eq_true rfl)) dL_law_2470 ⟨by show cells + 1 ≤ 649553; omega, by show slots + 6 ≤ 7063476; omega⟩) hP hD hS hA (fun r u1 o1 H locs hlp hP hD hS => ?_)
  obtain ⟨hth, hI1, hout⟩ := sg_agree (by decide) hRel hlp
  refine lv_istore (lv' := [(6, .int r), (0, .ref b), (1, .ref (ax 0)), (2, .ref (am 0)), (3, .ref qo), (4, .ref qe), (5, .int x5)]) hx hb dL_law_2473 hl (by decide) rfl (fun ls hl => ?_)
  refine lv_aload_n hx hb dL_law_2475 rfl (lv_at hl 3 rfl) ?_
  refine sg_mi (va_runV (As := []) (rest := []) ⟨hx, hb, hml, hown, hts⟩ (c_X6_sizeByTrying l D cA am N _ _ _ hf2 _) (cwV 0 hts gL_law_X6_sizeByTrying rfl rfl rfl (by decide +kernel) ⟨Nat.le_of_ble_eq_true rfl, Nat.le_of_ble_eq_true rfl⟩) (sg_pre (Wf := sg_WM cA am) hK (hP.sub [19, 20, 21, 22, 23, 24, 25, 26, 27, 28, 29, 30, 31, 32, 33, 34, 35, 36, 37, 38] rfl) (hD.sub [19, 20, 21, 22, 23, 24, 25, 26, 27, 28, 29, 30, 31, 32, 33, 34, 35, 36, 37, 38] (by decide) rfl) (ci := 8) (q0 := 0) rfl rfl) rfl rfl hl.1 rfl (lv_room (Nat.le_of_ble_eq_true rfl)) dL_law_2476 ⟨by show cells + 1 + 0 ≤ 649553; omega, by show slots + 6 + 0 ≤ 7063476; omega⟩) hP hD hS hA (fun H locs hP hD hS => ?_)
  refine lv_istore (lv' := [(7, .int r1), (6, .int r), (0, .ref b), (1, .ref (ax 0)), (2, .ref (am 0)), (3, .ref qo), (4, .ref qe), (5, .int x5)]) hx hb dL_law_2479 hl (by decide) rfl (fun ls hl => ?_)
  refine lv_aload_n hx hb dL_law_2481 rfl (lv_at hl 4 rfl) ?_
  refine sg_mi (va_runV (As := []) (rest := []) ⟨hx, hb, hml, hown, hts⟩ (c_X6_thrown l D cA am N v1 (v1 0 0) rfl _) (cwV 0 hts gL_law_X6_thrown rfl rfl rfl (by decide +kernel) ⟨Nat.le_of_ble_eq_true rfl, Nat.le_of_ble_eq_true rfl⟩) (sg_pre (Wf := sg_WM cA am) hK (hP.sub [19, 20, 21, 22, 23, 24, 25, 26, 27, 28, 29, 30, 31, 32, 33, 34, 35, 36, 37, 38] rfl) (hD.sub [19, 20, 21, 22, 23, 24, 25, 26, 27, 28, 29, 30, 31, 32, 33, 34, 35, 36, 37, 38] (by decide) rfl) (ci := 8) (q0 := 0) rfl rfl) rfl rfl hl.1 rfl (lv_room (Nat.le_of_ble_eq_true rfl)) dL_law_2482 ⟨by show cells + 1 + 0 ≤ 649553; omega, by show slots + 6 + 0 ≤ 7063476; omega⟩) hP hD hS hA (fun H locs hP hD hS => ?_)
  refine lv_iload hx hb dL_law_2485 (lv_at hl 1 rfl) ?_
  refine lv_icmp_eq (tgt := 2492) hx hb dL_law_2487 (by decide) (fun _ => ?_) (fun hz3 => absurd hth hz3)
  refine lv_iload hx hb dL_law_2492 (lv_at hl 1 rfl) ?_
  refine lv_if_ne (tgt := 2509) hx hb dL_law_2494 (by decide) (fun hr0 => ?_) (fun hr0 => ?_)
  · refine lv_goto (tgt := 2656) hx hb dL_law_2509 (by decide) ?_
    refine W.widen (k := cells + 10) (n := slots + 60) (by omega) (by omega) ?_
    exact kk _ _ _ _ _ _ _ hI1 hP hD hS (lv_sub hl [2, 3, 4, 5, 6, 7] rfl)
  · obtain ⟨ho, hRr⟩ := hout hr0
    subst ho
    refine lv_aload_n hx hb dL_law_2497 rfl (lv_at hl 5 rfl) ?_
    refine lv_iconst (v := 0) hx hb dL_law_2498 (by decide) ?_
    refine va_lald hx hb hK.1 hP 0 2 rfl rfl (sg_inb_s (i := 0) (n := 1) (by decide)) dL_law_2499 ?_
    refine lv_iload hx hb dL_law_2500 (lv_at hl 0 rfl) ?_
    refine lv_i2l (v := r1.toInt64) hx hb dL_law_2502 rfl ?_
    refine W.lcmp hx hb dL_law_2503 ?_
    refine lv_if_eq (tgt := 2509) hx hb dL_law_2504 (by decide) (fun _ => ?_) (fun hz4 => absurd (by first | exact sg_cmp64 | exact sg_cmpB0 hb1 | exact sg_cmpB1 hb1) hz4)
    refine lv_goto (tgt := 2656) hx hb dL_law_2509 (by decide) ?_
    refine W.widen (k := cells + 10) (n := slots + 60) (by omega) (by omega) ?_
    exact kk _ _ _ _ _ _ _ hI1 hP hD hS (lv_sub hl [2, 3, 4, 5, 6, 7] rfl)
set_option maxRecDepth 100000 in
set_option maxHeartbeats 4000000 in
theorem lw_case43 {p : Program} {l : Launch} {e : Env} {s : State} {m : MethodId} {below : List Frame} {meth : Method} {c : Code} {b L : Nat} {xs : Nat → Int32} {D : va_G} {cA : Nat → ClassId} {ax am : Nat → Nat} {qo qe N : Nat} {I : sg_St → sg_St → Prop} {Q : State → Prop} {cells slots : Nat} {H : Heap} {locs : List Loc} {ls : Array Slot} {x5 : Int32} {u v : sg_St} {o : Nat → Int64} {od : Nat → UInt64} (hlt : l.stackTraces = false) (C0 : sg_LA p s m meth c b L xs D cA) (hB : ∃ (r1 : Int32) (u1 v1 : sg_St), fX5_restore N u = some (r1, u1) ∧ fX6_restore N v = some (r1, v1) ∧ I u1 v1) (hP : va_P D vwCl (sg_WW cA ax am qo qe u v o od) H) (hD : va_D (fun q : Nat => s.heap.size ≤ q) (sg_WW cA ax am qo qe u v o od)) (hS : va_S (fun q : Nat => s.heap.size ≤ q) s.heap H locs) (hl : lv_has ls 9 [(0, .ref b), (1, .ref (ax 0)), (2, .ref (am 0)), (3, .ref qo), (4, .ref qe), (5, .int x5)]) (hcs : cells + 10 ≤ 649553 ∧ slots + 60 ≤ 7063476) (kk : ∀ (u' v' : sg_St) (o' : Nat → Int64) (od' : Nat → UInt64) (H : Heap) (locs : List Loc) (ls : Array Slot), I u' v' → va_P D vwCl (sg_WW cA ax am qo qe u' v' o' od') H → va_D (fun q : Nat => s.heap.size ≤ q) (sg_WW cA ax am qo qe u' v' o' od') → va_S (fun q : Nat => s.heap.size ≤ q) s.heap H locs → lv_has ls 9 [(0, .ref b), (1, .ref (ax 0)), (2, .ref (am 0)), (3, .ref qo), (4, .ref qe), (5, .int x5)] → W p l e room_1 s m #[Value.ref b] below meth c H locs (cells + 10) (slots + 60) Q (F0 m 2656 ls [])) : W p l e room_1 s m #[Value.ref b] below meth c H locs cells slots Q (F0 m 2512 ls []) := by
  obtain ⟨hx, hb, hr, hml, hown, hts, hX, hbl, hK, hT, hN, hlocks⟩ := C0
  have hA : ∀ q : Nat, s.heap.size ≤ q → (fun q : Nat => s.heap.size ≤ q) q := fun _ h => h
  have hbA : ¬ (fun q : Nat => s.heap.size ≤ q) b := Nat.not_le.mpr hbl
  obtain ⟨r1, u1, v1, hf1, hf2, hI1⟩ := hB
  refine lv_aload_n hx hb dL_law_2512 rfl (lv_at hl 1 rfl) ?_
  refine sg_xx (va_runV (As := []) (rest := []) ⟨hx, hb, hml, hown, hts⟩ (c_X5_restore l D cA ax N _ _ _ hf1 _) (cwV 0 hts gL_law_X5_restore rfl rfl rfl (by decide +kernel) ⟨Nat.le_of_ble_eq_true rfl, Nat.le_of_ble_eq_true rfl⟩) (sg_pre (Wf := sg_WX cA ax) hK (hP.sub [2, 3, 4, 5, 6, 7, 8, 9, 10, 11, 12, 13, 14, 15, 16, 17, 18] rfl) (hD.sub [2, 3, 4, 5, 6, 7, 8, 9, 10, 11, 12, 13, 14, 15, 16, 17, 18] (by decide) rfl) (ci := 7) (q0 := 0) rfl rfl) rfl rfl hl.1 rfl (lv_room (Nat.le_of_ble_eq_true rfl)) dL_law_2513 ⟨by show cells + 0 ≤ 649553; omega, by show slots + 0 ≤ 7063476; omega⟩) hP hD hS hA (fun H locs hP hD hS => ?_)
  refine lv_aload_n hx hb dL_law_2516 rfl (lv_at hl 2 rfl) ?_
  refine sg_mi (va_runV (As := []) (rest := [.int r1]) ⟨hx, hb, hml, hown, hts⟩ (c_X6_restore l D cA am N _ _ _ hf2 _) (cwV 0 hts gL_law_X6_restore rfl rfl rfl (by decide +kernel) ⟨Nat.le_of_ble_eq_true rfl, Nat.le_of_ble_eq_true rfl⟩) (sg_pre (Wf := sg_WM cA am) hK (hP.sub [19, 20, 21, 22, 23, 24, 25, 26, 27, 28, 29, 30, 31, 32, 33, 34, 35, 36, 37, 38] rfl) (hD.sub [19, 20, 21, 22, 23, 24, 25, 26, 27, 28, 29, 30, 31, 32, 33, 34, 35, 36, 37, 38] (by decide) rfl) (ci := 8) (q0 := 0) rfl rfl) rfl rfl hl.1 rfl (lv_room (Nat.le_of_ble_eq_true rfl)) dL_law_2517 ⟨by show cells + 0 ≤ 649553; omega, by show slots + 0 ≤ 7063476; omega⟩) hP hD hS hA (fun H locs hP hD hS => ?_)
  refine lv_icmp_eq (tgt := 2656) hx hb dL_law_2520 (by decide) (fun _ => ?_) (fun hz3 => absurd rfl hz3)
  refine W.widen (k := cells + 10) (n := slots + 60) (by omega) (by omega) ?_
  exact kk _ _ _ _ _ _ _ hI1 hP hD hS (lv_sub hl [0, 1, 2, 3, 4, 5] rfl)
set_option maxRecDepth 100000 in
set_option maxHeartbeats 4000000 in
theorem lw_case44 {p : Program} {l : Launch} {e : Env} {s : State} {m : MethodId} {below : List Frame} {meth : Method} {c : Code} {b L : Nat} {xs : Nat → Int32} {D : va_G} {cA : Nat → ClassId} {ax am : Nat → Nat} {qo qe N : Nat} {I : sg_St → sg_St → Prop} {Q : State → Prop} {cells slots : Nat} {H : Heap} {locs : List Loc} {ls : Array Slot} {x5 : Int32} {u v : sg_St} {o : Nat → Int64} {od : Nat → UInt64} (hlt : l.stackTraces = false) (C0 : sg_LA p s m meth c b L xs D cA) (hB : ∃ (R : (Nat ⊕ UInt32) × sg_St) (r1 : UInt32) (v1 : sg_St), fX5_liveShare N u = some R ∧ fX6_liveShare N v = some (r1, v1) ∧ sg_Rel I [3] R r1 v1 ∧ (∀ w t, R = (.inr w, t) → vf_n64 (FP.f2d w)) ∧ (∀ t, R = (.inr r1, t) → Op.cmpValue (FP.dcmp (FP.f2d r1) (FP.f2d r1)) .l = 0 ∧ vf_n64 (FP.f2d r1))) (hP : va_P D vwCl (sg_WW cA ax am qo qe u v o od) H) (hD : va_D (fun q : Nat => s.heap.size ≤ q) (sg_WW cA ax am qo qe u v o od)) (hS : va_S (fun q : Nat => s.heap.size ≤ q) s.heap H locs) (hl : lv_has ls 9 [(0, .ref b), (1, .ref (ax 0)), (2, .ref (am 0)), (3, .ref qo), (4, .ref qe), (5, .int x5)]) (hcs : cells + 10 ≤ 649553 ∧ slots + 60 ≤ 7063476) (kk : ∀ (u' v' : sg_St) (o' : Nat → Int64) (od' : Nat → UInt64) (H : Heap) (locs : List Loc) (ls : Array Slot), I u' v' → va_P D vwCl (sg_WW cA ax am qo qe u' v' o' od') H → va_D (fun q : Nat => s.heap.size ≤ q) (sg_WW cA ax am qo qe u' v' o' od') → va_S (fun q : Nat => s.heap.size ≤ q) s.heap H locs → lv_has ls 9 [(0, .ref b), (1, .ref (ax 0)), (2, .ref (am 0)), (3, .ref qo), (4, .ref qe), (5, .int x5)] → W p l e room_1 s m #[Value.ref b] below meth c H locs (cells + 10) (slots + 60) Q (F0 m 2656 ls [])) : W p l e room_1 s m #[Value.ref b] below meth c H locs cells slots Q (F0 m 2525 ls []) := by
  obtain ⟨hx, hb, hr, hml, hown, hts, hX, hbl, hK, hT, hN, hlocks⟩ := C0
  have hA : ∀ q : Nat, s.heap.size ≤ q → (fun q : Nat => s.heap.size ≤ q) q := fun _ h => h
  have hbA : ¬ (fun q : Nat => s.heap.size ≤ q) b := Nat.not_le.mpr hbl
  obtain ⟨R, r1, v1, hf1, hf2, hRel, hnan, hfl⟩ := hB
  have hR9 : ∀ k t, R = (.inl k, t) → k ∈ [3] := fun k t e9 => sg_Rel_in hRel e9
  refine lv_aload_n hx hb dL_law_2525 rfl (lv_at hl 1 rfl) ?_
  refine lv_aload hx hb dL_law_2526 (lv_at hl 4 rfl) ?_
  refine sg_he (vx_runSW (As := [.ref (ax 0), .ref qe]) (rest := []) ⟨hx, hb, hml, hown, hts⟩ (c_L_liveShare l hlt D cA ax qe od N u R hf1 hR9 hnan _) (vx_cwSW (hh := [(0, 8, 11, 138)]) 2 hts gL_law_L_liveShare rfl rfl rfl (by decide +kernel) ⟨Nat.le_of_ble_eq_true rfl, Nat.le_of_ble_eq_true rfl⟩) (sg_preL (w0 := sg_WE cA ax qe u od) hK (hP.sub [1, 2, 3, 4, 5, 6, 7, 8, 9, 10, 11, 12, 13, 14, 15, 16, 17, 18] rfl) (hD.sub [1, 2, 3, 4, 5, 6, 7, 8, 9, 10, 11, 12, 13, 14, 15, 16, 17, 18] (by decide) rfl) hT hN hS hA) rfl rfl hl.1 rfl (lv_room (Nat.le_of_ble_eq_true rfl)) dL_law_2528 ⟨by show cells + 1 ≤ 649553; omega, by show slots + 6 ≤ 7063476; omega⟩) hP hD hS hA (fun r u1 o1 H locs hlp hP hD hS => ?_)
  obtain ⟨hth, hI1, hout⟩ := sg_agree (by decide) hRel hlp
  refine lv_istore (lv' := [(6, .int r), (0, .ref b), (1, .ref (ax 0)), (2, .ref (am 0)), (3, .ref qo), (4, .ref qe), (5, .int x5)]) hx hb dL_law_2531 hl (by decide) rfl (fun ls hl => ?_)
  refine lv_aload_n hx hb dL_law_2533 rfl (lv_at hl 3 rfl) ?_
  refine sg_mf (va_runV (As := []) (rest := []) ⟨hx, hb, hml, hown, hts⟩ (c_X6_liveShare l D cA am N _ _ _ hf2 _) (cwV 0 hts gL_law_X6_liveShare rfl rfl rfl (by decide +kernel) ⟨Nat.le_of_ble_eq_true rfl, Nat.le_of_ble_eq_true rfl⟩) (sg_pre (Wf := sg_WM cA am) hK (hP.sub [19, 20, 21, 22, 23, 24, 25, 26, 27, 28, 29, 30, 31, 32, 33, 34, 35, 36, 37, 38] rfl) (hD.sub [19, 20, 21, 22, 23, 24, 25, 26, 27, 28, 29, 30, 31, 32, 33, 34, 35, 36, 37, 38] (by decide) rfl) (ci := 8) (q0 := 0) rfl rfl) rfl rfl hl.1 rfl (lv_room (Nat.le_of_ble_eq_true rfl)) dL_law_2534 ⟨by show cells + 1 + 0 ≤ 649553; omega, by show slots + 6 + 0 ≤ 7063476; omega⟩) hP hD hS hA (fun H locs hP hD hS => ?_)
  refine lv_fstore (lv' := [(7, .float r1), (6, .int r), (0, .ref b), (1, .ref (ax 0)), (2, .ref (am 0)), (3, .ref qo), (4, .ref qe), (5, .int x5)]) hx hb dL_law_2537 hl (by decide) rfl (fun ls hl => ?_)
  refine lv_aload_n hx hb dL_law_2539 rfl (lv_at hl 4 rfl) ?_
  refine sg_mi (va_runV (As := []) (rest := []) ⟨hx, hb, hml, hown, hts⟩ (c_X6_thrown l D cA am N v1 (v1 0 0) rfl _) (cwV 0 hts gL_law_X6_thrown rfl rfl rfl (by decide +kernel) ⟨Nat.le_of_ble_eq_true rfl, Nat.le_of_ble_eq_true rfl⟩) (sg_pre (Wf := sg_WM cA am) hK (hP.sub [19, 20, 21, 22, 23, 24, 25, 26, 27, 28, 29, 30, 31, 32, 33, 34, 35, 36, 37, 38] rfl) (hD.sub [19, 20, 21, 22, 23, 24, 25, 26, 27, 28, 29, 30, 31, 32, 33, 34, 35, 36, 37, 38] (by decide) rfl) (ci := 8) (q0 := 0) rfl rfl) rfl rfl hl.1 rfl (lv_room (Nat.le_of_ble_eq_true rfl)) dL_law_2540 ⟨by show cells + 1 + 0 ≤ 649553; omega, by show slots + 6 + 0 ≤ 7063476; omega⟩) hP hD hS hA (fun H locs hP hD hS => ?_)
  refine lv_iload hx hb dL_law_2543 (lv_at hl 1 rfl) ?_
  refine lv_icmp_eq (tgt := 2550) hx hb dL_law_2545 (by decide) (fun _ => ?_) (fun hz3 => absurd hth hz3)
  refine lv_iload hx hb dL_law_2550 (lv_at hl 1 rfl) ?_
  refine lv_if_ne (tgt := 2588) hx hb dL_law_2552 (by decide) (fun hr0 => ?_) (fun hr0 => ?_)
  · refine lv_goto (tgt := 2656) hx hb dL_law_2588 (by decide) ?_
    refine W.widen (k := cells + 10) (n := slots + 60) (by omega) (by omega) ?_
    exact kk _ _ _ _ _ _ _ hI1 hP hD hS (lv_sub hl [2, 3, 4, 5, 6, 7] rfl)
  · obtain ⟨ho, hRr⟩ := hout hr0
    subst ho
    obtain ⟨hdc, hnf⟩ := hfl _ hRr
    refine lv_aload hx hb dL_law_2555 (lv_at hl 6 rfl) ?_
    refine lv_iconst (v := 0) hx hb dL_law_2557 (by decide) ?_
    refine va_dald hx hb hK.1 hP 1 3 rfl rfl (sg_inb_s (i := 0) (n := 1) (by decide)) dL_law_2558 ?_
    refine lv_fload hx hb dL_law_2559 (lv_at hl 0 rfl) ?_
    refine lv_f2d hx hb dL_law_2561 hnf ?_
    refine lv_dcmp hx hb dL_law_2562 ?_
    refine lv_if_eq (tgt := 2588) hx hb dL_law_2563 (by decide) (fun _ => ?_) (fun hz4 => absurd hdc hz4)
    refine lv_goto (tgt := 2656) hx hb dL_law_2588 (by decide) ?_
    refine W.widen (k := cells + 10) (n := slots + 60) (by omega) (by omega) ?_
    exact kk _ _ _ _ _ _ _ hI1 hP hD hS (lv_sub hl [2, 3, 4, 5, 6, 7] rfl)
set_option maxRecDepth 100000 in
set_option maxHeartbeats 4000000 in
theorem lw_case45 {p : Program} {l : Launch} {e : Env} {s : State} {m : MethodId} {below : List Frame} {meth : Method} {c : Code} {b L : Nat} {xs : Nat → Int32} {D : va_G} {cA : Nat → ClassId} {ax am : Nat → Nat} {qo qe N : Nat} {I : sg_St → sg_St → Prop} {Q : State → Prop} {cells slots : Nat} {H : Heap} {locs : List Loc} {ls : Array Slot} {x5 : Int32} {u v : sg_St} {o : Nat → Int64} {od : Nat → UInt64} (hlt : l.stackTraces = false) (C0 : sg_LA p s m meth c b L xs D cA) (hB : ∃ (R : (Nat ⊕ UInt64) × sg_St) (r1 : UInt64) (v1 : sg_St), fX5_meanCurrent N u = some R ∧ fX6_meanCurrent N v = some (r1, v1) ∧ sg_Rel I [3] R r1 v1 ∧ (∀ t, R = (.inr r1, t) → Op.cmpValue (FP.dcmp r1 r1) .l = 0 ∧ True)) (hP : va_P D vwCl (sg_WW cA ax am qo qe u v o od) H) (hD : va_D (fun q : Nat => s.heap.size ≤ q) (sg_WW cA ax am qo qe u v o od)) (hS : va_S (fun q : Nat => s.heap.size ≤ q) s.heap H locs) (hl : lv_has ls 9 [(0, .ref b), (1, .ref (ax 0)), (2, .ref (am 0)), (3, .ref qo), (4, .ref qe), (5, .int x5)]) (hcs : cells + 10 ≤ 649553 ∧ slots + 60 ≤ 7063476) (kk : ∀ (u' v' : sg_St) (o' : Nat → Int64) (od' : Nat → UInt64) (H : Heap) (locs : List Loc) (ls : Array Slot), I u' v' → va_P D vwCl (sg_WW cA ax am qo qe u' v' o' od') H → va_D (fun q : Nat => s.heap.size ≤ q) (sg_WW cA ax am qo qe u' v' o' od') → va_S (fun q : Nat => s.heap.size ≤ q) s.heap H locs → lv_has ls 9 [(0, .ref b), (1, .ref (ax 0)), (2, .ref (am 0)), (3, .ref qo), (4, .ref qe), (5, .int x5)] → W p l e room_1 s m #[Value.ref b] below meth c H locs (cells + 10) (slots + 60) Q (F0 m 2656 ls [])) : W p l e room_1 s m #[Value.ref b] below meth c H locs cells slots Q (F0 m 2591 ls []) := by
  obtain ⟨hx, hb, hr, hml, hown, hts, hX, hbl, hK, hT, hN, hlocks⟩ := C0
  have hA : ∀ q : Nat, s.heap.size ≤ q → (fun q : Nat => s.heap.size ≤ q) q := fun _ h => h
  have hbA : ¬ (fun q : Nat => s.heap.size ≤ q) b := Nat.not_le.mpr hbl
  obtain ⟨R, r1, v1, hf1, hf2, hRel, hfl⟩ := hB
  have hR9 : ∀ k t, R = (.inl k, t) → k ∈ [3] := fun k t e9 => sg_Rel_in hRel e9
  refine lv_aload_n hx hb dL_law_2591 rfl (lv_at hl 1 rfl) ?_
  refine lv_aload hx hb dL_law_2592 (lv_at hl 4 rfl) ?_
  refine sg_he (vx_runSW (As := [.ref (ax 0), .ref qe]) (rest := []) ⟨hx, hb, hml, hown, hts⟩ (c_L_meanCurrent l hlt D cA ax qe od N u R hf1 hR9 _) (vx_cwSW (hh := [(0, 7, 10, 138)]) 2 hts gL_law_L_meanCurrent rfl rfl rfl (by decide +kernel) ⟨Nat.le_of_ble_eq_true rfl, Nat.le_of_ble_eq_true rfl⟩) (sg_preL (w0 := sg_WE cA ax qe u od) hK (hP.sub [1, 2, 3, 4, 5, 6, 7, 8, 9, 10, 11, 12, 13, 14, 15, 16, 17, 18] rfl) (hD.sub [1, 2, 3, 4, 5, 6, 7, 8, 9, 10, 11, 12, 13, 14, 15, 16, 17, 18] (by decide) rfl) hT hN hS hA) rfl rfl hl.1 rfl (lv_room (Nat.le_of_ble_eq_true rfl)) dL_law_2594 ⟨by show cells + 1 ≤ 649553; omega, by show slots + 6 ≤ 7063476; omega⟩) hP hD hS hA (fun r u1 o1 H locs hlp hP hD hS => ?_)
  obtain ⟨hth, hI1, hout⟩ := sg_agree (by decide) hRel hlp
  refine lv_istore (lv' := [(6, .int r), (0, .ref b), (1, .ref (ax 0)), (2, .ref (am 0)), (3, .ref qo), (4, .ref qe), (5, .int x5)]) hx hb dL_law_2597 hl (by decide) rfl (fun ls hl => ?_)
  refine lv_aload_n hx hb dL_law_2599 rfl (lv_at hl 3 rfl) ?_
  refine sg_md (va_runV (As := []) (rest := []) ⟨hx, hb, hml, hown, hts⟩ (c_X6_meanCurrent l D cA am N _ _ _ hf2 _) (cwV 0 hts gL_law_X6_meanCurrent rfl rfl rfl (by decide +kernel) ⟨Nat.le_of_ble_eq_true rfl, Nat.le_of_ble_eq_true rfl⟩) (sg_pre (Wf := sg_WM cA am) hK (hP.sub [19, 20, 21, 22, 23, 24, 25, 26, 27, 28, 29, 30, 31, 32, 33, 34, 35, 36, 37, 38] rfl) (hD.sub [19, 20, 21, 22, 23, 24, 25, 26, 27, 28, 29, 30, 31, 32, 33, 34, 35, 36, 37, 38] (by decide) rfl) (ci := 8) (q0 := 0) rfl rfl) rfl rfl hl.1 rfl (lv_room (Nat.le_of_ble_eq_true rfl)) dL_law_2600 ⟨by show cells + 1 + 0 ≤ 649553; omega, by show slots + 6 + 0 ≤ 7063476; omega⟩) hP hD hS hA (fun H locs hP hD hS => ?_)
  refine lv_dstore (lv' := [(7, .double r1), (6, .int r), (0, .ref b), (1, .ref (ax 0)), (2, .ref (am 0)), (3, .ref qo), (4, .ref qe), (5, .int x5)]) hx hb dL_law_2603 hl (by decide) rfl (fun ls hl => ?_)
  refine lv_aload_n hx hb dL_law_2605 rfl (lv_at hl 4 rfl) ?_
  refine sg_mi (va_runV (As := []) (rest := []) ⟨hx, hb, hml, hown, hts⟩ (c_X6_thrown l D cA am N v1 (v1 0 0) rfl _) (cwV 0 hts gL_law_X6_thrown rfl rfl rfl (by decide +kernel) ⟨Nat.le_of_ble_eq_true rfl, Nat.le_of_ble_eq_true rfl⟩) (sg_pre (Wf := sg_WM cA am) hK (hP.sub [19, 20, 21, 22, 23, 24, 25, 26, 27, 28, 29, 30, 31, 32, 33, 34, 35, 36, 37, 38] rfl) (hD.sub [19, 20, 21, 22, 23, 24, 25, 26, 27, 28, 29, 30, 31, 32, 33, 34, 35, 36, 37, 38] (by decide) rfl) (ci := 8) (q0 := 0) rfl rfl) rfl rfl hl.1 rfl (lv_room (Nat.le_of_ble_eq_true rfl)) dL_law_2606 ⟨by show cells + 1 + 0 ≤ 649553; omega, by show slots + 6 + 0 ≤ 7063476; omega⟩) hP hD hS hA (fun H locs hP hD hS => ?_)
  refine lv_iload hx hb dL_law_2609 (lv_at hl 1 rfl) ?_
  refine lv_icmp_eq (tgt := 2616) hx hb dL_law_2611 (by decide) (fun _ => ?_) (fun hz3 => absurd hth hz3)
  refine lv_iload hx hb dL_law_2616 (lv_at hl 1 rfl) ?_
  refine lv_if_ne (tgt := 2653) hx hb dL_law_2618 (by decide) (fun hr0 => ?_) (fun hr0 => ?_)
  · refine lv_goto (tgt := 2656) hx hb dL_law_2653 (by decide) ?_
    refine W.widen (k := cells + 10) (n := slots + 60) (by omega) (by omega) ?_
    exact kk _ _ _ _ _ _ _ hI1 hP hD hS (lv_sub hl [2, 3, 4, 5, 6, 7] rfl)
  · obtain ⟨ho, hRr⟩ := hout hr0
    subst ho
    obtain ⟨hdc, hnf⟩ := hfl _ hRr
    refine lv_aload hx hb dL_law_2621 (lv_at hl 6 rfl) ?_
    refine lv_iconst (v := 0) hx hb dL_law_2623 (by decide) ?_
    refine va_dald hx hb hK.1 hP 1 3 rfl rfl (sg_inb_s (i := 0) (n := 1) (by decide)) dL_law_2624 ?_
    refine lv_dload hx hb dL_law_2625 (lv_at hl 0 rfl) ?_
    refine lv_dcmp hx hb dL_law_2627 ?_
    refine lv_if_eq (tgt := 2653) hx hb dL_law_2628 (by decide) (fun _ => ?_) (fun hz4 => absurd hdc hz4)
    refine lv_goto (tgt := 2656) hx hb dL_law_2653 (by decide) ?_
    refine W.widen (k := cells + 10) (n := slots + 60) (by omega) (by omega) ?_
    exact kk _ _ _ _ _ _ _ hI1 hP hD hS (lv_sub hl [2, 3, 4, 5, 6, 7] rfl)
