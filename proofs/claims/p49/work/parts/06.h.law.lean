set_option maxRecDepth 100000 in
set_option maxHeartbeats 16000000 in
theorem c_L_law {p : Program} {l : Launch} {e : Env} {s : State} {m : MethodId} {below : List Frame} {meth : Method} {c : Code} {b L : Nat} {xs : Nat → Int32} {D : va_G} {cA : Nat → ClassId} {ad : Nat → Nat} {x0 x1 x2 : Nat} {Q : State → Prop} {H : Heap} {locs : List Loc} {ls : Array Slot} (hlt : l.stackTraces = false) (N : Nat) (C0 : sg_LA p s m meth c b L xs D cA) (u w : sg_St) (p2 p3 : Int32) (u9 : sg_St) (hf : fL_law N L xs u w p2 p3 = some (1, u9)) (hP : va_P D vwCl (sg_WX cA ad u ++ sg_X3 cA x0 x1 x2 w) H) (hD : va_D (fun q : Nat => s.heap.size ≤ q) (sg_WX cA ad u ++ sg_X3 cA x0 x1 x2 w)) (hS : va_S (fun q : Nat => s.heap.size ≤ q) s.heap H locs) (hl : lv_has ls 21 [(0, .ref b), (1, .ref (ad 0)), (2, .int p2), (3, .int p3), (4, .int 0), (5, .int 1), (6, .ref x0), (7, .ref x1), (8, .ref x2)]) (kend : ∀ (u w : sg_St) (H : Heap) (locs : List Loc) (ls : Array Slot), va_P D vwCl (sg_WX cA ad u ++ sg_X3 cA x0 x1 x2 w) H → va_D (fun q : Nat => s.heap.size ≤ q) (sg_WX cA ad u ++ sg_X3 cA x0 x1 x2 w) → va_S (fun q : Nat => s.heap.size ≤ q) s.heap H locs → W p l e room_1 s m #[Value.ref b] below meth c H locs 44887 269730 Q (F0 m 1172 ls [.int 1])) : W p l e room_1 s m #[Value.ref b] below meth c H locs 20 204 Q (F0 m 51 ls []) := by
  obtain ⟨hx, hb, hr, hml, hown, hts, hX, hbl, hK, hT, hN, hlocks⟩ := C0
  have hA : ∀ q : Nat, s.heap.size ≤ q → (fun q : Nat => s.heap.size ≤ q) q := fun _ h => h
  have hbA : ¬ (fun q : Nat => s.heap.size ≤ q) b := Nat.not_le.mpr hbl
  have hL57 : ∀ (v2 : Int32) (v3 : Int32) (v4 : Int32), ∀ (n : Nat) (x : sg_St × (sg_St) × Int32 × Int32 × Int32) (r9x : sg_St × (sg_St) × Int32 × Int32), sg_it (fun x => fL_law_L57 N L xs x.1 x.2.1 v2 v3 v4 x.2.2.1 x.2.2.2.1 x.2.2.2.2) n x = some r9x → ∀ kc kz KE ZE : Nat, kc + n * 2 ≤ KE → kz + n * 12 ≤ ZE → KE ≤ 961653 → ZE ≤ 6208136 → ∀ (H : Heap) (locs : List Loc) (ls : Array Slot), va_P D vwCl (sg_WX cA ad x.1 ++ (sg_X3 cA x0 x1 x2 x.2.1)) H → va_D (fun q : Nat => s.heap.size ≤ q) (sg_WX cA ad x.1 ++ (sg_X3 cA x0 x1 x2 x.2.1)) → va_S (fun q : Nat => s.heap.size ≤ q) s.heap H locs → lv_has ls 21 [(0, .ref b), (1, .ref (ad 0)), (2, .int v2), (3, .int v3), (4, .int v4), (5, .int x.2.2.1), (6, .ref x0), (7, .ref x1), (8, .ref x2), (9, .int x.2.2.2.1), (10, .int x.2.2.2.2)] → (∀ (H : Heap) (locs : List Loc) (ls : Array Slot), va_P D vwCl (sg_WX cA ad r9x.1 ++ (sg_X3 cA x0 x1 x2 r9x.2.1)) H → va_D (fun q : Nat => s.heap.size ≤ q) (sg_WX cA ad r9x.1 ++ (sg_X3 cA x0 x1 x2 r9x.2.1)) → va_S (fun q : Nat => s.heap.size ≤ q) s.heap H locs → lv_has ls 21 [(0, .ref b), (1, .ref (ad 0)), (2, .int v2), (3, .int v3), (4, .int v4), (5, .int r9x.2.2.1), (6, .ref x0), (7, .ref x1), (8, .ref x2), (9, .int r9x.2.2.2)] → W p l e room_1 s m #[Value.ref b] below meth c H locs KE ZE Q (F0 m 113 ls [])) → W p l e room_1 s m #[Value.ref b] below meth c H locs kc kz Q (F0 m 57 ls []) := by
    intro v2 v3 v4
    refine sg_loopN _ ?_
    intro n x y r9x hf hI hy kc kz KE ZE hKn hZn hKR hZR H locs ls hP hD hS hl hk
    replace hf : fL_law_L57 N L xs x.1 x.2.1 v2 v3 v4 x.2.2.1 x.2.2.2.1 x.2.2.2.2 = some y := hf
    have hJ101 : ∀ (u : sg_St) (w : sg_St) (v9 : Int32) (v10 : Int32) (k0 : Int32) (k1 : Int32) (H : Heap) (locs : List Loc) (ls : Array Slot), fL_law_j101 N L xs u w v2 v3 v4 v9 v10 k0 k1 = some y → va_P D vwCl (sg_WX cA ad u ++ (sg_X3 cA x0 x1 x2 w)) H → va_D (fun q : Nat => s.heap.size ≤ q) (sg_WX cA ad u ++ (sg_X3 cA x0 x1 x2 w)) → va_S (fun q : Nat => s.heap.size ≤ q) s.heap H locs → lv_has ls 21 [(0, .ref b), (1, .ref (ad 0)), (2, .int v2), (3, .int v3), (4, .int v4), (6, .ref x0), (7, .ref x1), (8, .ref x2), (9, .int v9), (10, .int v10)] → W p l e room_1 s m #[Value.ref b] below meth c H locs (kc + 2) (kz + 12) Q (F0 m 101 ls [.int k1, .int k0]) := by
      intro u w v9 v10 k0 k1 H locs ls hf hP hD hS hl
      unfold fL_law_j101 at hf
      refine lv_iand hx hb dL_law_101 ?_
      refine lv_istore (lv' := [(5, .int (k0 &&& k1)), (0, .ref b), (1, .ref (ad 0)), (2, .int v2), (3, .int v3), (4, .int v4), (6, .ref x0), (7, .ref x1), (8, .ref x2), (9, .int v9), (10, .int v10)]) hx hb dL_law_102 hl (by decide) rfl (fun ls hl => ?_)
      refine lv_iinc (v := v9 + 1) (lv' := [(9, .int (v9 + 1)), (5, .int (k0 &&& k1)), (0, .ref b), (1, .ref (ad 0)), (2, .int v2), (3, .int v3), (4, .int v4), (6, .ref x0), (7, .ref x1), (8, .ref x2), (10, .int v10)]) hx hb dL_law_104 hl (k := 9) rfl rfl (by decide) rfl (fun ls hl => ?_)
      refine lv_iinc (v := v10 + 1) (lv' := [(10, .int (v10 + 1)), (9, .int (v9 + 1)), (5, .int (k0 &&& k1)), (0, .ref b), (1, .ref (ad 0)), (2, .int v2), (3, .int v3), (4, .int v4), (6, .ref x0), (7, .ref x1), (8, .ref x2)]) hx hb dL_law_107 hl (k := 10) rfl rfl (by decide) rfl (fun ls hl => ?_)
      refine lv_goto (tgt := 57) hx hb dL_law_110 (by decide) ?_
      refine W.widen (k := kc + 2) (n := kz + 12) (by omega) (by omega) ?_
      exact hI _ (Option.some.inj hf).symm (kc + 2) (kz + 12) KE ZE (by omega) (by omega) hKR hZR _ _ _ hP hD hS (lv_sub hl [3, 4, 5, 6, 7, 2, 8, 9, 10, 1, 0] rfl) hk
    unfold fL_law_L57 at hf
    refine lv_iload hx hb dL_law_57 (lv_at hl 10 rfl) ?_
    refine lv_iload_n hx hb dL_law_59 rfl (lv_at hl 2 rfl) ?_
    refine lv_icmp_ge (tgt := 113) hx hb dL_law_60 (by decide) (fun c9 => ?_) (fun c9 => ?_)
    · have hf := sg_ip c9 hf
      have hq := hy _ (Option.some.inj hf).symm
      subst hq
      refine W.widen (k := KE) (n := ZE) (by omega) (by omega) ?_
      exact hk _ _ _ hP hD hS (lv_sub hl [0, 1, 2, 3, 4, 5, 6, 7, 8, 9] rfl)
    · have hf := sg_in c9 hf
      refine lv_aload hx hb dL_law_63 (lv_at hl 6 rfl) ?_
      refine lv_iload hx hb dL_law_65 (lv_at hl 10 rfl) ?_
      refine lv_bipush (v := 40) hx hb dL_law_67 (by decide) ?_
      refine lv_aload_n hx hb dL_law_69 rfl (lv_at hl 0 rfl) ?_
      refine lv_iload hx hb dL_law_70 (lv_at hl 9 rfl) ?_
      refine lv_sipush (v := 200) hx hb dL_law_72 (by decide) ?_
      obtain ⟨r1, hc2, hf⟩ := sg_b_s hf
      refine sg_si (va_runS (As := [.ref b, .int x.2.2.2.1, .int 200]) (rest := [.int 40, .int x.2.2.2.2, .ref x0]) ⟨hx, hb, hml, hown, hts⟩ (c_L_pick l D b L xs _ _ _ hc2 _) (va_cwS 3 hts gL_law_L_pick rfl rfl rfl (by decide +kernel) ⟨Nat.le_of_ble_eq_true rfl, Nat.le_of_ble_eq_true rfl⟩) (sg_preP hX hbl hbA hS) rfl rfl hl.1 rfl (lv_room (Nat.le_of_ble_eq_true rfl)) dL_law_75 ⟨by show kc + 0 + 0 ≤ 961653; omega, by show kz + 0 + 0 ≤ 6208136; omega⟩) hP hS hA (fun H locs hP hS => ?_)
      refine lv_iadd hx hb dL_law_78 ?_
      obtain ⟨hg3, hf⟩ := sg_g_s hf
      refine va_iast hx hb hK.1 hP hD hS 17 0 rfl rfl (sg_inb_s hg3) dL_law_79 (fun H locs hP hD hS => ?_)
      replace hP : va_P D vwCl (sg_WX cA ad x.1 ++ (sg_X3 cA x0 x1 x2 (sg_set x.2.1 0 (x.2.2.2.2).toNatClampNeg (40 + r1)))) H := by rw [← sg_X3_0]; exact hP
      replace hD : va_D (fun q : Nat => s.heap.size ≤ q) (sg_WX cA ad x.1 ++ (sg_X3 cA x0 x1 x2 (sg_set x.2.1 0 (x.2.2.2.2).toNatClampNeg (40 + r1)))) := by rw [← sg_X3_0]; exact hD
      refine lv_iload hx hb dL_law_80 (lv_at hl 5 rfl) ?_
      refine lv_aload_n hx hb dL_law_82 rfl (lv_at hl 1 rfl) ?_
      refine lv_aload hx hb dL_law_83 (lv_at hl 6 rfl) ?_
      refine lv_iload hx hb dL_law_85 (lv_at hl 10 rfl) ?_
      obtain ⟨hg4, hf⟩ := sg_g_s hf
      refine va_iald hx hb hK.1 hP 17 0 rfl rfl (sg_inb_s hg4) dL_law_87 ?_
      obtain ⟨r5, u7, hc6, hf⟩ := sg_b2_s hf
      refine sg_li (Wf := sg_WX cA ad) (vx_runSW (hh := [(0, 5, 6, 20), (0, 5, 10, 22)]) (As := [.ref (ad 0), .int (((sg_set x.2.1 0 (x.2.2.2.2).toNatClampNeg (40 + r1)) 0) (x.2.2.2.2).toNatClampNeg)]) (rest := [.int x.2.2.1]) ⟨hx, hb, hml, hown, hts⟩ (c_L_addSource l hlt D cA ad N _ _ _ _ hc6 _) (vx_cwSW (hh := [(0, 5, 6, 20), (0, 5, 10, 22)]) 2 hts gL_law_L_addSource rfl rfl rfl (by decide +kernel) ⟨Nat.le_of_ble_eq_true rfl, Nat.le_of_ble_eq_true rfl⟩) (sg_preL (w0 := sg_WX cA ad x.1) hK (sg_Pl hP) (sg_Dl hD) hT hN hS hA) rfl rfl hl.1 rfl (lv_room (Nat.le_of_ble_eq_true rfl)) dL_law_88 ⟨by show kc + 0 + 2 ≤ 961653; omega, by show kz + 0 + 12 ≤ 6208136; omega⟩) hP hD hS hA (fun H locs hP hD hS => ?_)
      refine lv_iload hx hb dL_law_91 (lv_at hl 10 rfl) ?_
      refine lv_icmp_ne (tgt := 100) hx hb dL_law_93 (by decide) (fun c8 => ?_) (fun c8 => ?_)
      · have hf := sg_in c8 hf
        refine lv_iconst (v := 0) hx hb dL_law_100 (by decide) ?_
        exact hJ101 _ _ _ _ _ _ _ _ _ hf hP hD hS (lv_sub hl [0, 1, 2, 3, 4, 6, 7, 8, 9, 10] rfl)
      · have hf := sg_ip c8 hf
        refine lv_iconst (v := 1) hx hb dL_law_96 (by decide) ?_
        refine lv_goto (tgt := 101) hx hb dL_law_97 (by decide) ?_
        exact hJ101 _ _ _ _ _ _ _ _ _ hf hP hD hS (lv_sub hl [0, 1, 2, 3, 4, 6, 7, 8, 9, 10] rfl)
  have hL116 : ∀ (v2 : Int32) (v3 : Int32) (v4 : Int32), ∀ (n : Nat) (x : sg_St × (sg_St) × Int32 × Int32 × Int32) (r9x : sg_St × (sg_St) × Int32 × Int32), sg_it (fun x => fL_law_L116 N L xs x.1 x.2.1 v2 v3 v4 x.2.2.1 x.2.2.2.1 x.2.2.2.2) n x = some r9x → ∀ kc kz KE ZE : Nat, kc + n * 3 ≤ KE → kz + n * 18 ≤ ZE → KE ≤ 961653 → ZE ≤ 6208136 → ∀ (H : Heap) (locs : List Loc) (ls : Array Slot), va_P D vwCl (sg_WX cA ad x.1 ++ (sg_X3 cA x0 x1 x2 x.2.1)) H → va_D (fun q : Nat => s.heap.size ≤ q) (sg_WX cA ad x.1 ++ (sg_X3 cA x0 x1 x2 x.2.1)) → va_S (fun q : Nat => s.heap.size ≤ q) s.heap H locs → lv_has ls 21 [(0, .ref b), (1, .ref (ad 0)), (2, .int v2), (3, .int v3), (4, .int v4), (5, .int x.2.2.1), (6, .ref x0), (7, .ref x1), (8, .ref x2), (9, .int x.2.2.2.1), (10, .int x.2.2.2.2)] → (∀ (H : Heap) (locs : List Loc) (ls : Array Slot), va_P D vwCl (sg_WX cA ad r9x.1 ++ (sg_X3 cA x0 x1 x2 r9x.2.1)) H → va_D (fun q : Nat => s.heap.size ≤ q) (sg_WX cA ad r9x.1 ++ (sg_X3 cA x0 x1 x2 r9x.2.1)) → va_S (fun q : Nat => s.heap.size ≤ q) s.heap H locs → lv_has ls 21 [(0, .ref b), (1, .ref (ad 0)), (2, .int v2), (3, .int v3), (4, .int v4), (5, .int r9x.2.2.1), (6, .ref x0), (7, .ref x1), (8, .ref x2), (9, .int r9x.2.2.2)] → W p l e room_1 s m #[Value.ref b] below meth c H locs KE ZE Q (F0 m 170 ls [])) → W p l e room_1 s m #[Value.ref b] below meth c H locs kc kz Q (F0 m 116 ls []) := by
    intro v2 v3 v4
    refine sg_loopN _ ?_
    intro n x y r9x hf hI hy kc kz KE ZE hKn hZn hKR hZR H locs ls hP hD hS hl hk
    replace hf : fL_law_L116 N L xs x.1 x.2.1 v2 v3 v4 x.2.2.1 x.2.2.2.1 x.2.2.2.2 = some y := hf
    have hJ158 : ∀ (u : sg_St) (w : sg_St) (v9 : Int32) (v10 : Int32) (k0 : Int32) (k1 : Int32) (H : Heap) (locs : List Loc) (ls : Array Slot), fL_law_j158 N L xs u w v2 v3 v4 v9 v10 k0 k1 = some y → va_P D vwCl (sg_WX cA ad u ++ (sg_X3 cA x0 x1 x2 w)) H → va_D (fun q : Nat => s.heap.size ≤ q) (sg_WX cA ad u ++ (sg_X3 cA x0 x1 x2 w)) → va_S (fun q : Nat => s.heap.size ≤ q) s.heap H locs → lv_has ls 21 [(0, .ref b), (1, .ref (ad 0)), (2, .int v2), (3, .int v3), (4, .int v4), (6, .ref x0), (7, .ref x1), (8, .ref x2), (9, .int v9), (10, .int v10)] → W p l e room_1 s m #[Value.ref b] below meth c H locs (kc + 3) (kz + 18) Q (F0 m 158 ls [.int k1, .int k0]) := by
      intro u w v9 v10 k0 k1 H locs ls hf hP hD hS hl
      unfold fL_law_j158 at hf
      refine lv_iand hx hb dL_law_158 ?_
      refine lv_istore (lv' := [(5, .int (k0 &&& k1)), (0, .ref b), (1, .ref (ad 0)), (2, .int v2), (3, .int v3), (4, .int v4), (6, .ref x0), (7, .ref x1), (8, .ref x2), (9, .int v9), (10, .int v10)]) hx hb dL_law_159 hl (by decide) rfl (fun ls hl => ?_)
      refine lv_iinc (v := v9 + 2) (lv' := [(9, .int (v9 + 2)), (5, .int (k0 &&& k1)), (0, .ref b), (1, .ref (ad 0)), (2, .int v2), (3, .int v3), (4, .int v4), (6, .ref x0), (7, .ref x1), (8, .ref x2), (10, .int v10)]) hx hb dL_law_161 hl (k := 9) rfl rfl (by decide) rfl (fun ls hl => ?_)
      refine lv_iinc (v := v10 + 1) (lv' := [(10, .int (v10 + 1)), (9, .int (v9 + 2)), (5, .int (k0 &&& k1)), (0, .ref b), (1, .ref (ad 0)), (2, .int v2), (3, .int v3), (4, .int v4), (6, .ref x0), (7, .ref x1), (8, .ref x2)]) hx hb dL_law_164 hl (k := 10) rfl rfl (by decide) rfl (fun ls hl => ?_)
      refine lv_goto (tgt := 116) hx hb dL_law_167 (by decide) ?_
      refine W.widen (k := kc + 3) (n := kz + 18) (by omega) (by omega) ?_
      exact hI _ (Option.some.inj hf).symm (kc + 3) (kz + 18) KE ZE (by omega) (by omega) hKR hZR _ _ _ hP hD hS (lv_sub hl [3, 4, 5, 6, 7, 2, 8, 9, 10, 1, 0] rfl) hk
    unfold fL_law_L116 at hf
    refine lv_iload hx hb dL_law_116 (lv_at hl 10 rfl) ?_
    refine lv_iload_n hx hb dL_law_118 rfl (lv_at hl 3 rfl) ?_
    refine lv_icmp_ge (tgt := 170) hx hb dL_law_119 (by decide) (fun c9 => ?_) (fun c9 => ?_)
    · have hf := sg_ip c9 hf
      have hq := hy _ (Option.some.inj hf).symm
      subst hq
      refine W.widen (k := KE) (n := ZE) (by omega) (by omega) ?_
      exact hk _ _ _ hP hD hS (lv_sub hl [0, 1, 2, 3, 4, 5, 6, 7, 8, 9] rfl)
    · have hf := sg_in c9 hf
      refine lv_iload hx hb dL_law_122 (lv_at hl 5 rfl) ?_
      refine lv_aload_n hx hb dL_law_124 rfl (lv_at hl 1 rfl) ?_
      refine lv_aload_n hx hb dL_law_125 rfl (lv_at hl 0 rfl) ?_
      refine lv_iload hx hb dL_law_126 (lv_at hl 9 rfl) ?_
      refine lv_bipush (v := 30) hx hb dL_law_128 (by decide) ?_
      obtain ⟨r1, hc2, hf⟩ := sg_b_s hf
      refine sg_si (va_runS (As := [.ref b, .int x.2.2.2.1, .int 30]) (rest := [.ref (ad 0), .int x.2.2.1]) ⟨hx, hb, hml, hown, hts⟩ (c_L_pick l D b L xs _ _ _ hc2 _) (va_cwS 3 hts gL_law_L_pick rfl rfl rfl (by decide +kernel) ⟨Nat.le_of_ble_eq_true rfl, Nat.le_of_ble_eq_true rfl⟩) (sg_preP hX hbl hbA hS) rfl rfl hl.1 rfl (lv_room (Nat.le_of_ble_eq_true rfl)) dL_law_130 ⟨by show kc + 0 + 0 ≤ 961653; omega, by show kz + 0 + 0 ≤ 6208136; omega⟩) hP hS hA (fun H locs hP hS => ?_)
      refine lv_aload_n hx hb dL_law_133 rfl (lv_at hl 0 rfl) ?_
      refine lv_iload hx hb dL_law_134 (lv_at hl 9 rfl) ?_
      refine lv_iconst (v := 1) hx hb dL_law_136 (by decide) ?_
      refine lv_iadd hx hb dL_law_137 ?_
      refine lv_bipush (v := 10) hx hb dL_law_138 (by decide) ?_
      obtain ⟨r3, hc4, hf⟩ := sg_b_s hf
      refine sg_si (va_runS (As := [.ref b, .int (x.2.2.2.1 + 1), .int 10]) (rest := [.int r1, .ref (ad 0), .int x.2.2.1]) ⟨hx, hb, hml, hown, hts⟩ (c_L_pick l D b L xs _ _ _ hc4 _) (va_cwS 3 hts gL_law_L_pick rfl rfl rfl (by decide +kernel) ⟨Nat.le_of_ble_eq_true rfl, Nat.le_of_ble_eq_true rfl⟩) (sg_preP hX hbl hbA hS) rfl rfl hl.1 rfl (lv_room (Nat.le_of_ble_eq_true rfl)) dL_law_140 ⟨by show kc + 0 + 0 ≤ 961653; omega, by show kz + 0 + 0 ≤ 6208136; omega⟩) hP hS hA (fun H locs hP hS => ?_)
      obtain ⟨r5, u7, hc6, hf⟩ := sg_b2_s hf
      refine sg_li (Wf := sg_WX cA ad) (vx_runSW (hh := [(0, 6, 7, 20), (0, 6, 11, 22)]) (As := [.ref (ad 0), .int r1, .int r3]) (rest := [.int x.2.2.1]) ⟨hx, hb, hml, hown, hts⟩ (c_L_addBus l hlt D cA ad N _ _ _ _ _ hc6 _) (vx_cwSW (hh := [(0, 6, 7, 20), (0, 6, 11, 22)]) 3 hts gL_law_L_addBus rfl rfl rfl (by decide +kernel) ⟨Nat.le_of_ble_eq_true rfl, Nat.le_of_ble_eq_true rfl⟩) (sg_preL (w0 := sg_WX cA ad x.1) hK (sg_Pl hP) (sg_Dl hD) hT hN hS hA) rfl rfl hl.1 rfl (lv_room (Nat.le_of_ble_eq_true rfl)) dL_law_143 ⟨by show kc + 0 + 3 ≤ 961653; omega, by show kz + 0 + 18 ≤ 6208136; omega⟩) hP hD hS hA (fun H locs hP hD hS => ?_)
      refine lv_iload_n hx hb dL_law_146 rfl (lv_at hl 2 rfl) ?_
      refine lv_iload hx hb dL_law_147 (lv_at hl 10 rfl) ?_
      refine lv_iadd hx hb dL_law_149 ?_
      refine lv_icmp_ne (tgt := 157) hx hb dL_law_150 (by decide) (fun c8 => ?_) (fun c8 => ?_)
      · have hf := sg_in c8 hf
        refine lv_iconst (v := 0) hx hb dL_law_157 (by decide) ?_
        exact hJ158 _ _ _ _ _ _ _ _ _ hf hP hD hS (lv_sub hl [0, 1, 2, 3, 4, 6, 7, 8, 9, 10] rfl)
      · have hf := sg_ip c8 hf
        refine lv_iconst (v := 1) hx hb dL_law_153 (by decide) ?_
        refine lv_goto (tgt := 158) hx hb dL_law_154 (by decide) ?_
        exact hJ158 _ _ _ _ _ _ _ _ _ hf hP hD hS (lv_sub hl [0, 1, 2, 3, 4, 6, 7, 8, 9, 10] rfl)
  have hL173 : ∀ (v2 : Int32) (v3 : Int32), ∀ (n : Nat) (x : sg_St × (sg_St) × Int32 × Int32 × Int32 × Int32) (r9x : sg_St × (sg_St) × Int32 × Int32 × Int32), sg_it (fun x => fL_law_L173 N L xs x.1 x.2.1 v2 v3 x.2.2.1 x.2.2.2.1 x.2.2.2.2.1 x.2.2.2.2.2) n x = some r9x → ∀ kc kz KE ZE : Nat, kc + n * 4 ≤ KE → kz + n * 24 ≤ ZE → KE ≤ 961653 → ZE ≤ 6208136 → ∀ (H : Heap) (locs : List Loc) (ls : Array Slot), va_P D vwCl (sg_WX cA ad x.1 ++ (sg_X3 cA x0 x1 x2 x.2.1)) H → va_D (fun q : Nat => s.heap.size ≤ q) (sg_WX cA ad x.1 ++ (sg_X3 cA x0 x1 x2 x.2.1)) → va_S (fun q : Nat => s.heap.size ≤ q) s.heap H locs → lv_has ls 21 [(0, .ref b), (1, .ref (ad 0)), (2, .int v2), (3, .int v3), (4, .int x.2.2.1), (5, .int x.2.2.2.1), (6, .ref x0), (7, .ref x1), (8, .ref x2), (9, .int x.2.2.2.2.1), (10, .int x.2.2.2.2.2)] → (∀ (H : Heap) (locs : List Loc) (ls : Array Slot), va_P D vwCl (sg_WX cA ad r9x.1 ++ (sg_X3 cA x0 x1 x2 r9x.2.1)) H → va_D (fun q : Nat => s.heap.size ≤ q) (sg_WX cA ad r9x.1 ++ (sg_X3 cA x0 x1 x2 r9x.2.1)) → va_S (fun q : Nat => s.heap.size ≤ q) s.heap H locs → lv_has ls 21 [(0, .ref b), (1, .ref (ad 0)), (2, .int v2), (3, .int v3), (4, .int r9x.2.2.1), (5, .int r9x.2.2.2.1), (6, .ref x0), (7, .ref x1), (8, .ref x2), (9, .int r9x.2.2.2.2)] → W p l e room_1 s m #[Value.ref b] below meth c H locs KE ZE Q (F0 m 353 ls [])) → W p l e room_1 s m #[Value.ref b] below meth c H locs kc kz Q (F0 m 173 ls []) := by
    intro v2 v3
    refine sg_loopN _ ?_
    intro n x y r9x hf hI hy kc kz KE ZE hKn hZn hKR hZR H locs ls hP hD hS hl hk
    replace hf : fL_law_L173 N L xs x.1 x.2.1 v2 v3 x.2.2.1 x.2.2.2.1 x.2.2.2.2.1 x.2.2.2.2.2 = some y := hf
    have hJ344 : ∀ (u : sg_St) (w : sg_St) (v4 : Int32) (v5 : Int32) (v9 : Int32) (v10 : Int32) (H : Heap) (locs : List Loc) (ls : Array Slot), fL_law_j344 N L xs u w v2 v3 v4 v5 v9 v10 = some y → va_P D vwCl (sg_WX cA ad u ++ (sg_X3 cA x0 x1 x2 w)) H → va_D (fun q : Nat => s.heap.size ≤ q) (sg_WX cA ad u ++ (sg_X3 cA x0 x1 x2 w)) → va_S (fun q : Nat => s.heap.size ≤ q) s.heap H locs → lv_has ls 21 [(0, .ref b), (1, .ref (ad 0)), (2, .int v2), (3, .int v3), (4, .int v4), (5, .int v5), (6, .ref x0), (7, .ref x1), (8, .ref x2), (9, .int v9), (10, .int v10)] → W p l e room_1 s m #[Value.ref b] below meth c H locs (kc + 4) (kz + 24) Q (F0 m 344 ls []) := by
      intro u w v4 v5 v9 v10 H locs ls hf hP hD hS hl
      unfold fL_law_j344 at hf
      refine lv_iinc (v := v9 + 4) (lv' := [(9, .int (v9 + 4)), (0, .ref b), (1, .ref (ad 0)), (2, .int v2), (3, .int v3), (4, .int v4), (5, .int v5), (6, .ref x0), (7, .ref x1), (8, .ref x2), (10, .int v10)]) hx hb dL_law_344 hl (k := 9) rfl rfl (by decide) rfl (fun ls hl => ?_)
      refine lv_iinc (v := v10 + 1) (lv' := [(10, .int (v10 + 1)), (9, .int (v9 + 4)), (0, .ref b), (1, .ref (ad 0)), (2, .int v2), (3, .int v3), (4, .int v4), (5, .int v5), (6, .ref x0), (7, .ref x1), (8, .ref x2)]) hx hb dL_law_347 hl (k := 10) rfl rfl (by decide) rfl (fun ls hl => ?_)
      refine lv_goto (tgt := 173) hx hb dL_law_350 (by decide) ?_
      refine W.widen (k := kc + 4) (n := kz + 24) (by omega) (by omega) ?_
      exact hI _ (Option.some.inj hf).symm (kc + 4) (kz + 24) KE ZE (by omega) (by omega) hKR hZR _ _ _ hP hD hS (lv_sub hl [2, 3, 4, 5, 6, 7, 8, 9, 10, 1, 0] rfl) hk
    have hJ306 : ∀ (u : sg_St) (w : sg_St) (v4 : Int32) (v9 : Int32) (v10 : Int32) (v11 : Int32) (v12 : Int32) (v13 : Int32) (v14 : Int32) (k0 : Int32) (k1 : Int32) (H : Heap) (locs : List Loc) (ls : Array Slot), fL_law_j306 N L xs u w v2 v3 v4 v9 v10 v11 v12 v13 v14 k0 k1 = some y → va_P D vwCl (sg_WX cA ad u ++ (sg_X3 cA x0 x1 x2 w)) H → va_D (fun q : Nat => s.heap.size ≤ q) (sg_WX cA ad u ++ (sg_X3 cA x0 x1 x2 w)) → va_S (fun q : Nat => s.heap.size ≤ q) s.heap H locs → lv_has ls 21 [(0, .ref b), (1, .ref (ad 0)), (2, .int v2), (3, .int v3), (4, .int v4), (6, .ref x0), (7, .ref x1), (8, .ref x2), (9, .int v9), (10, .int v10), (11, .int v11), (12, .int v12), (13, .int v13), (14, .int v14)] → W p l e room_1 s m #[Value.ref b] below meth c H locs (kc + 4) (kz + 24) Q (F0 m 306 ls [.int k1, .int k0]) := by
      intro u w v4 v9 v10 v11 v12 v13 v14 k0 k1 H locs ls hf hP hD hS hl
      unfold fL_law_j306 at hf
      refine lv_iand hx hb dL_law_306 ?_
      refine lv_istore (lv' := [(5, .int (k0 &&& k1)), (0, .ref b), (1, .ref (ad 0)), (2, .int v2), (3, .int v3), (4, .int v4), (6, .ref x0), (7, .ref x1), (8, .ref x2), (9, .int v9), (10, .int v10), (11, .int v11), (12, .int v12), (13, .int v13), (14, .int v14)]) hx hb dL_law_307 hl (by decide) rfl (fun ls hl => ?_)
      refine lv_iload hx hb dL_law_309 (lv_at hl 14 rfl) ?_
      refine lv_if_lt (tgt := 344) hx hb dL_law_311 (by decide) (fun c4 => ?_) (fun c4 => ?_)
      · have hf := sg_ip c4 hf
        exact hJ344 _ _ _ _ _ _ _ _ _ hf hP hD hS (lv_sub hl [1, 2, 3, 4, 5, 0, 6, 7, 8, 9, 10] rfl)
      · have hf := sg_in c4 hf
        refine lv_aload hx hb dL_law_314 (lv_at hl 7 rfl) ?_
        refine lv_iconst (v := 2) hx hb dL_law_316 (by decide) ?_
        refine lv_iload hx hb dL_law_317 (lv_at hl 5 rfl) ?_
        refine lv_imul hx hb dL_law_319 ?_
        refine lv_iload hx hb dL_law_320 (lv_at hl 11 rfl) ?_
        obtain ⟨hg1, hf⟩ := sg_g_s hf
        refine va_iast hx hb hK.1 hP hD hS 18 0 rfl rfl (sg_inb_s hg1) dL_law_322 (fun H locs hP hD hS => ?_)
        replace hP : va_P D vwCl (sg_WX cA ad u ++ (sg_X3 cA x0 x1 x2 (sg_set w 1 (2 * v4).toNatClampNeg v11))) H := by rw [← sg_X3_1]; exact hP
        replace hD : va_D (fun q : Nat => s.heap.size ≤ q) (sg_WX cA ad u ++ (sg_X3 cA x0 x1 x2 (sg_set w 1 (2 * v4).toNatClampNeg v11))) := by rw [← sg_X3_1]; exact hD
        refine lv_aload hx hb dL_law_323 (lv_at hl 7 rfl) ?_
        refine lv_iconst (v := 2) hx hb dL_law_325 (by decide) ?_
        refine lv_iload hx hb dL_law_326 (lv_at hl 5 rfl) ?_
        refine lv_imul hx hb dL_law_328 ?_
        refine lv_iconst (v := 1) hx hb dL_law_329 (by decide) ?_
        refine lv_iadd hx hb dL_law_330 ?_
        refine lv_iload hx hb dL_law_331 (lv_at hl 12 rfl) ?_
        obtain ⟨hg2, hf⟩ := sg_g_s hf
        refine va_iast hx hb hK.1 hP hD hS 18 0 rfl rfl (sg_inb_s hg2) dL_law_333 (fun H locs hP hD hS => ?_)
        replace hP : va_P D vwCl (sg_WX cA ad u ++ (sg_X3 cA x0 x1 x2 (sg_set (sg_set w 1 (2 * v4).toNatClampNeg v11) 1 ((2 * v4) + 1).toNatClampNeg v12))) H := by rw [← sg_X3_1]; exact hP
        replace hD : va_D (fun q : Nat => s.heap.size ≤ q) (sg_WX cA ad u ++ (sg_X3 cA x0 x1 x2 (sg_set (sg_set w 1 (2 * v4).toNatClampNeg v11) 1 ((2 * v4) + 1).toNatClampNeg v12))) := by rw [← sg_X3_1]; exact hD
        refine lv_aload hx hb dL_law_334 (lv_at hl 8 rfl) ?_
        refine lv_iload hx hb dL_law_336 (lv_at hl 5 rfl) ?_
        refine lv_iload hx hb dL_law_338 (lv_at hl 13 rfl) ?_
        obtain ⟨hg3, hf⟩ := sg_g_s hf
        refine va_iast hx hb hK.1 hP hD hS 19 0 rfl rfl (sg_inb_s hg3) dL_law_340 (fun H locs hP hD hS => ?_)
        replace hP : va_P D vwCl (sg_WX cA ad u ++ (sg_X3 cA x0 x1 x2 (sg_set (sg_set (sg_set w 1 (2 * v4).toNatClampNeg v11) 1 ((2 * v4) + 1).toNatClampNeg v12) 2 (v4).toNatClampNeg v13))) H := by rw [← sg_X3_2]; exact hP
        replace hD : va_D (fun q : Nat => s.heap.size ≤ q) (sg_WX cA ad u ++ (sg_X3 cA x0 x1 x2 (sg_set (sg_set (sg_set w 1 (2 * v4).toNatClampNeg v11) 1 ((2 * v4) + 1).toNatClampNeg v12) 2 (v4).toNatClampNeg v13))) := by rw [← sg_X3_2]; exact hD
        refine lv_iinc (v := v4 + 1) (lv' := [(4, .int (v4 + 1)), (5, .int (k0 &&& k1)), (0, .ref b), (1, .ref (ad 0)), (2, .int v2), (3, .int v3), (6, .ref x0), (7, .ref x1), (8, .ref x2), (9, .int v9), (10, .int v10), (11, .int v11), (12, .int v12), (13, .int v13), (14, .int v14)]) hx hb dL_law_341 hl (k := 5) rfl rfl (by decide) rfl (fun ls hl => ?_)
        exact hJ344 _ _ _ _ _ _ _ _ _ hf hP hD hS (lv_sub hl [2, 3, 4, 5, 0, 1, 6, 7, 8, 9, 10] rfl)
    have hJ265 : ∀ (u : sg_St) (w : sg_St) (v4 : Int32) (v5 : Int32) (v9 : Int32) (v10 : Int32) (v11 : Int32) (v12 : Int32) (v13 : Int32) (k0 : Int32) (k1 : Int32) (k2 : Int32) (k3 : Int32) (H : Heap) (locs : List Loc) (ls : Array Slot), fL_law_j265 N L xs u w v2 v3 v4 v5 v9 v10 v11 v12 v13 k0 k1 k2 k3 = some y → va_P D vwCl (sg_WX cA ad u ++ (sg_X3 cA x0 x1 x2 w)) H → va_D (fun q : Nat => s.heap.size ≤ q) (sg_WX cA ad u ++ (sg_X3 cA x0 x1 x2 w)) → va_S (fun q : Nat => s.heap.size ≤ q) s.heap H locs → lv_has ls 21 [(0, .ref b), (1, .ref (ad 0)), (2, .int v2), (3, .int v3), (4, .int v4), (5, .int v5), (6, .ref x0), (7, .ref x1), (8, .ref x2), (9, .int v9), (10, .int v10), (11, .int v11), (12, .int v12), (13, .int v13)] → W p l e room_1 s m #[Value.ref b] below meth c H locs (kc + 0) (kz + 0) Q (F0 m 265 ls [.int k3, .int k2, .int k1, .int k0, .ref (ad 0)]) := by
      intro u w v4 v5 v9 v10 v11 v12 v13 k0 k1 k2 k3 H locs ls hf hP hD hS hl
      unfold fL_law_j265 at hf
      obtain ⟨r1, u3, hc2, hf⟩ := sg_b2_s hf
      refine sg_li (Wf := sg_WX cA ad) (vx_runSW (hh := [(0, 9, 10, 32), (0, 9, 15, 20), (0, 9, 20, 22)]) (As := [.ref (ad 0), .int k0, .int k1, .int k2, .int k3]) (rest := []) ⟨hx, hb, hml, hown, hts⟩ (c_L_addLine l hlt D cA ad N _ _ _ _ _ _ _ hc2 _) (vx_cwSW (hh := [(0, 9, 10, 32), (0, 9, 15, 20), (0, 9, 20, 22)]) 5 hts gL_law_L_addLine rfl rfl rfl (by decide +kernel) ⟨Nat.le_of_ble_eq_true rfl, Nat.le_of_ble_eq_true rfl⟩) (sg_preL (w0 := sg_WX cA ad u) hK (sg_Pl hP) (sg_Dl hD) hT hN hS hA) rfl rfl hl.1 rfl (lv_room (Nat.le_of_ble_eq_true rfl)) dL_law_265 ⟨by show kc + 0 + 4 ≤ 961653; omega, by show kz + 0 + 24 ≤ 6208136; omega⟩) hP hD hS hA (fun H locs hP hD hS => ?_)
      refine lv_istore (lv' := [(14, .int r1), (0, .ref b), (1, .ref (ad 0)), (2, .int v2), (3, .int v3), (4, .int v4), (5, .int v5), (6, .ref x0), (7, .ref x1), (8, .ref x2), (9, .int v9), (10, .int v10), (11, .int v11), (12, .int v12), (13, .int v13)]) hx hb dL_law_268 hl (by decide) rfl (fun ls hl => ?_)
      refine lv_iload hx hb dL_law_270 (lv_at hl 6 rfl) ?_
      refine lv_iload hx hb dL_law_272 (lv_at hl 12 rfl) ?_
      refine lv_iload hx hb dL_law_274 (lv_at hl 13 rfl) ?_
      refine lv_icmp_ne (tgt := 294) hx hb dL_law_276 (by decide) (fun c6 => ?_) (fun c6 => ?_)
      · have hf := sg_in c6 hf
        refine lv_iload hx hb dL_law_294 (lv_at hl 0 rfl) ?_
        refine lv_iload hx hb dL_law_296 (lv_at hl 5 rfl) ?_
        refine lv_icmp_ne (tgt := 305) hx hb dL_law_298 (by decide) (fun c4 => ?_) (fun c4 => ?_)
        · have hf := sg_in c4 hf
          refine lv_iconst (v := 0) hx hb dL_law_305 (by decide) ?_
          exact hJ306 _ _ _ _ _ _ _ _ _ _ _ _ _ _ hf hP hD hS (lv_sub hl [1, 2, 3, 4, 5, 7, 8, 9, 10, 11, 12, 13, 14, 0] rfl)
        · have hf := sg_ip c4 hf
          refine lv_iconst (v := 1) hx hb dL_law_301 (by decide) ?_
          refine lv_goto (tgt := 306) hx hb dL_law_302 (by decide) ?_
          exact hJ306 _ _ _ _ _ _ _ _ _ _ _ _ _ _ hf hP hD hS (lv_sub hl [1, 2, 3, 4, 5, 7, 8, 9, 10, 11, 12, 13, 14, 0] rfl)
      · have hf := sg_ip c6 hf
        refine lv_iload hx hb dL_law_279 (lv_at hl 0 rfl) ?_
        refine lv_bipush (v := (-78)) hx hb dL_law_281 (by decide) ?_
        refine lv_icmp_ne (tgt := 290) hx hb dL_law_283 (by decide) (fun c5 => ?_) (fun c5 => ?_)
        · have hf := sg_in c5 hf
          refine lv_iconst (v := 0) hx hb dL_law_290 (by decide) ?_
          refine lv_goto (tgt := 306) hx hb dL_law_291 (by decide) ?_
          exact hJ306 _ _ _ _ _ _ _ _ _ _ _ _ _ _ hf hP hD hS (lv_sub hl [1, 2, 3, 4, 5, 7, 8, 9, 10, 11, 12, 13, 14, 0] rfl)
        · have hf := sg_ip c5 hf
          refine lv_iconst (v := 1) hx hb dL_law_286 (by decide) ?_
          refine lv_goto (tgt := 306) hx hb dL_law_287 (by decide) ?_
          exact hJ306 _ _ _ _ _ _ _ _ _ _ _ _ _ _ hf hP hD hS (lv_sub hl [1, 2, 3, 4, 5, 7, 8, 9, 10, 11, 12, 13, 14, 0] rfl)
    have hJ223 : ∀ (u : sg_St) (w : sg_St) (v4 : Int32) (v5 : Int32) (v9 : Int32) (v10 : Int32) (v11 : Int32) (k0 : Int32) (H : Heap) (locs : List Loc) (ls : Array Slot), fL_law_j223 N L xs u w v2 v3 v4 v5 v9 v10 v11 k0 = some y → va_P D vwCl (sg_WX cA ad u ++ (sg_X3 cA x0 x1 x2 w)) H → va_D (fun q : Nat => s.heap.size ≤ q) (sg_WX cA ad u ++ (sg_X3 cA x0 x1 x2 w)) → va_S (fun q : Nat => s.heap.size ≤ q) s.heap H locs → lv_has ls 21 [(0, .ref b), (1, .ref (ad 0)), (2, .int v2), (3, .int v3), (4, .int v4), (5, .int v5), (6, .ref x0), (7, .ref x1), (8, .ref x2), (9, .int v9), (10, .int v10), (11, .int v11)] → W p l e room_1 s m #[Value.ref b] below meth c H locs (kc + 0) (kz + 0) Q (F0 m 223 ls [.int k0]) := by
      intro u w v4 v5 v9 v10 v11 k0 H locs ls hf hP hD hS hl
      unfold fL_law_j223 at hf
      refine lv_istore (lv' := [(12, .int k0), (0, .ref b), (1, .ref (ad 0)), (2, .int v2), (3, .int v3), (4, .int v4), (5, .int v5), (6, .ref x0), (7, .ref x1), (8, .ref x2), (9, .int v9), (10, .int v10), (11, .int v11)]) hx hb dL_law_223 hl (by decide) rfl (fun ls hl => ?_)
      refine lv_bipush (v := 20) hx hb dL_law_225 (by decide) ?_
      refine lv_aload_n hx hb dL_law_227 rfl (lv_at hl 1 rfl) ?_
      refine lv_iload hx hb dL_law_228 (lv_at hl 10 rfl) ?_
      refine lv_iconst (v := 2) hx hb dL_law_230 (by decide) ?_
      refine lv_iadd hx hb dL_law_231 ?_
      refine lv_sipush (v := 150) hx hb dL_law_232 (by decide) ?_
      obtain ⟨r1, hc2, hf⟩ := sg_b_s hf
      refine sg_si (va_runS (As := [.ref b, .int (v9 + 2), .int 150]) (rest := [.int 20]) ⟨hx, hb, hml, hown, hts⟩ (c_L_pick l D b L xs _ _ _ hc2 _) (va_cwS 3 hts gL_law_L_pick rfl rfl rfl (by decide +kernel) ⟨Nat.le_of_ble_eq_true rfl, Nat.le_of_ble_eq_true rfl⟩) (sg_preP hX hbl hbA hS) rfl rfl hl.1 rfl (lv_room (Nat.le_of_ble_eq_true rfl)) dL_law_235 ⟨by show kc + 0 + 0 ≤ 961653; omega, by show kz + 0 + 0 ≤ 6208136; omega⟩) hP hS hA (fun H locs hP hS => ?_)
      refine lv_iadd hx hb dL_law_238 ?_
      refine lv_istore (lv' := [(13, .int (20 + r1)), (12, .int k0), (0, .ref b), (1, .ref (ad 0)), (2, .int v2), (3, .int v3), (4, .int v4), (5, .int v5), (6, .ref x0), (7, .ref x1), (8, .ref x2), (9, .int v9), (10, .int v10), (11, .int v11)]) hx hb dL_law_239 hl (by decide) rfl (fun ls hl => ?_)
      refine lv_aload_n hx hb dL_law_241 rfl (lv_at hl 3 rfl) ?_
      refine lv_iload hx hb dL_law_242 (lv_at hl 13 rfl) ?_
      refine lv_iload hx hb dL_law_244 (lv_at hl 1 rfl) ?_
      refine lv_iload hx hb dL_law_246 (lv_at hl 0 rfl) ?_
      refine lv_aload_n hx hb dL_law_248 rfl (lv_at hl 2 rfl) ?_
      refine lv_iload hx hb dL_law_249 (lv_at hl 11 rfl) ?_
      refine lv_iconst (v := 3) hx hb dL_law_251 (by decide) ?_
      refine lv_iadd hx hb dL_law_252 ?_
      refine lv_iconst (v := 5) hx hb dL_law_253 (by decide) ?_
      obtain ⟨r3, hc4, hf⟩ := sg_b_s hf
      refine sg_si (va_runS (As := [.ref b, .int (v9 + 3), .int 5]) (rest := [.int (20 + r1), .int k0, .int v11, .ref (ad 0)]) ⟨hx, hb, hml, hown, hts⟩ (c_L_pick l D b L xs _ _ _ hc4 _) (va_cwS 3 hts gL_law_L_pick rfl rfl rfl (by decide +kernel) ⟨Nat.le_of_ble_eq_true rfl, Nat.le_of_ble_eq_true rfl⟩) (sg_preP hX hbl hbA hS) rfl rfl hl.1 rfl (lv_room (Nat.le_of_ble_eq_true rfl)) dL_law_254 ⟨by show kc + 0 + 0 ≤ 961653; omega, by show kz + 0 + 0 ≤ 6208136; omega⟩) hP hS hA (fun H locs hP hS => ?_)
      refine lv_if_le (tgt := 264) hx hb dL_law_257 (by decide) (fun c5 => ?_) (fun c5 => ?_)
      · have hf := sg_ip c5 hf
        refine lv_iconst (v := 0) hx hb dL_law_264 (by decide) ?_
        exact hJ265 _ _ _ _ _ _ _ _ _ _ _ _ _ _ _ _ hf hP hD hS (lv_sub hl [2, 3, 4, 5, 6, 7, 8, 9, 10, 11, 12, 13, 1, 0] rfl)
      · have hf := sg_in c5 hf
        refine lv_iconst (v := 1) hx hb dL_law_260 (by decide) ?_
        refine lv_goto (tgt := 265) hx hb dL_law_261 (by decide) ?_
        exact hJ265 _ _ _ _ _ _ _ _ _ _ _ _ _ _ _ _ hf hP hD hS (lv_sub hl [2, 3, 4, 5, 6, 7, 8, 9, 10, 11, 12, 13, 1, 0] rfl)
    unfold fL_law_L173 at hf
    refine lv_iload hx hb dL_law_173 (lv_at hl 10 rfl) ?_
    refine lv_bipush (v := 10) hx hb dL_law_175 (by decide) ?_
    refine lv_icmp_ge (tgt := 353) hx hb dL_law_177 (by decide) (fun c9 => ?_) (fun c9 => ?_)
    · have hf := sg_ip c9 hf
      have hq := hy _ (Option.some.inj hf).symm
      subst hq
      refine W.widen (k := KE) (n := ZE) (by omega) (by omega) ?_
      exact hk _ _ _ hP hD hS (lv_sub hl [0, 1, 2, 3, 4, 5, 6, 7, 8, 9] rfl)
    · have hf := sg_in c9 hf
      refine lv_aload_n hx hb dL_law_180 rfl (lv_at hl 0 rfl) ?_
      refine lv_iload hx hb dL_law_181 (lv_at hl 9 rfl) ?_
      refine lv_iload_n hx hb dL_law_183 rfl (lv_at hl 2 rfl) ?_
      refine lv_iload_n hx hb dL_law_184 rfl (lv_at hl 3 rfl) ?_
      refine lv_iadd hx hb dL_law_185 ?_
      obtain ⟨r1, hc2, hf⟩ := sg_b_s hf
      refine sg_si (va_runS (As := [.ref b, .int x.2.2.2.2.1, .int (v2 + v3)]) (rest := []) ⟨hx, hb, hml, hown, hts⟩ (c_L_pick l D b L xs _ _ _ hc2 _) (va_cwS 3 hts gL_law_L_pick rfl rfl rfl (by decide +kernel) ⟨Nat.le_of_ble_eq_true rfl, Nat.le_of_ble_eq_true rfl⟩) (sg_preP hX hbl hbA hS) rfl rfl hl.1 rfl (lv_room (Nat.le_of_ble_eq_true rfl)) dL_law_186 ⟨by show kc + 0 + 0 ≤ 961653; omega, by show kz + 0 + 0 ≤ 6208136; omega⟩) hP hS hA (fun H locs hP hS => ?_)
      refine lv_istore (lv' := [(11, .int r1), (0, .ref b), (1, .ref (ad 0)), (2, .int v2), (3, .int v3), (4, .int x.2.2.1), (5, .int x.2.2.2.1), (6, .ref x0), (7, .ref x1), (8, .ref x2), (9, .int x.2.2.2.2.1), (10, .int x.2.2.2.2.2)]) hx hb dL_law_189 hl (by decide) rfl (fun ls hl => ?_)
      refine lv_aload_n hx hb dL_law_191 rfl (lv_at hl 1 rfl) ?_
      refine lv_iload hx hb dL_law_192 (lv_at hl 10 rfl) ?_
      refine lv_iconst (v := 2) hx hb dL_law_194 (by decide) ?_
      obtain ⟨r3, hc4, hf⟩ := sg_b_s hf
      refine sg_si (va_runS (As := [.ref b, .int x.2.2.2.2.1, .int 2]) (rest := []) ⟨hx, hb, hml, hown, hts⟩ (c_L_pick l D b L xs _ _ _ hc4 _) (va_cwS 3 hts gL_law_L_pick rfl rfl rfl (by decide +kernel) ⟨Nat.le_of_ble_eq_true rfl, Nat.le_of_ble_eq_true rfl⟩) (sg_preP hX hbl hbA hS) rfl rfl hl.1 rfl (lv_room (Nat.le_of_ble_eq_true rfl)) dL_law_195 ⟨by show kc + 0 + 0 ≤ 961653; omega, by show kz + 0 + 0 ≤ 6208136; omega⟩) hP hS hA (fun H locs hP hS => ?_)
      refine lv_if_ne (tgt := 212) hx hb dL_law_198 (by decide) (fun c8 => ?_) (fun c8 => ?_)
      · have hf := sg_in c8 hf
        refine lv_aload_n hx hb dL_law_212 rfl (lv_at hl 1 rfl) ?_
        refine lv_iload hx hb dL_law_213 (lv_at hl 10 rfl) ?_
        refine lv_iconst (v := 1) hx hb dL_law_215 (by decide) ?_
        refine lv_iadd hx hb dL_law_216 ?_
        refine lv_iload_n hx hb dL_law_217 rfl (lv_at hl 3 rfl) ?_
        refine lv_iload_n hx hb dL_law_218 rfl (lv_at hl 4 rfl) ?_
        refine lv_iadd hx hb dL_law_219 ?_
        obtain ⟨r5, hc6, hf⟩ := sg_b_s hf
        refine sg_si (va_runS (As := [.ref b, .int (x.2.2.2.2.1 + 1), .int (v2 + v3)]) (rest := []) ⟨hx, hb, hml, hown, hts⟩ (c_L_pick l D b L xs _ _ _ hc6 _) (va_cwS 3 hts gL_law_L_pick rfl rfl rfl (by decide +kernel) ⟨Nat.le_of_ble_eq_true rfl, Nat.le_of_ble_eq_true rfl⟩) (sg_preP hX hbl hbA hS) rfl rfl hl.1 rfl (lv_room (Nat.le_of_ble_eq_true rfl)) dL_law_220 ⟨by show kc + 0 + 0 ≤ 961653; omega, by show kz + 0 + 0 ≤ 6208136; omega⟩) hP hS hA (fun H locs hP hS => ?_)
        exact hJ223 _ _ _ _ _ _ _ _ _ _ _ hf hP hD hS (lv_sub hl [1, 2, 3, 4, 5, 6, 7, 8, 9, 10, 11, 0] rfl)
      · have hf := sg_ip c8 hf
        refine lv_iload hx hb dL_law_201 (lv_at hl 0 rfl) ?_
        refine lv_iconst (v := 1) hx hb dL_law_203 (by decide) ?_
        refine lv_iadd hx hb dL_law_204 ?_
        refine lv_iload_n hx hb dL_law_205 rfl (lv_at hl 3 rfl) ?_
        refine lv_iload_n hx hb dL_law_206 rfl (lv_at hl 4 rfl) ?_
        refine lv_iadd hx hb dL_law_207 ?_
        obtain ⟨hg7, hf⟩ := sg_g_s hf
        refine lv_irem hx hb dL_law_208 (of_decide_eq_true hg7) ?_
        refine lv_goto (tgt := 223) hx hb dL_law_209 (by decide) ?_
        exact hJ223 _ _ _ _ _ _ _ _ _ _ _ hf hP hD hS (lv_sub hl [1, 2, 3, 4, 5, 6, 7, 8, 9, 10, 11, 0] rfl)
  have hL356 : ∀ (v2 : Int32) (v3 : Int32) (v4 : Int32), ∀ (n : Nat) (x : sg_St × (sg_St) × Int32 × Int32 × Int32) (r9x : sg_St × (sg_St) × Int32), sg_it (fun x => fL_law_L356 N L xs x.1 x.2.1 v2 v3 v4 x.2.2.1 x.2.2.2.1 x.2.2.2.2) n x = some r9x → ∀ kc kz KE ZE : Nat, kc + n * 553 ≤ KE → kz + n * 3322 ≤ ZE → KE ≤ 961653 → ZE ≤ 6208136 → ∀ (H : Heap) (locs : List Loc) (ls : Array Slot), va_P D vwCl (sg_WX cA ad x.1 ++ (sg_X3 cA x0 x1 x2 x.2.1)) H → va_D (fun q : Nat => s.heap.size ≤ q) (sg_WX cA ad x.1 ++ (sg_X3 cA x0 x1 x2 x.2.1)) → va_S (fun q : Nat => s.heap.size ≤ q) s.heap H locs → lv_has ls 21 [(0, .ref b), (1, .ref (ad 0)), (2, .int v2), (3, .int v3), (4, .int v4), (5, .int x.2.2.1), (6, .ref x0), (7, .ref x1), (8, .ref x2), (9, .int x.2.2.2.1), (10, .int x.2.2.2.2)] → (∀ (H : Heap) (locs : List Loc) (ls : Array Slot), va_P D vwCl (sg_WX cA ad r9x.1 ++ (sg_X3 cA x0 x1 x2 r9x.2.1)) H → va_D (fun q : Nat => s.heap.size ≤ q) (sg_WX cA ad r9x.1 ++ (sg_X3 cA x0 x1 x2 r9x.2.1)) → va_S (fun q : Nat => s.heap.size ≤ q) s.heap H locs → lv_has ls 21 [(5, .int r9x.2.2)] → W p l e room_1 s m #[Value.ref b] below meth c H locs KE ZE Q (F0 m 1170 ls [])) → W p l e room_1 s m #[Value.ref b] below meth c H locs kc kz Q (F0 m 356 ls []) := by
    intro v2 v3 v4
    refine sg_loopN _ ?_
    intro n x y r9x hf hI hy kc kz KE ZE hKn hZn hKR hZR H locs ls hP hD hS hl hk
    replace hf : fL_law_L356 N L xs x.1 x.2.1 v2 v3 v4 x.2.2.1 x.2.2.2.1 x.2.2.2.2 = some y := hf
    have hJ1161 : ∀ (u : sg_St) (w : sg_St) (v9 : Int32) (v10 : Int32) (k0 : Int32) (k1 : Int32) (H : Heap) (locs : List Loc) (ls : Array Slot), fL_law_j1161 N L xs u w v2 v3 v4 v9 v10 k0 k1 = some y → va_P D vwCl (sg_WX cA ad u ++ (sg_X3 cA x0 x1 x2 w)) H → va_D (fun q : Nat => s.heap.size ≤ q) (sg_WX cA ad u ++ (sg_X3 cA x0 x1 x2 w)) → va_S (fun q : Nat => s.heap.size ≤ q) s.heap H locs → lv_has ls 21 [(0, .ref b), (1, .ref (ad 0)), (2, .int v2), (3, .int v3), (4, .int v4), (6, .ref x0), (7, .ref x1), (8, .ref x2), (9, .int v9), (10, .int v10)] → W p l e room_1 s m #[Value.ref b] below meth c H locs (kc + 553) (kz + 3322) Q (F0 m 1161 ls [.int k1, .int k0]) := by
      intro u w v9 v10 k0 k1 H locs ls hf hP hD hS hl
      unfold fL_law_j1161 at hf
      refine lv_iand hx hb dL_law_1161 ?_
      refine lv_istore (lv' := [(5, .int (k0 &&& k1)), (0, .ref b), (1, .ref (ad 0)), (2, .int v2), (3, .int v3), (4, .int v4), (6, .ref x0), (7, .ref x1), (8, .ref x2), (9, .int v9), (10, .int v10)]) hx hb dL_law_1162 hl (by decide) rfl (fun ls hl => ?_)
      refine lv_iinc (v := v10 + 1) (lv' := [(10, .int (v10 + 1)), (5, .int (k0 &&& k1)), (0, .ref b), (1, .ref (ad 0)), (2, .int v2), (3, .int v3), (4, .int v4), (6, .ref x0), (7, .ref x1), (8, .ref x2), (9, .int v9)]) hx hb dL_law_1164 hl (k := 10) rfl rfl (by decide) rfl (fun ls hl => ?_)
      refine lv_goto (tgt := 356) hx hb dL_law_1167 (by decide) ?_
      refine W.widen (k := kc + 553) (n := kz + 3322) (by omega) (by omega) ?_
      exact hI _ (Option.some.inj hf).symm (kc + 553) (kz + 3322) KE ZE (by omega) (by omega) hKR hZR _ _ _ hP hD hS (lv_sub hl [2, 3, 4, 5, 6, 1, 7, 8, 9, 10, 0] rfl) hk
    have hJ1160 : ∀ (u : sg_St) (w : sg_St) (v9 : Int32) (v10 : Int32) (k0 : Int32) (H : Heap) (locs : List Loc) (ls : Array Slot), fL_law_j1160 N L xs u w v2 v3 v4 v9 v10 k0 = some y → va_P D vwCl (sg_WX cA ad u ++ (sg_X3 cA x0 x1 x2 w)) H → va_D (fun q : Nat => s.heap.size ≤ q) (sg_WX cA ad u ++ (sg_X3 cA x0 x1 x2 w)) → va_S (fun q : Nat => s.heap.size ≤ q) s.heap H locs → lv_has ls 21 [(0, .ref b), (1, .ref (ad 0)), (2, .int v2), (3, .int v3), (4, .int v4), (6, .ref x0), (7, .ref x1), (8, .ref x2), (9, .int v9), (10, .int v10)] → W p l e room_1 s m #[Value.ref b] below meth c H locs (kc + 553) (kz + 3322) Q (F0 m 1160 ls [.int k0]) := by
      intro u w v9 v10 k0 H locs ls hf hP hD hS hl
      unfold fL_law_j1160 at hf
      refine lv_iconst (v := 0) hx hb dL_law_1160 (by decide) ?_
      exact hJ1161 _ _ _ _ _ _ _ _ _ hf hP hD hS (lv_sub hl [0, 1, 2, 3, 4, 5, 6, 7, 8, 9] rfl)
    have hJ1141 : ∀ (u : sg_St) (w : sg_St) (v9 : Int32) (v10 : Int32) (k0 : Int32) (H : Heap) (locs : List Loc) (ls : Array Slot), fL_law_j1141 N L xs u w v2 v3 v4 v9 v10 k0 = some y → va_P D vwCl (sg_WX cA ad u ++ (sg_X3 cA x0 x1 x2 w)) H → va_D (fun q : Nat => s.heap.size ≤ q) (sg_WX cA ad u ++ (sg_X3 cA x0 x1 x2 w)) → va_S (fun q : Nat => s.heap.size ≤ q) s.heap H locs → lv_has ls 21 [(0, .ref b), (1, .ref (ad 0)), (2, .int v2), (3, .int v3), (4, .int v4), (6, .ref x0), (7, .ref x1), (8, .ref x2), (9, .int v9), (10, .int v10)] → W p l e room_1 s m #[Value.ref b] below meth c H locs (kc + 159) (kz + 954) Q (F0 m 1141 ls [.int k0]) := by
      intro u w v9 v10 k0 H locs ls hf hP hD hS hl
      unfold fL_law_j1141 at hf
      refine lv_aload_n hx hb dL_law_1141 rfl (lv_at hl 1 rfl) ?_
      refine lv_iload hx hb dL_law_1142 (lv_at hl 4 rfl) ?_
      refine lv_aload hx hb dL_law_1144 (lv_at hl 6 rfl) ?_
      refine lv_aload hx hb dL_law_1146 (lv_at hl 7 rfl) ?_
      refine lv_aload hx hb dL_law_1148 (lv_at hl 5 rfl) ?_
      obtain ⟨r1, u3, hc2, hf⟩ := sg_b2_s hf
      refine sg_lx (Wf := fun z => sg_WX cA ad z ++ sg_X3 cA x0 x1 x2 w) (va_runS (As := [.ref (ad 0), .int v4, .ref x1, .ref x2, .ref x0]) (rest := [.int k0]) ⟨hx, hb, hml, hown, hts⟩ (c_L_isRight l hlt D cA ad x0 x1 x2 N _ _ _ _ _ hc2 _) (va_cwS 5 hts gL_law_L_isRight rfl rfl rfl (by decide +kernel) ⟨Nat.le_of_ble_eq_true rfl, Nat.le_of_ble_eq_true rfl⟩) (sg_preL (w0 := sg_WX cA ad u ++ (sg_X3 cA x0 x1 x2 w)) hK hP hD hT hN hS hA) rfl rfl hl.1 rfl (lv_room (Nat.le_of_ble_eq_true rfl)) dL_law_1150 ⟨by show kc + 159 + 394 ≤ 961653; omega, by show kz + 954 + 2368 ≤ 6208136; omega⟩) hP hD hS hA (fun H locs hP hD hS => ?_)
      refine lv_if_eq (tgt := 1160) hx hb dL_law_1153 (by decide) (fun c4 => ?_) (fun c4 => ?_)
      · have hf := sg_ip c4 hf
        exact hJ1160 _ _ _ _ _ _ _ _ hf hP hD hS (lv_sub hl [0, 1, 2, 3, 4, 5, 6, 7, 8, 9] rfl)
      · have hf := sg_in c4 hf
        refine lv_iconst (v := 1) hx hb dL_law_1156 (by decide) ?_
        refine lv_goto (tgt := 1161) hx hb dL_law_1157 (by decide) ?_
        exact hJ1161 _ _ _ _ _ _ _ _ _ hf hP hD hS (lv_sub hl [0, 1, 2, 3, 4, 5, 6, 7, 8, 9] rfl)
    have hJ1121 : ∀ (u : sg_St) (w : sg_St) (v5 : Int32) (v9 : Int32) (v10 : Int32) (v11 : Int64) (v16 : Int32) (H : Heap) (locs : List Loc) (ls : Array Slot), fL_law_j1121 N L xs u w v2 v3 v4 v5 v9 v10 v11 v16 = some y → va_P D vwCl (sg_WX cA ad u ++ (sg_X3 cA x0 x1 x2 w)) H → va_D (fun q : Nat => s.heap.size ≤ q) (sg_WX cA ad u ++ (sg_X3 cA x0 x1 x2 w)) → va_S (fun q : Nat => s.heap.size ≤ q) s.heap H locs → lv_has ls 21 [(0, .ref b), (1, .ref (ad 0)), (2, .int v2), (3, .int v3), (4, .int v4), (5, .int v5), (6, .ref x0), (7, .ref x1), (8, .ref x2), (9, .int v9), (10, .int v10), (11, .long v11), (16, .int v16)] → W p l e room_1 s m #[Value.ref b] below meth c H locs (kc + 122) (kz + 732) Q (F0 m 1121 ls []) := by
      intro u w v5 v9 v10 v11 v16 H locs ls hf hP hD hS hl
      unfold fL_law_j1121 at hf
      refine lv_iinc (v := v9 + 3) (lv' := [(9, .int (v9 + 3)), (0, .ref b), (1, .ref (ad 0)), (2, .int v2), (3, .int v3), (4, .int v4), (5, .int v5), (6, .ref x0), (7, .ref x1), (8, .ref x2), (10, .int v10), (11, .long v11), (16, .int v16)]) hx hb dL_law_1121 hl (k := 9) rfl rfl (by decide) rfl (fun ls hl => ?_)
      refine lv_iload hx hb dL_law_1124 (lv_at hl 6 rfl) ?_
      refine lv_iload hx hb dL_law_1126 (lv_at hl 12 rfl) ?_
      refine lv_if_eq (tgt := 1141) hx hb dL_law_1128 (by decide) (fun c5 => ?_) (fun c5 => ?_)
      · have hf := sg_ip c5 hf
        refine W.widen (k := kc + 159) (n := kz + 954) (by omega) (by omega) ?_
        exact hJ1141 _ _ _ _ _ _ _ _ hf hP hD hS (lv_sub hl [1, 2, 3, 4, 5, 7, 8, 9, 0, 10] rfl)
      · have hf := sg_in c5 hf
        refine lv_aload_n hx hb dL_law_1131 rfl (lv_at hl 2 rfl) ?_
        obtain ⟨r1, u3, hc2, hf⟩ := sg_b2_s hf
        refine sg_ll (Wf := sg_WX cA ad) (va_runS (As := [.ref (ad 0)]) (rest := [.int v5]) ⟨hx, hb, hml, hown, hts⟩ (c_L_sum l hlt D cA ad N _ _ _ hc2 _) (va_cwS 1 hts gL_law_L_sum rfl rfl rfl (by decide +kernel) ⟨Nat.le_of_ble_eq_true rfl, Nat.le_of_ble_eq_true rfl⟩) (sg_preL (w0 := sg_WX cA ad u) hK (sg_Pl hP) (sg_Dl hD) hT hN hS hA) rfl rfl hl.1 rfl (lv_room (Nat.le_of_ble_eq_true rfl)) dL_law_1132 ⟨by show kc + 122 + 37 ≤ 961653; omega, by show kz + 732 + 222 ≤ 6208136; omega⟩) hP hD hS hA (fun H locs hP hD hS => ?_)
        refine lv_lload hx hb dL_law_1135 (lv_at hl 11 rfl) ?_
        refine W.lcmp hx hb dL_law_1137 ?_
        refine lv_if_ne (tgt := 1160) hx hb dL_law_1138 (by decide) (fun c4 => ?_) (fun c4 => ?_)
        · have hf := sg_in c4 hf
          refine W.widen (k := kc + 553) (n := kz + 3322) (by omega) (by omega) ?_
          exact hJ1160 _ _ _ _ _ _ _ _ hf hP hD hS (lv_sub hl [1, 2, 3, 4, 5, 7, 8, 9, 0, 10] rfl)
        · have hf := sg_ip c4 hf
          exact hJ1141 _ _ _ _ _ _ _ _ hf hP hD hS (lv_sub hl [1, 2, 3, 4, 5, 7, 8, 9, 0, 10] rfl)
    have hJ1119 : ∀ (u : sg_St) (w : sg_St) (v9 : Int32) (v10 : Int32) (v11 : Int64) (v16 : Int32) (k0 : Int32) (H : Heap) (locs : List Loc) (ls : Array Slot), fL_law_j1119 N L xs u w v2 v3 v4 v9 v10 v11 v16 k0 = some y → va_P D vwCl (sg_WX cA ad u ++ (sg_X3 cA x0 x1 x2 w)) H → va_D (fun q : Nat => s.heap.size ≤ q) (sg_WX cA ad u ++ (sg_X3 cA x0 x1 x2 w)) → va_S (fun q : Nat => s.heap.size ≤ q) s.heap H locs → lv_has ls 21 [(0, .ref b), (1, .ref (ad 0)), (2, .int v2), (3, .int v3), (4, .int v4), (6, .ref x0), (7, .ref x1), (8, .ref x2), (9, .int v9), (10, .int v10), (11, .long v11), (16, .int v16)] → W p l e room_1 s m #[Value.ref b] below meth c H locs (kc + 122) (kz + 732) Q (F0 m 1119 ls [.int k0]) := by
      intro u w v9 v10 v11 v16 k0 H locs ls hf hP hD hS hl
      unfold fL_law_j1119 at hf
      refine lv_istore (lv' := [(5, .int k0), (0, .ref b), (1, .ref (ad 0)), (2, .int v2), (3, .int v3), (4, .int v4), (6, .ref x0), (7, .ref x1), (8, .ref x2), (9, .int v9), (10, .int v10), (11, .long v11), (16, .int v16)]) hx hb dL_law_1119 hl (by decide) rfl (fun ls hl => ?_)
      exact hJ1121 _ _ _ _ _ _ _ _ _ _ hf hP hD hS (lv_sub hl [1, 2, 3, 4, 5, 0, 6, 7, 8, 9, 10, 11, 12] rfl)
    have hJ1118 : ∀ (u : sg_St) (w : sg_St) (v9 : Int32) (v10 : Int32) (v11 : Int64) (v16 : Int32) (H : Heap) (locs : List Loc) (ls : Array Slot), fL_law_j1118 N L xs u w v2 v3 v4 v9 v10 v11 v16 = some y → va_P D vwCl (sg_WX cA ad u ++ (sg_X3 cA x0 x1 x2 w)) H → va_D (fun q : Nat => s.heap.size ≤ q) (sg_WX cA ad u ++ (sg_X3 cA x0 x1 x2 w)) → va_S (fun q : Nat => s.heap.size ≤ q) s.heap H locs → lv_has ls 21 [(0, .ref b), (1, .ref (ad 0)), (2, .int v2), (3, .int v3), (4, .int v4), (6, .ref x0), (7, .ref x1), (8, .ref x2), (9, .int v9), (10, .int v10), (11, .long v11), (16, .int v16)] → W p l e room_1 s m #[Value.ref b] below meth c H locs (kc + 122) (kz + 732) Q (F0 m 1118 ls []) := by
      intro u w v9 v10 v11 v16 H locs ls hf hP hD hS hl
      unfold fL_law_j1118 at hf
      refine lv_iconst (v := 0) hx hb dL_law_1118 (by decide) ?_
      exact hJ1119 _ _ _ _ _ _ _ _ _ _ hf hP hD hS (lv_sub hl [0, 1, 2, 3, 4, 5, 6, 7, 8, 9, 10, 11] rfl)
    have hJ1105 : ∀ (u : sg_St) (w : sg_St) (v9 : Int32) (v10 : Int32) (v11 : Int64) (v16 : Int32) (v17 : Int32) (H : Heap) (locs : List Loc) (ls : Array Slot), fL_law_j1105 N L xs u w v2 v3 v4 v9 v10 v11 v16 v17 = some y → va_P D vwCl (sg_WX cA ad u ++ (sg_X3 cA x0 x1 x2 w)) H → va_D (fun q : Nat => s.heap.size ≤ q) (sg_WX cA ad u ++ (sg_X3 cA x0 x1 x2 w)) → va_S (fun q : Nat => s.heap.size ≤ q) s.heap H locs → lv_has ls 21 [(0, .ref b), (1, .ref (ad 0)), (2, .int v2), (3, .int v3), (4, .int v4), (6, .ref x0), (7, .ref x1), (8, .ref x2), (9, .int v9), (10, .int v10), (11, .long v11), (16, .int v16), (17, .int v17)] → W p l e room_1 s m #[Value.ref b] below meth c H locs (kc + 78) (kz + 468) Q (F0 m 1105 ls []) := by
      intro u w v9 v10 v11 v16 v17 H locs ls hf hP hD hS hl
      unfold fL_law_j1105 at hf
      refine lv_aload_n hx hb dL_law_1105 rfl (lv_at hl 1 rfl) ?_
      obtain ⟨r1, u3, hc2, hf⟩ := sg_b2_s hf
      refine sg_li (Wf := sg_WX cA ad) (va_runS (As := [.ref (ad 0)]) (rest := []) ⟨hx, hb, hml, hown, hts⟩ (c_L_value l hlt D cA ad N _ _ _ hc2 _) (va_cwS 1 hts gL_law_L_value rfl rfl rfl (by decide +kernel) ⟨Nat.le_of_ble_eq_true rfl, Nat.le_of_ble_eq_true rfl⟩) (sg_preL (w0 := sg_WX cA ad u) hK (sg_Pl hP) (sg_Dl hD) hT hN hS hA) rfl rfl hl.1 rfl (lv_room (Nat.le_of_ble_eq_true rfl)) dL_law_1106 ⟨by show kc + 78 + 44 ≤ 961653; omega, by show kz + 468 + 264 ≤ 6208136; omega⟩) hP hD hS hA (fun H locs hP hD hS => ?_)
      refine lv_iload hx hb dL_law_1109 (lv_at hl 12 rfl) ?_
      refine lv_icmp_ne (tgt := 1118) hx hb dL_law_1111 (by decide) (fun c4 => ?_) (fun c4 => ?_)
      · have hf := sg_in c4 hf
        exact hJ1118 _ _ _ _ _ _ _ _ _ hf hP hD hS (lv_sub hl [0, 1, 2, 3, 4, 5, 6, 7, 8, 9, 10, 11] rfl)
      · have hf := sg_ip c4 hf
        refine lv_iconst (v := 1) hx hb dL_law_1114 (by decide) ?_
        refine lv_goto (tgt := 1119) hx hb dL_law_1115 (by decide) ?_
        exact hJ1119 _ _ _ _ _ _ _ _ _ _ hf hP hD hS (lv_sub hl [0, 1, 2, 3, 4, 5, 6, 7, 8, 9, 10, 11] rfl)
    have hJ1081 : ∀ (u : sg_St) (w : sg_St) (v9 : Int32) (v10 : Int32) (v11 : Int64) (v16 : Int32) (v17 : Int32) (v18 : Int32) (H : Heap) (locs : List Loc) (ls : Array Slot), fL_law_j1081 N L xs u w v2 v3 v4 v9 v10 v11 v16 v17 v18 = some y → va_P D vwCl (sg_WX cA ad u ++ (sg_X3 cA x0 x1 x2 w)) H → va_D (fun q : Nat => s.heap.size ≤ q) (sg_WX cA ad u ++ (sg_X3 cA x0 x1 x2 w)) → va_S (fun q : Nat => s.heap.size ≤ q) s.heap H locs → lv_has ls 21 [(0, .ref b), (1, .ref (ad 0)), (2, .int v2), (3, .int v3), (4, .int v4), (6, .ref x0), (7, .ref x1), (8, .ref x2), (9, .int v9), (10, .int v10), (11, .long v11), (16, .int v16), (17, .int v17), (18, .int v18)] → W p l e room_1 s m #[Value.ref b] below meth c H locs (kc + 41) (kz + 246) Q (F0 m 1081 ls []) := by
      intro u w v9 v10 v11 v16 v17 v18 H locs ls hf hP hD hS hl
      unfold fL_law_j1081 at hf
      refine lv_aload_n hx hb dL_law_1081 rfl (lv_at hl 1 rfl) ?_
      obtain ⟨r1, u3, hc2, hf⟩ := sg_b2_s hf
      refine sg_lj (va_runV (As := []) (rest := []) ⟨hx, hb, hml, hown, hts⟩ (c_X5_bestValue l D cA ad N _ _ _ hc2 _) (cwV 0 hts gL_law_X5_bestValue rfl rfl rfl (by decide +kernel) ⟨Nat.le_of_ble_eq_true rfl, Nat.le_of_ble_eq_true rfl⟩) (sg_pre (Wf := sg_WX cA ad) hK (sg_Pl hP) (sg_Dl hD) (ci := 7) (q0 := 0) rfl rfl) rfl rfl hl.1 rfl (lv_room (Nat.le_of_ble_eq_true rfl)) dL_law_1082 ⟨by show kc + 41 + 0 ≤ 961653; omega, by show kz + 246 + 0 ≤ 6208136; omega⟩) hP hD hS hA (fun H locs hP hD hS => ?_)
      refine lv_iload hx hb dL_law_1085 (lv_at hl 12 rfl) ?_
      refine lv_icmp_lt (tgt := 1118) hx hb dL_law_1087 (by decide) (fun c9 => ?_) (fun c9 => ?_)
      · have hf := sg_ip c9 hf
        refine W.widen (k := kc + 122) (n := kz + 732) (by omega) (by omega) ?_
        exact hJ1118 _ _ _ _ _ _ _ _ _ hf hP hD hS (lv_sub hl [0, 1, 2, 3, 4, 5, 6, 7, 8, 9, 10, 11] rfl)
      · have hf := sg_in c9 hf
        refine lv_iload hx hb dL_law_1090 (lv_at hl 13 rfl) ?_
        refine lv_if_gt (tgt := 1105) hx hb dL_law_1092 (by decide) (fun c8 => ?_) (fun c8 => ?_)
        · have hf := sg_ip c8 hf
          refine W.widen (k := kc + 78) (n := kz + 468) (by omega) (by omega) ?_
          exact hJ1105 _ _ _ _ _ _ _ _ _ _ hf hP hD hS (lv_sub hl [0, 1, 2, 3, 4, 5, 6, 7, 8, 9, 10, 11, 12] rfl)
        · have hf := sg_in c8 hf
          refine lv_aload_n hx hb dL_law_1095 rfl (lv_at hl 1 rfl) ?_
          obtain ⟨r4, u6, hc5, hf⟩ := sg_b2_s hf
          refine sg_ll (Wf := sg_WX cA ad) (va_runS (As := [.ref (ad 0)]) (rest := []) ⟨hx, hb, hml, hown, hts⟩ (c_L_sum l hlt D cA ad N _ _ _ hc5 _) (va_cwS 1 hts gL_law_L_sum rfl rfl rfl (by decide +kernel) ⟨Nat.le_of_ble_eq_true rfl, Nat.le_of_ble_eq_true rfl⟩) (sg_preL (w0 := sg_WX cA ad u3) hK (sg_Pl hP) (sg_Dl hD) hT hN hS hA) rfl rfl hl.1 rfl (lv_room (Nat.le_of_ble_eq_true rfl)) dL_law_1096 ⟨by show kc + 41 + 37 ≤ 961653; omega, by show kz + 246 + 222 ≤ 6208136; omega⟩) hP hD hS hA (fun H locs hP hD hS => ?_)
          refine lv_lload hx hb dL_law_1099 (lv_at hl 10 rfl) ?_
          refine W.lcmp hx hb dL_law_1101 ?_
          refine lv_if_ne (tgt := 1118) hx hb dL_law_1102 (by decide) (fun c7 => ?_) (fun c7 => ?_)
          · have hf := sg_in c7 hf
            refine W.widen (k := kc + 122) (n := kz + 732) (by omega) (by omega) ?_
            exact hJ1118 _ _ _ _ _ _ _ _ _ hf hP hD hS (lv_sub hl [0, 1, 2, 3, 4, 5, 6, 7, 8, 9, 10, 11] rfl)
          · have hf := sg_ip c7 hf
            exact hJ1105 _ _ _ _ _ _ _ _ _ _ hf hP hD hS (lv_sub hl [0, 1, 2, 3, 4, 5, 6, 7, 8, 9, 10, 11, 12] rfl)
    have hJ1057 : ∀ (u : sg_St) (w : sg_St) (v9 : Int32) (v10 : Int32) (v11 : Int64) (v16 : Int32) (v17 : Int32) (v18 : Int32) (v20 : Int32) (H : Heap) (locs : List Loc) (ls : Array Slot), fL_law_j1057 N L xs u w v2 v3 v4 v9 v10 v11 v16 v17 v18 v20 = some y → va_P D vwCl (sg_WX cA ad u ++ (sg_X3 cA x0 x1 x2 w)) H → va_D (fun q : Nat => s.heap.size ≤ q) (sg_WX cA ad u ++ (sg_X3 cA x0 x1 x2 w)) → va_S (fun q : Nat => s.heap.size ≤ q) s.heap H locs → lv_has ls 21 [(0, .ref b), (1, .ref (ad 0)), (2, .int v2), (3, .int v3), (4, .int v4), (6, .ref x0), (7, .ref x1), (8, .ref x2), (9, .int v9), (10, .int v10), (11, .long v11), (16, .int v16), (17, .int v17), (18, .int v18), (20, .int v20)] → W p l e room_1 s m #[Value.ref b] below meth c H locs (kc + 40) (kz + 240) Q (F0 m 1057 ls []) := by
      intro u w v9 v10 v11 v16 v17 v18 v20 H locs ls hf hP hD hS hl
      unfold fL_law_j1057 at hf
      refine lv_aload_n hx hb dL_law_1057 rfl (lv_at hl 1 rfl) ?_
      obtain ⟨r1, u3, hc2, hf⟩ := sg_b2_s hf
      refine sg_lj (va_runV (As := []) (rest := []) ⟨hx, hb, hml, hown, hts⟩ (c_X5_restore l D cA ad N _ _ _ hc2 _) (cwV 0 hts gL_law_X5_restore rfl rfl rfl (by decide +kernel) ⟨Nat.le_of_ble_eq_true rfl, Nat.le_of_ble_eq_true rfl⟩) (sg_pre (Wf := sg_WX cA ad) hK (sg_Pl hP) (sg_Dl hD) (ci := 7) (q0 := 0) rfl rfl) rfl rfl hl.1 rfl (lv_room (Nat.le_of_ble_eq_true rfl)) dL_law_1058 ⟨by show kc + 40 + 0 ≤ 961653; omega, by show kz + 240 + 0 ≤ 6208136; omega⟩) hP hD hS hA (fun H locs hP hD hS => ?_)
      refine lv_iload hx hb dL_law_1061 (lv_at hl 13 rfl) ?_
      refine lv_icmp_ne (tgt := 1118) hx hb dL_law_1063 (by decide) (fun c9 => ?_) (fun c9 => ?_)
      · have hf := sg_in c9 hf
        refine W.widen (k := kc + 122) (n := kz + 732) (by omega) (by omega) ?_
        exact hJ1118 _ _ _ _ _ _ _ _ _ hf hP hD hS (lv_sub hl [0, 1, 2, 3, 4, 5, 6, 7, 8, 9, 10, 11] rfl)
      · have hf := sg_ip c9 hf
        refine lv_iload hx hb dL_law_1066 (lv_at hl 13 rfl) ?_
        refine lv_if_eq (tgt := 1081) hx hb dL_law_1068 (by decide) (fun c8 => ?_) (fun c8 => ?_)
        · have hf := sg_ip c8 hf
          refine W.widen (k := kc + 41) (n := kz + 246) (by omega) (by omega) ?_
          exact hJ1081 _ _ _ _ _ _ _ _ _ _ _ hf hP hD hS (lv_sub hl [0, 1, 2, 3, 4, 5, 6, 7, 8, 9, 10, 11, 12, 13] rfl)
        · have hf := sg_in c8 hf
          refine lv_aload_n hx hb dL_law_1071 rfl (lv_at hl 1 rfl) ?_
          refine lv_iload hx hb dL_law_1072 (lv_at hl 14 rfl) ?_
          obtain ⟨r4, u6, hc5, hf⟩ := sg_b2_s hf
          refine sg_li (Wf := sg_WX cA ad) (vx_runSW (hh := [(0, 13, 14, 32)]) (As := [.ref (ad 0), .int v20]) (rest := []) ⟨hx, hb, hml, hown, hts⟩ (c_L_isClosed l hlt D cA ad N _ _ _ _ hc5 _) (vx_cwSW (hh := [(0, 13, 14, 32)]) 2 hts gL_law_L_isClosed rfl rfl rfl (by decide +kernel) ⟨Nat.le_of_ble_eq_true rfl, Nat.le_of_ble_eq_true rfl⟩) (sg_preL (w0 := sg_WX cA ad u3) hK (sg_Pl hP) (sg_Dl hD) hT hN hS hA) rfl rfl hl.1 rfl (lv_room (Nat.le_of_ble_eq_true rfl)) dL_law_1074 ⟨by show kc + 40 + 1 ≤ 961653; omega, by show kz + 240 + 6 ≤ 6208136; omega⟩) hP hD hS hA (fun H locs hP hD hS => ?_)
          refine lv_iconst (v := 1) hx hb dL_law_1077 (by decide) ?_
          refine lv_icmp_ne (tgt := 1118) hx hb dL_law_1078 (by decide) (fun c7 => ?_) (fun c7 => ?_)
          · have hf := sg_in c7 hf
            refine W.widen (k := kc + 122) (n := kz + 732) (by omega) (by omega) ?_
            exact hJ1118 _ _ _ _ _ _ _ _ _ hf hP hD hS (lv_sub hl [0, 1, 2, 3, 4, 5, 6, 7, 8, 9, 10, 11] rfl)
          · have hf := sg_ip c7 hf
            exact hJ1081 _ _ _ _ _ _ _ _ _ _ _ hf hP hD hS (lv_sub hl [0, 1, 2, 3, 4, 5, 6, 7, 8, 9, 10, 11, 12, 13] rfl)
    have hJ983 : ∀ (u : sg_St) (w : sg_St) (v9 : Int32) (v10 : Int32) (v11 : Int64) (v13 : Int32) (v17 : Int32) (k0 : Int32) (H : Heap) (locs : List Loc) (ls : Array Slot), fL_law_j983 N L xs u w v2 v3 v4 v9 v10 v11 v13 v17 k0 = some y → va_P D vwCl (sg_WX cA ad u ++ (sg_X3 cA x0 x1 x2 w)) H → va_D (fun q : Nat => s.heap.size ≤ q) (sg_WX cA ad u ++ (sg_X3 cA x0 x1 x2 w)) → va_S (fun q : Nat => s.heap.size ≤ q) s.heap H locs → lv_has ls 21 [(0, .ref b), (1, .ref (ad 0)), (2, .int v2), (3, .int v3), (4, .int v4), (6, .ref x0), (7, .ref x1), (8, .ref x2), (9, .int v9), (10, .int v10), (11, .long v11), (13, .int v13), (17, .int v17)] → W p l e room_1 s m #[Value.ref b] below meth c H locs (kc + 39) (kz + 234) Q (F0 m 983 ls [.int k0]) := by
      intro u w v9 v10 v11 v13 v17 k0 H locs ls hf hP hD hS hl
      unfold fL_law_j983 at hf
      refine lv_istore (lv' := [(16, .int k0), (0, .ref b), (1, .ref (ad 0)), (2, .int v2), (3, .int v3), (4, .int v4), (6, .ref x0), (7, .ref x1), (8, .ref x2), (9, .int v9), (10, .int v10), (11, .long v11), (13, .int v13), (17, .int v17)]) hx hb dL_law_983 hl (by decide) rfl (fun ls hl => ?_)
      refine lv_iload hx hb dL_law_985 (lv_at hl 13 rfl) ?_
      refine lv_if_lt (tgt := 999) hx hb dL_law_987 (by decide) (fun c5 => ?_) (fun c5 => ?_)
      · have hf := sg_ip c5 hf
        refine lv_iconst (v := 1) hx hb dL_law_999 (by decide) ?_
        refine lv_goto (tgt := 1004) hx hb dL_law_1000 (by decide) ?_
        refine lv_istore (lv' := [(5, .int 1), (16, .int k0), (0, .ref b), (1, .ref (ad 0)), (2, .int v2), (3, .int v3), (4, .int v4), (6, .ref x0), (7, .ref x1), (8, .ref x2), (9, .int v9), (10, .int v10), (11, .long v11), (13, .int v13), (17, .int v17)]) hx hb dL_law_1004 hl (by decide) rfl (fun ls hl => ?_)
        refine lv_goto (tgt := 1121) hx hb dL_law_1006 (by decide) ?_
        refine W.widen (k := kc + 122) (n := kz + 732) (by omega) (by omega) ?_
        exact hJ1121 _ _ _ _ _ _ _ _ _ _ hf hP hD hS (lv_sub hl [2, 3, 4, 5, 6, 0, 7, 8, 9, 10, 11, 12, 1] rfl)
      · have hf := sg_in c5 hf
        refine lv_aload_n hx hb dL_law_990 rfl (lv_at hl 2 rfl) ?_
        refine lv_iload hx hb dL_law_991 (lv_at hl 12 rfl) ?_
        obtain ⟨r1, u3, hc2, hf⟩ := sg_b2_s hf
        refine sg_li (Wf := sg_WX cA ad) (vx_runSW (hh := [(0, 13, 14, 32)]) (As := [.ref (ad 0), .int v13]) (rest := []) ⟨hx, hb, hml, hown, hts⟩ (c_L_isLocked l hlt D cA ad N _ _ _ _ hc2 _) (vx_cwSW (hh := [(0, 13, 14, 32)]) 2 hts gL_law_L_isLocked rfl rfl rfl (by decide +kernel) ⟨Nat.le_of_ble_eq_true rfl, Nat.le_of_ble_eq_true rfl⟩) (sg_preL (w0 := sg_WX cA ad u) hK (sg_Pl hP) (sg_Dl hD) hT hN hS hA) rfl rfl hl.1 rfl (lv_room (Nat.le_of_ble_eq_true rfl)) dL_law_993 ⟨by show kc + 39 + 1 ≤ 961653; omega, by show kz + 234 + 6 ≤ 6208136; omega⟩) hP hD hS hA (fun H locs hP hD hS => ?_)
        refine lv_if_ne (tgt := 1003) hx hb dL_law_996 (by decide) (fun c4 => ?_) (fun c4 => ?_)
        · have hf := sg_in c4 hf
          refine lv_iconst (v := 0) hx hb dL_law_1003 (by decide) ?_
          refine lv_istore (lv' := [(5, .int 0), (16, .int k0), (0, .ref b), (1, .ref (ad 0)), (2, .int v2), (3, .int v3), (4, .int v4), (6, .ref x0), (7, .ref x1), (8, .ref x2), (9, .int v9), (10, .int v10), (11, .long v11), (13, .int v13), (17, .int v17)]) hx hb dL_law_1004 hl (by decide) rfl (fun ls hl => ?_)
          refine lv_goto (tgt := 1121) hx hb dL_law_1006 (by decide) ?_
          refine W.widen (k := kc + 122) (n := kz + 732) (by omega) (by omega) ?_
          exact hJ1121 _ _ _ _ _ _ _ _ _ _ hf hP hD hS (lv_sub hl [2, 3, 4, 5, 6, 0, 7, 8, 9, 10, 11, 12, 1] rfl)
        · have hf := sg_ip c4 hf
          refine lv_iconst (v := 1) hx hb dL_law_999 (by decide) ?_
          refine lv_goto (tgt := 1004) hx hb dL_law_1000 (by decide) ?_
          refine lv_istore (lv' := [(5, .int 1), (16, .int k0), (0, .ref b), (1, .ref (ad 0)), (2, .int v2), (3, .int v3), (4, .int v4), (6, .ref x0), (7, .ref x1), (8, .ref x2), (9, .int v9), (10, .int v10), (11, .long v11), (13, .int v13), (17, .int v17)]) hx hb dL_law_1004 hl (by decide) rfl (fun ls hl => ?_)
          refine lv_goto (tgt := 1121) hx hb dL_law_1006 (by decide) ?_
          refine W.widen (k := kc + 122) (n := kz + 732) (by omega) (by omega) ?_
          exact hJ1121 _ _ _ _ _ _ _ _ _ _ hf hP hD hS (lv_sub hl [2, 3, 4, 5, 6, 0, 7, 8, 9, 10, 11, 12, 1] rfl)
    have hJ952 : ∀ (u : sg_St) (w : sg_St) (v9 : Int32) (v10 : Int32) (v11 : Int64) (v16 : Int32) (H : Heap) (locs : List Loc) (ls : Array Slot), fL_law_j952 N L xs u w v2 v3 v4 v9 v10 v11 v16 = some y → va_P D vwCl (sg_WX cA ad u ++ (sg_X3 cA x0 x1 x2 w)) H → va_D (fun q : Nat => s.heap.size ≤ q) (sg_WX cA ad u ++ (sg_X3 cA x0 x1 x2 w)) → va_S (fun q : Nat => s.heap.size ≤ q) s.heap H locs → lv_has ls 21 [(0, .ref b), (1, .ref (ad 0)), (2, .int v2), (3, .int v3), (4, .int v4), (6, .ref x0), (7, .ref x1), (8, .ref x2), (9, .int v9), (10, .int v10), (11, .long v11), (16, .int v16)] → W p l e room_1 s m #[Value.ref b] below meth c H locs (kc + 41) (kz + 246) Q (F0 m 952 ls []) := by
      intro u w v9 v10 v11 v16 H locs ls hf hP hD hS hl
      unfold fL_law_j952 at hf
      refine lv_iconst (v := 0) hx hb dL_law_952 (by decide) ?_
      refine lv_istore (lv' := [(5, .int 0), (0, .ref b), (1, .ref (ad 0)), (2, .int v2), (3, .int v3), (4, .int v4), (6, .ref x0), (7, .ref x1), (8, .ref x2), (9, .int v9), (10, .int v10), (11, .long v11), (16, .int v16)]) hx hb dL_law_953 hl (by decide) rfl (fun ls hl => ?_)
      refine lv_goto (tgt := 1121) hx hb dL_law_955 (by decide) ?_
      refine W.widen (k := kc + 122) (n := kz + 732) (by omega) (by omega) ?_
      exact hJ1121 _ _ _ _ _ _ _ _ _ _ hf hP hD hS (lv_sub hl [1, 2, 3, 4, 5, 0, 6, 7, 8, 9, 10, 11, 12] rfl)
    have hJ895 : ∀ (u : sg_St) (w : sg_St) (v9 : Int32) (v10 : Int32) (v11 : Int64) (v16 : Int32) (H : Heap) (locs : List Loc) (ls : Array Slot), fL_law_j895 N L xs u w v2 v3 v4 v9 v10 v11 v16 = some y → va_P D vwCl (sg_WX cA ad u ++ (sg_X3 cA x0 x1 x2 w)) H → va_D (fun q : Nat => s.heap.size ≤ q) (sg_WX cA ad u ++ (sg_X3 cA x0 x1 x2 w)) → va_S (fun q : Nat => s.heap.size ≤ q) s.heap H locs → lv_has ls 21 [(0, .ref b), (1, .ref (ad 0)), (2, .int v2), (3, .int v3), (4, .int v4), (6, .ref x0), (7, .ref x1), (8, .ref x2), (9, .int v9), (10, .int v10), (11, .long v11), (16, .int v16)] → W p l e room_1 s m #[Value.ref b] below meth c H locs (kc + 44) (kz + 264) Q (F0 m 895 ls []) := by
      intro u w v9 v10 v11 v16 H locs ls hf hP hD hS hl
      unfold fL_law_j895 at hf
      refine lv_iconst (v := 0) hx hb dL_law_895 (by decide) ?_
      refine lv_istore (lv' := [(5, .int 0), (0, .ref b), (1, .ref (ad 0)), (2, .int v2), (3, .int v3), (4, .int v4), (6, .ref x0), (7, .ref x1), (8, .ref x2), (9, .int v9), (10, .int v10), (11, .long v11), (16, .int v16)]) hx hb dL_law_896 hl (by decide) rfl (fun ls hl => ?_)
      refine lv_goto (tgt := 1121) hx hb dL_law_898 (by decide) ?_
      refine W.widen (k := kc + 122) (n := kz + 732) (by omega) (by omega) ?_
      exact hJ1121 _ _ _ _ _ _ _ _ _ _ hf hP hD hS (lv_sub hl [1, 2, 3, 4, 5, 0, 6, 7, 8, 9, 10, 11, 12] rfl)
    have hJ863 : ∀ (u : sg_St) (w : sg_St) (v9 : Int32) (v10 : Int32) (v11 : Int64) (v16 : Int32) (v20 : Int32) (k0 : Int32) (k1 : Int32) (k2 : Int32) (H : Heap) (locs : List Loc) (ls : Array Slot), fL_law_j863 N L xs u w v2 v3 v4 v9 v10 v11 v16 v20 k0 k1 k2 = some y → va_P D vwCl (sg_WX cA ad u ++ (sg_X3 cA x0 x1 x2 w)) H → va_D (fun q : Nat => s.heap.size ≤ q) (sg_WX cA ad u ++ (sg_X3 cA x0 x1 x2 w)) → va_S (fun q : Nat => s.heap.size ≤ q) s.heap H locs → lv_has ls 21 [(0, .ref b), (1, .ref (ad 0)), (2, .int v2), (3, .int v3), (4, .int v4), (6, .ref x0), (7, .ref x1), (8, .ref x2), (9, .int v9), (10, .int v10), (11, .long v11), (16, .int v16), (20, .int v20)] → W p l e room_1 s m #[Value.ref b] below meth c H locs (kc + 42) (kz + 252) Q (F0 m 863 ls [.int k2, .int k1, .int k0]) := by
      intro u w v9 v10 v11 v16 v20 k0 k1 k2 H locs ls hf hP hD hS hl
      unfold fL_law_j863 at hf
      refine lv_iadd hx hb dL_law_863 ?_
      refine lv_icmp_ne (tgt := 895) hx hb dL_law_864 (by decide) (fun c10 => ?_) (fun c10 => ?_)
      · have hf := sg_in c10 hf
        refine W.widen (k := kc + 44) (n := kz + 264) (by omega) (by omega) ?_
        exact hJ895 _ _ _ _ _ _ _ _ _ hf hP hD hS (lv_sub hl [0, 1, 2, 3, 4, 5, 6, 7, 8, 9, 10, 11] rfl)
      · have hf := sg_ip c10 hf
        refine lv_iload hx hb dL_law_867 (lv_at hl 12 rfl) ?_
        refine lv_if_lt (tgt := 891) hx hb dL_law_869 (by decide) (fun c9 => ?_) (fun c9 => ?_)
        · have hf := sg_ip c9 hf
          refine lv_iconst (v := 1) hx hb dL_law_891 (by decide) ?_
          refine lv_goto (tgt := 896) hx hb dL_law_892 (by decide) ?_
          refine lv_istore (lv' := [(5, .int 1), (0, .ref b), (1, .ref (ad 0)), (2, .int v2), (3, .int v3), (4, .int v4), (6, .ref x0), (7, .ref x1), (8, .ref x2), (9, .int v9), (10, .int v10), (11, .long v11), (16, .int v16), (20, .int v20)]) hx hb dL_law_896 hl (by decide) rfl (fun ls hl => ?_)
          refine lv_goto (tgt := 1121) hx hb dL_law_898 (by decide) ?_
          refine W.widen (k := kc + 122) (n := kz + 732) (by omega) (by omega) ?_
          exact hJ1121 _ _ _ _ _ _ _ _ _ _ hf hP hD hS (lv_sub hl [1, 2, 3, 4, 5, 0, 6, 7, 8, 9, 10, 11, 12] rfl)
        · have hf := sg_in c9 hf
          refine lv_aload_n hx hb dL_law_872 rfl (lv_at hl 1 rfl) ?_
          refine lv_iload hx hb dL_law_873 (lv_at hl 12 rfl) ?_
          obtain ⟨r1, u3, hc2, hf⟩ := sg_b2_s hf
          refine sg_li (Wf := sg_WX cA ad) (vx_runSW (hh := [(0, 13, 14, 32)]) (As := [.ref (ad 0), .int v20]) (rest := []) ⟨hx, hb, hml, hown, hts⟩ (c_L_isLocked l hlt D cA ad N _ _ _ _ hc2 _) (vx_cwSW (hh := [(0, 13, 14, 32)]) 2 hts gL_law_L_isLocked rfl rfl rfl (by decide +kernel) ⟨Nat.le_of_ble_eq_true rfl, Nat.le_of_ble_eq_true rfl⟩) (sg_preL (w0 := sg_WX cA ad u) hK (sg_Pl hP) (sg_Dl hD) hT hN hS hA) rfl rfl hl.1 rfl (lv_room (Nat.le_of_ble_eq_true rfl)) dL_law_875 ⟨by show kc + 42 + 1 ≤ 961653; omega, by show kz + 252 + 6 ≤ 6208136; omega⟩) hP hD hS hA (fun H locs hP hD hS => ?_)
          refine lv_iconst (v := 1) hx hb dL_law_878 (by decide) ?_
          refine lv_icmp_ne (tgt := 895) hx hb dL_law_879 (by decide) (fun c8 => ?_) (fun c8 => ?_)
          · have hf := sg_in c8 hf
            refine W.widen (k := kc + 44) (n := kz + 264) (by omega) (by omega) ?_
            exact hJ895 _ _ _ _ _ _ _ _ _ hf hP hD hS (lv_sub hl [0, 1, 2, 3, 4, 5, 6, 7, 8, 9, 10, 11] rfl)
          · have hf := sg_ip c8 hf
            refine lv_aload_n hx hb dL_law_882 rfl (lv_at hl 1 rfl) ?_
            refine lv_iload hx hb dL_law_883 (lv_at hl 12 rfl) ?_
            obtain ⟨r4, u6, hc5, hf⟩ := sg_b2_s hf
            refine sg_li (Wf := sg_WX cA ad) (vx_runSW (hh := [(0, 13, 14, 32)]) (As := [.ref (ad 0), .int v20]) (rest := []) ⟨hx, hb, hml, hown, hts⟩ (c_L_isClosed l hlt D cA ad N _ _ _ _ hc5 _) (vx_cwSW (hh := [(0, 13, 14, 32)]) 2 hts gL_law_L_isClosed rfl rfl rfl (by decide +kernel) ⟨Nat.le_of_ble_eq_true rfl, Nat.le_of_ble_eq_true rfl⟩) (sg_preL (w0 := sg_WX cA ad u3) hK (sg_Pl hP) (sg_Dl hD) hT hN hS hA) rfl rfl hl.1 rfl (lv_room (Nat.le_of_ble_eq_true rfl)) dL_law_885 ⟨by show kc + 43 + 1 ≤ 961653; omega, by show kz + 258 + 6 ≤ 6208136; omega⟩) hP hD hS hA (fun H locs hP hD hS => ?_)
            refine lv_if_ne (tgt := 895) hx hb dL_law_888 (by decide) (fun c7 => ?_) (fun c7 => ?_)
            · have hf := sg_in c7 hf
              exact hJ895 _ _ _ _ _ _ _ _ _ hf hP hD hS (lv_sub hl [0, 1, 2, 3, 4, 5, 6, 7, 8, 9, 10, 11] rfl)
            · have hf := sg_ip c7 hf
              refine lv_iconst (v := 1) hx hb dL_law_891 (by decide) ?_
              refine lv_goto (tgt := 896) hx hb dL_law_892 (by decide) ?_
              refine lv_istore (lv' := [(5, .int 1), (0, .ref b), (1, .ref (ad 0)), (2, .int v2), (3, .int v3), (4, .int v4), (6, .ref x0), (7, .ref x1), (8, .ref x2), (9, .int v9), (10, .int v10), (11, .long v11), (16, .int v16), (20, .int v20)]) hx hb dL_law_896 hl (by decide) rfl (fun ls hl => ?_)
              refine lv_goto (tgt := 1121) hx hb dL_law_898 (by decide) ?_
              refine W.widen (k := kc + 122) (n := kz + 732) (by omega) (by omega) ?_
              exact hJ1121 _ _ _ _ _ _ _ _ _ _ hf hP hD hS (lv_sub hl [1, 2, 3, 4, 5, 0, 6, 7, 8, 9, 10, 11, 12] rfl)
    have hJ802 : ∀ (u : sg_St) (w : sg_St) (v9 : Int32) (v10 : Int32) (v11 : Int64) (v13 : Int32) (v17 : Int32) (v18 : Int32) (v19 : Int32) (v20 : Int32) (k0 : Int32) (H : Heap) (locs : List Loc) (ls : Array Slot), fL_law_j802 N L xs u w v2 v3 v4 v9 v10 v11 v13 v17 v18 v19 v20 k0 = some y → va_P D vwCl (sg_WX cA ad u ++ (sg_X3 cA x0 x1 x2 w)) H → va_D (fun q : Nat => s.heap.size ≤ q) (sg_WX cA ad u ++ (sg_X3 cA x0 x1 x2 w)) → va_S (fun q : Nat => s.heap.size ≤ q) s.heap H locs → lv_has ls 21 [(0, .ref b), (1, .ref (ad 0)), (2, .int v2), (3, .int v3), (4, .int v4), (6, .ref x0), (7, .ref x1), (8, .ref x2), (9, .int v9), (10, .int v10), (11, .long v11), (13, .int v13), (17, .int v17), (18, .int v18), (19, .int v19), (20, .int v20)] → W p l e room_1 s m #[Value.ref b] below meth c H locs (kc + 41) (kz + 246) Q (F0 m 802 ls [.int k0]) := by
      intro u w v9 v10 v11 v13 v17 v18 v19 v20 k0 H locs ls hf hP hD hS hl
      unfold fL_law_j802 at hf
      refine lv_istore (lv' := [(16, .int k0), (0, .ref b), (1, .ref (ad 0)), (2, .int v2), (3, .int v3), (4, .int v4), (6, .ref x0), (7, .ref x1), (8, .ref x2), (9, .int v9), (10, .int v10), (11, .long v11), (13, .int v13), (17, .int v17), (18, .int v18), (19, .int v19), (20, .int v20)]) hx hb dL_law_802 hl (by decide) rfl (fun ls hl => ?_)
      refine lv_iload hx hb dL_law_804 (lv_at hl 0 rfl) ?_
      refine lv_if_eq (tgt := 830) hx hb dL_law_806 (by decide) (fun c12 => ?_) (fun c12 => ?_)
      · have hf := sg_ip c12 hf
        refine lv_iload hx hb dL_law_830 (lv_at hl 16 rfl) ?_
        refine lv_iload hx hb dL_law_832 (lv_at hl 13 rfl) ?_
        refine lv_icmp_ne (tgt := 895) hx hb dL_law_834 (by decide) (fun c9 => ?_) (fun c9 => ?_)
        · have hf := sg_in c9 hf
          refine W.widen (k := kc + 44) (n := kz + 264) (by omega) (by omega) ?_
          exact hJ895 _ _ _ _ _ _ _ _ _ hf hP hD hS (lv_sub hl [1, 2, 3, 4, 5, 6, 7, 8, 9, 10, 11, 0] rfl)
        · have hf := sg_ip c9 hf
          refine lv_aload_n hx hb dL_law_837 rfl (lv_at hl 2 rfl) ?_
          refine lv_iload hx hb dL_law_838 (lv_at hl 12 rfl) ?_
          obtain ⟨r1, u3, hc2, hf⟩ := sg_b2_s hf
          refine sg_li (Wf := sg_WX cA ad) (vx_runSW (hh := [(0, 13, 14, 32)]) (As := [.ref (ad 0), .int v13]) (rest := []) ⟨hx, hb, hml, hown, hts⟩ (c_L_hasFault l hlt D cA ad N _ _ _ _ hc2 _) (vx_cwSW (hh := [(0, 13, 14, 32)]) 2 hts gL_law_L_hasFault rfl rfl rfl (by decide +kernel) ⟨Nat.le_of_ble_eq_true rfl, Nat.le_of_ble_eq_true rfl⟩) (sg_preL (w0 := sg_WX cA ad u) hK (sg_Pl hP) (sg_Dl hD) hT hN hS hA) rfl rfl hl.1 rfl (lv_room (Nat.le_of_ble_eq_true rfl)) dL_law_840 ⟨by show kc + 41 + 1 ≤ 961653; omega, by show kz + 246 + 6 ≤ 6208136; omega⟩) hP hD hS hA (fun H locs hP hD hS => ?_)
          refine lv_iconst (v := 1) hx hb dL_law_843 (by decide) ?_
          refine lv_icmp_ne (tgt := 895) hx hb dL_law_844 (by decide) (fun c8 => ?_) (fun c8 => ?_)
          · have hf := sg_in c8 hf
            refine W.widen (k := kc + 44) (n := kz + 264) (by omega) (by omega) ?_
            exact hJ895 _ _ _ _ _ _ _ _ _ hf hP hD hS (lv_sub hl [1, 2, 3, 4, 5, 6, 7, 8, 9, 10, 11, 0] rfl)
          · have hf := sg_ip c8 hf
            refine lv_aload_n hx hb dL_law_847 rfl (lv_at hl 2 rfl) ?_
            obtain ⟨r4, hc5, hf⟩ := sg_b_s hf
            refine sg_lj (va_runV (As := []) (rest := []) ⟨hx, hb, hml, hown, hts⟩ (c_X5_trips l D cA ad N _ _ hc5 _) (cwV 0 hts gL_law_X5_trips rfl rfl rfl (by decide +kernel) ⟨Nat.le_of_ble_eq_true rfl, Nat.le_of_ble_eq_true rfl⟩) (sg_pre (Wf := sg_WX cA ad) hK (sg_Pl hP) (sg_Dl hD) (ci := 7) (q0 := 0) rfl rfl) rfl rfl hl.1 rfl (lv_room (Nat.le_of_ble_eq_true rfl)) dL_law_848 ⟨by show kc + 42 + 0 ≤ 961653; omega, by show kz + 252 + 0 ≤ 6208136; omega⟩) hP hD hS hA (fun H locs hP hD hS => ?_)
            refine lv_iload hx hb dL_law_851 (lv_at hl 15 rfl) ?_
            refine lv_iload hx hb dL_law_853 (lv_at hl 16 rfl) ?_
            refine lv_if_lt (tgt := 862) hx hb dL_law_855 (by decide) (fun c7 => ?_) (fun c7 => ?_)
            · have hf := sg_ip c7 hf
              refine lv_iconst (v := 0) hx hb dL_law_862 (by decide) ?_
              exact hJ863 _ _ _ _ _ _ _ _ _ _ _ _ _ hf hP hD hS (lv_sub hl [1, 2, 3, 4, 5, 6, 7, 8, 9, 10, 11, 0, 16] rfl)
            · have hf := sg_in c7 hf
              refine lv_iconst (v := 1) hx hb dL_law_858 (by decide) ?_
              refine lv_goto (tgt := 863) hx hb dL_law_859 (by decide) ?_
              exact hJ863 _ _ _ _ _ _ _ _ _ _ _ _ _ hf hP hD hS (lv_sub hl [1, 2, 3, 4, 5, 6, 7, 8, 9, 10, 11, 0, 16] rfl)
      · have hf := sg_in c12 hf
        refine lv_iload hx hb dL_law_809 (lv_at hl 16 rfl) ?_
        refine lv_bipush (v := (-75)) hx hb dL_law_811 (by decide) ?_
        refine lv_icmp_eq (tgt := 822) hx hb dL_law_813 (by decide) (fun c11 => ?_) (fun c11 => ?_)
        · have hf := sg_ip c11 hf
          refine lv_iconst (v := 1) hx hb dL_law_822 (by decide) ?_
          refine lv_goto (tgt := 896) hx hb dL_law_823 (by decide) ?_
          refine lv_istore (lv' := [(5, .int 1), (16, .int k0), (0, .ref b), (1, .ref (ad 0)), (2, .int v2), (3, .int v3), (4, .int v4), (6, .ref x0), (7, .ref x1), (8, .ref x2), (9, .int v9), (10, .int v10), (11, .long v11), (13, .int v13), (17, .int v17), (18, .int v18), (19, .int v19), (20, .int v20)]) hx hb dL_law_896 hl (by decide) rfl (fun ls hl => ?_)
          refine lv_goto (tgt := 1121) hx hb dL_law_898 (by decide) ?_
          refine W.widen (k := kc + 122) (n := kz + 732) (by omega) (by omega) ?_
          exact hJ1121 _ _ _ _ _ _ _ _ _ _ hf hP hD hS (lv_sub hl [2, 3, 4, 5, 6, 0, 7, 8, 9, 10, 11, 12, 1] rfl)
        · have hf := sg_in c11 hf
          refine lv_iload hx hb dL_law_816 (lv_at hl 14 rfl) ?_
          refine lv_iconst (v := 1) hx hb dL_law_818 (by decide) ?_
          refine lv_icmp_ne (tgt := 826) hx hb dL_law_819 (by decide) (fun c10 => ?_) (fun c10 => ?_)
          · have hf := sg_in c10 hf
            refine lv_iconst (v := 0) hx hb dL_law_826 (by decide) ?_
            refine lv_goto (tgt := 896) hx hb dL_law_827 (by decide) ?_
            refine lv_istore (lv' := [(5, .int 0), (16, .int k0), (0, .ref b), (1, .ref (ad 0)), (2, .int v2), (3, .int v3), (4, .int v4), (6, .ref x0), (7, .ref x1), (8, .ref x2), (9, .int v9), (10, .int v10), (11, .long v11), (13, .int v13), (17, .int v17), (18, .int v18), (19, .int v19), (20, .int v20)]) hx hb dL_law_896 hl (by decide) rfl (fun ls hl => ?_)
            refine lv_goto (tgt := 1121) hx hb dL_law_898 (by decide) ?_
            refine W.widen (k := kc + 122) (n := kz + 732) (by omega) (by omega) ?_
            exact hJ1121 _ _ _ _ _ _ _ _ _ _ hf hP hD hS (lv_sub hl [2, 3, 4, 5, 6, 0, 7, 8, 9, 10, 11, 12, 1] rfl)
          · have hf := sg_ip c10 hf
            refine lv_iconst (v := 1) hx hb dL_law_822 (by decide) ?_
            refine lv_goto (tgt := 896) hx hb dL_law_823 (by decide) ?_
            refine lv_istore (lv' := [(5, .int 1), (16, .int k0), (0, .ref b), (1, .ref (ad 0)), (2, .int v2), (3, .int v3), (4, .int v4), (6, .ref x0), (7, .ref x1), (8, .ref x2), (9, .int v9), (10, .int v10), (11, .long v11), (13, .int v13), (17, .int v17), (18, .int v18), (19, .int v19), (20, .int v20)]) hx hb dL_law_896 hl (by decide) rfl (fun ls hl => ?_)
            refine lv_goto (tgt := 1121) hx hb dL_law_898 (by decide) ?_
            refine W.widen (k := kc + 122) (n := kz + 732) (by omega) (by omega) ?_
            exact hJ1121 _ _ _ _ _ _ _ _ _ _ hf hP hD hS (lv_sub hl [2, 3, 4, 5, 6, 0, 7, 8, 9, 10, 11, 12, 1] rfl)
    have hJ713 : ∀ (u : sg_St) (w : sg_St) (v9 : Int32) (v10 : Int32) (v11 : Int64) (v13 : Int32) (v14 : Int32) (k0 : Int32) (k1 : Int32) (k2 : Int32) (k3 : Int32) (H : Heap) (locs : List Loc) (ls : Array Slot), fL_law_j713 N L xs u w v2 v3 v4 v9 v10 v11 v13 v14 k0 k1 k2 k3 = some y → va_P D vwCl (sg_WX cA ad u ++ (sg_X3 cA x0 x1 x2 w)) H → va_D (fun q : Nat => s.heap.size ≤ q) (sg_WX cA ad u ++ (sg_X3 cA x0 x1 x2 w)) → va_S (fun q : Nat => s.heap.size ≤ q) s.heap H locs → lv_has ls 21 [(0, .ref b), (1, .ref (ad 0)), (2, .int v2), (3, .int v3), (4, .int v4), (6, .ref x0), (7, .ref x1), (8, .ref x2), (9, .int v9), (10, .int v10), (11, .long v11), (13, .int v13), (14, .int v14)] → W p l e room_1 s m #[Value.ref b] below meth c H locs (kc + 37) (kz + 222) Q (F0 m 713 ls [.int k3, .int k2, .int k1, .int k0, .ref (ad 0)]) := by
      intro u w v9 v10 v11 v13 v14 k0 k1 k2 k3 H locs ls hf hP hD hS hl
      unfold fL_law_j713 at hf
      obtain ⟨r1, u3, hc2, hf⟩ := sg_b2_s hf
      refine sg_li (Wf := sg_WX cA ad) (vx_runSW (hh := [(0, 9, 10, 32), (0, 9, 15, 20), (0, 9, 20, 37)]) (As := [.ref (ad 0), .int k0, .int k1, .int k2, .int k3]) (rest := []) ⟨hx, hb, hml, hown, hts⟩ (c_L_setRelay l hlt D cA ad N _ _ _ _ _ _ _ hc2 _) (vx_cwSW (hh := [(0, 9, 10, 32), (0, 9, 15, 20), (0, 9, 20, 37)]) 5 hts gL_law_L_setRelay rfl rfl rfl (by decide +kernel) ⟨Nat.le_of_ble_eq_true rfl, Nat.le_of_ble_eq_true rfl⟩) (sg_preL (w0 := sg_WX cA ad u) hK (sg_Pl hP) (sg_Dl hD) hT hN hS hA) rfl rfl hl.1 rfl (lv_room (Nat.le_of_ble_eq_true rfl)) dL_law_713 ⟨by show kc + 37 + 3 ≤ 961653; omega, by show kz + 222 + 18 ≤ 6208136; omega⟩) hP hD hS hA (fun H locs hP hD hS => ?_)
      refine lv_istore (lv' := [(17, .int r1), (0, .ref b), (1, .ref (ad 0)), (2, .int v2), (3, .int v3), (4, .int v4), (6, .ref x0), (7, .ref x1), (8, .ref x2), (9, .int v9), (10, .int v10), (11, .long v11), (13, .int v13), (14, .int v14)]) hx hb dL_law_716 hl (by decide) rfl (fun ls hl => ?_)
      refine lv_iconst (v := 1) hx hb dL_law_718 (by decide) ?_
      refine lv_istore (lv' := [(16, .int 1), (17, .int r1), (0, .ref b), (1, .ref (ad 0)), (2, .int v2), (3, .int v3), (4, .int v4), (6, .ref x0), (7, .ref x1), (8, .ref x2), (9, .int v9), (10, .int v10), (11, .long v11), (13, .int v13), (14, .int v14)]) hx hb dL_law_719 hl (by decide) rfl (fun ls hl => ?_)
      refine lv_iload hx hb dL_law_721 (lv_at hl 1 rfl) ?_
      refine lv_if_lt (tgt := 743) hx hb dL_law_723 (by decide) (fun c9 => ?_) (fun c9 => ?_)
      · have hf := sg_ip c9 hf
        refine lv_iconst (v := 1) hx hb dL_law_743 (by decide) ?_
        refine lv_goto (tgt := 748) hx hb dL_law_744 (by decide) ?_
        refine lv_istore (lv' := [(5, .int 1), (16, .int 1), (17, .int r1), (0, .ref b), (1, .ref (ad 0)), (2, .int v2), (3, .int v3), (4, .int v4), (6, .ref x0), (7, .ref x1), (8, .ref x2), (9, .int v9), (10, .int v10), (11, .long v11), (13, .int v13), (14, .int v14)]) hx hb dL_law_748 hl (by decide) rfl (fun ls hl => ?_)
        refine lv_goto (tgt := 1121) hx hb dL_law_750 (by decide) ?_
        refine W.widen (k := kc + 122) (n := kz + 732) (by omega) (by omega) ?_
        exact hJ1121 _ _ _ _ _ _ _ _ _ _ hf hP hD hS (lv_sub hl [3, 4, 5, 6, 7, 0, 8, 9, 10, 11, 12, 13, 1] rfl)
      · have hf := sg_in c9 hf
        refine lv_aload_n hx hb dL_law_726 rfl (lv_at hl 3 rfl) ?_
        refine lv_iload hx hb dL_law_727 (lv_at hl 13 rfl) ?_
        refine lv_iload hx hb dL_law_729 (lv_at hl 14 rfl) ?_
        refine lv_sipush (v := 500) hx hb dL_law_731 (by decide) ?_
        obtain ⟨hg4, hf⟩ := sg_g_s hf
        refine lv_irem hx hb dL_law_734 (of_decide_eq_true hg4) ?_
        refine lv_iconst (v := 1) hx hb dL_law_735 (by decide) ?_
        refine lv_iadd hx hb dL_law_736 ?_
        obtain ⟨r5, u7, hc6, hf⟩ := sg_b2_s hf
        refine sg_li (Wf := sg_WX cA ad) (vx_runSW (hh := [(0, 6, 7, 32), (0, 6, 11, 20), (0, 6, 15, 37)]) (As := [.ref (ad 0), .int v13, .int ((v14 - v14 / 500 * 500) + 1)]) (rest := []) ⟨hx, hb, hml, hown, hts⟩ (c_L_tripTime l hlt D cA ad N _ _ _ _ _ hc6 _) (vx_cwSW (hh := [(0, 6, 7, 32), (0, 6, 11, 20), (0, 6, 15, 37)]) 3 hts gL_law_L_tripTime rfl rfl rfl (by decide +kernel) ⟨Nat.le_of_ble_eq_true rfl, Nat.le_of_ble_eq_true rfl⟩) (sg_preL (w0 := sg_WX cA ad u3) hK (sg_Pl hP) (sg_Dl hD) hT hN hS hA) rfl rfl hl.1 rfl (lv_room (Nat.le_of_ble_eq_true rfl)) dL_law_737 ⟨by show kc + 40 + 3 ≤ 961653; omega, by show kz + 240 + 18 ≤ 6208136; omega⟩) hP hD hS hA (fun H locs hP hD hS => ?_)
        refine lv_if_le (tgt := 747) hx hb dL_law_740 (by decide) (fun c8 => ?_) (fun c8 => ?_)
        · have hf := sg_ip c8 hf
          refine lv_iconst (v := 0) hx hb dL_law_747 (by decide) ?_
          refine lv_istore (lv' := [(5, .int 0), (16, .int 1), (17, .int r1), (0, .ref b), (1, .ref (ad 0)), (2, .int v2), (3, .int v3), (4, .int v4), (6, .ref x0), (7, .ref x1), (8, .ref x2), (9, .int v9), (10, .int v10), (11, .long v11), (13, .int v13), (14, .int v14)]) hx hb dL_law_748 hl (by decide) rfl (fun ls hl => ?_)
          refine lv_goto (tgt := 1121) hx hb dL_law_750 (by decide) ?_
          refine W.widen (k := kc + 122) (n := kz + 732) (by omega) (by omega) ?_
          exact hJ1121 _ _ _ _ _ _ _ _ _ _ hf hP hD hS (lv_sub hl [3, 4, 5, 6, 7, 0, 8, 9, 10, 11, 12, 13, 1] rfl)
        · have hf := sg_in c8 hf
          refine lv_iconst (v := 1) hx hb dL_law_743 (by decide) ?_
          refine lv_goto (tgt := 748) hx hb dL_law_744 (by decide) ?_
          refine lv_istore (lv' := [(5, .int 1), (16, .int 1), (17, .int r1), (0, .ref b), (1, .ref (ad 0)), (2, .int v2), (3, .int v3), (4, .int v4), (6, .ref x0), (7, .ref x1), (8, .ref x2), (9, .int v9), (10, .int v10), (11, .long v11), (13, .int v13), (14, .int v14)]) hx hb dL_law_748 hl (by decide) rfl (fun ls hl => ?_)
          refine lv_goto (tgt := 1121) hx hb dL_law_750 (by decide) ?_
          refine W.widen (k := kc + 122) (n := kz + 732) (by omega) (by omega) ?_
          exact hJ1121 _ _ _ _ _ _ _ _ _ _ hf hP hD hS (lv_sub hl [3, 4, 5, 6, 7, 0, 8, 9, 10, 11, 12, 13, 1] rfl)
    have hJ667 : ∀ (u : sg_St) (w : sg_St) (v9 : Int32) (v10 : Int32) (v11 : Int64) (v16 : Int32) (H : Heap) (locs : List Loc) (ls : Array Slot), fL_law_j667 N L xs u w v2 v3 v4 v9 v10 v11 v16 = some y → va_P D vwCl (sg_WX cA ad u ++ (sg_X3 cA x0 x1 x2 w)) H → va_D (fun q : Nat => s.heap.size ≤ q) (sg_WX cA ad u ++ (sg_X3 cA x0 x1 x2 w)) → va_S (fun q : Nat => s.heap.size ≤ q) s.heap H locs → lv_has ls 21 [(0, .ref b), (1, .ref (ad 0)), (2, .int v2), (3, .int v3), (4, .int v4), (6, .ref x0), (7, .ref x1), (8, .ref x2), (9, .int v9), (10, .int v10), (11, .long v11), (16, .int v16)] → W p l e room_1 s m #[Value.ref b] below meth c H locs (kc + 43) (kz + 258) Q (F0 m 667 ls []) := by
      intro u w v9 v10 v11 v16 H locs ls hf hP hD hS hl
      unfold fL_law_j667 at hf
      refine lv_iconst (v := 0) hx hb dL_law_667 (by decide) ?_
      refine lv_istore (lv' := [(5, .int 0), (0, .ref b), (1, .ref (ad 0)), (2, .int v2), (3, .int v3), (4, .int v4), (6, .ref x0), (7, .ref x1), (8, .ref x2), (9, .int v9), (10, .int v10), (11, .long v11), (16, .int v16)]) hx hb dL_law_668 hl (by decide) rfl (fun ls hl => ?_)
      refine lv_goto (tgt := 1121) hx hb dL_law_670 (by decide) ?_
      refine W.widen (k := kc + 122) (n := kz + 732) (by omega) (by omega) ?_
      exact hJ1121 _ _ _ _ _ _ _ _ _ _ hf hP hD hS (lv_sub hl [1, 2, 3, 4, 5, 0, 6, 7, 8, 9, 10, 11, 12] rfl)
    have hJ638 : ∀ (u : sg_St) (w : sg_St) (v9 : Int32) (v10 : Int32) (v11 : Int64) (v17 : Int32) (v18 : Int32) (v19 : Int32) (v20 : Int32) (k0 : Int32) (H : Heap) (locs : List Loc) (ls : Array Slot), fL_law_j638 N L xs u w v2 v3 v4 v9 v10 v11 v17 v18 v19 v20 k0 = some y → va_P D vwCl (sg_WX cA ad u ++ (sg_X3 cA x0 x1 x2 w)) H → va_D (fun q : Nat => s.heap.size ≤ q) (sg_WX cA ad u ++ (sg_X3 cA x0 x1 x2 w)) → va_S (fun q : Nat => s.heap.size ≤ q) s.heap H locs → lv_has ls 21 [(0, .ref b), (1, .ref (ad 0)), (2, .int v2), (3, .int v3), (4, .int v4), (6, .ref x0), (7, .ref x1), (8, .ref x2), (9, .int v9), (10, .int v10), (11, .long v11), (17, .int v17), (18, .int v18), (19, .int v19), (20, .int v20)] → W p l e room_1 s m #[Value.ref b] below meth c H locs (kc + 42) (kz + 252) Q (F0 m 638 ls [.int k0]) := by
      intro u w v9 v10 v11 v17 v18 v19 v20 k0 H locs ls hf hP hD hS hl
      unfold fL_law_j638 at hf
      refine lv_istore (lv' := [(16, .int k0), (0, .ref b), (1, .ref (ad 0)), (2, .int v2), (3, .int v3), (4, .int v4), (6, .ref x0), (7, .ref x1), (8, .ref x2), (9, .int v9), (10, .int v10), (11, .long v11), (17, .int v17), (18, .int v18), (19, .int v19), (20, .int v20)]) hx hb dL_law_638 hl (by decide) rfl (fun ls hl => ?_)
      refine lv_iload hx hb dL_law_640 (lv_at hl 15 rfl) ?_
      refine lv_if_lt (tgt := 663) hx hb dL_law_642 (by decide) (fun c6 => ?_) (fun c6 => ?_)
      · have hf := sg_ip c6 hf
        refine lv_iconst (v := 1) hx hb dL_law_663 (by decide) ?_
        refine lv_goto (tgt := 668) hx hb dL_law_664 (by decide) ?_
        refine lv_istore (lv' := [(5, .int 1), (16, .int k0), (0, .ref b), (1, .ref (ad 0)), (2, .int v2), (3, .int v3), (4, .int v4), (6, .ref x0), (7, .ref x1), (8, .ref x2), (9, .int v9), (10, .int v10), (11, .long v11), (17, .int v17), (18, .int v18), (19, .int v19), (20, .int v20)]) hx hb dL_law_668 hl (by decide) rfl (fun ls hl => ?_)
        refine lv_goto (tgt := 1121) hx hb dL_law_670 (by decide) ?_
        refine W.widen (k := kc + 122) (n := kz + 732) (by omega) (by omega) ?_
        exact hJ1121 _ _ _ _ _ _ _ _ _ _ hf hP hD hS (lv_sub hl [2, 3, 4, 5, 6, 0, 7, 8, 9, 10, 11, 12, 1] rfl)
      · have hf := sg_in c6 hf
        refine lv_iload hx hb dL_law_645 (lv_at hl 15 rfl) ?_
        refine lv_iload hx hb dL_law_647 (lv_at hl 14 rfl) ?_
        refine lv_icmp_ne (tgt := 667) hx hb dL_law_649 (by decide) (fun c5 => ?_) (fun c5 => ?_)
        · have hf := sg_in c5 hf
          refine W.widen (k := kc + 43) (n := kz + 258) (by omega) (by omega) ?_
          exact hJ667 _ _ _ _ _ _ _ _ _ hf hP hD hS (lv_sub hl [1, 2, 3, 4, 5, 6, 7, 8, 9, 10, 11, 0] rfl)
        · have hf := sg_ip c5 hf
          refine lv_aload_n hx hb dL_law_652 rfl (lv_at hl 2 rfl) ?_
          refine lv_iload hx hb dL_law_653 (lv_at hl 12 rfl) ?_
          obtain ⟨r1, u3, hc2, hf⟩ := sg_b2_s hf
          refine sg_li (Wf := sg_WX cA ad) (vx_runSW (hh := [(0, 5, 6, 32)]) (As := [.ref (ad 0), .int v17]) (rest := []) ⟨hx, hb, hml, hown, hts⟩ (c_L_loadOf l hlt D cA ad N _ _ _ _ hc2 _) (vx_cwSW (hh := [(0, 5, 6, 32)]) 2 hts gL_law_L_loadOf rfl rfl rfl (by decide +kernel) ⟨Nat.le_of_ble_eq_true rfl, Nat.le_of_ble_eq_true rfl⟩) (sg_preL (w0 := sg_WX cA ad u) hK (sg_Pl hP) (sg_Dl hD) hT hN hS hA) rfl rfl hl.1 rfl (lv_room (Nat.le_of_ble_eq_true rfl)) dL_law_655 ⟨by show kc + 42 + 1 ≤ 961653; omega, by show kz + 252 + 6 ≤ 6208136; omega⟩) hP hD hS hA (fun H locs hP hD hS => ?_)
          refine lv_iload hx hb dL_law_658 (lv_at hl 13 rfl) ?_
          refine lv_icmp_ne (tgt := 667) hx hb dL_law_660 (by decide) (fun c4 => ?_) (fun c4 => ?_)
          · have hf := sg_in c4 hf
            exact hJ667 _ _ _ _ _ _ _ _ _ hf hP hD hS (lv_sub hl [1, 2, 3, 4, 5, 6, 7, 8, 9, 10, 11, 0] rfl)
          · have hf := sg_ip c4 hf
            refine lv_iconst (v := 1) hx hb dL_law_663 (by decide) ?_
            refine lv_goto (tgt := 668) hx hb dL_law_664 (by decide) ?_
            refine lv_istore (lv' := [(5, .int 1), (16, .int k0), (0, .ref b), (1, .ref (ad 0)), (2, .int v2), (3, .int v3), (4, .int v4), (6, .ref x0), (7, .ref x1), (8, .ref x2), (9, .int v9), (10, .int v10), (11, .long v11), (17, .int v17), (18, .int v18), (19, .int v19), (20, .int v20)]) hx hb dL_law_668 hl (by decide) rfl (fun ls hl => ?_)
            refine lv_goto (tgt := 1121) hx hb dL_law_670 (by decide) ?_
            refine W.widen (k := kc + 122) (n := kz + 732) (by omega) (by omega) ?_
            exact hJ1121 _ _ _ _ _ _ _ _ _ _ hf hP hD hS (lv_sub hl [2, 3, 4, 5, 6, 0, 7, 8, 9, 10, 11, 12, 1] rfl)
    have hJ580 : ∀ (u : sg_St) (w : sg_St) (v9 : Int32) (v10 : Int32) (v11 : Int64) (v16 : Int32) (H : Heap) (locs : List Loc) (ls : Array Slot), fL_law_j580 N L xs u w v2 v3 v4 v9 v10 v11 v16 = some y → va_P D vwCl (sg_WX cA ad u ++ (sg_X3 cA x0 x1 x2 w)) H → va_D (fun q : Nat => s.heap.size ≤ q) (sg_WX cA ad u ++ (sg_X3 cA x0 x1 x2 w)) → va_S (fun q : Nat => s.heap.size ≤ q) s.heap H locs → lv_has ls 21 [(0, .ref b), (1, .ref (ad 0)), (2, .int v2), (3, .int v3), (4, .int v4), (6, .ref x0), (7, .ref x1), (8, .ref x2), (9, .int v9), (10, .int v10), (11, .long v11), (16, .int v16)] → W p l e room_1 s m #[Value.ref b] below meth c H locs (kc + 41) (kz + 246) Q (F0 m 580 ls []) := by
      intro u w v9 v10 v11 v16 H locs ls hf hP hD hS hl
      unfold fL_law_j580 at hf
      refine lv_iconst (v := 0) hx hb dL_law_580 (by decide) ?_
      refine lv_istore (lv' := [(5, .int 0), (0, .ref b), (1, .ref (ad 0)), (2, .int v2), (3, .int v3), (4, .int v4), (6, .ref x0), (7, .ref x1), (8, .ref x2), (9, .int v9), (10, .int v10), (11, .long v11), (16, .int v16)]) hx hb dL_law_581 hl (by decide) rfl (fun ls hl => ?_)
      refine lv_goto (tgt := 1121) hx hb dL_law_583 (by decide) ?_
      refine W.widen (k := kc + 122) (n := kz + 732) (by omega) (by omega) ?_
      exact hJ1121 _ _ _ _ _ _ _ _ _ _ hf hP hD hS (lv_sub hl [1, 2, 3, 4, 5, 0, 6, 7, 8, 9, 10, 11, 12] rfl)
    have hJ538 : ∀ (u : sg_St) (w : sg_St) (v9 : Int32) (v10 : Int32) (v11 : Int64) (v13 : Int32) (v17 : Int32) (k0 : Int32) (H : Heap) (locs : List Loc) (ls : Array Slot), fL_law_j538 N L xs u w v2 v3 v4 v9 v10 v11 v13 v17 k0 = some y → va_P D vwCl (sg_WX cA ad u ++ (sg_X3 cA x0 x1 x2 w)) H → va_D (fun q : Nat => s.heap.size ≤ q) (sg_WX cA ad u ++ (sg_X3 cA x0 x1 x2 w)) → va_S (fun q : Nat => s.heap.size ≤ q) s.heap H locs → lv_has ls 21 [(0, .ref b), (1, .ref (ad 0)), (2, .int v2), (3, .int v3), (4, .int v4), (6, .ref x0), (7, .ref x1), (8, .ref x2), (9, .int v9), (10, .int v10), (11, .long v11), (13, .int v13), (17, .int v17)] → W p l e room_1 s m #[Value.ref b] below meth c H locs (kc + 38) (kz + 228) Q (F0 m 538 ls [.int k0]) := by
      intro u w v9 v10 v11 v13 v17 k0 H locs ls hf hP hD hS hl
      unfold fL_law_j538 at hf
      refine lv_istore (lv' := [(16, .int k0), (0, .ref b), (1, .ref (ad 0)), (2, .int v2), (3, .int v3), (4, .int v4), (6, .ref x0), (7, .ref x1), (8, .ref x2), (9, .int v9), (10, .int v10), (11, .long v11), (13, .int v13), (17, .int v17)]) hx hb dL_law_538 hl (by decide) rfl (fun ls hl => ?_)
      refine lv_aload_n hx hb dL_law_540 rfl (lv_at hl 2 rfl) ?_
      refine lv_iload hx hb dL_law_541 (lv_at hl 12 rfl) ?_
      obtain ⟨r1, u3, hc2, hf⟩ := sg_b2_s hf
      refine sg_li (Wf := sg_WX cA ad) (vx_runSW (hh := [(0, 5, 6, 32)]) (As := [.ref (ad 0), .int v13]) (rest := []) ⟨hx, hb, hml, hown, hts⟩ (c_L_open l hlt D cA ad N _ _ _ _ hc2 _) (vx_cwSW (hh := [(0, 5, 6, 32)]) 2 hts gL_law_L_open rfl rfl rfl (by decide +kernel) ⟨Nat.le_of_ble_eq_true rfl, Nat.le_of_ble_eq_true rfl⟩) (sg_preL (w0 := sg_WX cA ad u) hK (sg_Pl hP) (sg_Dl hD) hT hN hS hA) rfl rfl hl.1 rfl (lv_room (Nat.le_of_ble_eq_true rfl)) dL_law_543 ⟨by show kc + 38 + 1 ≤ 961653; omega, by show kz + 228 + 6 ≤ 6208136; omega⟩) hP hD hS hA (fun H locs hP hD hS => ?_)
      refine lv_iload hx hb dL_law_546 (lv_at hl 13 rfl) ?_
      refine lv_icmp_ne (tgt := 580) hx hb dL_law_548 (by decide) (fun c13 => ?_) (fun c13 => ?_)
      · have hf := sg_in c13 hf
        refine W.widen (k := kc + 41) (n := kz + 246) (by omega) (by omega) ?_
        exact hJ580 _ _ _ _ _ _ _ _ _ hf hP hD hS (lv_sub hl [1, 2, 3, 4, 5, 6, 7, 8, 9, 10, 11, 0] rfl)
      · have hf := sg_ip c13 hf
        refine lv_iload hx hb dL_law_551 (lv_at hl 0 rfl) ?_
        refine lv_if_ne (tgt := 576) hx hb dL_law_553 (by decide) (fun c12 => ?_) (fun c12 => ?_)
        · have hf := sg_in c12 hf
          refine lv_iconst (v := 1) hx hb dL_law_576 (by decide) ?_
          refine lv_goto (tgt := 581) hx hb dL_law_577 (by decide) ?_
          refine lv_istore (lv' := [(5, .int 1), (16, .int k0), (0, .ref b), (1, .ref (ad 0)), (2, .int v2), (3, .int v3), (4, .int v4), (6, .ref x0), (7, .ref x1), (8, .ref x2), (9, .int v9), (10, .int v10), (11, .long v11), (13, .int v13), (17, .int v17)]) hx hb dL_law_581 hl (by decide) rfl (fun ls hl => ?_)
          refine lv_goto (tgt := 1121) hx hb dL_law_583 (by decide) ?_
          refine W.widen (k := kc + 122) (n := kz + 732) (by omega) (by omega) ?_
          exact hJ1121 _ _ _ _ _ _ _ _ _ _ hf hP hD hS (lv_sub hl [2, 3, 4, 5, 6, 0, 7, 8, 9, 10, 11, 12, 1] rfl)
        · have hf := sg_ip c12 hf
          refine lv_aload_n hx hb dL_law_556 rfl (lv_at hl 2 rfl) ?_
          refine lv_iload hx hb dL_law_557 (lv_at hl 12 rfl) ?_
          obtain ⟨r4, u6, hc5, hf⟩ := sg_b2_s hf
          refine sg_li (Wf := sg_WX cA ad) (vx_runSW (hh := [(0, 13, 14, 32)]) (As := [.ref (ad 0), .int v13]) (rest := []) ⟨hx, hb, hml, hown, hts⟩ (c_L_isClosed l hlt D cA ad N _ _ _ _ hc5 _) (vx_cwSW (hh := [(0, 13, 14, 32)]) 2 hts gL_law_L_isClosed rfl rfl rfl (by decide +kernel) ⟨Nat.le_of_ble_eq_true rfl, Nat.le_of_ble_eq_true rfl⟩) (sg_preL (w0 := sg_WX cA ad u3) hK (sg_Pl hP) (sg_Dl hD) hT hN hS hA) rfl rfl hl.1 rfl (lv_room (Nat.le_of_ble_eq_true rfl)) dL_law_559 ⟨by show kc + 39 + 1 ≤ 961653; omega, by show kz + 234 + 6 ≤ 6208136; omega⟩) hP hD hS hA (fun H locs hP hD hS => ?_)
          refine lv_if_ne (tgt := 580) hx hb dL_law_562 (by decide) (fun c11 => ?_) (fun c11 => ?_)
          · have hf := sg_in c11 hf
            refine W.widen (k := kc + 41) (n := kz + 246) (by omega) (by omega) ?_
            exact hJ580 _ _ _ _ _ _ _ _ _ hf hP hD hS (lv_sub hl [1, 2, 3, 4, 5, 6, 7, 8, 9, 10, 11, 0] rfl)
          · have hf := sg_ip c11 hf
            refine lv_aload_n hx hb dL_law_565 rfl (lv_at hl 2 rfl) ?_
            refine lv_iload hx hb dL_law_566 (lv_at hl 12 rfl) ?_
            obtain ⟨r7, u9, hc8, hf⟩ := sg_b2_s hf
            refine sg_li (Wf := sg_WX cA ad) (vx_runSW (hh := [(0, 5, 6, 32)]) (As := [.ref (ad 0), .int v13]) (rest := []) ⟨hx, hb, hml, hown, hts⟩ (c_L_canOpen l hlt D cA ad N _ _ _ _ hc8 _) (vx_cwSW (hh := [(0, 5, 6, 32)]) 2 hts gL_law_L_canOpen rfl rfl rfl (by decide +kernel) ⟨Nat.le_of_ble_eq_true rfl, Nat.le_of_ble_eq_true rfl⟩) (sg_preL (w0 := sg_WX cA ad u6) hK (sg_Pl hP) (sg_Dl hD) hT hN hS hA) rfl rfl hl.1 rfl (lv_room (Nat.le_of_ble_eq_true rfl)) dL_law_568 ⟨by show kc + 40 + 1 ≤ 961653; omega, by show kz + 240 + 6 ≤ 6208136; omega⟩) hP hD hS hA (fun H locs hP hD hS => ?_)
            refine lv_bipush (v := 99) hx hb dL_law_571 (by decide) ?_
            refine lv_icmp_ne (tgt := 580) hx hb dL_law_573 (by decide) (fun c10 => ?_) (fun c10 => ?_)
            · have hf := sg_in c10 hf
              exact hJ580 _ _ _ _ _ _ _ _ _ hf hP hD hS (lv_sub hl [1, 2, 3, 4, 5, 6, 7, 8, 9, 10, 11, 0] rfl)
            · have hf := sg_ip c10 hf
              refine lv_iconst (v := 1) hx hb dL_law_576 (by decide) ?_
              refine lv_goto (tgt := 581) hx hb dL_law_577 (by decide) ?_
              refine lv_istore (lv' := [(5, .int 1), (16, .int k0), (0, .ref b), (1, .ref (ad 0)), (2, .int v2), (3, .int v3), (4, .int v4), (6, .ref x0), (7, .ref x1), (8, .ref x2), (9, .int v9), (10, .int v10), (11, .long v11), (13, .int v13), (17, .int v17)]) hx hb dL_law_581 hl (by decide) rfl (fun ls hl => ?_)
              refine lv_goto (tgt := 1121) hx hb dL_law_583 (by decide) ?_
              refine W.widen (k := kc + 122) (n := kz + 732) (by omega) (by omega) ?_
              exact hJ1121 _ _ _ _ _ _ _ _ _ _ hf hP hD hS (lv_sub hl [2, 3, 4, 5, 6, 0, 7, 8, 9, 10, 11, 12, 1] rfl)
    have hJ505 : ∀ (u : sg_St) (w : sg_St) (v9 : Int32) (v10 : Int32) (v11 : Int64) (v16 : Int32) (H : Heap) (locs : List Loc) (ls : Array Slot), fL_law_j505 N L xs u w v2 v3 v4 v9 v10 v11 v16 = some y → va_P D vwCl (sg_WX cA ad u ++ (sg_X3 cA x0 x1 x2 w)) H → va_D (fun q : Nat => s.heap.size ≤ q) (sg_WX cA ad u ++ (sg_X3 cA x0 x1 x2 w)) → va_S (fun q : Nat => s.heap.size ≤ q) s.heap H locs → lv_has ls 21 [(0, .ref b), (1, .ref (ad 0)), (2, .int v2), (3, .int v3), (4, .int v4), (6, .ref x0), (7, .ref x1), (8, .ref x2), (9, .int v9), (10, .int v10), (11, .long v11), (16, .int v16)] → W p l e room_1 s m #[Value.ref b] below meth c H locs (kc + 41) (kz + 246) Q (F0 m 505 ls []) := by
      intro u w v9 v10 v11 v16 H locs ls hf hP hD hS hl
      unfold fL_law_j505 at hf
      refine lv_iconst (v := 0) hx hb dL_law_505 (by decide) ?_
      refine lv_istore (lv' := [(5, .int 0), (0, .ref b), (1, .ref (ad 0)), (2, .int v2), (3, .int v3), (4, .int v4), (6, .ref x0), (7, .ref x1), (8, .ref x2), (9, .int v9), (10, .int v10), (11, .long v11), (16, .int v16)]) hx hb dL_law_506 hl (by decide) rfl (fun ls hl => ?_)
      refine lv_goto (tgt := 1121) hx hb dL_law_508 (by decide) ?_
      refine W.widen (k := kc + 122) (n := kz + 732) (by omega) (by omega) ?_
      exact hJ1121 _ _ _ _ _ _ _ _ _ _ hf hP hD hS (lv_sub hl [1, 2, 3, 4, 5, 0, 6, 7, 8, 9, 10, 11, 12] rfl)
    have hJ462 : ∀ (u : sg_St) (w : sg_St) (v9 : Int32) (v10 : Int32) (v11 : Int64) (v13 : Int32) (v17 : Int32) (k0 : Int32) (H : Heap) (locs : List Loc) (ls : Array Slot), fL_law_j462 N L xs u w v2 v3 v4 v9 v10 v11 v13 v17 k0 = some y → va_P D vwCl (sg_WX cA ad u ++ (sg_X3 cA x0 x1 x2 w)) H → va_D (fun q : Nat => s.heap.size ≤ q) (sg_WX cA ad u ++ (sg_X3 cA x0 x1 x2 w)) → va_S (fun q : Nat => s.heap.size ≤ q) s.heap H locs → lv_has ls 21 [(0, .ref b), (1, .ref (ad 0)), (2, .int v2), (3, .int v3), (4, .int v4), (6, .ref x0), (7, .ref x1), (8, .ref x2), (9, .int v9), (10, .int v10), (11, .long v11), (13, .int v13), (17, .int v17)] → W p l e room_1 s m #[Value.ref b] below meth c H locs (kc + 38) (kz + 228) Q (F0 m 462 ls [.int k0]) := by
      intro u w v9 v10 v11 v13 v17 k0 H locs ls hf hP hD hS hl
      unfold fL_law_j462 at hf
      refine lv_istore (lv' := [(16, .int k0), (0, .ref b), (1, .ref (ad 0)), (2, .int v2), (3, .int v3), (4, .int v4), (6, .ref x0), (7, .ref x1), (8, .ref x2), (9, .int v9), (10, .int v10), (11, .long v11), (13, .int v13), (17, .int v17)]) hx hb dL_law_462 hl (by decide) rfl (fun ls hl => ?_)
      refine lv_aload_n hx hb dL_law_464 rfl (lv_at hl 2 rfl) ?_
      refine lv_iload hx hb dL_law_465 (lv_at hl 12 rfl) ?_
      obtain ⟨r1, u3, hc2, hf⟩ := sg_b2_s hf
      refine sg_li (Wf := sg_WX cA ad) (vx_runSW (hh := [(0, 5, 6, 32)]) (As := [.ref (ad 0), .int v13]) (rest := []) ⟨hx, hb, hml, hown, hts⟩ (c_L_close l hlt D cA ad N _ _ _ _ hc2 _) (vx_cwSW (hh := [(0, 5, 6, 32)]) 2 hts gL_law_L_close rfl rfl rfl (by decide +kernel) ⟨Nat.le_of_ble_eq_true rfl, Nat.le_of_ble_eq_true rfl⟩) (sg_preL (w0 := sg_WX cA ad u) hK (sg_Pl hP) (sg_Dl hD) hT hN hS hA) rfl rfl hl.1 rfl (lv_room (Nat.le_of_ble_eq_true rfl)) dL_law_467 ⟨by show kc + 38 + 1 ≤ 961653; omega, by show kz + 228 + 6 ≤ 6208136; omega⟩) hP hD hS hA (fun H locs hP hD hS => ?_)
      refine lv_iload hx hb dL_law_470 (lv_at hl 13 rfl) ?_
      refine lv_icmp_ne (tgt := 505) hx hb dL_law_472 (by decide) (fun c13 => ?_) (fun c13 => ?_)
      · have hf := sg_in c13 hf
        refine W.widen (k := kc + 41) (n := kz + 246) (by omega) (by omega) ?_
        exact hJ505 _ _ _ _ _ _ _ _ _ hf hP hD hS (lv_sub hl [1, 2, 3, 4, 5, 6, 7, 8, 9, 10, 11, 0] rfl)
      · have hf := sg_ip c13 hf
        refine lv_iload hx hb dL_law_475 (lv_at hl 0 rfl) ?_
        refine lv_if_ne (tgt := 501) hx hb dL_law_477 (by decide) (fun c12 => ?_) (fun c12 => ?_)
        · have hf := sg_in c12 hf
          refine lv_iconst (v := 1) hx hb dL_law_501 (by decide) ?_
          refine lv_goto (tgt := 506) hx hb dL_law_502 (by decide) ?_
          refine lv_istore (lv' := [(5, .int 1), (16, .int k0), (0, .ref b), (1, .ref (ad 0)), (2, .int v2), (3, .int v3), (4, .int v4), (6, .ref x0), (7, .ref x1), (8, .ref x2), (9, .int v9), (10, .int v10), (11, .long v11), (13, .int v13), (17, .int v17)]) hx hb dL_law_506 hl (by decide) rfl (fun ls hl => ?_)
          refine lv_goto (tgt := 1121) hx hb dL_law_508 (by decide) ?_
          refine W.widen (k := kc + 122) (n := kz + 732) (by omega) (by omega) ?_
          exact hJ1121 _ _ _ _ _ _ _ _ _ _ hf hP hD hS (lv_sub hl [2, 3, 4, 5, 6, 0, 7, 8, 9, 10, 11, 12, 1] rfl)
        · have hf := sg_ip c12 hf
          refine lv_aload_n hx hb dL_law_480 rfl (lv_at hl 2 rfl) ?_
          refine lv_iload hx hb dL_law_481 (lv_at hl 12 rfl) ?_
          obtain ⟨r4, u6, hc5, hf⟩ := sg_b2_s hf
          refine sg_li (Wf := sg_WX cA ad) (vx_runSW (hh := [(0, 13, 14, 32)]) (As := [.ref (ad 0), .int v13]) (rest := []) ⟨hx, hb, hml, hown, hts⟩ (c_L_isClosed l hlt D cA ad N _ _ _ _ hc5 _) (vx_cwSW (hh := [(0, 13, 14, 32)]) 2 hts gL_law_L_isClosed rfl rfl rfl (by decide +kernel) ⟨Nat.le_of_ble_eq_true rfl, Nat.le_of_ble_eq_true rfl⟩) (sg_preL (w0 := sg_WX cA ad u3) hK (sg_Pl hP) (sg_Dl hD) hT hN hS hA) rfl rfl hl.1 rfl (lv_room (Nat.le_of_ble_eq_true rfl)) dL_law_483 ⟨by show kc + 39 + 1 ≤ 961653; omega, by show kz + 234 + 6 ≤ 6208136; omega⟩) hP hD hS hA (fun H locs hP hD hS => ?_)
          refine lv_iconst (v := 1) hx hb dL_law_486 (by decide) ?_
          refine lv_icmp_ne (tgt := 505) hx hb dL_law_487 (by decide) (fun c11 => ?_) (fun c11 => ?_)
          · have hf := sg_in c11 hf
            refine W.widen (k := kc + 41) (n := kz + 246) (by omega) (by omega) ?_
            exact hJ505 _ _ _ _ _ _ _ _ _ hf hP hD hS (lv_sub hl [1, 2, 3, 4, 5, 6, 7, 8, 9, 10, 11, 0] rfl)
          · have hf := sg_ip c11 hf
            refine lv_aload_n hx hb dL_law_490 rfl (lv_at hl 2 rfl) ?_
            refine lv_iload hx hb dL_law_491 (lv_at hl 12 rfl) ?_
            obtain ⟨r7, u9, hc8, hf⟩ := sg_b2_s hf
            refine sg_li (Wf := sg_WX cA ad) (vx_runSW (hh := [(0, 5, 6, 32)]) (As := [.ref (ad 0), .int v13]) (rest := []) ⟨hx, hb, hml, hown, hts⟩ (c_L_canClose l hlt D cA ad N _ _ _ _ hc8 _) (vx_cwSW (hh := [(0, 5, 6, 32)]) 2 hts gL_law_L_canClose rfl rfl rfl (by decide +kernel) ⟨Nat.le_of_ble_eq_true rfl, Nat.le_of_ble_eq_true rfl⟩) (sg_preL (w0 := sg_WX cA ad u6) hK (sg_Pl hP) (sg_Dl hD) hT hN hS hA) rfl rfl hl.1 rfl (lv_room (Nat.le_of_ble_eq_true rfl)) dL_law_493 ⟨by show kc + 40 + 1 ≤ 961653; omega, by show kz + 240 + 6 ≤ 6208136; omega⟩) hP hD hS hA (fun H locs hP hD hS => ?_)
            refine lv_bipush (v := 99) hx hb dL_law_496 (by decide) ?_
            refine lv_icmp_ne (tgt := 505) hx hb dL_law_498 (by decide) (fun c10 => ?_) (fun c10 => ?_)
            · have hf := sg_in c10 hf
              exact hJ505 _ _ _ _ _ _ _ _ _ hf hP hD hS (lv_sub hl [1, 2, 3, 4, 5, 6, 7, 8, 9, 10, 11, 0] rfl)
            · have hf := sg_ip c10 hf
              refine lv_iconst (v := 1) hx hb dL_law_501 (by decide) ?_
              refine lv_goto (tgt := 506) hx hb dL_law_502 (by decide) ?_
              refine lv_istore (lv' := [(5, .int 1), (16, .int k0), (0, .ref b), (1, .ref (ad 0)), (2, .int v2), (3, .int v3), (4, .int v4), (6, .ref x0), (7, .ref x1), (8, .ref x2), (9, .int v9), (10, .int v10), (11, .long v11), (13, .int v13), (17, .int v17)]) hx hb dL_law_506 hl (by decide) rfl (fun ls hl => ?_)
              refine lv_goto (tgt := 1121) hx hb dL_law_508 (by decide) ?_
              refine W.widen (k := kc + 122) (n := kz + 732) (by omega) (by omega) ?_
              exact hJ1121 _ _ _ _ _ _ _ _ _ _ hf hP hD hS (lv_sub hl [2, 3, 4, 5, 6, 0, 7, 8, 9, 10, 11, 12, 1] rfl)
    have hJ407 : ∀ (u : sg_St) (w : sg_St) (v9 : Int32) (v10 : Int32) (v11 : Int64) (k0 : Int32) (H : Heap) (locs : List Loc) (ls : Array Slot), fL_law_j407 N L xs u w v2 v3 v4 v9 v10 v11 k0 = some y → va_P D vwCl (sg_WX cA ad u ++ (sg_X3 cA x0 x1 x2 w)) H → va_D (fun q : Nat => s.heap.size ≤ q) (sg_WX cA ad u ++ (sg_X3 cA x0 x1 x2 w)) → va_S (fun q : Nat => s.heap.size ≤ q) s.heap H locs → lv_has ls 21 [(0, .ref b), (1, .ref (ad 0)), (2, .int v2), (3, .int v3), (4, .int v4), (6, .ref x0), (7, .ref x1), (8, .ref x2), (9, .int v9), (10, .int v10), (11, .long v11)] → W p l e room_1 s m #[Value.ref b] below meth c H locs (kc + 37) (kz + 222) Q (F0 m 407 ls [.int k0]) := by
      intro u w v9 v10 v11 k0 H locs ls hf hP hD hS hl
      unfold fL_law_j407 at hf
      refine lv_istore (lv' := [(13, .int k0), (0, .ref b), (1, .ref (ad 0)), (2, .int v2), (3, .int v3), (4, .int v4), (6, .ref x0), (7, .ref x1), (8, .ref x2), (9, .int v9), (10, .int v10), (11, .long v11)]) hx hb dL_law_407 hl (by decide) rfl (fun ls hl => ?_)
      refine lv_aload_n hx hb dL_law_409 rfl (lv_at hl 1 rfl) ?_
      refine lv_iload hx hb dL_law_410 (lv_at hl 9 rfl) ?_
      refine lv_iconst (v := 2) hx hb dL_law_412 (by decide) ?_
      refine lv_iadd hx hb dL_law_413 ?_
      refine lv_sipush (v := 1000) hx hb dL_law_414 (by decide) ?_
      obtain ⟨r1, hc2, hf⟩ := sg_b_s hf
      refine sg_si (va_runS (As := [.ref b, .int (v9 + 2), .int 1000]) (rest := []) ⟨hx, hb, hml, hown, hts⟩ (c_L_pick l D b L xs _ _ _ hc2 _) (va_cwS 3 hts gL_law_L_pick rfl rfl rfl (by decide +kernel) ⟨Nat.le_of_ble_eq_true rfl, Nat.le_of_ble_eq_true rfl⟩) (sg_preP hX hbl hbA hS) rfl rfl hl.1 rfl (lv_room (Nat.le_of_ble_eq_true rfl)) dL_law_417 ⟨by show kc + 37 + 0 ≤ 961653; omega, by show kz + 222 + 0 ≤ 6208136; omega⟩) hP hS hA (fun H locs hP hS => ?_)
      refine lv_istore (lv' := [(14, .int r1), (13, .int k0), (0, .ref b), (1, .ref (ad 0)), (2, .int v2), (3, .int v3), (4, .int v4), (6, .ref x0), (7, .ref x1), (8, .ref x2), (9, .int v9), (10, .int v10), (11, .long v11)]) hx hb dL_law_420 hl (by decide) rfl (fun ls hl => ?_)
      refine lv_aload_n hx hb dL_law_422 rfl (lv_at hl 2 rfl) ?_
      refine lv_iload hx hb dL_law_423 (lv_at hl 10 rfl) ?_
      refine lv_bipush (v := 20) hx hb dL_law_425 (by decide) ?_
      obtain ⟨r3, hc4, hf⟩ := sg_b_s hf
      refine sg_si (va_runS (As := [.ref b, .int v9, .int 20]) (rest := []) ⟨hx, hb, hml, hown, hts⟩ (c_L_pick l D b L xs _ _ _ hc4 _) (va_cwS 3 hts gL_law_L_pick rfl rfl rfl (by decide +kernel) ⟨Nat.le_of_ble_eq_true rfl, Nat.le_of_ble_eq_true rfl⟩) (sg_preP hX hbl hbA hS) rfl rfl hl.1 rfl (lv_room (Nat.le_of_ble_eq_true rfl)) dL_law_427 ⟨by show kc + 37 + 0 ≤ 961653; omega, by show kz + 222 + 0 ≤ 6208136; omega⟩) hP hS hA (fun H locs hP hS => ?_)
      refine lv_istore (lv' := [(15, .int r3), (14, .int r1), (13, .int k0), (0, .ref b), (1, .ref (ad 0)), (2, .int v2), (3, .int v3), (4, .int v4), (6, .ref x0), (7, .ref x1), (8, .ref x2), (9, .int v9), (10, .int v10), (11, .long v11)]) hx hb dL_law_430 hl (by decide) rfl (fun ls hl => ?_)
      refine lv_iconst (v := 0) hx hb dL_law_432 (by decide) ?_
      refine lv_istore (lv' := [(16, .int 0), (15, .int r3), (14, .int r1), (13, .int k0), (0, .ref b), (1, .ref (ad 0)), (2, .int v2), (3, .int v3), (4, .int v4), (6, .ref x0), (7, .ref x1), (8, .ref x2), (9, .int v9), (10, .int v10), (11, .long v11)]) hx hb dL_law_433 hl (by decide) rfl (fun ls hl => ?_)
      refine lv_iload hx hb dL_law_435 (lv_at hl 1 rfl) ?_
      refine lv_bipush (v := 8) hx hb dL_law_437 (by decide) ?_
      refine lv_icmp_ge (tgt := 511) hx hb dL_law_439 (by decide) (fun c80 => ?_) (fun c80 => ?_)
      · have hf := sg_ip c80 hf
        refine lv_iload hx hb dL_law_511 (lv_at hl 1 rfl) ?_
        refine lv_bipush (v := 10) hx hb dL_law_513 (by decide) ?_
        refine lv_icmp_ge (tgt := 586) hx hb dL_law_515 (by decide) (fun c75 => ?_) (fun c75 => ?_)
        · have hf := sg_ip c75 hf
          refine lv_iload hx hb dL_law_586 (lv_at hl 1 rfl) ?_
          refine lv_bipush (v := 13) hx hb dL_law_588 (by decide) ?_
          refine lv_icmp_ge (tgt := 673) hx hb dL_law_590 (by decide) (fun c70 => ?_) (fun c70 => ?_)
          · have hf := sg_ip c70 hf
            refine lv_iload hx hb dL_law_673 (lv_at hl 1 rfl) ?_
            refine lv_bipush (v := 13) hx hb dL_law_675 (by decide) ?_
            refine lv_icmp_ne (tgt := 753) hx hb dL_law_677 (by decide) (fun c60 => ?_) (fun c60 => ?_)
            · have hf := sg_in c60 hf
              refine lv_iload hx hb dL_law_753 (lv_at hl 1 rfl) ?_
              refine lv_bipush (v := 16) hx hb dL_law_755 (by decide) ?_
              refine lv_icmp_ge (tgt := 901) hx hb dL_law_757 (by decide) (fun c54 => ?_) (fun c54 => ?_)
              · have hf := sg_ip c54 hf
                refine lv_iload hx hb dL_law_901 (lv_at hl 1 rfl) ?_
                refine lv_bipush (v := 16) hx hb dL_law_903 (by decide) ?_
                refine lv_icmp_ne (tgt := 958) hx hb dL_law_905 (by decide) (fun c40 => ?_) (fun c40 => ?_)
                · have hf := sg_in c40 hf
                  refine lv_iload hx hb dL_law_958 (lv_at hl 1 rfl) ?_
                  refine lv_bipush (v := 19) hx hb dL_law_960 (by decide) ?_
                  refine lv_icmp_ge (tgt := 1009) hx hb dL_law_962 (by decide) (fun c27 => ?_) (fun c27 => ?_)
                  · have hf := sg_ip c27 hf
                    refine lv_aload_n hx hb dL_law_1009 rfl (lv_at hl 5 rfl) ?_
                    obtain ⟨r5, u7, hc6, hf⟩ := sg_b2_s hf
                    refine sg_lj (va_runV (As := []) (rest := []) ⟨hx, hb, hml, hown, hts⟩ (c_X5_bestValue l D cA ad N _ _ _ hc6 _) (cwV 0 hts gL_law_X5_bestValue rfl rfl rfl (by decide +kernel) ⟨Nat.le_of_ble_eq_true rfl, Nat.le_of_ble_eq_true rfl⟩) (sg_pre (Wf := sg_WX cA ad) hK (sg_Pl hP) (sg_Dl hD) (ci := 7) (q0 := 0) rfl rfl) rfl rfl hl.1 rfl (lv_room (Nat.le_of_ble_eq_true rfl)) dL_law_1010 ⟨by show kc + 37 + 0 ≤ 961653; omega, by show kz + 222 + 0 ≤ 6208136; omega⟩) hP hD hS hA (fun H locs hP hD hS => ?_)
                    refine lv_istore (lv' := [(17, .int r5), (16, .int 0), (15, .int r3), (14, .int r1), (13, .int k0), (0, .ref b), (1, .ref (ad 0)), (2, .int v2), (3, .int v3), (4, .int v4), (6, .ref x0), (7, .ref x1), (8, .ref x2), (9, .int v9), (10, .int v10), (11, .long v11)]) hx hb dL_law_1013 hl (by decide) rfl (fun ls hl => ?_)
                    refine lv_aload_n hx hb dL_law_1015 rfl (lv_at hl 6 rfl) ?_
                    obtain ⟨r8, u10, hc9, hf⟩ := sg_b2_s hf
                    refine sg_lj (va_runV (As := []) (rest := []) ⟨hx, hb, hml, hown, hts⟩ (c_X5_bestSize l D cA ad N _ _ _ hc9 _) (cwV 0 hts gL_law_X5_bestSize rfl rfl rfl (by decide +kernel) ⟨Nat.le_of_ble_eq_true rfl, Nat.le_of_ble_eq_true rfl⟩) (sg_pre (Wf := sg_WX cA ad) hK (sg_Pl hP) (sg_Dl hD) (ci := 7) (q0 := 0) rfl rfl) rfl rfl hl.1 rfl (lv_room (Nat.le_of_ble_eq_true rfl)) dL_law_1016 ⟨by show kc + 37 + 0 ≤ 961653; omega, by show kz + 222 + 0 ≤ 6208136; omega⟩) hP hD hS hA (fun H locs hP hD hS => ?_)
                    refine lv_istore (lv' := [(18, .int r8), (17, .int r5), (16, .int 0), (15, .int r3), (14, .int r1), (13, .int k0), (0, .ref b), (1, .ref (ad 0)), (2, .int v2), (3, .int v3), (4, .int v4), (6, .ref x0), (7, .ref x1), (8, .ref x2), (9, .int v9), (10, .int v10), (11, .long v11)]) hx hb dL_law_1019 hl (by decide) rfl (fun ls hl => ?_)
                    refine lv_aload_n hx hb dL_law_1021 rfl (lv_at hl 7 rfl) ?_
                    obtain ⟨r11, u13, hc12, hf⟩ := sg_b2_s hf
                    refine sg_li (Wf := sg_WX cA ad) (vx_runSW (hh := [(0, 4, 5, 37)]) (As := [.ref (ad 0)]) (rest := []) ⟨hx, hb, hml, hown, hts⟩ (c_L_valueByTrying l hlt D cA ad N _ _ _ hc12 _) (vx_cwSW (hh := [(0, 4, 5, 37)]) 1 hts gL_law_L_valueByTrying rfl rfl rfl (by decide +kernel) ⟨Nat.le_of_ble_eq_true rfl, Nat.le_of_ble_eq_true rfl⟩) (sg_preL (w0 := sg_WX cA ad u10) hK (sg_Pl hP) (sg_Dl hD) hT hN hS hA) rfl rfl hl.1 rfl (lv_room (Nat.le_of_ble_eq_true rfl)) dL_law_1022 ⟨by show kc + 37 + 1 ≤ 961653; omega, by show kz + 222 + 6 ≤ 6208136; omega⟩) hP hD hS hA (fun H locs hP hD hS => ?_)
                    refine lv_istore (lv' := [(19, .int r11), (18, .int r8), (17, .int r5), (16, .int 0), (15, .int r3), (14, .int r1), (13, .int k0), (0, .ref b), (1, .ref (ad 0)), (2, .int v2), (3, .int v3), (4, .int v4), (6, .ref x0), (7, .ref x1), (8, .ref x2), (9, .int v9), (10, .int v10), (11, .long v11)]) hx hb dL_law_1025 hl (by decide) rfl (fun ls hl => ?_)
                    refine lv_aload_n hx hb dL_law_1027 rfl (lv_at hl 8 rfl) ?_
                    refine lv_iconst (v := 0) hx hb dL_law_1028 (by decide) ?_
                    obtain ⟨r14, u16, hc15, hf⟩ := sg_b2_s hf
                    refine sg_li (Wf := sg_WX cA ad) (vx_runSW (hh := [(0, 5, 6, 111)]) (As := [.ref (ad 0), .int 0]) (rest := []) ⟨hx, hb, hml, hown, hts⟩ (c_L_bestAt l hlt D cA ad N _ _ _ _ hc15 _) (vx_cwSW (hh := [(0, 5, 6, 111)]) 2 hts gL_law_L_bestAt rfl rfl rfl (by decide +kernel) ⟨Nat.le_of_ble_eq_true rfl, Nat.le_of_ble_eq_true rfl⟩) (sg_preL (w0 := sg_WX cA ad u13) hK (sg_Pl hP) (sg_Dl hD) hT hN hS hA) rfl rfl hl.1 rfl (lv_room (Nat.le_of_ble_eq_true rfl)) dL_law_1029 ⟨by show kc + 38 + 1 ≤ 961653; omega, by show kz + 228 + 6 ≤ 6208136; omega⟩) hP hD hS hA (fun H locs hP hD hS => ?_)
                    refine lv_istore (lv' := [(20, .int r14), (19, .int r11), (18, .int r8), (17, .int r5), (16, .int 0), (15, .int r3), (14, .int r1), (13, .int k0), (0, .ref b), (1, .ref (ad 0)), (2, .int v2), (3, .int v3), (4, .int v4), (6, .ref x0), (7, .ref x1), (8, .ref x2), (9, .int v9), (10, .int v10), (11, .long v11)]) hx hb dL_law_1032 hl (by decide) rfl (fun ls hl => ?_)
                    refine lv_iload hx hb dL_law_1034 (lv_at hl 1 rfl) ?_
                    refine lv_bipush (v := (-76)) hx hb dL_law_1036 (by decide) ?_
                    refine lv_icmp_eq (tgt := 1057) hx hb dL_law_1038 (by decide) (fun c22 => ?_) (fun c22 => ?_)
                    · have hf := sg_ip c22 hf
                      refine W.widen (k := kc + 40) (n := kz + 240) (by omega) (by omega) ?_
                      exact hJ1057 _ _ _ _ _ _ _ _ _ _ _ _ hf hP hD hS (lv_sub hl [8, 9, 10, 11, 12, 13, 14, 15, 16, 17, 18, 4, 3, 2, 0] rfl)
                    · have hf := sg_in c22 hf
                      refine lv_iload hx hb dL_law_1041 (lv_at hl 1 rfl) ?_
                      refine lv_iload hx hb dL_law_1043 (lv_at hl 3 rfl) ?_
                      refine lv_icmp_ne (tgt := 1118) hx hb dL_law_1045 (by decide) (fun c21 => ?_) (fun c21 => ?_)
                      · have hf := sg_in c21 hf
                        refine W.widen (k := kc + 122) (n := kz + 732) (by omega) (by omega) ?_
                        exact hJ1118 _ _ _ _ _ _ _ _ _ hf hP hD hS (lv_sub hl [8, 9, 10, 11, 12, 13, 14, 15, 16, 17, 18, 4] rfl)
                      · have hf := sg_ip c21 hf
                        refine lv_aload_n hx hb dL_law_1048 rfl (lv_at hl 9 rfl) ?_
                        obtain ⟨r17, u19, hc18, hf⟩ := sg_b2_s hf
                        refine sg_li (Wf := sg_WX cA ad) (vx_runSW (hh := [(0, 4, 5, 37)]) (As := [.ref (ad 0)]) (rest := []) ⟨hx, hb, hml, hown, hts⟩ (c_L_sizeByTrying l hlt D cA ad N _ _ _ hc18 _) (vx_cwSW (hh := [(0, 4, 5, 37)]) 1 hts gL_law_L_sizeByTrying rfl rfl rfl (by decide +kernel) ⟨Nat.le_of_ble_eq_true rfl, Nat.le_of_ble_eq_true rfl⟩) (sg_preL (w0 := sg_WX cA ad u16) hK (sg_Pl hP) (sg_Dl hD) hT hN hS hA) rfl rfl hl.1 rfl (lv_room (Nat.le_of_ble_eq_true rfl)) dL_law_1049 ⟨by show kc + 39 + 1 ≤ 961653; omega, by show kz + 234 + 6 ≤ 6208136; omega⟩) hP hD hS hA (fun H locs hP hD hS => ?_)
                        refine lv_iload hx hb dL_law_1052 (lv_at hl 2 rfl) ?_
                        refine lv_icmp_ne (tgt := 1118) hx hb dL_law_1054 (by decide) (fun c20 => ?_) (fun c20 => ?_)
                        · have hf := sg_in c20 hf
                          refine W.widen (k := kc + 122) (n := kz + 732) (by omega) (by omega) ?_
                          exact hJ1118 _ _ _ _ _ _ _ _ _ hf hP hD hS (lv_sub hl [8, 9, 10, 11, 12, 13, 14, 15, 16, 17, 18, 4] rfl)
                        · have hf := sg_ip c20 hf
                          exact hJ1057 _ _ _ _ _ _ _ _ _ _ _ _ hf hP hD hS (lv_sub hl [8, 9, 10, 11, 12, 13, 14, 15, 16, 17, 18, 4, 3, 2, 0] rfl)
                  · have hf := sg_in c27 hf
                    refine lv_aload_n hx hb dL_law_965 rfl (lv_at hl 5 rfl) ?_
                    refine lv_iload hx hb dL_law_966 (lv_at hl 3 rfl) ?_
                    obtain ⟨r23, u25, hc24, hf⟩ := sg_b2_s hf
                    refine sg_li (Wf := sg_WX cA ad) (vx_runSW (hh := [(0, 5, 6, 32), (0, 5, 10, 37), (0, 5, 14, 22)]) (As := [.ref (ad 0), .int k0]) (rest := []) ⟨hx, hb, hml, hown, hts⟩ (c_L_reset l hlt D cA ad N _ _ _ _ hc24 _) (vx_cwSW (hh := [(0, 5, 6, 32), (0, 5, 10, 37), (0, 5, 14, 22)]) 2 hts gL_law_L_reset rfl rfl rfl (by decide +kernel) ⟨Nat.le_of_ble_eq_true rfl, Nat.le_of_ble_eq_true rfl⟩) (sg_preL (w0 := sg_WX cA ad u) hK (sg_Pl hP) (sg_Dl hD) hT hN hS hA) rfl rfl hl.1 rfl (lv_room (Nat.le_of_ble_eq_true rfl)) dL_law_968 ⟨by show kc + 37 + 2 ≤ 961653; omega, by show kz + 222 + 12 ≤ 6208136; omega⟩) hP hD hS hA (fun H locs hP hD hS => ?_)
                    refine lv_istore (lv' := [(17, .int r23), (16, .int 0), (15, .int r3), (14, .int r1), (13, .int k0), (0, .ref b), (1, .ref (ad 0)), (2, .int v2), (3, .int v3), (4, .int v4), (6, .ref x0), (7, .ref x1), (8, .ref x2), (9, .int v9), (10, .int v10), (11, .long v11)]) hx hb dL_law_971 hl (by decide) rfl (fun ls hl => ?_)
                    refine lv_iload hx hb dL_law_973 (lv_at hl 0 rfl) ?_
                    refine lv_if_ge (tgt := 982) hx hb dL_law_975 (by decide) (fun c26 => ?_) (fun c26 => ?_)
                    · have hf := sg_ip c26 hf
                      refine lv_iconst (v := 0) hx hb dL_law_982 (by decide) ?_
                      exact hJ983 _ _ _ _ _ _ _ _ _ _ _ hf hP hD hS (lv_sub hl [5, 6, 7, 8, 9, 10, 11, 12, 13, 14, 15, 4, 0] rfl)
                    · have hf := sg_in c26 hf
                      refine lv_iconst (v := 1) hx hb dL_law_978 (by decide) ?_
                      refine lv_goto (tgt := 983) hx hb dL_law_979 (by decide) ?_
                      exact hJ983 _ _ _ _ _ _ _ _ _ _ _ hf hP hD hS (lv_sub hl [5, 6, 7, 8, 9, 10, 11, 12, 13, 14, 15, 4, 0] rfl)
                · have hf := sg_ip c40 hf
                  refine lv_aload_n hx hb dL_law_908 rfl (lv_at hl 5 rfl) ?_
                  refine lv_iload hx hb dL_law_909 (lv_at hl 3 rfl) ?_
                  obtain ⟨r28, u30, hc29, hf⟩ := sg_b2_s hf
                  refine sg_li (Wf := sg_WX cA ad) (vx_runSW (hh := [(0, 13, 14, 32)]) (As := [.ref (ad 0), .int k0]) (rest := []) ⟨hx, hb, hml, hown, hts⟩ (c_L_isLocked l hlt D cA ad N _ _ _ _ hc29 _) (vx_cwSW (hh := [(0, 13, 14, 32)]) 2 hts gL_law_L_isLocked rfl rfl rfl (by decide +kernel) ⟨Nat.le_of_ble_eq_true rfl, Nat.le_of_ble_eq_true rfl⟩) (sg_preL (w0 := sg_WX cA ad u) hK (sg_Pl hP) (sg_Dl hD) hT hN hS hA) rfl rfl hl.1 rfl (lv_room (Nat.le_of_ble_eq_true rfl)) dL_law_911 ⟨by show kc + 37 + 1 ≤ 961653; omega, by show kz + 222 + 6 ≤ 6208136; omega⟩) hP hD hS hA (fun H locs hP hD hS => ?_)
                  refine lv_istore (lv' := [(17, .int r28), (16, .int 0), (15, .int r3), (14, .int r1), (13, .int k0), (0, .ref b), (1, .ref (ad 0)), (2, .int v2), (3, .int v3), (4, .int v4), (6, .ref x0), (7, .ref x1), (8, .ref x2), (9, .int v9), (10, .int v10), (11, .long v11)]) hx hb dL_law_914 hl (by decide) rfl (fun ls hl => ?_)
                  refine lv_aload_n hx hb dL_law_916 rfl (lv_at hl 6 rfl) ?_
                  refine lv_iload hx hb dL_law_917 (lv_at hl 4 rfl) ?_
                  obtain ⟨r31, u33, hc32, hf⟩ := sg_b2_s hf
                  refine sg_li (Wf := sg_WX cA ad) (vx_runSW (hh := [(0, 13, 14, 32), (0, 13, 18, 22)]) (As := [.ref (ad 0), .int k0]) (rest := []) ⟨hx, hb, hml, hown, hts⟩ (c_L_repair l hlt D cA ad N _ _ _ _ hc32 _) (vx_cwSW (hh := [(0, 13, 14, 32), (0, 13, 18, 22)]) 2 hts gL_law_L_repair rfl rfl rfl (by decide +kernel) ⟨Nat.le_of_ble_eq_true rfl, Nat.le_of_ble_eq_true rfl⟩) (sg_preL (w0 := sg_WX cA ad u30) hK (sg_Pl hP) (sg_Dl hD) hT hN hS hA) rfl rfl hl.1 rfl (lv_room (Nat.le_of_ble_eq_true rfl)) dL_law_919 ⟨by show kc + 38 + 2 ≤ 961653; omega, by show kz + 228 + 12 ≤ 6208136; omega⟩) hP hD hS hA (fun H locs hP hD hS => ?_)
                  refine lv_istore (lv' := [(18, .int r31), (17, .int r28), (16, .int 0), (15, .int r3), (14, .int r1), (13, .int k0), (0, .ref b), (1, .ref (ad 0)), (2, .int v2), (3, .int v3), (4, .int v4), (6, .ref x0), (7, .ref x1), (8, .ref x2), (9, .int v9), (10, .int v10), (11, .long v11)]) hx hb dL_law_922 hl (by decide) rfl (fun ls hl => ?_)
                  refine lv_iconst (v := 1) hx hb dL_law_924 (by decide) ?_
                  refine lv_istore (lv' := [(16, .int 1), (18, .int r31), (17, .int r28), (15, .int r3), (14, .int r1), (13, .int k0), (0, .ref b), (1, .ref (ad 0)), (2, .int v2), (3, .int v3), (4, .int v4), (6, .ref x0), (7, .ref x1), (8, .ref x2), (9, .int v9), (10, .int v10), (11, .long v11)]) hx hb dL_law_925 hl (by decide) rfl (fun ls hl => ?_)
                  refine lv_iload hx hb dL_law_927 (lv_at hl 1 rfl) ?_
                  refine lv_if_lt (tgt := 948) hx hb dL_law_929 (by decide) (fun c39 => ?_) (fun c39 => ?_)
                  · have hf := sg_ip c39 hf
                    refine lv_iconst (v := 1) hx hb dL_law_948 (by decide) ?_
                    refine lv_goto (tgt := 953) hx hb dL_law_949 (by decide) ?_
                    refine lv_istore (lv' := [(5, .int 1), (16, .int 1), (18, .int r31), (17, .int r28), (15, .int r3), (14, .int r1), (13, .int k0), (0, .ref b), (1, .ref (ad 0)), (2, .int v2), (3, .int v3), (4, .int v4), (6, .ref x0), (7, .ref x1), (8, .ref x2), (9, .int v9), (10, .int v10), (11, .long v11)]) hx hb dL_law_953 hl (by decide) rfl (fun ls hl => ?_)
                    refine lv_goto (tgt := 1121) hx hb dL_law_955 (by decide) ?_
                    refine W.widen (k := kc + 122) (n := kz + 732) (by omega) (by omega) ?_
                    exact hJ1121 _ _ _ _ _ _ _ _ _ _ hf hP hD hS (lv_sub hl [7, 8, 9, 10, 11, 0, 12, 13, 14, 15, 16, 17, 1] rfl)
                  · have hf := sg_in c39 hf
                    refine lv_iload hx hb dL_law_932 (lv_at hl 1 rfl) ?_
                    refine lv_iload hx hb dL_law_934 (lv_at hl 2 rfl) ?_
                    refine lv_icmp_ne (tgt := 952) hx hb dL_law_936 (by decide) (fun c38 => ?_) (fun c38 => ?_)
                    · have hf := sg_in c38 hf
                      refine W.widen (k := kc + 41) (n := kz + 246) (by omega) (by omega) ?_
                      exact hJ952 _ _ _ _ _ _ _ _ _ hf hP hD hS (lv_sub hl [6, 7, 8, 9, 10, 11, 12, 13, 14, 15, 16, 0] rfl)
                    · have hf := sg_ip c38 hf
                      refine lv_aload_n hx hb dL_law_939 rfl (lv_at hl 7 rfl) ?_
                      refine lv_iload hx hb dL_law_940 (lv_at hl 5 rfl) ?_
                      obtain ⟨r34, u36, hc35, hf⟩ := sg_b2_s hf
                      refine sg_li (Wf := sg_WX cA ad) (vx_runSW (hh := [(0, 13, 14, 32)]) (As := [.ref (ad 0), .int k0]) (rest := []) ⟨hx, hb, hml, hown, hts⟩ (c_L_hasFault l hlt D cA ad N _ _ _ _ hc35 _) (vx_cwSW (hh := [(0, 13, 14, 32)]) 2 hts gL_law_L_hasFault rfl rfl rfl (by decide +kernel) ⟨Nat.le_of_ble_eq_true rfl, Nat.le_of_ble_eq_true rfl⟩) (sg_preL (w0 := sg_WX cA ad u33) hK (sg_Pl hP) (sg_Dl hD) hT hN hS hA) rfl rfl hl.1 rfl (lv_room (Nat.le_of_ble_eq_true rfl)) dL_law_942 ⟨by show kc + 40 + 1 ≤ 961653; omega, by show kz + 240 + 6 ≤ 6208136; omega⟩) hP hD hS hA (fun H locs hP hD hS => ?_)
                      refine lv_if_ne (tgt := 952) hx hb dL_law_945 (by decide) (fun c37 => ?_) (fun c37 => ?_)
                      · have hf := sg_in c37 hf
                        exact hJ952 _ _ _ _ _ _ _ _ _ hf hP hD hS (lv_sub hl [6, 7, 8, 9, 10, 11, 12, 13, 14, 15, 16, 0] rfl)
                      · have hf := sg_ip c37 hf
                        refine lv_iconst (v := 1) hx hb dL_law_948 (by decide) ?_
                        refine lv_goto (tgt := 953) hx hb dL_law_949 (by decide) ?_
                        refine lv_istore (lv' := [(5, .int 1), (16, .int 1), (18, .int r31), (17, .int r28), (15, .int r3), (14, .int r1), (13, .int k0), (0, .ref b), (1, .ref (ad 0)), (2, .int v2), (3, .int v3), (4, .int v4), (6, .ref x0), (7, .ref x1), (8, .ref x2), (9, .int v9), (10, .int v10), (11, .long v11)]) hx hb dL_law_953 hl (by decide) rfl (fun ls hl => ?_)
                        refine lv_goto (tgt := 1121) hx hb dL_law_955 (by decide) ?_
                        refine W.widen (k := kc + 122) (n := kz + 732) (by omega) (by omega) ?_
                        exact hJ1121 _ _ _ _ _ _ _ _ _ _ hf hP hD hS (lv_sub hl [7, 8, 9, 10, 11, 0, 12, 13, 14, 15, 16, 17, 1] rfl)
              · have hf := sg_in c54 hf
                refine lv_aload_n hx hb dL_law_760 rfl (lv_at hl 5 rfl) ?_
                refine lv_iload hx hb dL_law_761 (lv_at hl 3 rfl) ?_
                obtain ⟨r41, u43, hc42, hf⟩ := sg_b2_s hf
                refine sg_li (Wf := sg_WX cA ad) (vx_runSW (hh := [(0, 5, 6, 32)]) (As := [.ref (ad 0), .int k0]) (rest := []) ⟨hx, hb, hml, hown, hts⟩ (c_L_wouldTrip l hlt D cA ad N _ _ _ _ hc42 _) (vx_cwSW (hh := [(0, 5, 6, 32)]) 2 hts gL_law_L_wouldTrip rfl rfl rfl (by decide +kernel) ⟨Nat.le_of_ble_eq_true rfl, Nat.le_of_ble_eq_true rfl⟩) (sg_preL (w0 := sg_WX cA ad u) hK (sg_Pl hP) (sg_Dl hD) hT hN hS hA) rfl rfl hl.1 rfl (lv_room (Nat.le_of_ble_eq_true rfl)) dL_law_763 ⟨by show kc + 37 + 1 ≤ 961653; omega, by show kz + 222 + 6 ≤ 6208136; omega⟩) hP hD hS hA (fun H locs hP hD hS => ?_)
                refine lv_istore (lv' := [(17, .int r41), (16, .int 0), (15, .int r3), (14, .int r1), (13, .int k0), (0, .ref b), (1, .ref (ad 0)), (2, .int v2), (3, .int v3), (4, .int v4), (6, .ref x0), (7, .ref x1), (8, .ref x2), (9, .int v9), (10, .int v10), (11, .long v11)]) hx hb dL_law_766 hl (by decide) rfl (fun ls hl => ?_)
                refine lv_aload_n hx hb dL_law_768 rfl (lv_at hl 6 rfl) ?_
                refine lv_iload hx hb dL_law_769 (lv_at hl 4 rfl) ?_
                obtain ⟨r44, u46, hc45, hf⟩ := sg_b2_s hf
                refine sg_li (Wf := sg_WX cA ad) (vx_runSW (hh := [(0, 13, 14, 32)]) (As := [.ref (ad 0), .int k0]) (rest := []) ⟨hx, hb, hml, hown, hts⟩ (c_L_hasFault l hlt D cA ad N _ _ _ _ hc45 _) (vx_cwSW (hh := [(0, 13, 14, 32)]) 2 hts gL_law_L_hasFault rfl rfl rfl (by decide +kernel) ⟨Nat.le_of_ble_eq_true rfl, Nat.le_of_ble_eq_true rfl⟩) (sg_preL (w0 := sg_WX cA ad u43) hK (sg_Pl hP) (sg_Dl hD) hT hN hS hA) rfl rfl hl.1 rfl (lv_room (Nat.le_of_ble_eq_true rfl)) dL_law_771 ⟨by show kc + 38 + 1 ≤ 961653; omega, by show kz + 228 + 6 ≤ 6208136; omega⟩) hP hD hS hA (fun H locs hP hD hS => ?_)
                refine lv_istore (lv' := [(18, .int r44), (17, .int r41), (16, .int 0), (15, .int r3), (14, .int r1), (13, .int k0), (0, .ref b), (1, .ref (ad 0)), (2, .int v2), (3, .int v3), (4, .int v4), (6, .ref x0), (7, .ref x1), (8, .ref x2), (9, .int v9), (10, .int v10), (11, .long v11)]) hx hb dL_law_774 hl (by decide) rfl (fun ls hl => ?_)
                refine lv_aload_n hx hb dL_law_776 rfl (lv_at hl 7 rfl) ?_
                obtain ⟨r47, hc48, hf⟩ := sg_b_s hf
                refine sg_lj (va_runV (As := []) (rest := []) ⟨hx, hb, hml, hown, hts⟩ (c_X5_trips l D cA ad N _ _ hc48 _) (cwV 0 hts gL_law_X5_trips rfl rfl rfl (by decide +kernel) ⟨Nat.le_of_ble_eq_true rfl, Nat.le_of_ble_eq_true rfl⟩) (sg_pre (Wf := sg_WX cA ad) hK (sg_Pl hP) (sg_Dl hD) (ci := 7) (q0 := 0) rfl rfl) rfl rfl hl.1 rfl (lv_room (Nat.le_of_ble_eq_true rfl)) dL_law_777 ⟨by show kc + 39 + 0 ≤ 961653; omega, by show kz + 234 + 0 ≤ 6208136; omega⟩) hP hD hS hA (fun H locs hP hD hS => ?_)
                refine lv_istore (lv' := [(19, .int r47), (18, .int r44), (17, .int r41), (16, .int 0), (15, .int r3), (14, .int r1), (13, .int k0), (0, .ref b), (1, .ref (ad 0)), (2, .int v2), (3, .int v3), (4, .int v4), (6, .ref x0), (7, .ref x1), (8, .ref x2), (9, .int v9), (10, .int v10), (11, .long v11)]) hx hb dL_law_780 hl (by decide) rfl (fun ls hl => ?_)
                refine lv_aload_n hx hb dL_law_782 rfl (lv_at hl 8 rfl) ?_
                refine lv_iload hx hb dL_law_783 (lv_at hl 6 rfl) ?_
                obtain ⟨r50, u52, hc51, hf⟩ := sg_b2_s hf
                refine sg_li (Wf := sg_WX cA ad) (vx_runSW (hh := [(0, 5, 6, 32), (0, 5, 10, 22)]) (As := [.ref (ad 0), .int k0]) (rest := []) ⟨hx, hb, hml, hown, hts⟩ (c_L_fault l hlt D cA ad N _ _ _ _ hc51 _) (vx_cwSW (hh := [(0, 5, 6, 32), (0, 5, 10, 22)]) 2 hts gL_law_L_fault rfl rfl rfl (by decide +kernel) ⟨Nat.le_of_ble_eq_true rfl, Nat.le_of_ble_eq_true rfl⟩) (sg_preL (w0 := sg_WX cA ad u46) hK (sg_Pl hP) (sg_Dl hD) hT hN hS hA) rfl rfl hl.1 rfl (lv_room (Nat.le_of_ble_eq_true rfl)) dL_law_785 ⟨by show kc + 39 + 2 ≤ 961653; omega, by show kz + 234 + 12 ≤ 6208136; omega⟩) hP hD hS hA (fun H locs hP hD hS => ?_)
                refine lv_istore (lv' := [(20, .int r50), (19, .int r47), (18, .int r44), (17, .int r41), (16, .int 0), (15, .int r3), (14, .int r1), (13, .int k0), (0, .ref b), (1, .ref (ad 0)), (2, .int v2), (3, .int v3), (4, .int v4), (6, .ref x0), (7, .ref x1), (8, .ref x2), (9, .int v9), (10, .int v10), (11, .long v11)]) hx hb dL_law_788 hl (by decide) rfl (fun ls hl => ?_)
                refine lv_iload hx hb dL_law_790 (lv_at hl 0 rfl) ?_
                refine lv_bipush (v := (-2)) hx hb dL_law_792 (by decide) ?_
                refine lv_icmp_ge (tgt := 801) hx hb dL_law_794 (by decide) (fun c53 => ?_) (fun c53 => ?_)
                · have hf := sg_ip c53 hf
                  refine lv_iconst (v := 0) hx hb dL_law_801 (by decide) ?_
                  exact hJ802 _ _ _ _ _ _ _ _ _ _ _ _ _ _ hf hP hD hS (lv_sub hl [8, 9, 10, 11, 12, 13, 14, 15, 16, 17, 18, 7, 3, 2, 1, 0] rfl)
                · have hf := sg_in c53 hf
                  refine lv_iconst (v := 1) hx hb dL_law_797 (by decide) ?_
                  refine lv_goto (tgt := 802) hx hb dL_law_798 (by decide) ?_
                  exact hJ802 _ _ _ _ _ _ _ _ _ _ _ _ _ _ hf hP hD hS (lv_sub hl [8, 9, 10, 11, 12, 13, 14, 15, 16, 17, 18, 7, 3, 2, 1, 0] rfl)
            · have hf := sg_ip c60 hf
              refine lv_aload_n hx hb dL_law_680 rfl (lv_at hl 5 rfl) ?_
              refine lv_iload hx hb dL_law_681 (lv_at hl 3 rfl) ?_
              refine lv_iload hx hb dL_law_683 (lv_at hl 2 rfl) ?_
              refine lv_sipush (v := 500) hx hb dL_law_685 (by decide) ?_
              obtain ⟨hg55, hf⟩ := sg_g_s hf
              refine lv_irem hx hb dL_law_688 (of_decide_eq_true hg55) ?_
              refine lv_iconst (v := 1) hx hb dL_law_689 (by decide) ?_
              refine lv_iload hx hb dL_law_690 (lv_at hl 2 rfl) ?_
              refine lv_bipush (v := 10) hx hb dL_law_692 (by decide) ?_
              obtain ⟨hg56, hf⟩ := sg_g_s hf
              refine lv_irem hx hb dL_law_694 (of_decide_eq_true hg56) ?_
              refine lv_iadd hx hb dL_law_695 ?_
              refine lv_iload hx hb dL_law_696 (lv_at hl 2 rfl) ?_
              refine lv_iconst (v := 3) hx hb dL_law_698 (by decide) ?_
              obtain ⟨hg57, hf⟩ := sg_g_s hf
              refine lv_irem hx hb dL_law_699 (of_decide_eq_true hg57) ?_
              refine lv_if_ne (tgt := 707) hx hb dL_law_700 (by decide) (fun c59 => ?_) (fun c59 => ?_)
              · have hf := sg_in c59 hf
                refine lv_iload hx hb dL_law_707 (lv_at hl 2 rfl) ?_
                refine lv_sipush (v := 700) hx hb dL_law_709 (by decide) ?_
                obtain ⟨hg58, hf⟩ := sg_g_s hf
                refine lv_irem hx hb dL_law_712 (of_decide_eq_true hg58) ?_
                exact hJ713 _ _ _ _ _ _ _ _ _ _ _ _ _ _ hf hP hD hS (lv_sub hl [4, 5, 6, 7, 8, 9, 10, 11, 12, 13, 14, 3, 2] rfl)
              · have hf := sg_ip c59 hf
                refine lv_iconst (v := 0) hx hb dL_law_703 (by decide) ?_
                refine lv_goto (tgt := 713) hx hb dL_law_704 (by decide) ?_
                exact hJ713 _ _ _ _ _ _ _ _ _ _ _ _ _ _ hf hP hD hS (lv_sub hl [4, 5, 6, 7, 8, 9, 10, 11, 12, 13, 14, 3, 2] rfl)
          · have hf := sg_in c70 hf
            refine lv_iload hx hb dL_law_593 (lv_at hl 2 rfl) ?_
            refine lv_iload_n hx hb dL_law_595 rfl (lv_at hl 6 rfl) ?_
            refine lv_iload_n hx hb dL_law_596 rfl (lv_at hl 7 rfl) ?_
            refine lv_iadd hx hb dL_law_597 ?_
            refine lv_iconst (v := 1) hx hb dL_law_598 (by decide) ?_
            refine lv_iadd hx hb dL_law_599 ?_
            obtain ⟨hg61, hf⟩ := sg_g_s hf
            refine lv_irem hx hb dL_law_600 (of_decide_eq_true hg61) ?_
            refine lv_istore (lv' := [(17, .int (r1 - r1 / ((v2 + v3) + 1) * ((v2 + v3) + 1))), (16, .int 0), (15, .int r3), (14, .int r1), (13, .int k0), (0, .ref b), (1, .ref (ad 0)), (2, .int v2), (3, .int v3), (4, .int v4), (6, .ref x0), (7, .ref x1), (8, .ref x2), (9, .int v9), (10, .int v10), (11, .long v11)]) hx hb dL_law_601 hl (by decide) rfl (fun ls hl => ?_)
            refine lv_iload hx hb dL_law_603 (lv_at hl 3 rfl) ?_
            refine lv_bipush (v := 101) hx hb dL_law_605 (by decide) ?_
            obtain ⟨hg62, hf⟩ := sg_g_s hf
            refine lv_irem hx hb dL_law_607 (of_decide_eq_true hg62) ?_
            refine lv_istore (lv' := [(18, .int (r1 - r1 / 101 * 101)), (17, .int (r1 - r1 / ((v2 + v3) + 1) * ((v2 + v3) + 1))), (16, .int 0), (15, .int r3), (14, .int r1), (13, .int k0), (0, .ref b), (1, .ref (ad 0)), (2, .int v2), (3, .int v3), (4, .int v4), (6, .ref x0), (7, .ref x1), (8, .ref x2), (9, .int v9), (10, .int v10), (11, .long v11)]) hx hb dL_law_608 hl (by decide) rfl (fun ls hl => ?_)
            refine lv_aload_n hx hb dL_law_610 rfl (lv_at hl 7 rfl) ?_
            refine lv_iload hx hb dL_law_611 (lv_at hl 1 rfl) ?_
            obtain ⟨r63, u65, hc64, hf⟩ := sg_b2_s hf
            refine sg_li (Wf := sg_WX cA ad) (vx_runSW (hh := [(0, 5, 6, 32)]) (As := [.ref (ad 0), .int (r1 - r1 / ((v2 + v3) + 1) * ((v2 + v3) + 1))]) (rest := []) ⟨hx, hb, hml, hown, hts⟩ (c_L_loadOf l hlt D cA ad N _ _ _ _ hc64 _) (vx_cwSW (hh := [(0, 5, 6, 32)]) 2 hts gL_law_L_loadOf rfl rfl rfl (by decide +kernel) ⟨Nat.le_of_ble_eq_true rfl, Nat.le_of_ble_eq_true rfl⟩) (sg_preL (w0 := sg_WX cA ad u) hK (sg_Pl hP) (sg_Dl hD) hT hN hS hA) rfl rfl hl.1 rfl (lv_room (Nat.le_of_ble_eq_true rfl)) dL_law_613 ⟨by show kc + 37 + 1 ≤ 961653; omega, by show kz + 222 + 6 ≤ 6208136; omega⟩) hP hD hS hA (fun H locs hP hD hS => ?_)
            refine lv_istore (lv' := [(19, .int r63), (18, .int (r1 - r1 / 101 * 101)), (17, .int (r1 - r1 / ((v2 + v3) + 1) * ((v2 + v3) + 1))), (16, .int 0), (15, .int r3), (14, .int r1), (13, .int k0), (0, .ref b), (1, .ref (ad 0)), (2, .int v2), (3, .int v3), (4, .int v4), (6, .ref x0), (7, .ref x1), (8, .ref x2), (9, .int v9), (10, .int v10), (11, .long v11)]) hx hb dL_law_616 hl (by decide) rfl (fun ls hl => ?_)
            refine lv_aload_n hx hb dL_law_618 rfl (lv_at hl 8 rfl) ?_
            refine lv_iload hx hb dL_law_619 (lv_at hl 2 rfl) ?_
            refine lv_iload hx hb dL_law_621 (lv_at hl 1 rfl) ?_
            obtain ⟨r66, u68, hc67, hf⟩ := sg_b2_s hf
            refine sg_li (Wf := sg_WX cA ad) (vx_runSW (hh := [(0, 6, 7, 32), (0, 6, 11, 20), (0, 6, 15, 37), (0, 6, 19, 22)]) (As := [.ref (ad 0), .int (r1 - r1 / ((v2 + v3) + 1) * ((v2 + v3) + 1)), .int (r1 - r1 / 101 * 101)]) (rest := []) ⟨hx, hb, hml, hown, hts⟩ (c_L_setLoad l hlt D cA ad N _ _ _ _ _ hc67 _) (vx_cwSW (hh := [(0, 6, 7, 32), (0, 6, 11, 20), (0, 6, 15, 37), (0, 6, 19, 22)]) 3 hts gL_law_L_setLoad rfl rfl rfl (by decide +kernel) ⟨Nat.le_of_ble_eq_true rfl, Nat.le_of_ble_eq_true rfl⟩) (sg_preL (w0 := sg_WX cA ad u65) hK (sg_Pl hP) (sg_Dl hD) hT hN hS hA) rfl rfl hl.1 rfl (lv_room (Nat.le_of_ble_eq_true rfl)) dL_law_623 ⟨by show kc + 38 + 4 ≤ 961653; omega, by show kz + 228 + 24 ≤ 6208136; omega⟩) hP hD hS hA (fun H locs hP hD hS => ?_)
            refine lv_istore (lv' := [(20, .int r66), (19, .int r63), (18, .int (r1 - r1 / 101 * 101)), (17, .int (r1 - r1 / ((v2 + v3) + 1) * ((v2 + v3) + 1))), (16, .int 0), (15, .int r3), (14, .int r1), (13, .int k0), (0, .ref b), (1, .ref (ad 0)), (2, .int v2), (3, .int v3), (4, .int v4), (6, .ref x0), (7, .ref x1), (8, .ref x2), (9, .int v9), (10, .int v10), (11, .long v11)]) hx hb dL_law_626 hl (by decide) rfl (fun ls hl => ?_)
            refine lv_iload hx hb dL_law_628 (lv_at hl 0 rfl) ?_
            refine lv_if_ge (tgt := 637) hx hb dL_law_630 (by decide) (fun c69 => ?_) (fun c69 => ?_)
            · have hf := sg_ip c69 hf
              refine lv_iconst (v := 0) hx hb dL_law_637 (by decide) ?_
              exact hJ638 _ _ _ _ _ _ _ _ _ _ _ _ _ hf hP hD hS (lv_sub hl [8, 9, 10, 11, 12, 13, 14, 15, 16, 17, 18, 3, 2, 1, 0] rfl)
            · have hf := sg_in c69 hf
              refine lv_iconst (v := 1) hx hb dL_law_633 (by decide) ?_
              refine lv_goto (tgt := 638) hx hb dL_law_634 (by decide) ?_
              exact hJ638 _ _ _ _ _ _ _ _ _ _ _ _ _ hf hP hD hS (lv_sub hl [8, 9, 10, 11, 12, 13, 14, 15, 16, 17, 18, 3, 2, 1, 0] rfl)
        · have hf := sg_in c75 hf
          refine lv_aload_n hx hb dL_law_518 rfl (lv_at hl 5 rfl) ?_
          refine lv_iload hx hb dL_law_519 (lv_at hl 3 rfl) ?_
          obtain ⟨r71, u73, hc72, hf⟩ := sg_b2_s hf
          refine sg_li (Wf := sg_WX cA ad) (vx_runSW (hh := [(0, 5, 6, 32)]) (As := [.ref (ad 0), .int k0]) (rest := []) ⟨hx, hb, hml, hown, hts⟩ (c_L_canOpen l hlt D cA ad N _ _ _ _ hc72 _) (vx_cwSW (hh := [(0, 5, 6, 32)]) 2 hts gL_law_L_canOpen rfl rfl rfl (by decide +kernel) ⟨Nat.le_of_ble_eq_true rfl, Nat.le_of_ble_eq_true rfl⟩) (sg_preL (w0 := sg_WX cA ad u) hK (sg_Pl hP) (sg_Dl hD) hT hN hS hA) rfl rfl hl.1 rfl (lv_room (Nat.le_of_ble_eq_true rfl)) dL_law_521 ⟨by show kc + 37 + 1 ≤ 961653; omega, by show kz + 222 + 6 ≤ 6208136; omega⟩) hP hD hS hA (fun H locs hP hD hS => ?_)
          refine lv_istore (lv' := [(17, .int r71), (16, .int 0), (15, .int r3), (14, .int r1), (13, .int k0), (0, .ref b), (1, .ref (ad 0)), (2, .int v2), (3, .int v3), (4, .int v4), (6, .ref x0), (7, .ref x1), (8, .ref x2), (9, .int v9), (10, .int v10), (11, .long v11)]) hx hb dL_law_524 hl (by decide) rfl (fun ls hl => ?_)
          refine lv_iload hx hb dL_law_526 (lv_at hl 0 rfl) ?_
          refine lv_bipush (v := 110) hx hb dL_law_528 (by decide) ?_
          refine lv_icmp_eq (tgt := 537) hx hb dL_law_530 (by decide) (fun c74 => ?_) (fun c74 => ?_)
          · have hf := sg_ip c74 hf
            refine lv_iconst (v := 0) hx hb dL_law_537 (by decide) ?_
            exact hJ538 _ _ _ _ _ _ _ _ _ _ _ hf hP hD hS (lv_sub hl [5, 6, 7, 8, 9, 10, 11, 12, 13, 14, 15, 4, 0] rfl)
          · have hf := sg_in c74 hf
            refine lv_iconst (v := 1) hx hb dL_law_533 (by decide) ?_
            refine lv_goto (tgt := 538) hx hb dL_law_534 (by decide) ?_
            exact hJ538 _ _ _ _ _ _ _ _ _ _ _ hf hP hD hS (lv_sub hl [5, 6, 7, 8, 9, 10, 11, 12, 13, 14, 15, 4, 0] rfl)
      · have hf := sg_in c80 hf
        refine lv_aload_n hx hb dL_law_442 rfl (lv_at hl 5 rfl) ?_
        refine lv_iload hx hb dL_law_443 (lv_at hl 3 rfl) ?_
        obtain ⟨r76, u78, hc77, hf⟩ := sg_b2_s hf
        refine sg_li (Wf := sg_WX cA ad) (vx_runSW (hh := [(0, 5, 6, 32)]) (As := [.ref (ad 0), .int k0]) (rest := []) ⟨hx, hb, hml, hown, hts⟩ (c_L_canClose l hlt D cA ad N _ _ _ _ hc77 _) (vx_cwSW (hh := [(0, 5, 6, 32)]) 2 hts gL_law_L_canClose rfl rfl rfl (by decide +kernel) ⟨Nat.le_of_ble_eq_true rfl, Nat.le_of_ble_eq_true rfl⟩) (sg_preL (w0 := sg_WX cA ad u) hK (sg_Pl hP) (sg_Dl hD) hT hN hS hA) rfl rfl hl.1 rfl (lv_room (Nat.le_of_ble_eq_true rfl)) dL_law_445 ⟨by show kc + 37 + 1 ≤ 961653; omega, by show kz + 222 + 6 ≤ 6208136; omega⟩) hP hD hS hA (fun H locs hP hD hS => ?_)
        refine lv_istore (lv' := [(17, .int r76), (16, .int 0), (15, .int r3), (14, .int r1), (13, .int k0), (0, .ref b), (1, .ref (ad 0)), (2, .int v2), (3, .int v3), (4, .int v4), (6, .ref x0), (7, .ref x1), (8, .ref x2), (9, .int v9), (10, .int v10), (11, .long v11)]) hx hb dL_law_448 hl (by decide) rfl (fun ls hl => ?_)
        refine lv_iload hx hb dL_law_450 (lv_at hl 0 rfl) ?_
        refine lv_bipush (v := 110) hx hb dL_law_452 (by decide) ?_
        refine lv_icmp_eq (tgt := 461) hx hb dL_law_454 (by decide) (fun c79 => ?_) (fun c79 => ?_)
        · have hf := sg_ip c79 hf
          refine lv_iconst (v := 0) hx hb dL_law_461 (by decide) ?_
          exact hJ462 _ _ _ _ _ _ _ _ _ _ _ hf hP hD hS (lv_sub hl [5, 6, 7, 8, 9, 10, 11, 12, 13, 14, 15, 4, 0] rfl)
        · have hf := sg_in c79 hf
          refine lv_iconst (v := 1) hx hb dL_law_457 (by decide) ?_
          refine lv_goto (tgt := 462) hx hb dL_law_458 (by decide) ?_
          exact hJ462 _ _ _ _ _ _ _ _ _ _ _ hf hP hD hS (lv_sub hl [5, 6, 7, 8, 9, 10, 11, 12, 13, 14, 15, 4, 0] rfl)
    unfold fL_law_L356 at hf
    refine lv_iload hx hb dL_law_356 (lv_at hl 10 rfl) ?_
    refine lv_bipush (v := 80) hx hb dL_law_358 (by decide) ?_
    refine lv_icmp_ge (tgt := 1170) hx hb dL_law_360 (by decide) (fun c11 => ?_) (fun c11 => ?_)
    · have hf := sg_ip c11 hf
      have hq := hy _ (Option.some.inj hf).symm
      subst hq
      refine W.widen (k := KE) (n := ZE) (by omega) (by omega) ?_
      exact hk _ _ _ hP hD hS (lv_sub hl [5] rfl)
    · have hf := sg_in c11 hf
      refine lv_iload hx hb dL_law_363 (lv_at hl 5 rfl) ?_
      refine lv_if_eq (tgt := 1170) hx hb dL_law_365 (by decide) (fun c10 => ?_) (fun c10 => ?_)
      · have hf := sg_ip c10 hf
        have hq := hy _ (Option.some.inj hf).symm
        subst hq
        refine W.widen (k := KE) (n := ZE) (by omega) (by omega) ?_
        exact hk _ _ _ hP hD hS (lv_sub hl [5] rfl)
      · have hf := sg_in c10 hf
        refine lv_aload_n hx hb dL_law_368 rfl (lv_at hl 1 rfl) ?_
        obtain ⟨r1, u3, hc2, hf⟩ := sg_b2_s hf
        refine sg_ll (Wf := sg_WX cA ad) (va_runS (As := [.ref (ad 0)]) (rest := []) ⟨hx, hb, hml, hown, hts⟩ (c_L_sum l hlt D cA ad N _ _ _ hc2 _) (va_cwS 1 hts gL_law_L_sum rfl rfl rfl (by decide +kernel) ⟨Nat.le_of_ble_eq_true rfl, Nat.le_of_ble_eq_true rfl⟩) (sg_preL (w0 := sg_WX cA ad x.1) hK (sg_Pl hP) (sg_Dl hD) hT hN hS hA) rfl rfl hl.1 rfl (lv_room (Nat.le_of_ble_eq_true rfl)) dL_law_369 ⟨by show kc + 0 + 37 ≤ 961653; omega, by show kz + 0 + 222 ≤ 6208136; omega⟩) hP hD hS hA (fun H locs hP hD hS => ?_)
        refine lv_lstore (lv' := [(11, .long r1), (0, .ref b), (1, .ref (ad 0)), (2, .int v2), (3, .int v3), (4, .int v4), (5, .int x.2.2.1), (6, .ref x0), (7, .ref x1), (8, .ref x2), (9, .int x.2.2.2.1), (10, .int x.2.2.2.2)]) hx hb dL_law_372 hl (by decide) rfl (fun ls hl => ?_)
        refine lv_iload hx hb dL_law_374 (lv_at hl 5 rfl) ?_
        refine lv_if_eq (tgt := 392) hx hb dL_law_376 (by decide) (fun c9 => ?_) (fun c9 => ?_)
        · have hf := sg_ip c9 hf
          refine lv_iload hx hb dL_law_392 (lv_at hl 5 rfl) ?_
          refine lv_goto (tgt := 407) hx hb dL_law_394 (by decide) ?_
          exact hJ407 _ _ _ _ _ _ _ _ _ hf hP hD hS (lv_sub hl [1, 2, 3, 4, 5, 7, 8, 9, 10, 11, 0] rfl)
        · have hf := sg_in c9 hf
          refine lv_aload_n hx hb dL_law_379 rfl (lv_at hl 1 rfl) ?_
          refine lv_iload hx hb dL_law_380 (lv_at hl 10 rfl) ?_
          refine lv_iconst (v := 1) hx hb dL_law_382 (by decide) ?_
          refine lv_iadd hx hb dL_law_383 ?_
          refine lv_bipush (v := 40) hx hb dL_law_384 (by decide) ?_
          obtain ⟨r4, hc5, hf⟩ := sg_b_s hf
          refine sg_si (va_runS (As := [.ref b, .int (x.2.2.2.1 + 1), .int 40]) (rest := []) ⟨hx, hb, hml, hown, hts⟩ (c_L_pick l D b L xs _ _ _ hc5 _) (va_cwS 3 hts gL_law_L_pick rfl rfl rfl (by decide +kernel) ⟨Nat.le_of_ble_eq_true rfl, Nat.le_of_ble_eq_true rfl⟩) (sg_preP hX hbl hbA hS) rfl rfl hl.1 rfl (lv_room (Nat.le_of_ble_eq_true rfl)) dL_law_386 ⟨by show kc + 37 + 0 ≤ 961653; omega, by show kz + 222 + 0 ≤ 6208136; omega⟩) hP hS hA (fun H locs hP hS => ?_)
          refine lv_if_ne (tgt := 397) hx hb dL_law_389 (by decide) (fun c8 => ?_) (fun c8 => ?_)
          · have hf := sg_in c8 hf
            refine lv_aload_n hx hb dL_law_397 rfl (lv_at hl 1 rfl) ?_
            refine lv_iload hx hb dL_law_398 (lv_at hl 10 rfl) ?_
            refine lv_iconst (v := 1) hx hb dL_law_400 (by decide) ?_
            refine lv_iadd hx hb dL_law_401 ?_
            refine lv_iload hx hb dL_law_402 (lv_at hl 5 rfl) ?_
            obtain ⟨r6, hc7, hf⟩ := sg_b_s hf
            refine sg_si (va_runS (As := [.ref b, .int (x.2.2.2.1 + 1), .int v4]) (rest := []) ⟨hx, hb, hml, hown, hts⟩ (c_L_pick l D b L xs _ _ _ hc7 _) (va_cwS 3 hts gL_law_L_pick rfl rfl rfl (by decide +kernel) ⟨Nat.le_of_ble_eq_true rfl, Nat.le_of_ble_eq_true rfl⟩) (sg_preP hX hbl hbA hS) rfl rfl hl.1 rfl (lv_room (Nat.le_of_ble_eq_true rfl)) dL_law_404 ⟨by show kc + 37 + 0 ≤ 961653; omega, by show kz + 222 + 0 ≤ 6208136; omega⟩) hP hS hA (fun H locs hP hS => ?_)
            exact hJ407 _ _ _ _ _ _ _ _ _ hf hP hD hS (lv_sub hl [1, 2, 3, 4, 5, 7, 8, 9, 10, 11, 0] rfl)
          · have hf := sg_ip c8 hf
            refine lv_iload hx hb dL_law_392 (lv_at hl 5 rfl) ?_
            refine lv_goto (tgt := 407) hx hb dL_law_394 (by decide) ?_
            exact hJ407 _ _ _ _ _ _ _ _ _ hf hP hD hS (lv_sub hl [1, 2, 3, 4, 5, 7, 8, 9, 10, 11, 0] rfl)
  unfold fL_law at hf
  refine lv_iconst (v := 2) hx hb dL_law_51 (by decide) ?_
  refine lv_istore (lv' := [(9, .int 2), (0, .ref b), (1, .ref (ad 0)), (2, .int p2), (3, .int p3), (4, .int 0), (5, .int 1), (6, .ref x0), (7, .ref x1), (8, .ref x2)]) hx hb dL_law_52 hl (by decide) rfl (fun ls hl => ?_)
  refine lv_iconst (v := 0) hx hb dL_law_54 (by decide) ?_
  refine lv_istore (lv' := [(10, .int 0), (9, .int 2), (0, .ref b), (1, .ref (ad 0)), (2, .int p2), (3, .int p3), (4, .int 0), (5, .int 1), (6, .ref x0), (7, .ref x1), (8, .ref x2)]) hx hb dL_law_55 hl (by decide) rfl (fun ls hl => ?_)
  obtain ⟨e1, hc2, hf⟩ := sg_b_s hf
  refine hL57 _ _ _ _ _ _ hc2 20 204 26 240 (Nat.le_of_ble_eq_true rfl) (Nat.le_of_ble_eq_true rfl) (Nat.le_of_ble_eq_true rfl) (Nat.le_of_ble_eq_true rfl) _ _ _ hP hD hS (lv_sub hl [2, 3, 4, 5, 6, 7, 8, 9, 10, 1, 0] rfl) (fun H locs ls hP hD hS hl => ?_)
  refine lv_iconst (v := 0) hx hb dL_law_113 (by decide) ?_
  refine lv_istore (lv' := [(10, .int 0), (0, .ref b), (1, .ref (ad 0)), (2, .int p2), (3, .int p3), (4, .int 0), (5, .int e1.2.2.1), (6, .ref x0), (7, .ref x1), (8, .ref x2), (9, .int e1.2.2.2)]) hx hb dL_law_114 hl (by decide) rfl (fun ls hl => ?_)
  obtain ⟨e3, hc4, hf⟩ := sg_b_s hf
  refine hL116 _ _ _ _ _ _ hc4 26 240 50 384 (Nat.le_of_ble_eq_true rfl) (Nat.le_of_ble_eq_true rfl) (Nat.le_of_ble_eq_true rfl) (Nat.le_of_ble_eq_true rfl) _ _ _ hP hD hS (lv_sub hl [1, 2, 3, 4, 5, 6, 7, 8, 9, 10, 0] rfl) (fun H locs ls hP hD hS hl => ?_)
  refine lv_iconst (v := 0) hx hb dL_law_170 (by decide) ?_
  refine lv_istore (lv' := [(10, .int 0), (0, .ref b), (1, .ref (ad 0)), (2, .int p2), (3, .int p3), (4, .int 0), (5, .int e3.2.2.1), (6, .ref x0), (7, .ref x1), (8, .ref x2), (9, .int e3.2.2.2)]) hx hb dL_law_171 hl (by decide) rfl (fun ls hl => ?_)
  obtain ⟨e5, hc6, hf⟩ := sg_b_s hf
  refine hL173 _ _ _ _ _ hc6 50 384 94 648 (Nat.le_of_ble_eq_true rfl) (Nat.le_of_ble_eq_true rfl) (Nat.le_of_ble_eq_true rfl) (Nat.le_of_ble_eq_true rfl) _ _ _ hP hD hS (lv_sub hl [1, 2, 3, 4, 5, 6, 7, 8, 9, 10, 0] rfl) (fun H locs ls hP hD hS hl => ?_)
  refine lv_iconst (v := 0) hx hb dL_law_353 (by decide) ?_
  refine lv_istore (lv' := [(10, .int 0), (0, .ref b), (1, .ref (ad 0)), (2, .int p2), (3, .int p3), (4, .int e5.2.2.1), (5, .int e5.2.2.2.1), (6, .ref x0), (7, .ref x1), (8, .ref x2), (9, .int e5.2.2.2.2)]) hx hb dL_law_354 hl (by decide) rfl (fun ls hl => ?_)
  obtain ⟨e7, hc8, hf⟩ := sg_b_s hf
  refine hL356 _ _ _ _ _ _ hc8 94 648 44887 269730 (Nat.le_of_ble_eq_true rfl) (Nat.le_of_ble_eq_true rfl) (Nat.le_of_ble_eq_true rfl) (Nat.le_of_ble_eq_true rfl) _ _ _ hP hD hS (lv_sub hl [1, 2, 3, 4, 5, 6, 7, 8, 9, 10, 0] rfl) (fun H locs ls hP hD hS hl => ?_)
  refine lv_iload hx hb dL_law_1170 (lv_at hl 0 rfl) ?_
  have hq := Option.some.inj hf
  have hq1 := congrArg Prod.fst hq
  replace hq1 : e7.2.2 = 1 := hq1
  rw [hq1]
  exact kend _ _ _ _ _ hP hD hS
