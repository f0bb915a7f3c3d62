set_option maxRecDepth 100000 in
set_option maxHeartbeats 4000000 in
theorem c_J6_bitCount_0f7a4 (l : Launch) (D : va_G) (cA : Nat → ClassId) (N : Nat) (p0 : Int32) (r : Int32) (hf : fJ6_bitCount_0f7a4 N p0 = some r) : sg_CI l D cA (sg_W0) yJ6_bitCount_0f7a4 wsJ6_bitCount_0f7a4 ({ frames := 0, cells := 0, slots := 0, locals := 0 }) [.int p0] sg_u0 r sg_u0 := by
  intro sz
  refine Met.ofW (cc := cJ6_bitCount_0f7a4) (maxL := 1) (ret := (some .int)) (by decide) rfl ?_
  intro p e s m args below meth c s₁ B hml hv
  obtain ⟨rfl, hsz, hP, hK, hD0⟩ := hv
  have hx := B.exec
  have hb := B.bytes
  have hr := B.returns
  have hts := atoms_spec (ws := wsJ6_bitCount_0f7a4) B.pre
  have hown : s.vm.findClass RJ6 = some m.cls := findClass_of_methodNamed B.named
  have hlocks := B.notSynchronized
  subst hsz
  have hD := hD0.self (sz := s.heap.size)
  generalize hAe : va_A (sg_W0 sg_u0) s.heap.size = A at hD ⊢
  have hA : ∀ q : Nat, s.heap.size ≤ q → A q := fun q h => by rw [← hAe]; exact Or.inr h
  have hS : va_S A s.heap s.heap [] := va_S.rf
  have hl := lv_entry ([.int p0]) (n := 1) (Nat.le_of_ble_eq_true rfl)
  rw [lg_entry_eq]
  generalize (lg_sl ([.int p0]) ++ List.replicate (1 - (lg_sl ([.int p0])).length) Slot.unset).toArray = ls at hl ⊢
  replace hl : lv_has ls 1 [(0, .int p0)] := hl
  unfold fJ6_bitCount_0f7a4 at hf
  refine lv_iload_n hx hb dJ6_bitCount_0f7a4_0 rfl (lv_at hl 0 rfl) ?_
  refine lv_iload_n hx hb dJ6_bitCount_0f7a4_1 rfl (lv_at hl 0 rfl) ?_
  refine lv_iconst (v := 1) hx hb dJ6_bitCount_0f7a4_2 (by decide) ?_
  refine lv_iushr (v := ((p0).toUInt32 >>> ((1 : Int32).toUInt32 &&& Int32.toUInt32 31)).toInt32) hx hb dJ6_bitCount_0f7a4_3 rfl ?_
  refine lv_ldcw (v := 1431655765) hx hb hown (hts (.constant RJ6 265 (1431655765)) (by decide +kernel)) dJ6_bitCount_0f7a4_4 ?_
  refine lv_iand hx hb dJ6_bitCount_0f7a4_7 ?_
  refine lv_isub hx hb dJ6_bitCount_0f7a4_8 ?_
  refine lv_topi (fun x1 ex1 => ?_)
  have hf := sg_l_s ex1 hf
  refine lv_istore_n (lv' := [(0, .int x1)]) hx hb dJ6_bitCount_0f7a4_9 rfl hl (by decide) rfl (fun ls hl => ?_)
  refine lv_iload_n hx hb dJ6_bitCount_0f7a4_10 rfl (lv_at hl 0 rfl) ?_
  refine lv_ldcw (v := 858993459) hx hb hown (hts (.constant RJ6 266 (858993459)) (by decide +kernel)) dJ6_bitCount_0f7a4_11 ?_
  refine lv_iand hx hb dJ6_bitCount_0f7a4_14 ?_
  refine lv_iload_n hx hb dJ6_bitCount_0f7a4_15 rfl (lv_at hl 0 rfl) ?_
  refine lv_iconst (v := 2) hx hb dJ6_bitCount_0f7a4_16 (by decide) ?_
  refine lv_iushr (v := ((x1).toUInt32 >>> ((2 : Int32).toUInt32 &&& Int32.toUInt32 31)).toInt32) hx hb dJ6_bitCount_0f7a4_17 rfl ?_
  refine lv_ldcw (v := 858993459) hx hb hown (hts (.constant RJ6 266 (858993459)) (by decide +kernel)) dJ6_bitCount_0f7a4_18 ?_
  refine lv_iand hx hb dJ6_bitCount_0f7a4_21 ?_
  refine lv_iadd hx hb dJ6_bitCount_0f7a4_22 ?_
  refine lv_topi (fun x2 ex2 => ?_)
  have hf := sg_l_s ex2 hf
  refine lv_istore_n (lv' := [(0, .int x2)]) hx hb dJ6_bitCount_0f7a4_23 rfl hl (by decide) rfl (fun ls hl => ?_)
  refine lv_iload_n hx hb dJ6_bitCount_0f7a4_24 rfl (lv_at hl 0 rfl) ?_
  refine lv_iload_n hx hb dJ6_bitCount_0f7a4_25 rfl (lv_at hl 0 rfl) ?_
  refine lv_iconst (v := 4) hx hb dJ6_bitCount_0f7a4_26 (by decide) ?_
  refine lv_iushr (v := ((x2).toUInt32 >>> ((4 : Int32).toUInt32 &&& Int32.toUInt32 31)).toInt32) hx hb dJ6_bitCount_0f7a4_27 rfl ?_
  refine lv_iadd hx hb dJ6_bitCount_0f7a4_28 ?_
  refine lv_ldcw (v := 252645135) hx hb hown (hts (.constant RJ6 267 (252645135)) (by decide +kernel)) dJ6_bitCount_0f7a4_29 ?_
  refine lv_iand hx hb dJ6_bitCount_0f7a4_32 ?_
  refine lv_topi (fun x3 ex3 => ?_)
  have hf := sg_l_s ex3 hf
  refine lv_istore_n (lv' := [(0, .int x3)]) hx hb dJ6_bitCount_0f7a4_33 rfl hl (by decide) rfl (fun ls hl => ?_)
  refine lv_iload_n hx hb dJ6_bitCount_0f7a4_34 rfl (lv_at hl 0 rfl) ?_
  refine lv_iload_n hx hb dJ6_bitCount_0f7a4_35 rfl (lv_at hl 0 rfl) ?_
  refine lv_bipush (v := 8) hx hb dJ6_bitCount_0f7a4_36 (by decide) ?_
  refine lv_iushr (v := ((x3).toUInt32 >>> ((8 : Int32).toUInt32 &&& Int32.toUInt32 31)).toInt32) hx hb dJ6_bitCount_0f7a4_38 rfl ?_
  refine lv_iadd hx hb dJ6_bitCount_0f7a4_39 ?_
  refine lv_istore_n (lv' := [(0, .int (x3 + (((x3).toUInt32 >>> ((8 : Int32).toUInt32 &&& Int32.toUInt32 31)).toInt32)))]) hx hb dJ6_bitCount_0f7a4_40 rfl hl (by decide) rfl (fun ls hl => ?_)
  refine lv_iload_n hx hb dJ6_bitCount_0f7a4_41 rfl (lv_at hl 0 rfl) ?_
  refine lv_iload_n hx hb dJ6_bitCount_0f7a4_42 rfl (lv_at hl 0 rfl) ?_
  refine lv_bipush (v := 16) hx hb dJ6_bitCount_0f7a4_43 (by decide) ?_
  refine lv_iushr (v := ((x3 + (((x3).toUInt32 >>> ((8 : Int32).toUInt32 &&& Int32.toUInt32 31)).toInt32)).toUInt32 >>> ((16 : Int32).toUInt32 &&& Int32.toUInt32 31)).toInt32) hx hb dJ6_bitCount_0f7a4_45 rfl ?_
  refine lv_iadd hx hb dJ6_bitCount_0f7a4_46 ?_
  refine lv_topi (fun x4 ex4 => ?_)
  have hf := sg_l_s ex4 hf
  refine lv_istore_n (lv' := [(0, .int x4)]) hx hb dJ6_bitCount_0f7a4_47 rfl hl (by decide) rfl (fun ls hl => ?_)
  refine lv_iload_n hx hb dJ6_bitCount_0f7a4_48 rfl (lv_at hl 0 rfl) ?_
  refine lv_bipush (v := 63) hx hb dJ6_bitCount_0f7a4_49 (by decide) ?_
  refine lv_iand hx hb dJ6_bitCount_0f7a4_51 ?_
  have hq := Option.some.inj hf
  exact sg_iret hx hb hr hP hD hS dJ6_bitCount_0f7a4_52 hq rfl hlocks
set_option maxRecDepth 100000 in
set_option maxHeartbeats 4000000 in
theorem c_X5_has (l : Launch) (D : va_G) (cA : Nat → ClassId) (N : Nat) (p0 p1 : Int32) (r : Int32) (hf : fX5_has N p0 p1 = some r) : sg_CI l D cA (sg_W0) yX5_has wsX5_has ({ frames := 0, cells := 0, slots := 0, locals := 0 }) [.int p0, .int p1] sg_u0 r sg_u0 := by
  intro sz
  refine Met.ofW (cc := cX5_has) (maxL := 2) (ret := (some .boolean)) (by decide) rfl ?_
  intro p e s m args below meth c s₁ B hml hv
  obtain ⟨rfl, hsz, hP, hK, hD0⟩ := hv
  have hx := B.exec
  have hb := B.bytes
  have hr := B.returns
  have hts := atoms_spec (ws := wsX5_has) B.pre
  have hown : s.vm.findClass RX5 = some m.cls := findClass_of_methodNamed B.named
  have hlocks := B.notSynchronized
  subst hsz
  have hD := hD0.self (sz := s.heap.size)
  generalize hAe : va_A (sg_W0 sg_u0) s.heap.size = A at hD ⊢
  have hA : ∀ q : Nat, s.heap.size ≤ q → A q := fun q h => by rw [← hAe]; exact Or.inr h
  have hS : va_S A s.heap s.heap [] := va_S.rf
  have hl := lv_entry ([.int p0, .int p1]) (n := 2) (Nat.le_of_ble_eq_true rfl)
  rw [lg_entry_eq]
  generalize (lg_sl ([.int p0, .int p1]) ++ List.replicate (2 - (lg_sl ([.int p0, .int p1])).length) Slot.unset).toArray = ls at hl ⊢
  replace hl : lv_has ls 2 [(0, .int p0), (1, .int p1)] := hl
  unfold fX5_has at hf
  refine lv_iload_n hx hb dX5_has_0 rfl (lv_at hl 0 rfl) ?_
  refine lv_iload_n hx hb dX5_has_1 rfl (lv_at hl 1 rfl) ?_
  refine lv_ishr hx hb dX5_has_2 ?_
  refine lv_iconst (v := 1) hx hb dX5_has_3 (by decide) ?_
  refine lv_iand hx hb dX5_has_4 ?_
  refine lv_if_eq (tgt := 12) hx hb dX5_has_5 (by decide) (fun c1 => ?_) (fun c1 => ?_)
  · have hf := sg_ip c1 hf
    refine lv_iconst (v := 0) hx hb dX5_has_12 (by decide) ?_
    have hq := Option.some.inj hf
    exact sg_zret hx hb hr rfl hP hD hS dX5_has_13 hq rfl hlocks
  · have hf := sg_in c1 hf
    refine lv_iconst (v := 1) hx hb dX5_has_8 (by decide) ?_
    refine lv_goto (tgt := 13) hx hb dX5_has_9 (by decide) ?_
    have hq := Option.some.inj hf
    exact sg_zret hx hb hr rfl hP hD hS dX5_has_13 hq rfl hlocks
set_option maxRecDepth 100000 in
set_option maxHeartbeats 4000000 in
theorem c_X1_loadAt (l : Launch) (D : va_G) (cA : Nat → ClassId) (ad : Nat → Nat) (N : Nat) (u : sg_St) (p1 : Int32) (r : Int32) (hf : fX1_loadAt N u p1 = some r) : sg_CI l D cA (sg_WX cA ad) yX1_loadAt wsX1_loadAt ({ frames := 0, cells := 0, slots := 0, locals := 0 }) [.ref (ad 1), .int p1] u r u := by
  intro sz
  refine Met.ofW (cc := cX1_loadAt) (maxL := 2) (ret := (some .int)) (by decide) rfl ?_
  intro p e s m args below meth c s₁ B hml hv
  obtain ⟨rfl, hsz, hP, hK, hD0⟩ := hv
  have hx := B.exec
  have hb := B.bytes
  have hr := B.returns
  have hts := atoms_spec (ws := wsX1_loadAt) B.pre
  have hown : s.vm.findClass RX1 = some m.cls := findClass_of_methodNamed B.named
  have hlocks := B.notSynchronized
  subst hsz
  have hD := hD0.self (sz := s.heap.size)
  generalize hAe : va_A (sg_WX cA ad u) s.heap.size = A at hD ⊢
  have hA : ∀ q : Nat, s.heap.size ≤ q → A q := fun q h => by rw [← hAe]; exact Or.inr h
  have hS : va_S A s.heap s.heap [] := va_S.rf
  have hl := lv_entry ([.ref (ad 1), .int p1]) (n := 2) (Nat.le_of_ble_eq_true rfl)
  rw [lg_entry_eq]
  generalize (lg_sl ([.ref (ad 1), .int p1]) ++ List.replicate (2 - (lg_sl ([.ref (ad 1), .int p1])).length) Slot.unset).toArray = ls at hl ⊢
  replace hl : lv_has ls 2 [(0, .ref (ad 1)), (1, .int p1)] := hl
  have hinX1 : ∀ w ∈ u_ws RX1 TX1 10, w ∈ wsX1_loadAt := by decide +kernel
  have hJ21 : ∀ (H : Heap) (locs : List Loc) (ls : Array Slot), fX1_loadAt_j21 N u  = some r → va_P D vwCl (sg_WX cA ad u) H → va_D A (sg_WX cA ad u) → va_S A s.heap H locs → lv_has ls 2 [(0, .ref (ad 1))] → W p l e (headSpec wsX1_loadAt ({ frames := 0, cells := 0, slots := 0, locals := 0 })).room s m ([.ref (ad 1), .int p1] : List Value).toArray below meth c H locs 0 0 (MQ below (va_Qi (fun x y => x = r ∧ y = u) (sg_BX D (sg_WX cA ad) A) A) ([.ref (ad 1), .int p1] : List Value).toArray s 0 0 A) (F0 m 21 ls []) := by
    intro H locs ls hf hP hD hS hl
    unfold fX1_loadAt_j21 at hf
    refine lv_iconst (v := 0) hx hb dX1_loadAt_21 (by decide) ?_
    have hq := Option.some.inj hf
    exact sg_iret hx hb hr hP hD hS dX1_loadAt_22 hq rfl hlocks
  unfold fX1_loadAt at hf
  refine lv_iload_n hx hb dX1_loadAt_0 rfl (lv_at hl 1 rfl) ?_
  refine lv_if_lt (tgt := 21) hx hb dX1_loadAt_1 (by decide) (fun c3 => ?_) (fun c3 => ?_)
  · have hf := sg_ip c3 hf
    exact hJ21 _ _ _ hf hP hD hS (lv_sub hl [0] rfl)
  · have hf := sg_in c3 hf
    refine lv_iload_n hx hb dX1_loadAt_4 rfl (lv_at hl 1 rfl) ?_
    refine lv_aload_n hx hb dX1_loadAt_5 rfl (lv_at hl 0 rfl) ?_
    refine va_get (D := D) (ci := 3) (C := RX1) (T := TX1) (N := 10) hx hb hts hinX1 hown hK.1 hP 1 rfl rfl 6 (by decide) (hts (.fieldLink RX1 30 "Switchgear$Grid" "nodeCount" "I") (by decide +kernel)) (fun _ h9 => h9) rfl dX1_loadAt_6 ?_
    refine lv_icmp_ge (tgt := 21) hx hb dX1_loadAt_9 (by decide) (fun c2 => ?_) (fun c2 => ?_)
    · have hf := sg_ip c2 hf
      exact hJ21 _ _ _ hf hP hD hS (lv_sub hl [0] rfl)
    · have hf := sg_in c2 hf
      refine lv_aload_n hx hb dX1_loadAt_12 rfl (lv_at hl 0 rfl) ?_
      refine va_get (D := D) (ci := 3) (C := RX1) (T := TX1) (N := 10) hx hb hts hinX1 hown hK.1 hP 1 rfl rfl 1 (by decide) (hts (.fieldLink RX1 15 "Switchgear$Grid" "load" "[I") (by decide +kernel)) (fun _ h9 => h9) rfl dX1_loadAt_13 ?_
      refine lv_iload_n hx hb dX1_loadAt_16 rfl (lv_at hl 1 rfl) ?_
      obtain ⟨hg1, hf⟩ := sg_g_s hf
      refine va_iald hx hb hK.1 hP 7 0 rfl rfl (sg_inb_s hg1) dX1_loadAt_17 ?_
      refine lv_goto (tgt := 22) hx hb dX1_loadAt_18 (by decide) ?_
      have hq := Option.some.inj hf
      exact sg_iret hx hb hr hP hD hS dX1_loadAt_22 hq rfl hlocks
set_option maxRecDepth 100000 in
set_option maxHeartbeats 4000000 in
theorem c_X1_acrossFrom (l : Launch) (D : va_G) (cA : Nat → ClassId) (ad : Nat → Nat) (N : Nat) (u : sg_St) (p1 p2 : Int32) (r : Int32) (hf : fX1_acrossFrom N u p1 p2 = some r) : sg_CI l D cA (sg_WX cA ad) yX1_acrossFrom wsX1_acrossFrom ({ frames := 0, cells := 0, slots := 0, locals := 0 }) [.ref (ad 1), .int p1, .int p2] u r u := by
  intro sz
  refine Met.ofW (cc := cX1_acrossFrom) (maxL := 3) (ret := (some .int)) (by decide) rfl ?_
  intro p e s m args below meth c s₁ B hml hv
  obtain ⟨rfl, hsz, hP, hK, hD0⟩ := hv
  have hx := B.exec
  have hb := B.bytes
  have hr := B.returns
  have hts := atoms_spec (ws := wsX1_acrossFrom) B.pre
  have hown : s.vm.findClass RX1 = some m.cls := findClass_of_methodNamed B.named
  have hlocks := B.notSynchronized
  subst hsz
  have hD := hD0.self (sz := s.heap.size)
  generalize hAe : va_A (sg_WX cA ad u) s.heap.size = A at hD ⊢
  have hA : ∀ q : Nat, s.heap.size ≤ q → A q := fun q h => by rw [← hAe]; exact Or.inr h
  have hS : va_S A s.heap s.heap [] := va_S.rf
  have hl := lv_entry ([.ref (ad 1), .int p1, .int p2]) (n := 3) (Nat.le_of_ble_eq_true rfl)
  rw [lg_entry_eq]
  generalize (lg_sl ([.ref (ad 1), .int p1, .int p2]) ++ List.replicate (3 - (lg_sl ([.ref (ad 1), .int p1, .int p2])).length) Slot.unset).toArray = ls at hl ⊢
  replace hl : lv_has ls 3 [(0, .ref (ad 1)), (1, .int p1), (2, .int p2)] := hl
  have hinX1 : ∀ w ∈ u_ws RX1 TX1 10, w ∈ wsX1_acrossFrom := by decide +kernel
  unfold fX1_acrossFrom at hf
  refine lv_iload_n hx hb dX1_acrossFrom_0 rfl (lv_at hl 2 rfl) ?_
  refine lv_if_lt (tgt := 12) hx hb dX1_acrossFrom_1 (by decide) (fun c8 => ?_) (fun c8 => ?_)
  · have hf := sg_ip c8 hf
    refine lv_iconst (v := (-1)) hx hb dX1_acrossFrom_12 (by decide) ?_
    have hq := Option.some.inj hf
    exact sg_iret hx hb hr hP hD hS dX1_acrossFrom_13 hq rfl hlocks
  · have hf := sg_in c8 hf
    refine lv_iload_n hx hb dX1_acrossFrom_4 rfl (lv_at hl 2 rfl) ?_
    refine lv_aload_n hx hb dX1_acrossFrom_5 rfl (lv_at hl 0 rfl) ?_
    refine va_get (D := D) (ci := 3) (C := RX1) (T := TX1) (N := 10) hx hb hts hinX1 hown hK.1 hP 1 rfl rfl 7 (by decide) (hts (.fieldLink RX1 41 "Switchgear$Grid" "lineCount" "I") (by decide +kernel)) (fun _ h9 => h9) rfl dX1_acrossFrom_6 ?_
    refine lv_icmp_lt (tgt := 14) hx hb dX1_acrossFrom_9 (by decide) (fun c7 => ?_) (fun c7 => ?_)
    · have hf := sg_ip c7 hf
      refine lv_aload_n hx hb dX1_acrossFrom_14 rfl (lv_at hl 0 rfl) ?_
      refine va_get (D := D) (ci := 3) (C := RX1) (T := TX1) (N := 10) hx hb hts hinX1 hown hK.1 hP 1 rfl rfl 3 (by decide) (hts (.fieldLink RX1 21 "Switchgear$Grid" "one" "[I") (by decide +kernel)) (fun _ h9 => h9) rfl dX1_acrossFrom_15 ?_
      refine lv_iload_n hx hb dX1_acrossFrom_18 rfl (lv_at hl 2 rfl) ?_
      obtain ⟨hg1, hf⟩ := sg_g_s hf
      refine va_iald hx hb hK.1 hP 9 0 rfl rfl (sg_inb_s hg1) dX1_acrossFrom_19 ?_
      refine lv_iload_n hx hb dX1_acrossFrom_20 rfl (lv_at hl 1 rfl) ?_
      refine lv_icmp_ne (tgt := 31) hx hb dX1_acrossFrom_21 (by decide) (fun c6 => ?_) (fun c6 => ?_)
      · have hf := sg_in c6 hf
        refine lv_aload_n hx hb dX1_acrossFrom_31 rfl (lv_at hl 0 rfl) ?_
        refine va_get (D := D) (ci := 3) (C := RX1) (T := TX1) (N := 10) hx hb hts hinX1 hown hK.1 hP 1 rfl rfl 4 (by decide) (hts (.fieldLink RX1 24 "Switchgear$Grid" "other" "[I") (by decide +kernel)) (fun _ h9 => h9) rfl dX1_acrossFrom_32 ?_
        refine lv_iload_n hx hb dX1_acrossFrom_35 rfl (lv_at hl 2 rfl) ?_
        obtain ⟨hg2, hf⟩ := sg_g_s hf
        refine va_iald hx hb hK.1 hP 10 0 rfl rfl (sg_inb_s hg2) dX1_acrossFrom_36 ?_
        refine lv_iload_n hx hb dX1_acrossFrom_37 rfl (lv_at hl 1 rfl) ?_
        refine lv_icmp_ne (tgt := 50) hx hb dX1_acrossFrom_38 (by decide) (fun c4 => ?_) (fun c4 => ?_)
        · have hf := sg_in c4 hf
          refine lv_iconst (v := (-1)) hx hb dX1_acrossFrom_50 (by decide) ?_
          have hq := Option.some.inj hf
          exact sg_iret hx hb hr hP hD hS dX1_acrossFrom_51 hq rfl hlocks
        · have hf := sg_ip c4 hf
          refine lv_aload_n hx hb dX1_acrossFrom_41 rfl (lv_at hl 0 rfl) ?_
          refine va_get (D := D) (ci := 3) (C := RX1) (T := TX1) (N := 10) hx hb hts hinX1 hown hK.1 hP 1 rfl rfl 3 (by decide) (hts (.fieldLink RX1 21 "Switchgear$Grid" "one" "[I") (by decide +kernel)) (fun _ h9 => h9) rfl dX1_acrossFrom_42 ?_
          refine lv_iload_n hx hb dX1_acrossFrom_45 rfl (lv_at hl 2 rfl) ?_
          obtain ⟨hg3, hf⟩ := sg_g_s hf
          refine va_iald hx hb hK.1 hP 9 0 rfl rfl (sg_inb_s hg3) dX1_acrossFrom_46 ?_
          refine lv_goto (tgt := 51) hx hb dX1_acrossFrom_47 (by decide) ?_
          have hq := Option.some.inj hf
          exact sg_iret hx hb hr hP hD hS dX1_acrossFrom_51 hq rfl hlocks
      · have hf := sg_ip c6 hf
        refine lv_aload_n hx hb dX1_acrossFrom_24 rfl (lv_at hl 0 rfl) ?_
        refine va_get (D := D) (ci := 3) (C := RX1) (T := TX1) (N := 10) hx hb hts hinX1 hown hK.1 hP 1 rfl rfl 4 (by decide) (hts (.fieldLink RX1 24 "Switchgear$Grid" "other" "[I") (by decide +kernel)) (fun _ h9 => h9) rfl dX1_acrossFrom_25 ?_
        refine lv_iload_n hx hb dX1_acrossFrom_28 rfl (lv_at hl 2 rfl) ?_
        obtain ⟨hg5, hf⟩ := sg_g_s hf
        refine va_iald hx hb hK.1 hP 10 0 rfl rfl (sg_inb_s hg5) dX1_acrossFrom_29 ?_
        have hq := Option.some.inj hf
        exact sg_iret hx hb hr hP hD hS dX1_acrossFrom_30 hq rfl hlocks
    · have hf := sg_in c7 hf
      refine lv_iconst (v := (-1)) hx hb dX1_acrossFrom_12 (by decide) ?_
      have hq := Option.some.inj hf
      exact sg_iret hx hb hr hP hD hS dX1_acrossFrom_13 hq rfl hlocks
set_option maxRecDepth 100000 in
set_option maxHeartbeats 4000000 in
theorem c_X0_drawAt (l : Launch) (D : va_G) (cA : Nat → ClassId) (ad : Nat → Nat) (N : Nat) : ∀ (d : Nat) (u : sg_St) (p1 p2 p3 p4 : Int32) (r : Int32) (u' : sg_St), fX0_drawAt N d u p1 p2 p3 p4 = some (r, u') → sg_CI l D cA (sg_WX cA ad) yX0_drawAt wsX0_drawAt ({ frames := 1 + d, cells := 0, slots := 0, locals := 22 + d * 27 }) [.ref (ad 2), .int p1, .int p2, .int p3, .int p4] u r u' := by
  intro d
  induction d with
  | zero => intros; rename_i hf; cases hf
  | succ d ih =>
  intro u p1 p2 p3 p4 r u' hf
  intro sz
  refine Met.ofW (cc := cX0_drawAt) (maxL := 8) (ret := (some .int)) (by decide) rfl ?_
  intro p e s m args below meth c s₁ B hml hv
  obtain ⟨rfl, hsz, hP, hK, hD0⟩ := hv
  have hx := B.exec
  have hb := B.bytes
  have hr := B.returns
  have hts := atoms_spec (ws := wsX0_drawAt) B.pre
  have hown : s.vm.findClass RX0 = some m.cls := findClass_of_methodNamed B.named
  have hlocks := B.notSynchronized
  subst hsz
  have hD := hD0.self (sz := s.heap.size)
  generalize hAe : va_A (sg_WX cA ad u) s.heap.size = A at hD ⊢
  have hA : ∀ q : Nat, s.heap.size ≤ q → A q := fun q h => by rw [← hAe]; exact Or.inr h
  have hS : va_S A s.heap s.heap [] := va_S.rf
  have hl := lv_entry ([.ref (ad 2), .int p1, .int p2, .int p3, .int p4]) (n := 8) (Nat.le_of_ble_eq_true rfl)
  rw [lg_entry_eq]
  generalize (lg_sl ([.ref (ad 2), .int p1, .int p2, .int p3, .int p4]) ++ List.replicate (8 - (lg_sl ([.ref (ad 2), .int p1, .int p2, .int p3, .int p4])).length) Slot.unset).toArray = ls at hl ⊢
  replace hl : lv_has ls 8 [(0, .ref (ad 2)), (1, .int p1), (2, .int p2), (3, .int p3), (4, .int p4)] := hl
  have hinX0 : ∀ w ∈ u_ws RX0 TX0 3, w ∈ wsX0_drawAt := by decide +kernel
  have hL22 : ∀ (v1 v2 v3 v4 : Int32) (n : Nat) (x : sg_St × Int32 × Int32) (r9 : sg_St × Int32), sg_it (fun x => fX0_drawAt_L22 N (fX0_drawAt N d) x.1 v1 v2 v3 v4 x.2.1 x.2.2) n x = some r9 → ∀ (H : Heap) (locs : List Loc) (ls : Array Slot), va_P D vwCl (sg_WX cA ad x.1) H → va_D A (sg_WX cA ad x.1) → va_S A s.heap H locs → lv_has ls 8 [(0, .ref (ad 2)), (1, .int v1), (2, .int v2), (3, .int v3), (4, .int v4), (5, .int x.2.1), (6, .int x.2.2)] → (∀ (H : Heap) (locs : List Loc) (ls : Array Slot), va_P D vwCl (sg_WX cA ad r9.1) H → va_D A (sg_WX cA ad r9.1) → va_S A s.heap H locs → lv_has ls 8 [(0, .ref (ad 2)), (5, .int r9.2)] → W p l e (headSpec wsX0_drawAt ({ frames := 1 + (d + 1), cells := 0, slots := 0, locals := 22 + (d + 1) * 27 })).room s m ([.ref (ad 2), .int p1, .int p2, .int p3, .int p4] : List Value).toArray below meth c H locs 0 0 (MQ below (va_Qi (fun x y => x = r ∧ y = u') (sg_BX D (sg_WX cA ad) A) A) ([.ref (ad 2), .int p1, .int p2, .int p3, .int p4] : List Value).toArray s 0 0 A) (F0 m 104 ls [])) → W p l e (headSpec wsX0_drawAt ({ frames := 1 + (d + 1), cells := 0, slots := 0, locals := 22 + (d + 1) * 27 })).room s m ([.ref (ad 2), .int p1, .int p2, .int p3, .int p4] : List Value).toArray below meth c H locs 0 0 (MQ below (va_Qi (fun x y => x = r ∧ y = u') (sg_BX D (sg_WX cA ad) A) A) ([.ref (ad 2), .int p1, .int p2, .int p3, .int p4] : List Value).toArray s 0 0 A) (F0 m 22 ls []) := by
    intro v1 v2 v3 v4
    refine sg_loop _ ?_
    intro x y r9 hf hI hy H locs ls hP hD hS hl hk
    replace hf : fX0_drawAt_L22 N (fX0_drawAt N d) x.1 v1 v2 v3 v4 x.2.1 x.2.2 = some y := hf
    have hJ58 : ∀ (u : sg_St) (v5 v6 k0 : Int32) (H : Heap) (locs : List Loc) (ls : Array Slot), fX0_drawAt_j58 N (fX0_drawAt N d) u v1 v2 v3 v4 v5 v6 k0 = some y → va_P D vwCl (sg_WX cA ad u) H → va_D A (sg_WX cA ad u) → va_S A s.heap H locs → lv_has ls 8 [(0, .ref (ad 2)), (1, .int v1), (2, .int v2), (3, .int v3), (4, .int v4), (5, .int v5), (6, .int v6)] → W p l e (headSpec wsX0_drawAt ({ frames := 1 + (d + 1), cells := 0, slots := 0, locals := 22 + (d + 1) * 27 })).room s m ([.ref (ad 2), .int p1, .int p2, .int p3, .int p4] : List Value).toArray below meth c H locs 0 0 (MQ below (va_Qi (fun x y => x = r ∧ y = u') (sg_BX D (sg_WX cA ad) A) A) ([.ref (ad 2), .int p1, .int p2, .int p3, .int p4] : List Value).toArray s 0 0 A) (F0 m 58 ls [.int k0]) := by
      intro u v5 v6 k0 H locs ls hf hP hD hS hl
      unfold fX0_drawAt_j58 at hf
      refine lv_istore (lv' := [(7, .int k0), (0, .ref (ad 2)), (1, .int v1), (2, .int v2), (3, .int v3), (4, .int v4), (5, .int v5), (6, .int v6)]) hx hb dX0_drawAt_58 hl (by decide) rfl (fun ls hl => ?_)
      refine lv_iload hx hb dX0_drawAt_60 (lv_at hl 0 rfl) ?_
      refine lv_iconst (v := (-1)) hx hb dX0_drawAt_62 (by decide) ?_
      refine lv_icmp_eq (tgt := 98) hx hb dX0_drawAt_63 (by decide) (fun c6 => ?_) (fun c6 => ?_)
      · have hf := sg_ip c6 hf
        refine lv_iinc (v := v6 + 1) (lv' := [(6, .int (v6 + 1)), (7, .int k0), (0, .ref (ad 2)), (1, .int v1), (2, .int v2), (3, .int v3), (4, .int v4), (5, .int v5)]) hx hb dX0_drawAt_98 hl (k := 7) rfl rfl (by decide) rfl (fun ls hl => ?_)
        refine lv_goto (tgt := 22) hx hb dX0_drawAt_101 (by decide) ?_
        exact hI _ (Option.some.inj hf).symm _ _ _ hP hD hS (lv_sub hl [2, 3, 4, 5, 6, 7, 0] rfl) hk
      · have hf := sg_in c6 hf
        refine lv_aload_n hx hb dX0_drawAt_66 rfl (lv_at hl 1 rfl) ?_
        refine va_get (D := D) (ci := 2) (C := RX0) (T := TX0) (N := 3) hx hb hts hinX0 hown hK.1 hP 2 rfl rfl 1 (by decide) (hts (.fieldLink RX0 9 "Switchgear$Feeder" "current" "[I") (by decide +kernel)) (fun _ h9 => h9) rfl dX0_drawAt_67 ?_
        refine lv_iload hx hb dX0_drawAt_70 (lv_at hl 7 rfl) ?_
        refine lv_aload_n hx hb dX0_drawAt_72 rfl (lv_at hl 1 rfl) ?_
        refine lv_iload hx hb dX0_drawAt_73 (lv_at hl 0 rfl) ?_
        refine lv_iload hx hb dX0_drawAt_75 (lv_at hl 7 rfl) ?_
        refine lv_iload_n hx hb dX0_drawAt_77 rfl (lv_at hl 4 rfl) ?_
        refine lv_iload hx hb dX0_drawAt_78 (lv_at hl 5 rfl) ?_
        refine lv_iconst (v := 1) hx hb dX0_drawAt_80 (by decide) ?_
        refine lv_iadd hx hb dX0_drawAt_81 ?_
        obtain ⟨r2, u3, hc1, hf⟩ := sg_b2_s hf
        refine sg_ci (va_runV (As := [.int k0, .int v6, .int v3, .int (v4 + 1)]) (rest := [.int v6, .ref (ad 12)]) ⟨hx, hb, hml, hown, hts⟩ (ih _ _ _ _ _ _ _ hc1 _) (cwV 4 hts gX0_drawAt_X0_drawAt rfl rfl rfl (by decide +kernel) ⟨by show 1 + d + 1 ≤ 1 + (d + 1); omega, by show 8 + (8 + 11) + (22 + d * 27) ≤ 22 + (d + 1) * 27; omega⟩) (sg_pre hK hP hD (ci := 2) (q0 := 2) rfl rfl) rfl rfl hl.1 rfl (lv_room (Nat.le_of_ble_eq_true rfl)) dX0_drawAt_82 ⟨Nat.zero_le _, Nat.zero_le _⟩) hD hS hA (fun H locs hP hD hS => ?_)
        obtain ⟨hg4, hf⟩ := sg_g_s hf
        refine va_iast hx hb hK.1 hP hD hS 12 0 rfl rfl (sg_inb_s hg4) dX0_drawAt_85 (fun H locs hP hD hS => ?_)
        replace hP : va_P D vwCl (sg_WX cA ad (sg_set u3 17 (v6).toNatClampNeg r2)) H := by rw [← sg_WX_17]; exact hP
        replace hD : va_D A (sg_WX cA ad (sg_set u3 17 (v6).toNatClampNeg r2)) := by rw [← sg_WX_17]; exact hD
        refine lv_iload hx hb dX0_drawAt_86 (lv_at hl 6 rfl) ?_
        refine lv_aload_n hx hb dX0_drawAt_88 rfl (lv_at hl 1 rfl) ?_
        refine va_get (D := D) (ci := 2) (C := RX0) (T := TX0) (N := 3) hx hb hts hinX0 hown hK.1 hP 2 rfl rfl 1 (by decide) (hts (.fieldLink RX0 9 "Switchgear$Feeder" "current" "[I") (by decide +kernel)) (fun _ h9 => h9) rfl dX0_drawAt_89 ?_
        refine lv_iload hx hb dX0_drawAt_92 (lv_at hl 7 rfl) ?_
        obtain ⟨hg5, hf⟩ := sg_g_s hf
        refine va_iald hx hb hK.1 hP 12 0 rfl rfl (sg_inb_s hg5) dX0_drawAt_94 ?_
        refine lv_iadd hx hb dX0_drawAt_95 ?_
        refine lv_istore (lv' := [(5, .int (v5 + ((sg_set u3 17 (v6).toNatClampNeg r2) 17 (v6).toNatClampNeg))), (7, .int k0), (0, .ref (ad 2)), (1, .int v1), (2, .int v2), (3, .int v3), (4, .int v4), (6, .int v6)]) hx hb dX0_drawAt_96 hl (by decide) rfl (fun ls hl => ?_)
        refine lv_iinc (v := v6 + 1) (lv' := [(6, .int (v6 + 1)), (5, .int (v5 + ((sg_set u3 17 (v6).toNatClampNeg r2) 17 (v6).toNatClampNeg))), (7, .int k0), (0, .ref (ad 2)), (1, .int v1), (2, .int v2), (3, .int v3), (4, .int v4)]) hx hb dX0_drawAt_98 hl (k := 7) rfl rfl (by decide) rfl (fun ls hl => ?_)
        refine lv_goto (tgt := 22) hx hb dX0_drawAt_101 (by decide) ?_
        exact hI _ (Option.some.inj hf).symm _ _ _ hP hD hS (lv_sub hl [3, 4, 5, 6, 7, 1, 0] rfl) hk
    unfold fX0_drawAt_L22 at hf
    refine lv_iload hx hb dX0_drawAt_22 (lv_at hl 6 rfl) ?_
    refine lv_bipush (v := 12) hx hb dX0_drawAt_24 (by decide) ?_
    refine lv_icmp_ge (tgt := 104) hx hb dX0_drawAt_26 (by decide) (fun c9 => ?_) (fun c9 => ?_)
    · have hf := sg_ip c9 hf
      have hq := hy _ (Option.some.inj hf).symm
      subst hq
      exact hk _ _ _ hP hD hS (lv_sub hl [0, 5] rfl)
    · have hf := sg_in c9 hf
      refine lv_iload hx hb dX0_drawAt_29 (lv_at hl 6 rfl) ?_
      refine lv_iload_n hx hb dX0_drawAt_31 rfl (lv_at hl 2 rfl) ?_
      refine lv_icmp_eq (tgt := 44) hx hb dX0_drawAt_32 (by decide) (fun c8 => ?_) (fun c8 => ?_)
      · have hf := sg_ip c8 hf
        refine lv_iconst (v := (-1)) hx hb dX0_drawAt_44 (by decide) ?_
        refine lv_goto (tgt := 58) hx hb dX0_drawAt_45 (by decide) ?_
        exact hJ58 _ _ _ _ _ _ _ hf hP hD hS (lv_sub hl [0, 1, 2, 3, 4, 5, 6] rfl)
      · have hf := sg_in c8 hf
        refine lv_iload_n hx hb dX0_drawAt_35 rfl (lv_at hl 3 rfl) ?_
        refine lv_iload hx hb dX0_drawAt_36 (lv_at hl 6 rfl) ?_
        obtain ⟨r2, hc1, hf⟩ := sg_b_s hf
        refine sg_ci0 (va_runSN (As := [.int v3, .int x.2.2]) (rest := []) ⟨hx, hb, hml, hown, hts⟩ (c_X5_has l D cA N _ _ _ hc1 _) ⟨va_cnB (host := RX5) 2 hts gX0_drawAt_X5_has_n43 rfl rfl rfl (hK.2 _ (List.mem_of_getElem? (i := 1) rfl)) (hts (.initialized RX5) (by decide +kernel)) (by decide +kernel) ⟨by show 0 + 1 ≤ 1 + (d + 1); omega, by show 8 + (2 + 11) + 0 ≤ 22 + (d + 1) * 27; omega⟩, hts (.static yX5_has) (by decide +kernel), trivial⟩ (sg_pre0 hK) rfl rfl hl.1 rfl (lv_room (Nat.le_of_ble_eq_true rfl)) dX0_drawAt_38 ⟨Nat.zero_le _, Nat.zero_le _⟩) hP hS hA (fun H locs hP hS => ?_)
        refine lv_if_ne (tgt := 48) hx hb dX0_drawAt_41 (by decide) (fun c7 => ?_) (fun c7 => ?_)
        · have hf := sg_in c7 hf
          refine lv_aload_n hx hb dX0_drawAt_48 rfl (lv_at hl 0 rfl) ?_
          refine va_get (D := D) (ci := 2) (C := RX0) (T := TX0) (N := 3) hx hb hts hinX0 hown hK.1 hP 2 rfl rfl 0 (by decide) (hts (.fieldLink RX0 18 "Switchgear$Feeder" "grid" "LSwitchgear$Grid;") (by decide +kernel)) (fun _ h9 => h9) rfl dX0_drawAt_49 ?_
          refine lv_iload_n hx hb dX0_drawAt_52 rfl (lv_at hl 1 rfl) ?_
          refine lv_iload hx hb dX0_drawAt_53 (lv_at hl 6 rfl) ?_
          obtain ⟨r5, hc4, hf⟩ := sg_b_s hf
          refine sg_ci (va_runV (As := [.int v1, .int x.2.2]) (rest := []) ⟨hx, hb, hml, hown, hts⟩ (c_X1_acrossFrom l D cA ad N _ _ _ _ hc4 _) (cwV 2 hts gX0_drawAt_X1_acrossFrom rfl rfl rfl (by decide +kernel) ⟨by show 0 + 1 ≤ 1 + (d + 1); omega, by show 8 + (3 + 11) + 0 ≤ 22 + (d + 1) * 27; omega⟩) (sg_pre hK hP hD (ci := 3) (q0 := 1) rfl rfl) rfl rfl hl.1 rfl (lv_room (Nat.le_of_ble_eq_true rfl)) dX0_drawAt_55 ⟨Nat.zero_le _, Nat.zero_le _⟩) hD hS hA (fun H locs hP hD hS => ?_)
          exact hJ58 _ _ _ _ _ _ _ hf hP hD hS (lv_sub hl [0, 1, 2, 3, 4, 5, 6] rfl)
        · have hf := sg_ip c7 hf
          refine lv_iconst (v := (-1)) hx hb dX0_drawAt_44 (by decide) ?_
          refine lv_goto (tgt := 58) hx hb dX0_drawAt_45 (by decide) ?_
          exact hJ58 _ _ _ _ _ _ _ hf hP hD hS (lv_sub hl [0, 1, 2, 3, 4, 5, 6] rfl)
  replace hf : fX0_drawAt_B N (fX0_drawAt N d) u p1 p2 p3 p4 = some (r, u') := hf
  unfold fX0_drawAt_B at hf
  refine lv_iload hx hb dX0_drawAt_0 (lv_at hl 4 rfl) ?_
  refine lv_bipush (v := 10) hx hb dX0_drawAt_2 (by decide) ?_
  refine lv_icmp_lt (tgt := 9) hx hb dX0_drawAt_4 (by decide) (fun c6 => ?_) (fun c6 => ?_)
  · have hf := sg_ip c6 hf
    refine lv_aload_n hx hb dX0_drawAt_9 rfl (lv_at hl 0 rfl) ?_
    refine va_get (D := D) (ci := 2) (C := RX0) (T := TX0) (N := 3) hx hb hts hinX0 hown hK.1 hP 2 rfl rfl 0 (by decide) (hts (.fieldLink RX0 18 "Switchgear$Feeder" "grid" "LSwitchgear$Grid;") (by decide +kernel)) (fun _ h9 => h9) rfl dX0_drawAt_10 ?_
    refine lv_iload_n hx hb dX0_drawAt_13 rfl (lv_at hl 1 rfl) ?_
    obtain ⟨r2, hc1, hf⟩ := sg_b_s hf
    refine sg_ci (va_runV (As := [.int p1]) (rest := []) ⟨hx, hb, hml, hown, hts⟩ (c_X1_loadAt l D cA ad N _ _ _ hc1 _) (cwV 1 hts gX0_drawAt_X1_loadAt rfl rfl rfl (by decide +kernel) ⟨by show 0 + 1 ≤ 1 + (d + 1); omega, by show 8 + (2 + 11) + 0 ≤ 22 + (d + 1) * 27; omega⟩) (sg_pre hK hP hD (ci := 3) (q0 := 1) rfl rfl) rfl rfl hl.1 rfl (lv_room (Nat.le_of_ble_eq_true rfl)) dX0_drawAt_14 ⟨Nat.zero_le _, Nat.zero_le _⟩) hD hS hA (fun H locs hP hD hS => ?_)
    refine lv_istore (lv' := [(5, .int r2), (0, .ref (ad 2)), (1, .int p1), (2, .int p2), (3, .int p3), (4, .int p4)]) hx hb dX0_drawAt_17 hl (by decide) rfl (fun ls hl => ?_)
    refine lv_iconst (v := 0) hx hb dX0_drawAt_19 (by decide) ?_
    refine lv_istore (lv' := [(6, .int 0), (5, .int r2), (0, .ref (ad 2)), (1, .int p1), (2, .int p2), (3, .int p3), (4, .int p4)]) hx hb dX0_drawAt_20 hl (by decide) rfl (fun ls hl => ?_)
    obtain ⟨e4, hc5, hf⟩ := sg_b_s hf
    refine hL22 _ _ _ _ _ _ e4 hc5 _ _ _ hP hD hS (lv_sub hl [2, 3, 4, 5, 6, 1, 0] rfl) (fun H locs ls hP hD hS hl => ?_)
    refine lv_iload hx hb dX0_drawAt_104 (lv_at hl 1 rfl) ?_
    have hq := Option.some.inj hf
    exact sg_iret hx hb hr hP hD hS dX0_drawAt_106 (congrArg Prod.fst hq) (congrArg Prod.snd hq) hlocks
  · have hf := sg_in c6 hf
    refine lv_iconst (v := 0) hx hb dX0_drawAt_7 (by decide) ?_
    have hq := Option.some.inj hf
    exact sg_iret hx hb hr hP hD hS dX0_drawAt_8 (congrArg Prod.fst hq) (congrArg Prod.snd hq) hlocks
set_option maxRecDepth 100000 in
set_option maxHeartbeats 4000000 in
theorem c_X0_measure (l : Launch) (D : va_G) (cA : Nat → ClassId) (ad : Nat → Nat) (N : Nat) (u : sg_St) (p1 : Int32) (u' : sg_St) (hf : fX0_measure N u p1 = some u') : sg_CV l D cA (sg_WX cA ad) yX0_measure wsX0_measure ({ frames := 15, cells := 0, slots := 0, locals := 400 }) [.ref (ad 2), .int p1] u u' := by
  intro sz
  refine Met.ofW (cc := cX0_measure) (maxL := 3) (ret := none) (by decide) rfl ?_
  intro p e s m args below meth c s₁ B hml hv
  obtain ⟨rfl, hsz, hP, hK, hD0⟩ := hv
  have hx := B.exec
  have hb := B.bytes
  have hr := B.returns
  have hts := atoms_spec (ws := wsX0_measure) B.pre
  have hown : s.vm.findClass RX0 = some m.cls := findClass_of_methodNamed B.named
  have hlocks := B.notSynchronized
  subst hsz
  have hD := hD0.self (sz := s.heap.size)
  generalize hAe : va_A (sg_WX cA ad u) s.heap.size = A at hD ⊢
  have hA : ∀ q : Nat, s.heap.size ≤ q → A q := fun q h => by rw [← hAe]; exact Or.inr h
  have hS : va_S A s.heap s.heap [] := va_S.rf
  have hl := lv_entry ([.ref (ad 2), .int p1]) (n := 3) (Nat.le_of_ble_eq_true rfl)
  rw [lg_entry_eq]
  generalize (lg_sl ([.ref (ad 2), .int p1]) ++ List.replicate (3 - (lg_sl ([.ref (ad 2), .int p1])).length) Slot.unset).toArray = ls at hl ⊢
  replace hl : lv_has ls 3 [(0, .ref (ad 2)), (1, .int p1)] := hl
  have hinX0 : ∀ w ∈ u_ws RX0 TX0 3, w ∈ wsX0_measure := by decide +kernel
  have hinX1 : ∀ w ∈ u_ws RX1 TX1 10, w ∈ wsX0_measure := by decide +kernel
  have hL2 : ∀ (v1 : Int32) (n : Nat) (x : sg_St × Int32) (r9 : sg_St), sg_it (fun x => fX0_measure_L2 N x.1 v1 x.2) n x = some r9 → ∀ (H : Heap) (locs : List Loc) (ls : Array Slot), va_P D vwCl (sg_WX cA ad x.1) H → va_D A (sg_WX cA ad x.1) → va_S A s.heap H locs → lv_has ls 3 [(0, .ref (ad 2)), (1, .int v1), (2, .int x.2)] → (∀ (H : Heap) (locs : List Loc) (ls : Array Slot), va_P D vwCl (sg_WX cA ad r9) H → va_D A (sg_WX cA ad r9) → va_S A s.heap H locs → lv_has ls 3 [(0, .ref (ad 2)), (1, .int v1)] → W p l e (headSpec wsX0_measure ({ frames := 15, cells := 0, slots := 0, locals := 400 })).room s m ([.ref (ad 2), .int p1] : List Value).toArray below meth c H locs 0 0 (MQ below (va_Qv (fun y => y = u') (sg_BX D (sg_WX cA ad) A) A) ([.ref (ad 2), .int p1] : List Value).toArray s 0 0 A) (F0 m 21 ls [])) → W p l e (headSpec wsX0_measure ({ frames := 15, cells := 0, slots := 0, locals := 400 })).room s m ([.ref (ad 2), .int p1] : List Value).toArray below meth c H locs 0 0 (MQ below (va_Qv (fun y => y = u') (sg_BX D (sg_WX cA ad) A) A) ([.ref (ad 2), .int p1] : List Value).toArray s 0 0 A) (F0 m 2 ls []) := by
    intro v1
    refine sg_loop _ ?_
    intro x y r9 hf hI hy H locs ls hP hD hS hl hk
    replace hf : fX0_measure_L2 N x.1 v1 x.2 = some y := hf
    unfold fX0_measure_L2 at hf
    refine lv_iload_n hx hb dX0_measure_2 rfl (lv_at hl 2 rfl) ?_
    refine lv_bipush (v := 12) hx hb dX0_measure_3 (by decide) ?_
    refine lv_icmp_ge (tgt := 21) hx hb dX0_measure_5 (by decide) (fun c2 => ?_) (fun c2 => ?_)
    · have hf := sg_ip c2 hf
      have hq := hy _ (Option.some.inj hf).symm
      subst hq
      exact hk _ _ _ hP hD hS (lv_sub hl [0, 1] rfl)
    · have hf := sg_in c2 hf
      refine lv_aload_n hx hb dX0_measure_8 rfl (lv_at hl 0 rfl) ?_
      refine va_get (D := D) (ci := 2) (C := RX0) (T := TX0) (N := 3) hx hb hts hinX0 hown hK.1 hP 2 rfl rfl 1 (by decide) (hts (.fieldLink RX0 9 "Switchgear$Feeder" "current" "[I") (by decide +kernel)) (fun _ h9 => h9) rfl dX0_measure_9 ?_
      refine lv_iload_n hx hb dX0_measure_12 rfl (lv_at hl 2 rfl) ?_
      refine lv_iconst (v := 0) hx hb dX0_measure_13 (by decide) ?_
      obtain ⟨hg1, hf⟩ := sg_g_s hf
      refine va_iast hx hb hK.1 hP hD hS 12 0 rfl rfl (sg_inb_s hg1) dX0_measure_14 (fun H locs hP hD hS => ?_)
      replace hP : va_P D vwCl (sg_WX cA ad (sg_set x.1 17 (x.2).toNatClampNeg 0)) H := by rw [← sg_WX_17]; exact hP
      replace hD : va_D A (sg_WX cA ad (sg_set x.1 17 (x.2).toNatClampNeg 0)) := by rw [← sg_WX_17]; exact hD
      refine lv_iinc (v := x.2 + 1) (lv' := [(2, .int (x.2 + 1)), (0, .ref (ad 2)), (1, .int v1)]) hx hb dX0_measure_15 hl (k := 2) rfl rfl (by decide) rfl (fun ls hl => ?_)
      refine lv_goto (tgt := 2) hx hb dX0_measure_18 (by decide) ?_
      exact hI _ (Option.some.inj hf).symm _ _ _ hP hD hS (lv_sub hl [1, 2, 0] rfl) hk
  have hL23 : ∀ (v1 : Int32) (n : Nat) (x : sg_St × Int32) (r9 : sg_St), sg_it (fun x => fX0_measure_L23 N x.1 v1 x.2) n x = some r9 → ∀ (H : Heap) (locs : List Loc) (ls : Array Slot), va_P D vwCl (sg_WX cA ad x.1) H → va_D A (sg_WX cA ad x.1) → va_S A s.heap H locs → lv_has ls 3 [(0, .ref (ad 2)), (1, .int v1), (2, .int x.2)] → (∀ (H : Heap) (locs : List Loc) (ls : Array Slot), va_P D vwCl (sg_WX cA ad r9) H → va_D A (sg_WX cA ad r9) → va_S A s.heap H locs → lv_has ls 3 [(0, .ref (ad 2))] → W p l e (headSpec wsX0_measure ({ frames := 15, cells := 0, slots := 0, locals := 400 })).room s m ([.ref (ad 2), .int p1] : List Value).toArray below meth c H locs 0 0 (MQ below (va_Qv (fun y => y = u') (sg_BX D (sg_WX cA ad) A) A) ([.ref (ad 2), .int p1] : List Value).toArray s 0 0 A) (F0 m 63 ls [])) → W p l e (headSpec wsX0_measure ({ frames := 15, cells := 0, slots := 0, locals := 400 })).room s m ([.ref (ad 2), .int p1] : List Value).toArray below meth c H locs 0 0 (MQ below (va_Qv (fun y => y = u') (sg_BX D (sg_WX cA ad) A) A) ([.ref (ad 2), .int p1] : List Value).toArray s 0 0 A) (F0 m 23 ls []) := by
    intro v1
    refine sg_loop _ ?_
    intro x y r9 hf hI hy H locs ls hP hD hS hl hk
    replace hf : fX0_measure_L23 N x.1 v1 x.2 = some y := hf
    unfold fX0_measure_L23 at hf
    refine lv_iload_n hx hb dX0_measure_23 rfl (lv_at hl 2 rfl) ?_
    refine lv_aload_n hx hb dX0_measure_24 rfl (lv_at hl 0 rfl) ?_
    refine va_get (D := D) (ci := 2) (C := RX0) (T := TX0) (N := 3) hx hb hts hinX0 hown hK.1 hP 2 rfl rfl 0 (by decide) (hts (.fieldLink RX0 18 "Switchgear$Feeder" "grid" "LSwitchgear$Grid;") (by decide +kernel)) (fun _ h9 => h9) rfl dX0_measure_25 ?_
    refine va_getN (D := D) (ci := 3) (C := RX1) (T := TX1) (N := 10) (host := RX5) (ref := RX1) hx hb hts hinX1 hown hK.1 hP 1 rfl rfl 6 (by decide) (va_Nw.use rfl (hK.2 _ (List.mem_of_getElem? (i := 19) rfl))) (fun _ h9 => h9) rfl dX0_measure_28 ?_
    refine lv_icmp_ge (tgt := 63) hx hb dX0_measure_31 (by decide) (fun c8 => ?_) (fun c8 => ?_)
    · have hf := sg_ip c8 hf
      have hq := hy _ (Option.some.inj hf).symm
      subst hq
      exact hk _ _ _ hP hD hS (lv_sub hl [0] rfl)
    · have hf := sg_in c8 hf
      refine lv_aload_n hx hb dX0_measure_34 rfl (lv_at hl 0 rfl) ?_
      refine va_get (D := D) (ci := 2) (C := RX0) (T := TX0) (N := 3) hx hb hts hinX0 hown hK.1 hP 2 rfl rfl 0 (by decide) (hts (.fieldLink RX0 18 "Switchgear$Feeder" "grid" "LSwitchgear$Grid;") (by decide +kernel)) (fun _ h9 => h9) rfl dX0_measure_35 ?_
      refine va_getN (D := D) (ci := 3) (C := RX1) (T := TX1) (N := 10) (host := RX5) (ref := RX1) hx hb hts hinX1 hown hK.1 hP 1 rfl rfl 8 (by decide) (va_Nw.use rfl (hK.2 _ (List.mem_of_getElem? (i := 20) rfl))) (fun _ h9 => h9) rfl dX0_measure_38 ?_
      refine lv_iload_n hx hb dX0_measure_41 rfl (lv_at hl 2 rfl) ?_
      obtain ⟨r2, hc1, hf⟩ := sg_b_s hf
      refine sg_ci0 (va_runSN (As := [.int (x.1 2 0), .int x.2]) (rest := []) ⟨hx, hb, hml, hown, hts⟩ (c_X5_has l D cA N _ _ _ hc1 _) ⟨va_cnB (host := RX5) 2 hts gX0_measure_X5_has_n43 rfl rfl rfl (hK.2 _ (List.mem_of_getElem? (i := 1) rfl)) (hts (.initialized RX5) (by decide +kernel)) (by decide +kernel) ⟨Nat.le_of_ble_eq_true rfl, Nat.le_of_ble_eq_true rfl⟩, hts (.static yX5_has) (by decide +kernel), trivial⟩ (sg_pre0 hK) rfl rfl hl.1 rfl (lv_room (Nat.le_of_ble_eq_true rfl)) dX0_measure_42 ⟨Nat.zero_le _, Nat.zero_le _⟩) hP hS hA (fun H locs hP hS => ?_)
      refine lv_if_eq (tgt := 57) hx hb dX0_measure_45 (by decide) (fun c7 => ?_) (fun c7 => ?_)
      · have hf := sg_ip c7 hf
        refine lv_iinc (v := x.2 + 1) (lv' := [(2, .int (x.2 + 1)), (0, .ref (ad 2)), (1, .int v1)]) hx hb dX0_measure_57 hl (k := 2) rfl rfl (by decide) rfl (fun ls hl => ?_)
        refine lv_goto (tgt := 23) hx hb dX0_measure_60 (by decide) ?_
        exact hI _ (Option.some.inj hf).symm _ _ _ hP hD hS (lv_sub hl [1, 2, 0] rfl) hk
      · have hf := sg_in c7 hf
        refine lv_aload_n hx hb dX0_measure_48 rfl (lv_at hl 0 rfl) ?_
        refine lv_iload_n hx hb dX0_measure_49 rfl (lv_at hl 2 rfl) ?_
        refine lv_iconst (v := (-1)) hx hb dX0_measure_50 (by decide) ?_
        refine lv_iload_n hx hb dX0_measure_51 rfl (lv_at hl 1 rfl) ?_
        refine lv_iconst (v := 0) hx hb dX0_measure_52 (by decide) ?_
        obtain ⟨r5, u6, hc4, hf⟩ := sg_b2_s hf
        refine sg_ci (va_runV (As := [.int x.2, .int ((-1)), .int v1, .int 0]) (rest := []) ⟨hx, hb, hml, hown, hts⟩ (c_X0_drawAt l D cA ad N 13 _ _ _ _ _ _ _ hc4 _) (cwV 4 hts gX0_measure_X0_drawAt rfl rfl rfl (by decide +kernel) ⟨Nat.le_of_ble_eq_true rfl, Nat.le_of_ble_eq_true rfl⟩) (sg_pre hK hP hD (ci := 2) (q0 := 2) rfl rfl) rfl rfl hl.1 rfl (lv_room (Nat.le_of_ble_eq_true rfl)) dX0_measure_53 ⟨Nat.zero_le _, Nat.zero_le _⟩) hD hS hA (fun H locs hP hD hS => ?_)
        refine lv_pop hx hb dX0_measure_56 rfl ?_
        refine lv_iinc (v := x.2 + 1) (lv' := [(2, .int (x.2 + 1)), (0, .ref (ad 2)), (1, .int v1)]) hx hb dX0_measure_57 hl (k := 2) rfl rfl (by decide) rfl (fun ls hl => ?_)
        refine lv_goto (tgt := 23) hx hb dX0_measure_60 (by decide) ?_
        exact hI _ (Option.some.inj hf).symm _ _ _ hP hD hS (lv_sub hl [1, 2, 0] rfl) hk
  unfold fX0_measure at hf
  refine lv_iconst (v := 0) hx hb dX0_measure_0 (by decide) ?_
  refine lv_istore_n (lv' := [(2, .int 0), (0, .ref (ad 2)), (1, .int p1)]) hx hb dX0_measure_1 rfl hl (by decide) rfl (fun ls hl => ?_)
  obtain ⟨e1, hc2, hf⟩ := sg_b_s hf
  refine hL2 _ _ _ e1 hc2 _ _ _ hP hD hS (lv_sub hl [1, 2, 0] rfl) (fun H locs ls hP hD hS hl => ?_)
  refine lv_iconst (v := 0) hx hb dX0_measure_21 (by decide) ?_
  refine lv_istore_n (lv' := [(2, .int 0), (0, .ref (ad 2)), (1, .int p1)]) hx hb dX0_measure_22 rfl hl (by decide) rfl (fun ls hl => ?_)
  obtain ⟨e3, hc4, hf⟩ := sg_b_s hf
  refine hL23 _ _ _ e3 hc4 _ _ _ hP hD hS (lv_sub hl [1, 2, 0] rfl) (fun H locs ls hP hD hS hl => ?_)
  have hq := Option.some.inj hf
  exact sg_vret hx hb hr hP hD hS dX0_measure_63 hq hlocks
set_option maxRecDepth 100000 in
set_option maxHeartbeats 4000000 in
theorem c_X1_isLine (l : Launch) (D : va_G) (cA : Nat → ClassId) (ad : Nat → Nat) (N : Nat) (u : sg_St) (p1 : Int32) (r : Int32) (hf : fX1_isLine N u p1 = some r) : sg_CI l D cA (sg_WX cA ad) yX1_isLine wsX1_isLine ({ frames := 0, cells := 0, slots := 0, locals := 0 }) [.ref (ad 1), .int p1] u r u := by
  intro sz
  refine Met.ofW (cc := cX1_isLine) (maxL := 2) (ret := (some .boolean)) (by decide) rfl ?_
  intro p e s m args below meth c s₁ B hml hv
  obtain ⟨rfl, hsz, hP, hK, hD0⟩ := hv
  have hx := B.exec
  have hb := B.bytes
  have hr := B.returns
  have hts := atoms_spec (ws := wsX1_isLine) B.pre
  have hown : s.vm.findClass RX1 = some m.cls := findClass_of_methodNamed B.named
  have hlocks := B.notSynchronized
  subst hsz
  have hD := hD0.self (sz := s.heap.size)
  generalize hAe : va_A (sg_WX cA ad u) s.heap.size = A at hD ⊢
  have hA : ∀ q : Nat, s.heap.size ≤ q → A q := fun q h => by rw [← hAe]; exact Or.inr h
  have hS : va_S A s.heap s.heap [] := va_S.rf
  have hl := lv_entry ([.ref (ad 1), .int p1]) (n := 2) (Nat.le_of_ble_eq_true rfl)
  rw [lg_entry_eq]
  generalize (lg_sl ([.ref (ad 1), .int p1]) ++ List.replicate (2 - (lg_sl ([.ref (ad 1), .int p1])).length) Slot.unset).toArray = ls at hl ⊢
  replace hl : lv_has ls 2 [(0, .ref (ad 1)), (1, .int p1)] := hl
  have hinX1 : ∀ w ∈ u_ws RX1 TX1 10, w ∈ wsX1_isLine := by decide +kernel
  have hJ16 : ∀ (H : Heap) (locs : List Loc) (ls : Array Slot), fX1_isLine_j16 N u  = some r → va_P D vwCl (sg_WX cA ad u) H → va_D A (sg_WX cA ad u) → va_S A s.heap H locs → lv_has ls 2 [(0, .ref (ad 1))] → W p l e (headSpec wsX1_isLine ({ frames := 0, cells := 0, slots := 0, locals := 0 })).room s m ([.ref (ad 1), .int p1] : List Value).toArray below meth c H locs 0 0 (MQ below (va_Qi (fun x y => x = r ∧ y = u) (sg_BX D (sg_WX cA ad) A) A) ([.ref (ad 1), .int p1] : List Value).toArray s 0 0 A) (F0 m 16 ls []) := by
    intro H locs ls hf hP hD hS hl
    unfold fX1_isLine_j16 at hf
    refine lv_iconst (v := 0) hx hb dX1_isLine_16 (by decide) ?_
    have hq := Option.some.inj hf
    exact sg_zret hx hb hr rfl hP hD hS dX1_isLine_17 hq rfl hlocks
  unfold fX1_isLine at hf
  refine lv_iload_n hx hb dX1_isLine_0 rfl (lv_at hl 1 rfl) ?_
  refine lv_if_lt (tgt := 16) hx hb dX1_isLine_1 (by decide) (fun c2 => ?_) (fun c2 => ?_)
  · have hf := sg_ip c2 hf
    exact hJ16 _ _ _ hf hP hD hS (lv_sub hl [0] rfl)
  · have hf := sg_in c2 hf
    refine lv_iload_n hx hb dX1_isLine_4 rfl (lv_at hl 1 rfl) ?_
    refine lv_aload_n hx hb dX1_isLine_5 rfl (lv_at hl 0 rfl) ?_
    refine va_get (D := D) (ci := 3) (C := RX1) (T := TX1) (N := 10) hx hb hts hinX1 hown hK.1 hP 1 rfl rfl 7 (by decide) (hts (.fieldLink RX1 41 "Switchgear$Grid" "lineCount" "I") (by decide +kernel)) (fun _ h9 => h9) rfl dX1_isLine_6 ?_
    refine lv_icmp_ge (tgt := 16) hx hb dX1_isLine_9 (by decide) (fun c1 => ?_) (fun c1 => ?_)
    · have hf := sg_ip c1 hf
      exact hJ16 _ _ _ hf hP hD hS (lv_sub hl [0] rfl)
    · have hf := sg_in c1 hf
      refine lv_iconst (v := 1) hx hb dX1_isLine_12 (by decide) ?_
      refine lv_goto (tgt := 17) hx hb dX1_isLine_13 (by decide) ?_
      have hq := Option.some.inj hf
      exact sg_zret hx hb hr rfl hP hD hS dX1_isLine_17 hq rfl hlocks
set_option maxRecDepth 100000 in
set_option maxHeartbeats 4000000 in
theorem c_X0_currentIn (l : Launch) (D : va_G) (cA : Nat → ClassId) (ad : Nat → Nat) (N : Nat) (u : sg_St) (p1 p2 : Int32) (r : Int32) (u' : sg_St) (hf : fX0_currentIn N u p1 p2 = some (r, u')) : sg_CI l D cA (sg_WX cA ad) yX0_currentIn wsX0_currentIn ({ frames := 16, cells := 0, slots := 0, locals := 422 }) [.ref (ad 2), .int p1, .int p2] u r u' := by
  intro sz
  refine Met.ofW (cc := cX0_currentIn) (maxL := 3) (ret := (some .int)) (by decide) rfl ?_
  intro p e s m args below meth c s₁ B hml hv
  obtain ⟨rfl, hsz, hP, hK, hD0⟩ := hv
  have hx := B.exec
  have hb := B.bytes
  have hr := B.returns
  have hts := atoms_spec (ws := wsX0_currentIn) B.pre
  have hown : s.vm.findClass RX0 = some m.cls := findClass_of_methodNamed B.named
  have hlocks := B.notSynchronized
  subst hsz
  have hD := hD0.self (sz := s.heap.size)
  generalize hAe : va_A (sg_WX cA ad u) s.heap.size = A at hD ⊢
  have hA : ∀ q : Nat, s.heap.size ≤ q → A q := fun q h => by rw [← hAe]; exact Or.inr h
  have hS : va_S A s.heap s.heap [] := va_S.rf
  have hl := lv_entry ([.ref (ad 2), .int p1, .int p2]) (n := 3) (Nat.le_of_ble_eq_true rfl)
  rw [lg_entry_eq]
  generalize (lg_sl ([.ref (ad 2), .int p1, .int p2]) ++ List.replicate (3 - (lg_sl ([.ref (ad 2), .int p1, .int p2])).length) Slot.unset).toArray = ls at hl ⊢
  replace hl : lv_has ls 3 [(0, .ref (ad 2)), (1, .int p1), (2, .int p2)] := hl
  have hinX0 : ∀ w ∈ u_ws RX0 TX0 3, w ∈ wsX0_currentIn := by decide +kernel
  unfold fX0_currentIn at hf
  refine lv_aload_n hx hb dX0_currentIn_0 rfl (lv_at hl 0 rfl) ?_
  refine lv_iload_n hx hb dX0_currentIn_1 rfl (lv_at hl 2 rfl) ?_
  obtain ⟨u3, hc1, hf⟩ := sg_b_s hf
  refine sg_cv (va_runV (As := [.int p2]) (rest := []) ⟨hx, hb, hml, hown, hts⟩ (c_X0_measure l D cA ad N _ _ _ hc1 _) (cwV 1 hts gX0_currentIn_X0_measure rfl rfl rfl (by decide +kernel) ⟨Nat.le_of_ble_eq_true rfl, Nat.le_of_ble_eq_true rfl⟩) (sg_pre hK hP hD (ci := 2) (q0 := 2) rfl rfl) rfl rfl hl.1 rfl (lv_room (Nat.le_of_ble_eq_true rfl)) dX0_currentIn_2 ⟨Nat.zero_le _, Nat.zero_le _⟩) hD hS hA (fun H locs hP hD hS => ?_)
  refine lv_aload_n hx hb dX0_currentIn_5 rfl (lv_at hl 0 rfl) ?_
  refine va_get (D := D) (ci := 2) (C := RX0) (T := TX0) (N := 3) hx hb hts hinX0 hown hK.1 hP 2 rfl rfl 0 (by decide) (hts (.fieldLink RX0 18 "Switchgear$Feeder" "grid" "LSwitchgear$Grid;") (by decide +kernel)) (fun _ h9 => h9) rfl dX0_currentIn_6 ?_
  refine lv_iload_n hx hb dX0_currentIn_9 rfl (lv_at hl 1 rfl) ?_
  obtain ⟨r5, hc4, hf⟩ := sg_b_s hf
  refine sg_ci (va_runV (As := [.int p1]) (rest := []) ⟨hx, hb, hml, hown, hts⟩ (c_X1_isLine l D cA ad N _ _ _ hc4 _) (cwV 1 hts gX0_currentIn_X1_isLine rfl rfl rfl (by decide +kernel) ⟨Nat.le_of_ble_eq_true rfl, Nat.le_of_ble_eq_true rfl⟩) (sg_pre hK hP hD (ci := 3) (q0 := 1) rfl rfl) rfl rfl hl.1 rfl (lv_room (Nat.le_of_ble_eq_true rfl)) dX0_currentIn_10 ⟨Nat.zero_le _, Nat.zero_le _⟩) hD hS hA (fun H locs hP hD hS => ?_)
  refine lv_if_eq (tgt := 25) hx hb dX0_currentIn_13 (by decide) (fun c8 => ?_) (fun c8 => ?_)
  · have hf := sg_ip c8 hf
    refine lv_iconst (v := 0) hx hb dX0_currentIn_25 (by decide) ?_
    have hq := Option.some.inj hf
    exact sg_iret hx hb hr hP hD hS dX0_currentIn_26 (congrArg Prod.fst hq) (congrArg Prod.snd hq) hlocks
  · have hf := sg_in c8 hf
    refine lv_aload_n hx hb dX0_currentIn_16 rfl (lv_at hl 0 rfl) ?_
    refine va_get (D := D) (ci := 2) (C := RX0) (T := TX0) (N := 3) hx hb hts hinX0 hown hK.1 hP 2 rfl rfl 1 (by decide) (hts (.fieldLink RX0 9 "Switchgear$Feeder" "current" "[I") (by decide +kernel)) (fun _ h9 => h9) rfl dX0_currentIn_17 ?_
    refine lv_iload_n hx hb dX0_currentIn_20 rfl (lv_at hl 1 rfl) ?_
    obtain ⟨hg7, hf⟩ := sg_g_s hf
    refine va_iald hx hb hK.1 hP 12 0 rfl rfl (sg_inb_s hg7) dX0_currentIn_21 ?_
    refine lv_goto (tgt := 26) hx hb dX0_currentIn_22 (by decide) ?_
    have hq := Option.some.inj hf
    exact sg_iret hx hb hr hP hD hS dX0_currentIn_26 (congrArg Prod.fst hq) (congrArg Prod.snd hq) hlocks
set_option maxRecDepth 100000 in
set_option maxHeartbeats 4000000 in
theorem c_X1_ratingAt (l : Launch) (D : va_G) (cA : Nat → ClassId) (ad : Nat → Nat) (N : Nat) (u : sg_St) (p1 : Int32) (r : Int32) (hf : fX1_ratingAt N u p1 = some r) : sg_CI l D cA (sg_WX cA ad) yX1_ratingAt wsX1_ratingAt ({ frames := 1, cells := 0, slots := 0, locals := 21 }) [.ref (ad 1), .int p1] u r u := by
  intro sz
  refine Met.ofW (cc := cX1_ratingAt) (maxL := 2) (ret := (some .int)) (by decide) rfl ?_
  intro p e s m args below meth c s₁ B hml hv
  obtain ⟨rfl, hsz, hP, hK, hD0⟩ := hv
  have hx := B.exec
  have hb := B.bytes
  have hr := B.returns
  have hts := atoms_spec (ws := wsX1_ratingAt) B.pre
  have hown : s.vm.findClass RX1 = some m.cls := findClass_of_methodNamed B.named
  have hlocks := B.notSynchronized
  subst hsz
  have hD := hD0.self (sz := s.heap.size)
  generalize hAe : va_A (sg_WX cA ad u) s.heap.size = A at hD ⊢
  have hA : ∀ q : Nat, s.heap.size ≤ q → A q := fun q h => by rw [← hAe]; exact Or.inr h
  have hS : va_S A s.heap s.heap [] := va_S.rf
  have hl := lv_entry ([.ref (ad 1), .int p1]) (n := 2) (Nat.le_of_ble_eq_true rfl)
  rw [lg_entry_eq]
  generalize (lg_sl ([.ref (ad 1), .int p1]) ++ List.replicate (2 - (lg_sl ([.ref (ad 1), .int p1])).length) Slot.unset).toArray = ls at hl ⊢
  replace hl : lv_has ls 2 [(0, .ref (ad 1)), (1, .int p1)] := hl
  have hinX1 : ∀ w ∈ u_ws RX1 TX1 10, w ∈ wsX1_ratingAt := by decide +kernel
  unfold fX1_ratingAt at hf
  refine lv_aload_n hx hb dX1_ratingAt_0 rfl (lv_at hl 0 rfl) ?_
  refine lv_iload_n hx hb dX1_ratingAt_1 rfl (lv_at hl 1 rfl) ?_
  obtain ⟨r2, hc1, hf⟩ := sg_b_s hf
  refine sg_ci (va_runV (As := [.int p1]) (rest := []) ⟨hx, hb, hml, hown, hts⟩ (c_X1_isLine l D cA ad N _ _ _ hc1 _) (cwV 1 hts gX1_ratingAt_X1_isLine rfl rfl rfl (by decide +kernel) ⟨Nat.le_of_ble_eq_true rfl, Nat.le_of_ble_eq_true rfl⟩) (sg_pre hK hP hD (ci := 3) (q0 := 1) rfl rfl) rfl rfl hl.1 rfl (lv_room (Nat.le_of_ble_eq_true rfl)) dX1_ratingAt_2 ⟨Nat.zero_le _, Nat.zero_le _⟩) hD hS hA (fun H locs hP hD hS => ?_)
  refine lv_if_eq (tgt := 17) hx hb dX1_ratingAt_5 (by decide) (fun c5 => ?_) (fun c5 => ?_)
  · have hf := sg_ip c5 hf
    refine lv_iconst (v := 0) hx hb dX1_ratingAt_17 (by decide) ?_
    have hq := Option.some.inj hf
    exact sg_iret hx hb hr hP hD hS dX1_ratingAt_18 hq rfl hlocks
  · have hf := sg_in c5 hf
    refine lv_aload_n hx hb dX1_ratingAt_8 rfl (lv_at hl 0 rfl) ?_
    refine va_get (D := D) (ci := 3) (C := RX1) (T := TX1) (N := 10) hx hb hts hinX1 hown hK.1 hP 1 rfl rfl 5 (by decide) (hts (.fieldLink RX1 27 "Switchgear$Grid" "rating" "[I") (by decide +kernel)) (fun _ h9 => h9) rfl dX1_ratingAt_9 ?_
    refine lv_iload_n hx hb dX1_ratingAt_12 rfl (lv_at hl 1 rfl) ?_
    obtain ⟨hg4, hf⟩ := sg_g_s hf
    refine va_iald hx hb hK.1 hP 11 0 rfl rfl (sg_inb_s hg4) dX1_ratingAt_13 ?_
    refine lv_goto (tgt := 18) hx hb dX1_ratingAt_14 (by decide) ?_
    have hq := Option.some.inj hf
    exact sg_iret hx hb hr hP hD hS dX1_ratingAt_18 hq rfl hlocks
set_option maxRecDepth 100000 in
set_option maxHeartbeats 4000000 in
theorem c_X0_firstOverloaded (l : Launch) (D : va_G) (cA : Nat → ClassId) (ad : Nat → Nat) (N : Nat) (u : sg_St) (p1 : Int32) (r : Int32) (u' : sg_St) (hf : fX0_firstOverloaded N u p1 = some (r, u')) : sg_CI l D cA (sg_WX cA ad) yX0_firstOverloaded wsX0_firstOverloaded ({ frames := 16, cells := 0, slots := 0, locals := 422 }) [.ref (ad 2), .int p1] u r u' := by
  intro sz
  refine Met.ofW (cc := cX0_firstOverloaded) (maxL := 3) (ret := (some .int)) (by decide) rfl ?_
  intro p e s m args below meth c s₁ B hml hv
  obtain ⟨rfl, hsz, hP, hK, hD0⟩ := hv
  have hx := B.exec
  have hb := B.bytes
  have hr := B.returns
  have hts := atoms_spec (ws := wsX0_firstOverloaded) B.pre
  have hown : s.vm.findClass RX0 = some m.cls := findClass_of_methodNamed B.named
  have hlocks := B.notSynchronized
  subst hsz
  have hD := hD0.self (sz := s.heap.size)
  generalize hAe : va_A (sg_WX cA ad u) s.heap.size = A at hD ⊢
  have hA : ∀ q : Nat, s.heap.size ≤ q → A q := fun q h => by rw [← hAe]; exact Or.inr h
  have hS : va_S A s.heap s.heap [] := va_S.rf
  have hl := lv_entry ([.ref (ad 2), .int p1]) (n := 3) (Nat.le_of_ble_eq_true rfl)
  rw [lg_entry_eq]
  generalize (lg_sl ([.ref (ad 2), .int p1]) ++ List.replicate (3 - (lg_sl ([.ref (ad 2), .int p1])).length) Slot.unset).toArray = ls at hl ⊢
  replace hl : lv_has ls 3 [(0, .ref (ad 2)), (1, .int p1)] := hl
  have hinX0 : ∀ w ∈ u_ws RX0 TX0 3, w ∈ wsX0_firstOverloaded := by decide +kernel
  have hL7 : ∀ (u : sg_St) (n : Nat) (x : Int32) (r9 : (Int32 × sg_St)), sg_it (fun x => fX0_firstOverloaded_L7 N u x) n x = some r9 → r9 = (r, u') → ∀ (H : Heap) (locs : List Loc) (ls : Array Slot), va_P D vwCl (sg_WX cA ad u) H → va_D A (sg_WX cA ad u) → va_S A s.heap H locs → lv_has ls 3 [(0, .ref (ad 2)), (2, .int x)] → W p l e (headSpec wsX0_firstOverloaded ({ frames := 16, cells := 0, slots := 0, locals := 422 })).room s m ([.ref (ad 2), .int p1] : List Value).toArray below meth c H locs 0 0 (MQ below (va_Qi (fun x y => x = r ∧ y = u') (sg_BX D (sg_WX cA ad) A) A) ([.ref (ad 2), .int p1] : List Value).toArray s 0 0 A) (F0 m 7 ls []) := by
    intro u
    refine sg_loop _ ?_
    intro x y r9 hf hI hy hr9 H locs ls hP hD hS hl
    replace hf : fX0_firstOverloaded_L7 N u x = some y := hf
    unfold fX0_firstOverloaded_L7 at hf
    refine lv_iload_n hx hb dX0_firstOverloaded_7 rfl (lv_at hl 1 rfl) ?_
    refine lv_bipush (v := 12) hx hb dX0_firstOverloaded_8 (by decide) ?_
    refine lv_icmp_ge (tgt := 38) hx hb dX0_firstOverloaded_10 (by decide) (fun c6 => ?_) (fun c6 => ?_)
    · have hf := sg_ip c6 hf
      refine lv_iconst (v := (-1)) hx hb dX0_firstOverloaded_38 (by decide) ?_
      have hq := (hy _ (Option.some.inj hf).symm).trans hr9
      exact sg_iret hx hb hr hP hD hS dX0_firstOverloaded_39 (congrArg Prod.fst hq) (congrArg Prod.snd hq) hlocks
    · have hf := sg_in c6 hf
      refine lv_aload_n hx hb dX0_firstOverloaded_13 rfl (lv_at hl 0 rfl) ?_
      refine va_get (D := D) (ci := 2) (C := RX0) (T := TX0) (N := 3) hx hb hts hinX0 hown hK.1 hP 2 rfl rfl 1 (by decide) (hts (.fieldLink RX0 9 "Switchgear$Feeder" "current" "[I") (by decide +kernel)) (fun _ h9 => h9) rfl dX0_firstOverloaded_14 ?_
      refine lv_iload_n hx hb dX0_firstOverloaded_17 rfl (lv_at hl 1 rfl) ?_
      obtain ⟨hg1, hf⟩ := sg_g_s hf
      refine va_iald hx hb hK.1 hP 12 0 rfl rfl (sg_inb_s hg1) dX0_firstOverloaded_18 ?_
      refine lv_aload_n hx hb dX0_firstOverloaded_19 rfl (lv_at hl 0 rfl) ?_
      refine va_get (D := D) (ci := 2) (C := RX0) (T := TX0) (N := 3) hx hb hts hinX0 hown hK.1 hP 2 rfl rfl 0 (by decide) (hts (.fieldLink RX0 18 "Switchgear$Feeder" "grid" "LSwitchgear$Grid;") (by decide +kernel)) (fun _ h9 => h9) rfl dX0_firstOverloaded_20 ?_
      refine lv_iload_n hx hb dX0_firstOverloaded_23 rfl (lv_at hl 1 rfl) ?_
      obtain ⟨r3, hc2, hf⟩ := sg_b_s hf
      refine sg_ci (va_runV (As := [.int x]) (rest := [.int (u 17 (x).toNatClampNeg)]) ⟨hx, hb, hml, hown, hts⟩ (c_X1_ratingAt l D cA ad N _ _ _ hc2 _) (cwV 1 hts gX0_firstOverloaded_X1_ratingAt rfl rfl rfl (by decide +kernel) ⟨Nat.le_of_ble_eq_true rfl, Nat.le_of_ble_eq_true rfl⟩) (sg_pre hK hP hD (ci := 3) (q0 := 1) rfl rfl) rfl rfl hl.1 rfl (lv_room (Nat.le_of_ble_eq_true rfl)) dX0_firstOverloaded_24 ⟨Nat.zero_le _, Nat.zero_le _⟩) hD hS hA (fun H locs hP hD hS => ?_)
      refine lv_icmp_le (tgt := 32) hx hb dX0_firstOverloaded_27 (by decide) (fun c5 => ?_) (fun c5 => ?_)
      · have hf := sg_ip c5 hf
        refine lv_iinc (v := x + 1) (lv' := [(2, .int (x + 1)), (0, .ref (ad 2))]) hx hb dX0_firstOverloaded_32 hl (k := 1) rfl rfl (by decide) rfl (fun ls hl => ?_)
        refine lv_goto (tgt := 7) hx hb dX0_firstOverloaded_35 (by decide) ?_
        exact hI _ (Option.some.inj hf).symm hr9 _ _ _ hP hD hS (lv_sub hl [1, 0] rfl)
      · have hf := sg_in c5 hf
        refine lv_iload_n hx hb dX0_firstOverloaded_30 rfl (lv_at hl 1 rfl) ?_
        have hq := (hy _ (Option.some.inj hf).symm).trans hr9
        exact sg_iret hx hb hr hP hD hS dX0_firstOverloaded_31 (congrArg Prod.fst hq) (congrArg Prod.snd hq) hlocks
  unfold fX0_firstOverloaded at hf
  refine lv_aload_n hx hb dX0_firstOverloaded_0 rfl (lv_at hl 0 rfl) ?_
  refine lv_iload_n hx hb dX0_firstOverloaded_1 rfl (lv_at hl 1 rfl) ?_
  obtain ⟨u3, hc1, hf⟩ := sg_b_s hf
  refine sg_cv (va_runV (As := [.int p1]) (rest := []) ⟨hx, hb, hml, hown, hts⟩ (c_X0_measure l D cA ad N _ _ _ hc1 _) (cwV 1 hts gX0_firstOverloaded_X0_measure rfl rfl rfl (by decide +kernel) ⟨Nat.le_of_ble_eq_true rfl, Nat.le_of_ble_eq_true rfl⟩) (sg_pre hK hP hD (ci := 2) (q0 := 2) rfl rfl) rfl rfl hl.1 rfl (lv_room (Nat.le_of_ble_eq_true rfl)) dX0_firstOverloaded_2 ⟨Nat.zero_le _, Nat.zero_le _⟩) hD hS hA (fun H locs hP hD hS => ?_)
  refine lv_iconst (v := 0) hx hb dX0_firstOverloaded_5 (by decide) ?_
  refine lv_istore_n (lv' := [(2, .int 0), (0, .ref (ad 2)), (1, .int p1)]) hx hb dX0_firstOverloaded_6 rfl hl (by decide) rfl (fun ls hl => ?_)
  exact hL7 _ _ _ _ hf rfl _ _ _ hP hD hS (lv_sub hl [1, 0] rfl)
set_option maxRecDepth 100000 in
set_option maxHeartbeats 4000000 in
theorem c_X0_follow (l : Launch) (D : va_G) (cA : Nat → ClassId) (ad : Nat → Nat) (N : Nat) : ∀ (d : Nat) (u : sg_St) (p1 p2 p3 p4 p5 : Int32) (r : Int32) (u' : sg_St), fX0_follow N d u p1 p2 p3 p4 p5 = some (r, u') → sg_CI l D cA (sg_WX cA ad) yX0_follow wsX0_follow ({ frames := 1 + d, cells := 0, slots := 0, locals := 22 + d * 28 }) [.ref (ad 2), .int p1, .int p2, .int p3, .int p4, .int p5] u r u' := by
  intro d
  induction d with
  | zero => intros; rename_i hf; cases hf
  | succ d ih =>
  intro u p1 p2 p3 p4 p5 r u' hf
  intro sz
  refine Met.ofW (cc := cX0_follow) (maxL := 9) (ret := (some .int)) (by decide) rfl ?_
  intro p e s m args below meth c s₁ B hml hv
  obtain ⟨rfl, hsz, hP, hK, hD0⟩ := hv
  have hx := B.exec
  have hb := B.bytes
  have hr := B.returns
  have hts := atoms_spec (ws := wsX0_follow) B.pre
  have hown : s.vm.findClass RX0 = some m.cls := findClass_of_methodNamed B.named
  have hlocks := B.notSynchronized
  subst hsz
  have hD := hD0.self (sz := s.heap.size)
  generalize hAe : va_A (sg_WX cA ad u) s.heap.size = A at hD ⊢
  have hA : ∀ q : Nat, s.heap.size ≤ q → A q := fun q h => by rw [← hAe]; exact Or.inr h
  have hS : va_S A s.heap s.heap [] := va_S.rf
  have hl := lv_entry ([.ref (ad 2), .int p1, .int p2, .int p3, .int p4, .int p5]) (n := 9) (Nat.le_of_ble_eq_true rfl)
  rw [lg_entry_eq]
  generalize (lg_sl ([.ref (ad 2), .int p1, .int p2, .int p3, .int p4, .int p5]) ++ List.replicate (9 - (lg_sl ([.ref (ad 2), .int p1, .int p2, .int p3, .int p4, .int p5])).length) Slot.unset).toArray = ls at hl ⊢
  replace hl : lv_has ls 9 [(0, .ref (ad 2)), (1, .int p1), (2, .int p2), (3, .int p3), (4, .int p4), (5, .int p5)] := hl
  have hinX0 : ∀ w ∈ u_ws RX0 TX0 3, w ∈ wsX0_follow := by decide +kernel
  have hL12 : ∀ (v1 v2 v3 v4 v5 : Int32) (n : Nat) (x : sg_St × Int32) (r9 : (Int32 × sg_St)), sg_it (fun x => fX0_follow_L12 N (fX0_follow N d) x.1 v1 v2 v3 v4 v5 x.2) n x = some r9 → r9 = (r, u') → ∀ (H : Heap) (locs : List Loc) (ls : Array Slot), va_P D vwCl (sg_WX cA ad x.1) H → va_D A (sg_WX cA ad x.1) → va_S A s.heap H locs → lv_has ls 9 [(0, .ref (ad 2)), (1, .int v1), (2, .int v2), (3, .int v3), (4, .int v4), (5, .int v5), (6, .int x.2)] → W p l e (headSpec wsX0_follow ({ frames := 1 + (d + 1), cells := 0, slots := 0, locals := 22 + (d + 1) * 28 })).room s m ([.ref (ad 2), .int p1, .int p2, .int p3, .int p4, .int p5] : List Value).toArray below meth c H locs 0 0 (MQ below (va_Qi (fun x y => x = r ∧ y = u') (sg_BX D (sg_WX cA ad) A) A) ([.ref (ad 2), .int p1, .int p2, .int p3, .int p4, .int p5] : List Value).toArray s 0 0 A) (F0 m 12 ls []) := by
    intro v1 v2 v3 v4 v5
    refine sg_loop _ ?_
    intro x y r9 hf hI hy hr9 H locs ls hP hD hS hl
    replace hf : fX0_follow_L12 N (fX0_follow N d) x.1 v1 v2 v3 v4 v5 x.2 = some y := hf
    have hJ94 : ∀ (u : sg_St) (v6 k0 : Int32) (H : Heap) (locs : List Loc) (ls : Array Slot), fX0_follow_j94 N (fX0_follow N d) u v1 v2 v3 v4 v5 v6 k0 = some y → va_P D vwCl (sg_WX cA ad u) H → va_D A (sg_WX cA ad u) → va_S A s.heap H locs → lv_has ls 9 [(0, .ref (ad 2)), (1, .int v1), (2, .int v2), (3, .int v3), (4, .int v4), (5, .int v5), (6, .int v6)] → W p l e (headSpec wsX0_follow ({ frames := 1 + (d + 1), cells := 0, slots := 0, locals := 22 + (d + 1) * 28 })).room s m ([.ref (ad 2), .int p1, .int p2, .int p3, .int p4, .int p5] : List Value).toArray below meth c H locs 0 0 (MQ below (va_Qi (fun x y => x = r ∧ y = u') (sg_BX D (sg_WX cA ad) A) A) ([.ref (ad 2), .int p1, .int p2, .int p3, .int p4, .int p5] : List Value).toArray s 0 0 A) (F0 m 94 ls [.int k0]) := by
      intro u v6 k0 H locs ls hf hP hD hS hl
      unfold fX0_follow_j94 at hf
      refine lv_istore (lv' := [(8, .int k0), (0, .ref (ad 2)), (1, .int v1), (2, .int v2), (3, .int v3), (4, .int v4), (5, .int v5), (6, .int v6)]) hx hb dX0_follow_94 hl (by decide) rfl (fun ls hl => ?_)
      refine lv_iload hx hb dX0_follow_96 (lv_at hl 0 rfl) ?_
      refine lv_if_le (tgt := 104) hx hb dX0_follow_98 (by decide) (fun c1 => ?_) (fun c1 => ?_)
      · have hf := sg_ip c1 hf
        refine lv_iinc (v := v6 + 1) (lv' := [(6, .int (v6 + 1)), (8, .int k0), (0, .ref (ad 2)), (1, .int v1), (2, .int v2), (3, .int v3), (4, .int v4), (5, .int v5)]) hx hb dX0_follow_104 hl (k := 7) rfl rfl (by decide) rfl (fun ls hl => ?_)
        refine lv_goto (tgt := 12) hx hb dX0_follow_107 (by decide) ?_
        exact hI _ (Option.some.inj hf).symm hr9 _ _ _ hP hD hS (lv_sub hl [2, 3, 4, 5, 6, 7, 0] rfl)
      · have hf := sg_in c1 hf
        refine lv_iload hx hb dX0_follow_101 (lv_at hl 0 rfl) ?_
        have hq := (hy _ (Option.some.inj hf).symm).trans hr9
        exact sg_iret hx hb hr hP hD hS dX0_follow_103 (congrArg Prod.fst hq) (congrArg Prod.snd hq) hlocks
    have hJ49 : ∀ (u : sg_St) (v6 k0 : Int32) (H : Heap) (locs : List Loc) (ls : Array Slot), fX0_follow_j49 N (fX0_follow N d) u v1 v2 v3 v4 v5 v6 k0 = some y → va_P D vwCl (sg_WX cA ad u) H → va_D A (sg_WX cA ad u) → va_S A s.heap H locs → lv_has ls 9 [(0, .ref (ad 2)), (1, .int v1), (2, .int v2), (3, .int v3), (4, .int v4), (5, .int v5), (6, .int v6)] → W p l e (headSpec wsX0_follow ({ frames := 1 + (d + 1), cells := 0, slots := 0, locals := 22 + (d + 1) * 28 })).room s m ([.ref (ad 2), .int p1, .int p2, .int p3, .int p4, .int p5] : List Value).toArray below meth c H locs 0 0 (MQ below (va_Qi (fun x y => x = r ∧ y = u') (sg_BX D (sg_WX cA ad) A) A) ([.ref (ad 2), .int p1, .int p2, .int p3, .int p4, .int p5] : List Value).toArray s 0 0 A) (F0 m 49 ls [.int k0]) := by
      intro u v6 k0 H locs ls hf hP hD hS hl
      unfold fX0_follow_j49 at hf
      refine lv_istore (lv' := [(7, .int k0), (0, .ref (ad 2)), (1, .int v1), (2, .int v2), (3, .int v3), (4, .int v4), (5, .int v5), (6, .int v6)]) hx hb dX0_follow_49 hl (by decide) rfl (fun ls hl => ?_)
      refine lv_iload hx hb dX0_follow_51 (lv_at hl 0 rfl) ?_
      refine lv_iconst (v := (-1)) hx hb dX0_follow_53 (by decide) ?_
      refine lv_icmp_eq (tgt := 104) hx hb dX0_follow_54 (by decide) (fun c6 => ?_) (fun c6 => ?_)
      · have hf := sg_ip c6 hf
        refine lv_iinc (v := v6 + 1) (lv' := [(6, .int (v6 + 1)), (7, .int k0), (0, .ref (ad 2)), (1, .int v1), (2, .int v2), (3, .int v3), (4, .int v4), (5, .int v5)]) hx hb dX0_follow_104 hl (k := 7) rfl rfl (by decide) rfl (fun ls hl => ?_)
        refine lv_goto (tgt := 12) hx hb dX0_follow_107 (by decide) ?_
        exact hI _ (Option.some.inj hf).symm hr9 _ _ _ hP hD hS (lv_sub hl [2, 3, 4, 5, 6, 7, 0] rfl)
      · have hf := sg_in c6 hf
        refine lv_aload_n hx hb dX0_follow_57 rfl (lv_at hl 1 rfl) ?_
        refine va_get (D := D) (ci := 2) (C := RX0) (T := TX0) (N := 3) hx hb hts hinX0 hown hK.1 hP 2 rfl rfl 2 (by decide) (hts (.fieldLink RX0 15 "Switchgear$Feeder" "path" "[I") (by decide +kernel)) (fun _ h9 => h9) rfl dX0_follow_58 ?_
        refine lv_iload hx hb dX0_follow_61 (lv_at hl 6 rfl) ?_
        refine lv_iload hx hb dX0_follow_63 (lv_at hl 7 rfl) ?_
        obtain ⟨hg1, hf⟩ := sg_g_s hf
        refine va_iast hx hb hK.1 hP hD hS 13 0 rfl rfl (sg_inb_s hg1) dX0_follow_65 (fun H locs hP hD hS => ?_)
        replace hP : va_P D vwCl (sg_WX cA ad (sg_set u 18 (v5).toNatClampNeg v6)) H := by rw [← sg_WX_18]; exact hP
        replace hD : va_D A (sg_WX cA ad (sg_set u 18 (v5).toNatClampNeg v6)) := by rw [← sg_WX_18]; exact hD
        refine lv_iload hx hb dX0_follow_66 (lv_at hl 7 rfl) ?_
        refine lv_iload_n hx hb dX0_follow_68 rfl (lv_at hl 4 rfl) ?_
        refine lv_icmp_ne (tgt := 79) hx hb dX0_follow_69 (by decide) (fun c5 => ?_) (fun c5 => ?_)
        · have hf := sg_in c5 hf
          refine lv_aload_n hx hb dX0_follow_79 rfl (lv_at hl 1 rfl) ?_
          refine lv_iload hx hb dX0_follow_80 (lv_at hl 0 rfl) ?_
          refine lv_iload hx hb dX0_follow_82 (lv_at hl 7 rfl) ?_
          refine lv_iload_n hx hb dX0_follow_84 rfl (lv_at hl 4 rfl) ?_
          refine lv_iload hx hb dX0_follow_85 (lv_at hl 5 rfl) ?_
          refine lv_iload hx hb dX0_follow_87 (lv_at hl 6 rfl) ?_
          refine lv_iconst (v := 1) hx hb dX0_follow_89 (by decide) ?_
          refine lv_iadd hx hb dX0_follow_90 ?_
          obtain ⟨r3, u4, hc2, hf⟩ := sg_b2_s hf
          refine sg_ci (va_runV (As := [.int k0, .int v6, .int v3, .int v4, .int (v5 + 1)]) (rest := []) ⟨hx, hb, hml, hown, hts⟩ (ih _ _ _ _ _ _ _ _ hc2 _) (cwV 5 hts gX0_follow_X0_follow rfl rfl rfl (by decide +kernel) ⟨by show 1 + d + 1 ≤ 1 + (d + 1); omega, by show 8 + (9 + 11) + (22 + d * 28) ≤ 22 + (d + 1) * 28; omega⟩) (sg_pre hK hP hD (ci := 2) (q0 := 2) rfl rfl) rfl rfl hl.1 rfl (lv_room (Nat.le_of_ble_eq_true rfl)) dX0_follow_91 ⟨Nat.zero_le _, Nat.zero_le _⟩) hD hS hA (fun H locs hP hD hS => ?_)
          exact hJ94 _ _ _ _ _ _ hf hP hD hS (lv_sub hl [1, 2, 3, 4, 5, 6, 7] rfl)
        · have hf := sg_ip c5 hf
          refine lv_iload hx hb dX0_follow_72 (lv_at hl 6 rfl) ?_
          refine lv_iconst (v := 1) hx hb dX0_follow_74 (by decide) ?_
          refine lv_iadd hx hb dX0_follow_75 ?_
          refine lv_goto (tgt := 94) hx hb dX0_follow_76 (by decide) ?_
          exact hJ94 _ _ _ _ _ _ hf hP hD hS (lv_sub hl [1, 2, 3, 4, 5, 6, 7] rfl)
    unfold fX0_follow_L12 at hf
    refine lv_iload hx hb dX0_follow_12 (lv_at hl 6 rfl) ?_
    refine lv_bipush (v := 12) hx hb dX0_follow_14 (by decide) ?_
    refine lv_icmp_ge (tgt := 110) hx hb dX0_follow_16 (by decide) (fun c9 => ?_) (fun c9 => ?_)
    · have hf := sg_ip c9 hf
      refine lv_iconst (v := 0) hx hb dX0_follow_110 (by decide) ?_
      have hq := (hy _ (Option.some.inj hf).symm).trans hr9
      exact sg_iret hx hb hr hP hD hS dX0_follow_111 (congrArg Prod.fst hq) (congrArg Prod.snd hq) hlocks
    · have hf := sg_in c9 hf
      refine lv_iload hx hb dX0_follow_19 (lv_at hl 6 rfl) ?_
      refine lv_iload_n hx hb dX0_follow_21 rfl (lv_at hl 2 rfl) ?_
      refine lv_icmp_eq (tgt := 35) hx hb dX0_follow_22 (by decide) (fun c8 => ?_) (fun c8 => ?_)
      · have hf := sg_ip c8 hf
        refine lv_iconst (v := (-1)) hx hb dX0_follow_35 (by decide) ?_
        refine lv_goto (tgt := 49) hx hb dX0_follow_36 (by decide) ?_
        exact hJ49 _ _ _ _ _ _ hf hP hD hS (lv_sub hl [0, 1, 2, 3, 4, 5, 6] rfl)
      · have hf := sg_in c8 hf
        refine lv_iload hx hb dX0_follow_25 (lv_at hl 4 rfl) ?_
        refine lv_iload hx hb dX0_follow_27 (lv_at hl 6 rfl) ?_
        obtain ⟨r2, hc1, hf⟩ := sg_b_s hf
        refine sg_ci0 (va_runSN (As := [.int v4, .int x.2]) (rest := []) ⟨hx, hb, hml, hown, hts⟩ (c_X5_has l D cA N _ _ _ hc1 _) ⟨va_cnB (host := RX5) 2 hts gX0_follow_X5_has_n43 rfl rfl rfl (hK.2 _ (List.mem_of_getElem? (i := 1) rfl)) (hts (.initialized RX5) (by decide +kernel)) (by decide +kernel) ⟨by show 0 + 1 ≤ 1 + (d + 1); omega, by show 8 + (2 + 11) + 0 ≤ 22 + (d + 1) * 28; omega⟩, hts (.static yX5_has) (by decide +kernel), trivial⟩ (sg_pre0 hK) rfl rfl hl.1 rfl (lv_room (Nat.le_of_ble_eq_true rfl)) dX0_follow_29 ⟨Nat.zero_le _, Nat.zero_le _⟩) hP hS hA (fun H locs hP hS => ?_)
        refine lv_if_ne (tgt := 39) hx hb dX0_follow_32 (by decide) (fun c7 => ?_) (fun c7 => ?_)
        · have hf := sg_in c7 hf
          refine lv_aload_n hx hb dX0_follow_39 rfl (lv_at hl 0 rfl) ?_
          refine va_get (D := D) (ci := 2) (C := RX0) (T := TX0) (N := 3) hx hb hts hinX0 hown hK.1 hP 2 rfl rfl 0 (by decide) (hts (.fieldLink RX0 18 "Switchgear$Feeder" "grid" "LSwitchgear$Grid;") (by decide +kernel)) (fun _ h9 => h9) rfl dX0_follow_40 ?_
          refine lv_iload_n hx hb dX0_follow_43 rfl (lv_at hl 1 rfl) ?_
          refine lv_iload hx hb dX0_follow_44 (lv_at hl 6 rfl) ?_
          obtain ⟨r5, hc4, hf⟩ := sg_b_s hf
          refine sg_ci (va_runV (As := [.int v1, .int x.2]) (rest := []) ⟨hx, hb, hml, hown, hts⟩ (c_X1_acrossFrom l D cA ad N _ _ _ _ hc4 _) (cwV 2 hts gX0_follow_X1_acrossFrom rfl rfl rfl (by decide +kernel) ⟨by show 0 + 1 ≤ 1 + (d + 1); omega, by show 8 + (3 + 11) + 0 ≤ 22 + (d + 1) * 28; omega⟩) (sg_pre hK hP hD (ci := 3) (q0 := 1) rfl rfl) rfl rfl hl.1 rfl (lv_room (Nat.le_of_ble_eq_true rfl)) dX0_follow_46 ⟨Nat.zero_le _, Nat.zero_le _⟩) hD hS hA (fun H locs hP hD hS => ?_)
          exact hJ49 _ _ _ _ _ _ hf hP hD hS (lv_sub hl [0, 1, 2, 3, 4, 5, 6] rfl)
        · have hf := sg_ip c7 hf
          refine lv_iconst (v := (-1)) hx hb dX0_follow_35 (by decide) ?_
          refine lv_goto (tgt := 49) hx hb dX0_follow_36 (by decide) ?_
          exact hJ49 _ _ _ _ _ _ hf hP hD hS (lv_sub hl [0, 1, 2, 3, 4, 5, 6] rfl)
  replace hf : fX0_follow_B N (fX0_follow N d) u p1 p2 p3 p4 p5 = some (r, u') := hf
  unfold fX0_follow_B at hf
  refine lv_iload hx hb dX0_follow_0 (lv_at hl 5 rfl) ?_
  refine lv_bipush (v := 10) hx hb dX0_follow_2 (by decide) ?_
  refine lv_icmp_lt (tgt := 9) hx hb dX0_follow_4 (by decide) (fun c1 => ?_) (fun c1 => ?_)
  · have hf := sg_ip c1 hf
    refine lv_iconst (v := 0) hx hb dX0_follow_9 (by decide) ?_
    refine lv_istore (lv' := [(6, .int 0), (0, .ref (ad 2)), (1, .int p1), (2, .int p2), (3, .int p3), (4, .int p4), (5, .int p5)]) hx hb dX0_follow_10 hl (by decide) rfl (fun ls hl => ?_)
    exact hL12 _ _ _ _ _ _ _ _ hf rfl _ _ _ hP hD hS (lv_sub hl [1, 2, 3, 4, 5, 6, 0] rfl)
  · have hf := sg_in c1 hf
    refine lv_iconst (v := 0) hx hb dX0_follow_7 (by decide) ?_
    have hq := Option.some.inj hf
    exact sg_iret hx hb hr hP hD hS dX0_follow_8 (congrArg Prod.fst hq) (congrArg Prod.snd hq) hlocks
set_option maxRecDepth 100000 in
set_option maxHeartbeats 4000000 in
theorem c_X0_layPath (l : Launch) (D : va_G) (cA : Nat → ClassId) (ad : Nat → Nat) (N : Nat) (u : sg_St) (p1 p2 : Int32) (r : Int32) (u' : sg_St) (hf : fX0_layPath N u p1 p2 = some (r, u')) : sg_CI l D cA (sg_WX cA ad) yX0_layPath wsX0_layPath ({ frames := 15, cells := 0, slots := 0, locals := 414 }) [.ref (ad 2), .int p1, .int p2] u r u' := by
  intro sz
  refine Met.ofW (cc := cX0_layPath) (maxL := 5) (ret := (some .int)) (by decide) rfl ?_
  intro p e s m args below meth c s₁ B hml hv
  obtain ⟨rfl, hsz, hP, hK, hD0⟩ := hv
  have hx := B.exec
  have hb := B.bytes
  have hr := B.returns
  have hts := atoms_spec (ws := wsX0_layPath) B.pre
  have hown : s.vm.findClass RX0 = some m.cls := findClass_of_methodNamed B.named
  have hlocks := B.notSynchronized
  subst hsz
  have hD := hD0.self (sz := s.heap.size)
  generalize hAe : va_A (sg_WX cA ad u) s.heap.size = A at hD ⊢
  have hA : ∀ q : Nat, s.heap.size ≤ q → A q := fun q h => by rw [← hAe]; exact Or.inr h
  have hS : va_S A s.heap s.heap [] := va_S.rf
  have hl := lv_entry ([.ref (ad 2), .int p1, .int p2]) (n := 5) (Nat.le_of_ble_eq_true rfl)
  rw [lg_entry_eq]
  generalize (lg_sl ([.ref (ad 2), .int p1, .int p2]) ++ List.replicate (5 - (lg_sl ([.ref (ad 2), .int p1, .int p2])).length) Slot.unset).toArray = ls at hl ⊢
  replace hl : lv_has ls 5 [(0, .ref (ad 2)), (1, .int p1), (2, .int p2)] := hl
  have hinX0 : ∀ w ∈ u_ws RX0 TX0 3, w ∈ wsX0_layPath := by decide +kernel
  have hinX1 : ∀ w ∈ u_ws RX1 TX1 10, w ∈ wsX0_layPath := by decide +kernel
  have hL5 : ∀ (v1 v2 : Int32) (n : Nat) (x : sg_St × Int32 × Int32) (r9 : sg_St × Int32), sg_it (fun x => fX0_layPath_L5 N x.1 v1 v2 x.2.1 x.2.2) n x = some r9 → ∀ (H : Heap) (locs : List Loc) (ls : Array Slot), va_P D vwCl (sg_WX cA ad x.1) H → va_D A (sg_WX cA ad x.1) → va_S A s.heap H locs → lv_has ls 5 [(0, .ref (ad 2)), (1, .int v1), (2, .int v2), (3, .int x.2.1), (4, .int x.2.2)] → (∀ (H : Heap) (locs : List Loc) (ls : Array Slot), va_P D vwCl (sg_WX cA ad r9.1) H → va_D A (sg_WX cA ad r9.1) → va_S A s.heap H locs → lv_has ls 5 [(0, .ref (ad 2)), (3, .int r9.2)] → W p l e (headSpec wsX0_layPath ({ frames := 15, cells := 0, slots := 0, locals := 414 })).room s m ([.ref (ad 2), .int p1, .int p2] : List Value).toArray below meth c H locs 0 0 (MQ below (va_Qi (fun x y => x = r ∧ y = u') (sg_BX D (sg_WX cA ad) A) A) ([.ref (ad 2), .int p1, .int p2] : List Value).toArray s 0 0 A) (F0 m 53 ls [])) → W p l e (headSpec wsX0_layPath ({ frames := 15, cells := 0, slots := 0, locals := 414 })).room s m ([.ref (ad 2), .int p1, .int p2] : List Value).toArray below meth c H locs 0 0 (MQ below (va_Qi (fun x y => x = r ∧ y = u') (sg_BX D (sg_WX cA ad) A) A) ([.ref (ad 2), .int p1, .int p2] : List Value).toArray s 0 0 A) (F0 m 5 ls []) := by
    intro v1 v2
    refine sg_loop _ ?_
    intro x y r9 hf hI hy H locs ls hP hD hS hl hk
    replace hf : fX0_layPath_L5 N x.1 v1 v2 x.2.1 x.2.2 = some y := hf
    unfold fX0_layPath_L5 at hf
    refine lv_iload hx hb dX0_layPath_5 (lv_at hl 4 rfl) ?_
    refine lv_aload_n hx hb dX0_layPath_7 rfl (lv_at hl 0 rfl) ?_
    refine va_get (D := D) (ci := 2) (C := RX0) (T := TX0) (N := 3) hx hb hts hinX0 hown hK.1 hP 2 rfl rfl 0 (by decide) (hts (.fieldLink RX0 18 "Switchgear$Feeder" "grid" "LSwitchgear$Grid;") (by decide +kernel)) (fun _ h9 => h9) rfl dX0_layPath_8 ?_
    refine va_getN (D := D) (ci := 3) (C := RX1) (T := TX1) (N := 10) (host := RX5) (ref := RX1) hx hb hts hinX1 hown hK.1 hP 1 rfl rfl 6 (by decide) (va_Nw.use rfl (hK.2 _ (List.mem_of_getElem? (i := 19) rfl))) (fun _ h9 => h9) rfl dX0_layPath_11 ?_
    refine lv_icmp_ge (tgt := 53) hx hb dX0_layPath_14 (by decide) (fun c9 => ?_) (fun c9 => ?_)
    · have hf := sg_ip c9 hf
      have hq := hy _ (Option.some.inj hf).symm
      subst hq
      exact hk _ _ _ hP hD hS (lv_sub hl [0, 3] rfl)
    · have hf := sg_in c9 hf
      refine lv_iload_n hx hb dX0_layPath_17 rfl (lv_at hl 3 rfl) ?_
      refine lv_if_ne (tgt := 53) hx hb dX0_layPath_18 (by decide) (fun c8 => ?_) (fun c8 => ?_)
      · have hf := sg_in c8 hf
        have hq := hy _ (Option.some.inj hf).symm
        subst hq
        exact hk _ _ _ hP hD hS (lv_sub hl [0, 3] rfl)
      · have hf := sg_ip c8 hf
        refine lv_aload_n hx hb dX0_layPath_21 rfl (lv_at hl 0 rfl) ?_
        refine va_get (D := D) (ci := 2) (C := RX0) (T := TX0) (N := 3) hx hb hts hinX0 hown hK.1 hP 2 rfl rfl 0 (by decide) (hts (.fieldLink RX0 18 "Switchgear$Feeder" "grid" "LSwitchgear$Grid;") (by decide +kernel)) (fun _ h9 => h9) rfl dX0_layPath_22 ?_
        refine va_getN (D := D) (ci := 3) (C := RX1) (T := TX1) (N := 10) (host := RX5) (ref := RX1) hx hb hts hinX1 hown hK.1 hP 1 rfl rfl 8 (by decide) (va_Nw.use rfl (hK.2 _ (List.mem_of_getElem? (i := 20) rfl))) (fun _ h9 => h9) rfl dX0_layPath_25 ?_
        refine lv_iload hx hb dX0_layPath_28 (lv_at hl 4 rfl) ?_
        obtain ⟨r2, hc1, hf⟩ := sg_b_s hf
        refine sg_ci0 (va_runSN (As := [.int (x.1 2 0), .int x.2.2]) (rest := []) ⟨hx, hb, hml, hown, hts⟩ (c_X5_has l D cA N _ _ _ hc1 _) ⟨va_cnB (host := RX5) 2 hts gX0_layPath_X5_has_n43 rfl rfl rfl (hK.2 _ (List.mem_of_getElem? (i := 1) rfl)) (hts (.initialized RX5) (by decide +kernel)) (by decide +kernel) ⟨Nat.le_of_ble_eq_true rfl, Nat.le_of_ble_eq_true rfl⟩, hts (.static yX5_has) (by decide +kernel), trivial⟩ (sg_pre0 hK) rfl rfl hl.1 rfl (lv_room (Nat.le_of_ble_eq_true rfl)) dX0_layPath_30 ⟨Nat.zero_le _, Nat.zero_le _⟩) hP hS hA (fun H locs hP hS => ?_)
        refine lv_if_eq (tgt := 47) hx hb dX0_layPath_33 (by decide) (fun c7 => ?_) (fun c7 => ?_)
        · have hf := sg_ip c7 hf
          refine lv_iinc (v := x.2.2 + 1) (lv' := [(4, .int (x.2.2 + 1)), (0, .ref (ad 2)), (1, .int v1), (2, .int v2), (3, .int x.2.1)]) hx hb dX0_layPath_47 hl (k := 4) rfl rfl (by decide) rfl (fun ls hl => ?_)
          refine lv_goto (tgt := 5) hx hb dX0_layPath_50 (by decide) ?_
          exact hI _ (Option.some.inj hf).symm _ _ _ hP hD hS (lv_sub hl [1, 2, 3, 4, 0] rfl) hk
        · have hf := sg_in c7 hf
          refine lv_aload_n hx hb dX0_layPath_36 rfl (lv_at hl 0 rfl) ?_
          refine lv_iload hx hb dX0_layPath_37 (lv_at hl 4 rfl) ?_
          refine lv_iconst (v := (-1)) hx hb dX0_layPath_39 (by decide) ?_
          refine lv_iload_n hx hb dX0_layPath_40 rfl (lv_at hl 1 rfl) ?_
          refine lv_iload_n hx hb dX0_layPath_41 rfl (lv_at hl 2 rfl) ?_
          refine lv_iconst (v := 0) hx hb dX0_layPath_42 (by decide) ?_
          obtain ⟨r5, u6, hc4, hf⟩ := sg_b2_s hf
          refine sg_ci (va_runV (As := [.int x.2.2, .int ((-1)), .int v1, .int v2, .int 0]) (rest := []) ⟨hx, hb, hml, hown, hts⟩ (c_X0_follow l D cA ad N 13 _ _ _ _ _ _ _ _ hc4 _) (cwV 5 hts gX0_layPath_X0_follow rfl rfl rfl (by decide +kernel) ⟨Nat.le_of_ble_eq_true rfl, Nat.le_of_ble_eq_true rfl⟩) (sg_pre hK hP hD (ci := 2) (q0 := 2) rfl rfl) rfl rfl hl.1 rfl (lv_room (Nat.le_of_ble_eq_true rfl)) dX0_layPath_43 ⟨Nat.zero_le _, Nat.zero_le _⟩) hD hS hA (fun H locs hP hD hS => ?_)
          refine lv_istore_n (lv' := [(3, .int r5), (0, .ref (ad 2)), (1, .int v1), (2, .int v2), (4, .int x.2.2)]) hx hb dX0_layPath_46 rfl hl (by decide) rfl (fun ls hl => ?_)
          refine lv_iinc (v := x.2.2 + 1) (lv' := [(4, .int (x.2.2 + 1)), (3, .int r5), (0, .ref (ad 2)), (1, .int v1), (2, .int v2)]) hx hb dX0_layPath_47 hl (k := 4) rfl rfl (by decide) rfl (fun ls hl => ?_)
          refine lv_goto (tgt := 5) hx hb dX0_layPath_50 (by decide) ?_
          exact hI _ (Option.some.inj hf).symm _ _ _ hP hD hS (lv_sub hl [2, 3, 4, 1, 0] rfl) hk
  unfold fX0_layPath at hf
  refine lv_iconst (v := 0) hx hb dX0_layPath_0 (by decide) ?_
  refine lv_istore_n (lv' := [(3, .int 0), (0, .ref (ad 2)), (1, .int p1), (2, .int p2)]) hx hb dX0_layPath_1 rfl hl (by decide) rfl (fun ls hl => ?_)
  refine lv_iconst (v := 0) hx hb dX0_layPath_2 (by decide) ?_
  refine lv_istore (lv' := [(4, .int 0), (3, .int 0), (0, .ref (ad 2)), (1, .int p1), (2, .int p2)]) hx hb dX0_layPath_3 hl (by decide) rfl (fun ls hl => ?_)
  obtain ⟨e1, hc2, hf⟩ := sg_b_s hf
  refine hL5 _ _ _ _ e1 hc2 _ _ _ hP hD hS (lv_sub hl [2, 3, 4, 1, 0] rfl) (fun H locs ls hP hD hS hl => ?_)
  refine lv_iload_n hx hb dX0_layPath_53 rfl (lv_at hl 1 rfl) ?_
  have hq := Option.some.inj hf
  exact sg_iret hx hb hr hP hD hS dX0_layPath_54 (congrArg Prod.fst hq) (congrArg Prod.snd hq) hlocks
set_option maxRecDepth 100000 in
set_option maxHeartbeats 4000000 in
theorem c_X0_lineOnPath (l : Launch) (D : va_G) (cA : Nat → ClassId) (ad : Nat → Nat) (N : Nat) (u : sg_St) (p1 : Int32) (r : Int32) (hf : fX0_lineOnPath N u p1 = some r) : sg_CI l D cA (sg_WX cA ad) yX0_lineOnPath wsX0_lineOnPath ({ frames := 0, cells := 0, slots := 0, locals := 0 }) [.ref (ad 2), .int p1] u r u := by
  intro sz
  refine Met.ofW (cc := cX0_lineOnPath) (maxL := 2) (ret := (some .int)) (by decide) rfl ?_
  intro p e s m args below meth c s₁ B hml hv
  obtain ⟨rfl, hsz, hP, hK, hD0⟩ := hv
  have hx := B.exec
  have hb := B.bytes
  have hr := B.returns
  have hts := atoms_spec (ws := wsX0_lineOnPath) B.pre
  have hown : s.vm.findClass RX0 = some m.cls := findClass_of_methodNamed B.named
  have hlocks := B.notSynchronized
  subst hsz
  have hD := hD0.self (sz := s.heap.size)
  generalize hAe : va_A (sg_WX cA ad u) s.heap.size = A at hD ⊢
  have hA : ∀ q : Nat, s.heap.size ≤ q → A q := fun q h => by rw [← hAe]; exact Or.inr h
  have hS : va_S A s.heap s.heap [] := va_S.rf
  have hl := lv_entry ([.ref (ad 2), .int p1]) (n := 2) (Nat.le_of_ble_eq_true rfl)
  rw [lg_entry_eq]
  generalize (lg_sl ([.ref (ad 2), .int p1]) ++ List.replicate (2 - (lg_sl ([.ref (ad 2), .int p1])).length) Slot.unset).toArray = ls at hl ⊢
  replace hl : lv_has ls 2 [(0, .ref (ad 2)), (1, .int p1)] := hl
  have hinX0 : ∀ w ∈ u_ws RX0 TX0 3, w ∈ wsX0_lineOnPath := by decide +kernel
  have hJ19 : ∀ (H : Heap) (locs : List Loc) (ls : Array Slot), fX0_lineOnPath_j19 N u  = some r → va_P D vwCl (sg_WX cA ad u) H → va_D A (sg_WX cA ad u) → va_S A s.heap H locs → lv_has ls 2 [(0, .ref (ad 2))] → W p l e (headSpec wsX0_lineOnPath ({ frames := 0, cells := 0, slots := 0, locals := 0 })).room s m ([.ref (ad 2), .int p1] : List Value).toArray below meth c H locs 0 0 (MQ below (va_Qi (fun x y => x = r ∧ y = u) (sg_BX D (sg_WX cA ad) A) A) ([.ref (ad 2), .int p1] : List Value).toArray s 0 0 A) (F0 m 19 ls []) := by
    intro H locs ls hf hP hD hS hl
    unfold fX0_lineOnPath_j19 at hf
    refine lv_iconst (v := (-1)) hx hb dX0_lineOnPath_19 (by decide) ?_
    have hq := Option.some.inj hf
    exact sg_iret hx hb hr hP hD hS dX0_lineOnPath_20 hq rfl hlocks
  unfold fX0_lineOnPath at hf
  refine lv_iload_n hx hb dX0_lineOnPath_0 rfl (lv_at hl 1 rfl) ?_
  refine lv_if_lt (tgt := 19) hx hb dX0_lineOnPath_1 (by decide) (fun c3 => ?_) (fun c3 => ?_)
  · have hf := sg_ip c3 hf
    exact hJ19 _ _ _ hf hP hD hS (lv_sub hl [0] rfl)
  · have hf := sg_in c3 hf
    refine lv_iload_n hx hb dX0_lineOnPath_4 rfl (lv_at hl 1 rfl) ?_
    refine lv_bipush (v := 10) hx hb dX0_lineOnPath_5 (by decide) ?_
    refine lv_icmp_ge (tgt := 19) hx hb dX0_lineOnPath_7 (by decide) (fun c2 => ?_) (fun c2 => ?_)
    · have hf := sg_ip c2 hf
      exact hJ19 _ _ _ hf hP hD hS (lv_sub hl [0] rfl)
    · have hf := sg_in c2 hf
      refine lv_aload_n hx hb dX0_lineOnPath_10 rfl (lv_at hl 0 rfl) ?_
      refine va_get (D := D) (ci := 2) (C := RX0) (T := TX0) (N := 3) hx hb hts hinX0 hown hK.1 hP 2 rfl rfl 2 (by decide) (hts (.fieldLink RX0 15 "Switchgear$Feeder" "path" "[I") (by decide +kernel)) (fun _ h9 => h9) rfl dX0_lineOnPath_11 ?_
      refine lv_iload_n hx hb dX0_lineOnPath_14 rfl (lv_at hl 1 rfl) ?_
      obtain ⟨hg1, hf⟩ := sg_g_s hf
      refine va_iald hx hb hK.1 hP 13 0 rfl rfl (sg_inb_s hg1) dX0_lineOnPath_15 ?_
      refine lv_goto (tgt := 20) hx hb dX0_lineOnPath_16 (by decide) ?_
      have hq := Option.some.inj hf
      exact sg_iret hx hb hr hP hD hS dX0_lineOnPath_20 hq rfl hlocks
set_option maxRecDepth 100000 in
set_option maxHeartbeats 4000000 in
theorem c_X5_bit (l : Launch) (D : va_G) (cA : Nat → ClassId) (N : Nat) (p0 : Int32) (r : Int32) (hf : fX5_bit N p0 = some r) : sg_CI l D cA (sg_W0) yX5_bit wsX5_bit ({ frames := 0, cells := 0, slots := 0, locals := 0 }) [.int p0] sg_u0 r sg_u0 := by
  intro sz
  refine Met.ofW (cc := cX5_bit) (maxL := 1) (ret := (some .int)) (by decide) rfl ?_
  intro p e s m args below meth c s₁ B hml hv
  obtain ⟨rfl, hsz, hP, hK, hD0⟩ := hv
  have hx := B.exec
  have hb := B.bytes
  have hr := B.returns
  have hts := atoms_spec (ws := wsX5_bit) B.pre
  have hown : s.vm.findClass RX5 = some m.cls := findClass_of_methodNamed B.named
  have hlocks := B.notSynchronized
  subst hsz
  have hD := hD0.self (sz := s.heap.size)
  generalize hAe : va_A (sg_W0 sg_u0) s.heap.size = A at hD ⊢
  have hA : ∀ q : Nat, s.heap.size ≤ q → A q := fun q h => by rw [← hAe]; exact Or.inr h
  have hS : va_S A s.heap s.heap [] := va_S.rf
  have hl := lv_entry ([.int p0]) (n := 1) (Nat.le_of_ble_eq_true rfl)
  rw [lg_entry_eq]
  generalize (lg_sl ([.int p0]) ++ List.replicate (1 - (lg_sl ([.int p0])).length) Slot.unset).toArray = ls at hl ⊢
  replace hl : lv_has ls 1 [(0, .int p0)] := hl
  unfold fX5_bit at hf
  refine lv_iconst (v := 1) hx hb dX5_bit_0 (by decide) ?_
  refine lv_iload_n hx hb dX5_bit_1 rfl (lv_at hl 0 rfl) ?_
  refine lv_ishl hx hb dX5_bit_2 ?_
  have hq := Option.some.inj hf
  exact sg_iret hx hb hr hP hD hS dX5_bit_3 hq rfl hlocks
set_option maxRecDepth 100000 in
set_option maxHeartbeats 4000000 in
theorem c_X1_addLineBetween (l : Launch) (D : va_G) (cA : Nat → ClassId) (ad : Nat → Nat) (N : Nat) (u : sg_St) (p1 p2 p3 p4 : Int32) (r : Int32) (u' : sg_St) (hf : fX1_addLineBetween N u p1 p2 p3 p4 = some (r, u')) : sg_CI l D cA (sg_WX cA ad) yX1_addLineBetween wsX1_addLineBetween ({ frames := 1, cells := 0, slots := 0, locals := 20 }) [.ref (ad 1), .int p1, .int p2, .int p3, .int p4] u r u' := by
  intro sz
  refine Met.ofW (cc := cX1_addLineBetween) (maxL := 6) (ret := (some .int)) (by decide) rfl ?_
  intro p e s m args below meth c s₁ B hml hv
  obtain ⟨rfl, hsz, hP, hK, hD0⟩ := hv
  have hx := B.exec
  have hb := B.bytes
  have hr := B.returns
  have hts := atoms_spec (ws := wsX1_addLineBetween) B.pre
  have hown : s.vm.findClass RX1 = some m.cls := findClass_of_methodNamed B.named
  have hlocks := B.notSynchronized
  subst hsz
  have hD := hD0.self (sz := s.heap.size)
  generalize hAe : va_A (sg_WX cA ad u) s.heap.size = A at hD ⊢
  have hA : ∀ q : Nat, s.heap.size ≤ q → A q := fun q h => by rw [← hAe]; exact Or.inr h
  have hS : va_S A s.heap s.heap [] := va_S.rf
  have hl := lv_entry ([.ref (ad 1), .int p1, .int p2, .int p3, .int p4]) (n := 6) (Nat.le_of_ble_eq_true rfl)
  rw [lg_entry_eq]
  generalize (lg_sl ([.ref (ad 1), .int p1, .int p2, .int p3, .int p4]) ++ List.replicate (6 - (lg_sl ([.ref (ad 1), .int p1, .int p2, .int p3, .int p4])).length) Slot.unset).toArray = ls at hl ⊢
  replace hl : lv_has ls 6 [(0, .ref (ad 1)), (1, .int p1), (2, .int p2), (3, .int p3), (4, .int p4)] := hl
  have hinX1 : ∀ w ∈ u_ws RX1 TX1 10, w ∈ wsX1_addLineBetween := by decide +kernel
  have hJ58 : ∀ (u : sg_St) (v5 : Int32) (H : Heap) (locs : List Loc) (ls : Array Slot), fX1_addLineBetween_j58 N u v5 = some (r, u') → va_P D vwCl (sg_WX cA ad u) H → va_D A (sg_WX cA ad u) → va_S A s.heap H locs → lv_has ls 6 [(0, .ref (ad 1)), (5, .int v5)] → W p l e (headSpec wsX1_addLineBetween ({ frames := 1, cells := 0, slots := 0, locals := 20 })).room s m ([.ref (ad 1), .int p1, .int p2, .int p3, .int p4] : List Value).toArray below meth c H locs 0 0 (MQ below (va_Qi (fun x y => x = r ∧ y = u') (sg_BX D (sg_WX cA ad) A) A) ([.ref (ad 1), .int p1, .int p2, .int p3, .int p4] : List Value).toArray s 0 0 A) (F0 m 58 ls []) := by
    intro u v5 H locs ls hf hP hD hS hl
    unfold fX1_addLineBetween_j58 at hf
    refine lv_aload_n hx hb dX1_addLineBetween_58 rfl (lv_at hl 0 rfl) ?_
    refine lv_iload hx hb dX1_addLineBetween_59 (lv_at hl 1 rfl) ?_
    refine lv_iconst (v := 1) hx hb dX1_addLineBetween_61 (by decide) ?_
    refine lv_iadd hx hb dX1_addLineBetween_62 ?_
    refine va_put (D := D) (ci := 3) (v := .int (v5 + 1)) (ty := .int) (C := RX1) (T := TX1) (N := 10) hx hb hts hinX1 tyX1 tyX1_ok nmX1 hown hK.1 hP hD hS 1 rfl rfl 7 (by decide) (hts (.fieldLink RX1 41 "Switchgear$Grid" "lineCount" "I") (by decide +kernel)) (fun _ h9 => h9) rfl (by decide +kernel) rfl rfl (Nat.le_of_ble_eq_true rfl) dX1_addLineBetween_63 (fun H locs hP hD hS => ?_)
    replace hP : va_P D vwCl (sg_WX cA ad (sg_set u 1 0 (v5 + 1))) H := by rw [← sg_WX_1]; exact hP
    replace hD : va_D A (sg_WX cA ad (sg_set u 1 0 (v5 + 1))) := by rw [← sg_WX_1]; exact hD
    refine lv_iload hx hb dX1_addLineBetween_66 (lv_at hl 1 rfl) ?_
    have hq := Option.some.inj hf
    exact sg_iret hx hb hr hP hD hS dX1_addLineBetween_68 (congrArg Prod.fst hq) (congrArg Prod.snd hq) hlocks
  unfold fX1_addLineBetween at hf
  refine lv_aload_n hx hb dX1_addLineBetween_0 rfl (lv_at hl 0 rfl) ?_
  refine va_get (D := D) (ci := 3) (C := RX1) (T := TX1) (N := 10) hx hb hts hinX1 hown hK.1 hP 1 rfl rfl 7 (by decide) (hts (.fieldLink RX1 41 "Switchgear$Grid" "lineCount" "I") (by decide +kernel)) (fun _ h9 => h9) rfl dX1_addLineBetween_1 ?_
  refine lv_istore (lv' := [(5, .int (u 1 0)), (0, .ref (ad 1)), (1, .int p1), (2, .int p2), (3, .int p3), (4, .int p4)]) hx hb dX1_addLineBetween_4 hl (by decide) rfl (fun ls hl => ?_)
  refine lv_iload hx hb dX1_addLineBetween_6 (lv_at hl 0 rfl) ?_
  refine lv_bipush (v := 12) hx hb dX1_addLineBetween_8 (by decide) ?_
  refine lv_icmp_lt (tgt := 15) hx hb dX1_addLineBetween_10 (by decide) (fun c9 => ?_) (fun c9 => ?_)
  · have hf := sg_ip c9 hf
    refine lv_aload_n hx hb dX1_addLineBetween_15 rfl (lv_at hl 1 rfl) ?_
    refine va_get (D := D) (ci := 3) (C := RX1) (T := TX1) (N := 10) hx hb hts hinX1 hown hK.1 hP 1 rfl rfl 3 (by decide) (hts (.fieldLink RX1 21 "Switchgear$Grid" "one" "[I") (by decide +kernel)) (fun _ h9 => h9) rfl dX1_addLineBetween_16 ?_
    refine lv_iload hx hb dX1_addLineBetween_19 (lv_at hl 0 rfl) ?_
    refine lv_iload_n hx hb dX1_addLineBetween_21 rfl (lv_at hl 2 rfl) ?_
    obtain ⟨hg1, hf⟩ := sg_g_s hf
    refine va_iast hx hb hK.1 hP hD hS 9 0 rfl rfl (sg_inb_s hg1) dX1_addLineBetween_22 (fun H locs hP hD hS => ?_)
    replace hP : va_P D vwCl (sg_WX cA ad (sg_set u 14 (u 1 0).toNatClampNeg p1)) H := by rw [← sg_WX_14]; exact hP
    replace hD : va_D A (sg_WX cA ad (sg_set u 14 (u 1 0).toNatClampNeg p1)) := by rw [← sg_WX_14]; exact hD
    refine lv_aload_n hx hb dX1_addLineBetween_23 rfl (lv_at hl 1 rfl) ?_
    refine va_get (D := D) (ci := 3) (C := RX1) (T := TX1) (N := 10) hx hb hts hinX1 hown hK.1 hP 1 rfl rfl 4 (by decide) (hts (.fieldLink RX1 24 "Switchgear$Grid" "other" "[I") (by decide +kernel)) (fun _ h9 => h9) rfl dX1_addLineBetween_24 ?_
    refine lv_iload hx hb dX1_addLineBetween_27 (lv_at hl 0 rfl) ?_
    refine lv_iload_n hx hb dX1_addLineBetween_29 rfl (lv_at hl 3 rfl) ?_
    obtain ⟨hg2, hf⟩ := sg_g_s hf
    refine va_iast hx hb hK.1 hP hD hS 10 0 rfl rfl (sg_inb_s hg2) dX1_addLineBetween_30 (fun H locs hP hD hS => ?_)
    replace hP : va_P D vwCl (sg_WX cA ad (sg_set (sg_set u 14 (u 1 0).toNatClampNeg p1) 15 (u 1 0).toNatClampNeg p2)) H := by rw [← sg_WX_15]; exact hP
    replace hD : va_D A (sg_WX cA ad (sg_set (sg_set u 14 (u 1 0).toNatClampNeg p1) 15 (u 1 0).toNatClampNeg p2)) := by rw [← sg_WX_15]; exact hD
    refine lv_aload_n hx hb dX1_addLineBetween_31 rfl (lv_at hl 1 rfl) ?_
    refine va_get (D := D) (ci := 3) (C := RX1) (T := TX1) (N := 10) hx hb hts hinX1 hown hK.1 hP 1 rfl rfl 5 (by decide) (hts (.fieldLink RX1 27 "Switchgear$Grid" "rating" "[I") (by decide +kernel)) (fun _ h9 => h9) rfl dX1_addLineBetween_32 ?_
    refine lv_iload hx hb dX1_addLineBetween_35 (lv_at hl 0 rfl) ?_
    refine lv_iload_n hx hb dX1_addLineBetween_37 rfl (lv_at hl 4 rfl) ?_
    obtain ⟨hg3, hf⟩ := sg_g_s hf
    refine va_iast hx hb hK.1 hP hD hS 11 0 rfl rfl (sg_inb_s hg3) dX1_addLineBetween_38 (fun H locs hP hD hS => ?_)
    replace hP : va_P D vwCl (sg_WX cA ad (sg_set (sg_set (sg_set u 14 (u 1 0).toNatClampNeg p1) 15 (u 1 0).toNatClampNeg p2) 16 (u 1 0).toNatClampNeg p3)) H := by rw [← sg_WX_16]; exact hP
    replace hD : va_D A (sg_WX cA ad (sg_set (sg_set (sg_set u 14 (u 1 0).toNatClampNeg p1) 15 (u 1 0).toNatClampNeg p2) 16 (u 1 0).toNatClampNeg p3)) := by rw [← sg_WX_16]; exact hD
    refine lv_iload hx hb dX1_addLineBetween_39 (lv_at hl 5 rfl) ?_
    refine lv_if_eq (tgt := 58) hx hb dX1_addLineBetween_41 (by decide) (fun c8 => ?_) (fun c8 => ?_)
    · have hf := sg_ip c8 hf
      exact hJ58 _ _ _ _ _ hf hP hD hS (lv_sub hl [1, 0] rfl)
    · have hf := sg_in c8 hf
      refine lv_aload_n hx hb dX1_addLineBetween_44 rfl (lv_at hl 1 rfl) ?_
      refine lv_dup hx hb dX1_addLineBetween_45 rfl ?_
      refine va_get (D := D) (ci := 3) (C := RX1) (T := TX1) (N := 10) hx hb hts hinX1 hown hK.1 hP 1 rfl rfl 9 (by decide) (hts (.fieldLink RX1 44 "Switchgear$Grid" "breakers" "I") (by decide +kernel)) (fun _ h9 => h9) rfl dX1_addLineBetween_46 ?_
      refine lv_iload hx hb dX1_addLineBetween_49 (lv_at hl 0 rfl) ?_
      obtain ⟨r5, hc4, hf⟩ := sg_b_s hf
      refine sg_ci0 (va_runSN (As := [.int (u 1 0)]) (rest := [.int ((sg_set (sg_set (sg_set u 14 (u 1 0).toNatClampNeg p1) 15 (u 1 0).toNatClampNeg p2) 16 (u 1 0).toNatClampNeg p3) 3 0), .ref (ad 1)]) ⟨hx, hb, hml, hown, hts⟩ (c_X5_bit l D cA N _ _ hc4 _) ⟨va_cnB (host := RX5) 1 hts gX1_addLineBetween_X5_bit_n37 rfl rfl rfl (hK.2 _ (List.mem_of_getElem? (i := 2) rfl)) (hts (.initialized RX5) (by decide +kernel)) (by decide +kernel) ⟨Nat.le_of_ble_eq_true rfl, Nat.le_of_ble_eq_true rfl⟩, hts (.static yX5_bit) (by decide +kernel), trivial⟩ (sg_pre0 hK) rfl rfl hl.1 rfl (lv_room (Nat.le_of_ble_eq_true rfl)) dX1_addLineBetween_51 ⟨Nat.zero_le _, Nat.zero_le _⟩) hP hS hA (fun H locs hP hS => ?_)
      refine lv_ior hx hb dX1_addLineBetween_54 ?_
      refine lv_topi (fun x7 ex7 => ?_)
      have hf := sg_l_s ex7 hf
      refine va_put (D := D) (ci := 3) (v := .int x7) (ty := .int) (C := RX1) (T := TX1) (N := 10) hx hb hts hinX1 tyX1 tyX1_ok nmX1 hown hK.1 hP hD hS 1 rfl rfl 9 (by decide) (hts (.fieldLink RX1 44 "Switchgear$Grid" "breakers" "I") (by decide +kernel)) (fun _ h9 => h9) rfl (by decide +kernel) rfl rfl (Nat.le_of_ble_eq_true rfl) dX1_addLineBetween_55 (fun H locs hP hD hS => ?_)
      replace hP : va_P D vwCl (sg_WX cA ad (sg_set (sg_set (sg_set (sg_set u 14 (u 1 0).toNatClampNeg p1) 15 (u 1 0).toNatClampNeg p2) 16 (u 1 0).toNatClampNeg p3) 3 0 x7)) H := by rw [← sg_WX_3]; exact hP
      replace hD : va_D A (sg_WX cA ad (sg_set (sg_set (sg_set (sg_set u 14 (u 1 0).toNatClampNeg p1) 15 (u 1 0).toNatClampNeg p2) 16 (u 1 0).toNatClampNeg p3) 3 0 x7)) := by rw [← sg_WX_3]; exact hD
      exact hJ58 _ _ _ _ _ hf hP hD hS (lv_sub hl [1, 0] rfl)
  · have hf := sg_in c9 hf
    refine lv_iconst (v := (-1)) hx hb dX1_addLineBetween_13 (by decide) ?_
    have hq := Option.some.inj hf
    exact sg_iret hx hb hr hP hD hS dX1_addLineBetween_14 (congrArg Prod.fst hq) (congrArg Prod.snd hq) hlocks
set_option maxRecDepth 100000 in
set_option maxHeartbeats 4000000 in
theorem c_X1_addNode (l : Launch) (D : va_G) (cA : Nat → ClassId) (ad : Nat → Nat) (N : Nat) (u : sg_St) (p1 p2 p3 : Int32) (r : Int32) (u' : sg_St) (hf : fX1_addNode N u p1 p2 p3 = some (r, u')) : sg_CI l D cA (sg_WX cA ad) yX1_addNode wsX1_addNode ({ frames := 1, cells := 0, slots := 0, locals := 20 }) [.ref (ad 1), .int p1, .int p2, .int p3] u r u' := by
  intro sz
  refine Met.ofW (cc := cX1_addNode) (maxL := 5) (ret := (some .int)) (by decide) rfl ?_
  intro p e s m args below meth c s₁ B hml hv
  obtain ⟨rfl, hsz, hP, hK, hD0⟩ := hv
  have hx := B.exec
  have hb := B.bytes
  have hr := B.returns
  have hts := atoms_spec (ws := wsX1_addNode) B.pre
  have hown : s.vm.findClass RX1 = some m.cls := findClass_of_methodNamed B.named
  have hlocks := B.notSynchronized
  subst hsz
  have hD := hD0.self (sz := s.heap.size)
  generalize hAe : va_A (sg_WX cA ad u) s.heap.size = A at hD ⊢
  have hA : ∀ q : Nat, s.heap.size ≤ q → A q := fun q h => by rw [← hAe]; exact Or.inr h
  have hS : va_S A s.heap s.heap [] := va_S.rf
  have hl := lv_entry ([.ref (ad 1), .int p1, .int p2, .int p3]) (n := 5) (Nat.le_of_ble_eq_true rfl)
  rw [lg_entry_eq]
  generalize (lg_sl ([.ref (ad 1), .int p1, .int p2, .int p3]) ++ List.replicate (5 - (lg_sl ([.ref (ad 1), .int p1, .int p2, .int p3])).length) Slot.unset).toArray = ls at hl ⊢
  replace hl : lv_has ls 5 [(0, .ref (ad 1)), (1, .int p1), (2, .int p2), (3, .int p3)] := hl
  have hinX1 : ∀ w ∈ u_ws RX1 TX1 10, w ∈ wsX1_addNode := by decide +kernel
  have hJ57 : ∀ (u : sg_St) (v4 : Int32) (H : Heap) (locs : List Loc) (ls : Array Slot), fX1_addNode_j57 N u v4 = some (r, u') → va_P D vwCl (sg_WX cA ad u) H → va_D A (sg_WX cA ad u) → va_S A s.heap H locs → lv_has ls 5 [(0, .ref (ad 1)), (4, .int v4)] → W p l e (headSpec wsX1_addNode ({ frames := 1, cells := 0, slots := 0, locals := 20 })).room s m ([.ref (ad 1), .int p1, .int p2, .int p3] : List Value).toArray below meth c H locs 0 0 (MQ below (va_Qi (fun x y => x = r ∧ y = u') (sg_BX D (sg_WX cA ad) A) A) ([.ref (ad 1), .int p1, .int p2, .int p3] : List Value).toArray s 0 0 A) (F0 m 57 ls []) := by
    intro u v4 H locs ls hf hP hD hS hl
    unfold fX1_addNode_j57 at hf
    refine lv_aload_n hx hb dX1_addNode_57 rfl (lv_at hl 0 rfl) ?_
    refine lv_iload hx hb dX1_addNode_58 (lv_at hl 1 rfl) ?_
    refine lv_iconst (v := 1) hx hb dX1_addNode_60 (by decide) ?_
    refine lv_iadd hx hb dX1_addNode_61 ?_
    refine va_put (D := D) (ci := 3) (v := .int (v4 + 1)) (ty := .int) (C := RX1) (T := TX1) (N := 10) hx hb hts hinX1 tyX1 tyX1_ok nmX1 hown hK.1 hP hD hS 1 rfl rfl 6 (by decide) (hts (.fieldLink RX1 30 "Switchgear$Grid" "nodeCount" "I") (by decide +kernel)) (fun _ h9 => h9) rfl (by decide +kernel) rfl rfl (Nat.le_of_ble_eq_true rfl) dX1_addNode_62 (fun H locs hP hD hS => ?_)
    replace hP : va_P D vwCl (sg_WX cA ad (sg_set u 0 0 (v4 + 1))) H := by rw [← sg_WX_0]; exact hP
    replace hD : va_D A (sg_WX cA ad (sg_set u 0 0 (v4 + 1))) := by rw [← sg_WX_0]; exact hD
    refine lv_iload hx hb dX1_addNode_65 (lv_at hl 1 rfl) ?_
    have hq := Option.some.inj hf
    exact sg_iret hx hb hr hP hD hS dX1_addNode_67 (congrArg Prod.fst hq) (congrArg Prod.snd hq) hlocks
  unfold fX1_addNode at hf
  refine lv_aload_n hx hb dX1_addNode_0 rfl (lv_at hl 0 rfl) ?_
  refine va_get (D := D) (ci := 3) (C := RX1) (T := TX1) (N := 10) hx hb hts hinX1 hown hK.1 hP 1 rfl rfl 6 (by decide) (hts (.fieldLink RX1 30 "Switchgear$Grid" "nodeCount" "I") (by decide +kernel)) (fun _ h9 => h9) rfl dX1_addNode_1 ?_
  refine lv_istore (lv' := [(4, .int (u 0 0)), (0, .ref (ad 1)), (1, .int p1), (2, .int p2), (3, .int p3)]) hx hb dX1_addNode_4 hl (by decide) rfl (fun ls hl => ?_)
  refine lv_iload hx hb dX1_addNode_6 (lv_at hl 0 rfl) ?_
  refine lv_bipush (v := 10) hx hb dX1_addNode_8 (by decide) ?_
  refine lv_icmp_lt (tgt := 15) hx hb dX1_addNode_10 (by decide) (fun c9 => ?_) (fun c9 => ?_)
  · have hf := sg_ip c9 hf
    refine lv_aload_n hx hb dX1_addNode_15 rfl (lv_at hl 1 rfl) ?_
    refine va_get (D := D) (ci := 3) (C := RX1) (T := TX1) (N := 10) hx hb hts hinX1 hown hK.1 hP 1 rfl rfl 0 (by decide) (hts (.fieldLink RX1 9 "Switchgear$Grid" "capacity" "[I") (by decide +kernel)) (fun _ h9 => h9) rfl dX1_addNode_16 ?_
    refine lv_iload hx hb dX1_addNode_19 (lv_at hl 0 rfl) ?_
    refine lv_iload_n hx hb dX1_addNode_21 rfl (lv_at hl 2 rfl) ?_
    obtain ⟨hg1, hf⟩ := sg_g_s hf
    refine va_iast hx hb hK.1 hP hD hS 6 0 rfl rfl (sg_inb_s hg1) dX1_addNode_22 (fun H locs hP hD hS => ?_)
    replace hP : va_P D vwCl (sg_WX cA ad (sg_set u 11 (u 0 0).toNatClampNeg p1)) H := by rw [← sg_WX_11]; exact hP
    replace hD : va_D A (sg_WX cA ad (sg_set u 11 (u 0 0).toNatClampNeg p1)) := by rw [← sg_WX_11]; exact hD
    refine lv_aload_n hx hb dX1_addNode_23 rfl (lv_at hl 1 rfl) ?_
    refine va_get (D := D) (ci := 3) (C := RX1) (T := TX1) (N := 10) hx hb hts hinX1 hown hK.1 hP 1 rfl rfl 1 (by decide) (hts (.fieldLink RX1 15 "Switchgear$Grid" "load" "[I") (by decide +kernel)) (fun _ h9 => h9) rfl dX1_addNode_24 ?_
    refine lv_iload hx hb dX1_addNode_27 (lv_at hl 0 rfl) ?_
    refine lv_iload_n hx hb dX1_addNode_29 rfl (lv_at hl 3 rfl) ?_
    obtain ⟨hg2, hf⟩ := sg_g_s hf
    refine va_iast hx hb hK.1 hP hD hS 7 0 rfl rfl (sg_inb_s hg2) dX1_addNode_30 (fun H locs hP hD hS => ?_)
    replace hP : va_P D vwCl (sg_WX cA ad (sg_set (sg_set u 11 (u 0 0).toNatClampNeg p1) 12 (u 0 0).toNatClampNeg p2)) H := by rw [← sg_WX_12]; exact hP
    replace hD : va_D A (sg_WX cA ad (sg_set (sg_set u 11 (u 0 0).toNatClampNeg p1) 12 (u 0 0).toNatClampNeg p2)) := by rw [← sg_WX_12]; exact hD
    refine lv_aload_n hx hb dX1_addNode_31 rfl (lv_at hl 1 rfl) ?_
    refine va_get (D := D) (ci := 3) (C := RX1) (T := TX1) (N := 10) hx hb hts hinX1 hown hK.1 hP 1 rfl rfl 2 (by decide) (hts (.fieldLink RX1 18 "Switchgear$Grid" "priority" "[I") (by decide +kernel)) (fun _ h9 => h9) rfl dX1_addNode_32 ?_
    refine lv_iload hx hb dX1_addNode_35 (lv_at hl 0 rfl) ?_
    refine lv_iload_n hx hb dX1_addNode_37 rfl (lv_at hl 4 rfl) ?_
    obtain ⟨hg3, hf⟩ := sg_g_s hf
    refine va_iast hx hb hK.1 hP hD hS 8 0 rfl rfl (sg_inb_s hg3) dX1_addNode_38 (fun H locs hP hD hS => ?_)
    replace hP : va_P D vwCl (sg_WX cA ad (sg_set (sg_set (sg_set u 11 (u 0 0).toNatClampNeg p1) 12 (u 0 0).toNatClampNeg p2) 13 (u 0 0).toNatClampNeg p3)) H := by rw [← sg_WX_13]; exact hP
    replace hD : va_D A (sg_WX cA ad (sg_set (sg_set (sg_set u 11 (u 0 0).toNatClampNeg p1) 12 (u 0 0).toNatClampNeg p2) 13 (u 0 0).toNatClampNeg p3)) := by rw [← sg_WX_13]; exact hD
    refine lv_iload_n hx hb dX1_addNode_39 rfl (lv_at hl 2 rfl) ?_
    refine lv_if_le (tgt := 57) hx hb dX1_addNode_40 (by decide) (fun c8 => ?_) (fun c8 => ?_)
    · have hf := sg_ip c8 hf
      exact hJ57 _ _ _ _ _ hf hP hD hS (lv_sub hl [1, 0] rfl)
    · have hf := sg_in c8 hf
      refine lv_aload_n hx hb dX1_addNode_43 rfl (lv_at hl 1 rfl) ?_
      refine lv_dup hx hb dX1_addNode_44 rfl ?_
      refine va_get (D := D) (ci := 3) (C := RX1) (T := TX1) (N := 10) hx hb hts hinX1 hown hK.1 hP 1 rfl rfl 8 (by decide) (hts (.fieldLink RX1 34 "Switchgear$Grid" "sources" "I") (by decide +kernel)) (fun _ h9 => h9) rfl dX1_addNode_45 ?_
      refine lv_iload hx hb dX1_addNode_48 (lv_at hl 0 rfl) ?_
      obtain ⟨r5, hc4, hf⟩ := sg_b_s hf
      refine sg_ci0 (va_runSN (As := [.int (u 0 0)]) (rest := [.int ((sg_set (sg_set (sg_set u 11 (u 0 0).toNatClampNeg p1) 12 (u 0 0).toNatClampNeg p2) 13 (u 0 0).toNatClampNeg p3) 2 0), .ref (ad 1)]) ⟨hx, hb, hml, hown, hts⟩ (c_X5_bit l D cA N _ _ hc4 _) ⟨va_cnB (host := RX5) 1 hts gX1_addNode_X5_bit_n37 rfl rfl rfl (hK.2 _ (List.mem_of_getElem? (i := 2) rfl)) (hts (.initialized RX5) (by decide +kernel)) (by decide +kernel) ⟨Nat.le_of_ble_eq_true rfl, Nat.le_of_ble_eq_true rfl⟩, hts (.static yX5_bit) (by decide +kernel), trivial⟩ (sg_pre0 hK) rfl rfl hl.1 rfl (lv_room (Nat.le_of_ble_eq_true rfl)) dX1_addNode_50 ⟨Nat.zero_le _, Nat.zero_le _⟩) hP hS hA (fun H locs hP hS => ?_)
      refine lv_ior hx hb dX1_addNode_53 ?_
      refine lv_topi (fun x7 ex7 => ?_)
      have hf := sg_l_s ex7 hf
      refine va_put (D := D) (ci := 3) (v := .int x7) (ty := .int) (C := RX1) (T := TX1) (N := 10) hx hb hts hinX1 tyX1 tyX1_ok nmX1 hown hK.1 hP hD hS 1 rfl rfl 8 (by decide) (hts (.fieldLink RX1 34 "Switchgear$Grid" "sources" "I") (by decide +kernel)) (fun _ h9 => h9) rfl (by decide +kernel) rfl rfl (Nat.le_of_ble_eq_true rfl) dX1_addNode_54 (fun H locs hP hD hS => ?_)
      replace hP : va_P D vwCl (sg_WX cA ad (sg_set (sg_set (sg_set (sg_set u 11 (u 0 0).toNatClampNeg p1) 12 (u 0 0).toNatClampNeg p2) 13 (u 0 0).toNatClampNeg p3) 2 0 x7)) H := by rw [← sg_WX_2]; exact hP
      replace hD : va_D A (sg_WX cA ad (sg_set (sg_set (sg_set (sg_set u 11 (u 0 0).toNatClampNeg p1) 12 (u 0 0).toNatClampNeg p2) 13 (u 0 0).toNatClampNeg p3) 2 0 x7)) := by rw [← sg_WX_2]; exact hD
      exact hJ57 _ _ _ _ _ hf hP hD hS (lv_sub hl [1, 0] rfl)
  · have hf := sg_in c9 hf
    refine lv_iconst (v := (-1)) hx hb dX1_addNode_13 (by decide) ?_
    have hq := Option.some.inj hf
    exact sg_iret hx hb hr hP hD hS dX1_addNode_14 (congrArg Prod.fst hq) (congrArg Prod.snd hq) hlocks
set_option maxRecDepth 100000 in
set_option maxHeartbeats 4000000 in
theorem c_X1_allNodes (l : Launch) (D : va_G) (cA : Nat → ClassId) (ad : Nat → Nat) (N : Nat) (u : sg_St) (r : Int32) (hf : fX1_allNodes N u = some r) : sg_CI l D cA (sg_WX cA ad) yX1_allNodes wsX1_allNodes ({ frames := 1, cells := 0, slots := 0, locals := 20 }) [.ref (ad 1)] u r u := by
  intro sz
  refine Met.ofW (cc := cX1_allNodes) (maxL := 1) (ret := (some .int)) (by decide) rfl ?_
  intro p e s m args below meth c s₁ B hml hv
  obtain ⟨rfl, hsz, hP, hK, hD0⟩ := hv
  have hx := B.exec
  have hb := B.bytes
  have hr := B.returns
  have hts := atoms_spec (ws := wsX1_allNodes) B.pre
  have hown : s.vm.findClass RX1 = some m.cls := findClass_of_methodNamed B.named
  have hlocks := B.notSynchronized
  subst hsz
  have hD := hD0.self (sz := s.heap.size)
  generalize hAe : va_A (sg_WX cA ad u) s.heap.size = A at hD ⊢
  have hA : ∀ q : Nat, s.heap.size ≤ q → A q := fun q h => by rw [← hAe]; exact Or.inr h
  have hS : va_S A s.heap s.heap [] := va_S.rf
  have hl := lv_entry ([.ref (ad 1)]) (n := 1) (Nat.le_of_ble_eq_true rfl)
  rw [lg_entry_eq]
  generalize (lg_sl ([.ref (ad 1)]) ++ List.replicate (1 - (lg_sl ([.ref (ad 1)])).length) Slot.unset).toArray = ls at hl ⊢
  replace hl : lv_has ls 1 [(0, .ref (ad 1))] := hl
  have hinX1 : ∀ w ∈ u_ws RX1 TX1 10, w ∈ wsX1_allNodes := by decide +kernel
  unfold fX1_allNodes at hf
  refine lv_aload_n hx hb dX1_allNodes_0 rfl (lv_at hl 0 rfl) ?_
  refine va_get (D := D) (ci := 3) (C := RX1) (T := TX1) (N := 10) hx hb hts hinX1 hown hK.1 hP 1 rfl rfl 6 (by decide) (hts (.fieldLink RX1 30 "Switchgear$Grid" "nodeCount" "I") (by decide +kernel)) (fun _ h9 => h9) rfl dX1_allNodes_1 ?_
  obtain ⟨r2, hc1, hf⟩ := sg_b_s hf
  refine sg_ci0 (va_runSN (As := [.int (u 0 0)]) (rest := []) ⟨hx, hb, hml, hown, hts⟩ (c_X5_bit l D cA N _ _ hc1 _) ⟨va_cnB (host := RX5) 1 hts gX1_allNodes_X5_bit_n37 rfl rfl rfl (hK.2 _ (List.mem_of_getElem? (i := 2) rfl)) (hts (.initialized RX5) (by decide +kernel)) (by decide +kernel) ⟨Nat.le_of_ble_eq_true rfl, Nat.le_of_ble_eq_true rfl⟩, hts (.static yX5_bit) (by decide +kernel), trivial⟩ (sg_pre0 hK) rfl rfl hl.1 rfl (lv_room (Nat.le_of_ble_eq_true rfl)) dX1_allNodes_4 ⟨Nat.zero_le _, Nat.zero_le _⟩) hP hS hA (fun H locs hP hS => ?_)
  refine lv_iconst (v := 1) hx hb dX1_allNodes_7 (by decide) ?_
  refine lv_isub hx hb dX1_allNodes_8 ?_
  have hq := Option.some.inj hf
  exact sg_iret hx hb hr hP hD hS dX1_allNodes_9 hq rfl hlocks
set_option maxRecDepth 100000 in
set_option maxHeartbeats 4000000 in
theorem c_X1_loadIn (l : Launch) (D : va_G) (cA : Nat → ClassId) (ad : Nat → Nat) (N : Nat) (u : sg_St) (p1 : Int32) (r : Int32) (hf : fX1_loadIn N u p1 = some r) : sg_CI l D cA (sg_WX cA ad) yX1_loadIn wsX1_loadIn ({ frames := 1, cells := 0, slots := 0, locals := 21 }) [.ref (ad 1), .int p1] u r u := by
  intro sz
  refine Met.ofW (cc := cX1_loadIn) (maxL := 4) (ret := (some .int)) (by decide) rfl ?_
  intro p e s m args below meth c s₁ B hml hv
  obtain ⟨rfl, hsz, hP, hK, hD0⟩ := hv
  have hx := B.exec
  have hb := B.bytes
  have hr := B.returns
  have hts := atoms_spec (ws := wsX1_loadIn) B.pre
  have hown : s.vm.findClass RX1 = some m.cls := findClass_of_methodNamed B.named
  have hlocks := B.notSynchronized
  subst hsz
  have hD := hD0.self (sz := s.heap.size)
  generalize hAe : va_A (sg_WX cA ad u) s.heap.size = A at hD ⊢
  have hA : ∀ q : Nat, s.heap.size ≤ q → A q := fun q h => by rw [← hAe]; exact Or.inr h
  have hS : va_S A s.heap s.heap [] := va_S.rf
  have hl := lv_entry ([.ref (ad 1), .int p1]) (n := 4) (Nat.le_of_ble_eq_true rfl)
  rw [lg_entry_eq]
  generalize (lg_sl ([.ref (ad 1), .int p1]) ++ List.replicate (4 - (lg_sl ([.ref (ad 1), .int p1])).length) Slot.unset).toArray = ls at hl ⊢
  replace hl : lv_has ls 4 [(0, .ref (ad 1)), (1, .int p1)] := hl
  have hinX1 : ∀ w ∈ u_ws RX1 TX1 10, w ∈ wsX1_loadIn := by decide +kernel
  have hL4 : ∀ (v1 : Int32) (n : Nat) (x : Int32 × Int32) (r9 : Int32), sg_it (fun x => fX1_loadIn_L4 N u v1 x.1 x.2) n x = some r9 → ∀ (H : Heap) (locs : List Loc) (ls : Array Slot), va_P D vwCl (sg_WX cA ad u) H → va_D A (sg_WX cA ad u) → va_S A s.heap H locs → lv_has ls 4 [(0, .ref (ad 1)), (1, .int v1), (2, .int x.1), (3, .int x.2)] → (∀ (H : Heap) (locs : List Loc) (ls : Array Slot), va_P D vwCl (sg_WX cA ad u) H → va_D A (sg_WX cA ad u) → va_S A s.heap H locs → lv_has ls 4 [(0, .ref (ad 1)), (2, .int r9)] → W p l e (headSpec wsX1_loadIn ({ frames := 1, cells := 0, slots := 0, locals := 21 })).room s m ([.ref (ad 1), .int p1] : List Value).toArray below meth c H locs 0 0 (MQ below (va_Qi (fun x y => x = r ∧ y = u) (sg_BX D (sg_WX cA ad) A) A) ([.ref (ad 1), .int p1] : List Value).toArray s 0 0 A) (F0 m 35 ls [])) → W p l e (headSpec wsX1_loadIn ({ frames := 1, cells := 0, slots := 0, locals := 21 })).room s m ([.ref (ad 1), .int p1] : List Value).toArray below meth c H locs 0 0 (MQ below (va_Qi (fun x y => x = r ∧ y = u) (sg_BX D (sg_WX cA ad) A) A) ([.ref (ad 1), .int p1] : List Value).toArray s 0 0 A) (F0 m 4 ls []) := by
    intro v1
    refine sg_loop _ ?_
    intro x y r9 hf hI hy H locs ls hP hD hS hl hk
    replace hf : fX1_loadIn_L4 N u v1 x.1 x.2 = some y := hf
    unfold fX1_loadIn_L4 at hf
    refine lv_iload_n hx hb dX1_loadIn_4 rfl (lv_at hl 3 rfl) ?_
    refine lv_aload_n hx hb dX1_loadIn_5 rfl (lv_at hl 0 rfl) ?_
    refine va_get (D := D) (ci := 3) (C := RX1) (T := TX1) (N := 10) hx hb hts hinX1 hown hK.1 hP 1 rfl rfl 6 (by decide) (hts (.fieldLink RX1 30 "Switchgear$Grid" "nodeCount" "I") (by decide +kernel)) (fun _ h9 => h9) rfl dX1_loadIn_6 ?_
    refine lv_icmp_ge (tgt := 35) hx hb dX1_loadIn_9 (by decide) (fun c6 => ?_) (fun c6 => ?_)
    · have hf := sg_ip c6 hf
      have hq := hy _ (Option.some.inj hf).symm
      subst hq
      exact hk _ _ _ hP hD hS (lv_sub hl [0, 2] rfl)
    · have hf := sg_in c6 hf
      refine lv_iload_n hx hb dX1_loadIn_12 rfl (lv_at hl 1 rfl) ?_
      refine lv_iload_n hx hb dX1_loadIn_13 rfl (lv_at hl 3 rfl) ?_
      obtain ⟨r2, hc1, hf⟩ := sg_b_s hf
      refine sg_ci0 (va_runSN (As := [.int v1, .int x.2]) (rest := []) ⟨hx, hb, hml, hown, hts⟩ (c_X5_has l D cA N _ _ _ hc1 _) ⟨va_cnB (host := RX5) 2 hts gX1_loadIn_X5_has_n54 rfl rfl rfl (hK.2 _ (List.mem_of_getElem? (i := 3) rfl)) (hts (.initialized RX5) (by decide +kernel)) (by decide +kernel) ⟨Nat.le_of_ble_eq_true rfl, Nat.le_of_ble_eq_true rfl⟩, hts (.static yX5_has) (by decide +kernel), trivial⟩ (sg_pre0 hK) rfl rfl hl.1 rfl (lv_room (Nat.le_of_ble_eq_true rfl)) dX1_loadIn_14 ⟨Nat.zero_le _, Nat.zero_le _⟩) hP hS hA (fun H locs hP hS => ?_)
      refine lv_if_eq (tgt := 29) hx hb dX1_loadIn_17 (by decide) (fun c5 => ?_) (fun c5 => ?_)
      · have hf := sg_ip c5 hf
        refine lv_iinc (v := x.2 + 1) (lv' := [(3, .int (x.2 + 1)), (0, .ref (ad 1)), (1, .int v1), (2, .int x.1)]) hx hb dX1_loadIn_29 hl (k := 3) rfl rfl (by decide) rfl (fun ls hl => ?_)
        refine lv_goto (tgt := 4) hx hb dX1_loadIn_32 (by decide) ?_
        exact hI _ (Option.some.inj hf).symm _ _ _ hP hD hS (lv_sub hl [1, 2, 3, 0] rfl) hk
      · have hf := sg_in c5 hf
        refine lv_iload_n hx hb dX1_loadIn_20 rfl (lv_at hl 2 rfl) ?_
        refine lv_aload_n hx hb dX1_loadIn_21 rfl (lv_at hl 0 rfl) ?_
        refine va_get (D := D) (ci := 3) (C := RX1) (T := TX1) (N := 10) hx hb hts hinX1 hown hK.1 hP 1 rfl rfl 1 (by decide) (hts (.fieldLink RX1 15 "Switchgear$Grid" "load" "[I") (by decide +kernel)) (fun _ h9 => h9) rfl dX1_loadIn_22 ?_
        refine lv_iload_n hx hb dX1_loadIn_25 rfl (lv_at hl 3 rfl) ?_
        obtain ⟨hg4, hf⟩ := sg_g_s hf
        refine va_iald hx hb hK.1 hP 7 0 rfl rfl (sg_inb_s hg4) dX1_loadIn_26 ?_
        refine lv_iadd hx hb dX1_loadIn_27 ?_
        refine lv_istore_n (lv' := [(2, .int (x.1 + (u 12 (x.2).toNatClampNeg))), (0, .ref (ad 1)), (1, .int v1), (3, .int x.2)]) hx hb dX1_loadIn_28 rfl hl (by decide) rfl (fun ls hl => ?_)
        refine lv_iinc (v := x.2 + 1) (lv' := [(3, .int (x.2 + 1)), (2, .int (x.1 + (u 12 (x.2).toNatClampNeg))), (0, .ref (ad 1)), (1, .int v1)]) hx hb dX1_loadIn_29 hl (k := 3) rfl rfl (by decide) rfl (fun ls hl => ?_)
        refine lv_goto (tgt := 4) hx hb dX1_loadIn_32 (by decide) ?_
        exact hI _ (Option.some.inj hf).symm _ _ _ hP hD hS (lv_sub hl [2, 3, 1, 0] rfl) hk
  unfold fX1_loadIn at hf
  refine lv_iconst (v := 0) hx hb dX1_loadIn_0 (by decide) ?_
  refine lv_istore_n (lv' := [(2, .int 0), (0, .ref (ad 1)), (1, .int p1)]) hx hb dX1_loadIn_1 rfl hl (by decide) rfl (fun ls hl => ?_)
  refine lv_iconst (v := 0) hx hb dX1_loadIn_2 (by decide) ?_
  refine lv_istore_n (lv' := [(3, .int 0), (2, .int 0), (0, .ref (ad 1)), (1, .int p1)]) hx hb dX1_loadIn_3 rfl hl (by decide) rfl (fun ls hl => ?_)
  obtain ⟨e1, hc2, hf⟩ := sg_b_s hf
  refine hL4 _ _ _ e1 hc2 _ _ _ hP hD hS (lv_sub hl [2, 3, 1, 0] rfl) (fun H locs ls hP hD hS hl => ?_)
  refine lv_iload_n hx hb dX1_loadIn_35 rfl (lv_at hl 1 rfl) ?_
  have hq := Option.some.inj hf
  exact sg_iret hx hb hr hP hD hS dX1_loadIn_36 hq rfl hlocks
set_option maxRecDepth 100000 in
set_option maxHeartbeats 4000000 in
theorem c_X5_memberAt (l : Launch) (D : va_G) (cA : Nat → ClassId) (N : Nat) (p0 p1 : Int32) (r : Int32) (hf : fX5_memberAt N p0 p1 = some r) : sg_CI l D cA (sg_W0) yX5_memberAt wsX5_memberAt ({ frames := 0, cells := 0, slots := 0, locals := 0 }) [.int p0, .int p1] sg_u0 r sg_u0 := by
  intro sz
  refine Met.ofW (cc := cX5_memberAt) (maxL := 4) (ret := (some .int)) (by decide) rfl ?_
  intro p e s m args below meth c s₁ B hml hv
  obtain ⟨rfl, hsz, hP, hK, hD0⟩ := hv
  have hx := B.exec
  have hb := B.bytes
  have hr := B.returns
  have hts := atoms_spec (ws := wsX5_memberAt) B.pre
  have hown : s.vm.findClass RX5 = some m.cls := findClass_of_methodNamed B.named
  have hlocks := B.notSynchronized
  subst hsz
  have hD := hD0.self (sz := s.heap.size)
  generalize hAe : va_A (sg_W0 sg_u0) s.heap.size = A at hD ⊢
  have hA : ∀ q : Nat, s.heap.size ≤ q → A q := fun q h => by rw [← hAe]; exact Or.inr h
  have hS : va_S A s.heap s.heap [] := va_S.rf
  have hl := lv_entry ([.int p0, .int p1]) (n := 4) (Nat.le_of_ble_eq_true rfl)
  rw [lg_entry_eq]
  generalize (lg_sl ([.int p0, .int p1]) ++ List.replicate (4 - (lg_sl ([.int p0, .int p1])).length) Slot.unset).toArray = ls at hl ⊢
  replace hl : lv_has ls 4 [(0, .int p0), (1, .int p1)] := hl
  have hL4 : ∀ (v0 v1 : Int32) (n : Nat) (x : Int32 × Int32) (r9 : Int32), sg_it (fun x => fX5_memberAt_L4 N v0 v1 x.1 x.2) n x = some r9 → r9 = r → ∀ (H : Heap) (locs : List Loc) (ls : Array Slot), va_P D vwCl (sg_W0 sg_u0) H → va_D A (sg_W0 sg_u0) → va_S A s.heap H locs → lv_has ls 4 [(0, .int v0), (1, .int v1), (2, .int x.1), (3, .int x.2)] → W p l e (headSpec wsX5_memberAt ({ frames := 0, cells := 0, slots := 0, locals := 0 })).room s m ([.int p0, .int p1] : List Value).toArray below meth c H locs 0 0 (MQ below (va_Qi (fun x y => x = r ∧ y = sg_u0) (sg_BX D (sg_W0) A) A) ([.int p0, .int p1] : List Value).toArray s 0 0 A) (F0 m 4 ls []) := by
    intro v0 v1
    refine sg_loop _ ?_
    intro x y r9 hf hI hy hr9 H locs ls hP hD hS hl
    replace hf : fX5_memberAt_L4 N v0 v1 x.1 x.2 = some y := hf
    unfold fX5_memberAt_L4 at hf
    refine lv_iload_n hx hb dX5_memberAt_4 rfl (lv_at hl 3 rfl) ?_
    refine lv_bipush (v := 12) hx hb dX5_memberAt_5 (by decide) ?_
    refine lv_icmp_ge (tgt := 34) hx hb dX5_memberAt_7 (by decide) (fun c3 => ?_) (fun c3 => ?_)
    · have hf := sg_ip c3 hf
      refine lv_iconst (v := (-1)) hx hb dX5_memberAt_34 (by decide) ?_
      have hq := (hy _ (Option.some.inj hf).symm).trans hr9
      exact sg_iret hx hb hr hP hD hS dX5_memberAt_35 hq rfl hlocks
    · have hf := sg_in c3 hf
      refine lv_iload_n hx hb dX5_memberAt_10 rfl (lv_at hl 0 rfl) ?_
      refine lv_iload_n hx hb dX5_memberAt_11 rfl (lv_at hl 3 rfl) ?_
      refine lv_ishr hx hb dX5_memberAt_12 ?_
      refine lv_iconst (v := 1) hx hb dX5_memberAt_13 (by decide) ?_
      refine lv_iand hx hb dX5_memberAt_14 ?_
      refine lv_if_eq (tgt := 28) hx hb dX5_memberAt_15 (by decide) (fun c2 => ?_) (fun c2 => ?_)
      · have hf := sg_ip c2 hf
        refine lv_iinc (v := x.2 + 1) (lv' := [(3, .int (x.2 + 1)), (0, .int v0), (1, .int v1), (2, .int x.1)]) hx hb dX5_memberAt_28 hl (k := 3) rfl rfl (by decide) rfl (fun ls hl => ?_)
        refine lv_goto (tgt := 4) hx hb dX5_memberAt_31 (by decide) ?_
        exact hI _ (Option.some.inj hf).symm hr9 _ _ _ hP hD hS (lv_sub hl [1, 2, 3, 0] rfl)
      · have hf := sg_in c2 hf
        refine lv_iload_n hx hb dX5_memberAt_18 rfl (lv_at hl 2 rfl) ?_
        refine lv_iload_n hx hb dX5_memberAt_19 rfl (lv_at hl 1 rfl) ?_
        refine lv_icmp_ne (tgt := 25) hx hb dX5_memberAt_20 (by decide) (fun c1 => ?_) (fun c1 => ?_)
        · have hf := sg_in c1 hf
          refine lv_iinc (v := x.1 + 1) (lv' := [(2, .int (x.1 + 1)), (0, .int v0), (1, .int v1), (3, .int x.2)]) hx hb dX5_memberAt_25 hl (k := 2) rfl rfl (by decide) rfl (fun ls hl => ?_)
          refine lv_iinc (v := x.2 + 1) (lv' := [(3, .int (x.2 + 1)), (2, .int (x.1 + 1)), (0, .int v0), (1, .int v1)]) hx hb dX5_memberAt_28 hl (k := 3) rfl rfl (by decide) rfl (fun ls hl => ?_)
          refine lv_goto (tgt := 4) hx hb dX5_memberAt_31 (by decide) ?_
          exact hI _ (Option.some.inj hf).symm hr9 _ _ _ hP hD hS (lv_sub hl [2, 3, 1, 0] rfl)
        · have hf := sg_ip c1 hf
          refine lv_iload_n hx hb dX5_memberAt_23 rfl (lv_at hl 3 rfl) ?_
          have hq := (hy _ (Option.some.inj hf).symm).trans hr9
          exact sg_iret hx hb hr hP hD hS dX5_memberAt_24 hq rfl hlocks
  unfold fX5_memberAt at hf
  refine lv_iconst (v := 0) hx hb dX5_memberAt_0 (by decide) ?_
  refine lv_istore_n (lv' := [(2, .int 0), (0, .int p0), (1, .int p1)]) hx hb dX5_memberAt_1 rfl hl (by decide) rfl (fun ls hl => ?_)
  refine lv_iconst (v := 0) hx hb dX5_memberAt_2 (by decide) ?_
  refine lv_istore_n (lv' := [(3, .int 0), (2, .int 0), (0, .int p0), (1, .int p1)]) hx hb dX5_memberAt_3 rfl hl (by decide) rfl (fun ls hl => ?_)
  exact hL4 _ _ _ _ _ hf rfl _ _ _ hP hD hS (lv_sub hl [2, 3, 1, 0] rfl)
set_option maxRecDepth 100000 in
set_option maxHeartbeats 4000000 in
theorem c_X5_lowestIn (l : Launch) (D : va_G) (cA : Nat → ClassId) (N : Nat) (p0 : Int32) (r : Int32) (hf : fX5_lowestIn N p0 = some r) : sg_CI l D cA (sg_W0) yX5_lowestIn wsX5_lowestIn ({ frames := 1, cells := 0, slots := 0, locals := 23 }) [.int p0] sg_u0 r sg_u0 := by
  intro sz
  refine Met.ofW (cc := cX5_lowestIn) (maxL := 1) (ret := (some .int)) (by decide) rfl ?_
  intro p e s m args below meth c s₁ B hml hv
  obtain ⟨rfl, hsz, hP, hK, hD0⟩ := hv
  have hx := B.exec
  have hb := B.bytes
  have hr := B.returns
  have hts := atoms_spec (ws := wsX5_lowestIn) B.pre
  have hown : s.vm.findClass RX5 = some m.cls := findClass_of_methodNamed B.named
  have hlocks := B.notSynchronized
  subst hsz
  have hD := hD0.self (sz := s.heap.size)
  generalize hAe : va_A (sg_W0 sg_u0) s.heap.size = A at hD ⊢
  have hA : ∀ q : Nat, s.heap.size ≤ q → A q := fun q h => by rw [← hAe]; exact Or.inr h
  have hS : va_S A s.heap s.heap [] := va_S.rf
  have hl := lv_entry ([.int p0]) (n := 1) (Nat.le_of_ble_eq_true rfl)
  rw [lg_entry_eq]
  generalize (lg_sl ([.int p0]) ++ List.replicate (1 - (lg_sl ([.int p0])).length) Slot.unset).toArray = ls at hl ⊢
  replace hl : lv_has ls 1 [(0, .int p0)] := hl
  unfold fX5_lowestIn at hf
  refine lv_iload_n hx hb dX5_lowestIn_0 rfl (lv_at hl 0 rfl) ?_
  refine lv_iconst (v := 0) hx hb dX5_lowestIn_1 (by decide) ?_
  obtain ⟨r2, hc1, hf⟩ := sg_b_s hf
  refine sg_ci0 (va_runS (As := [.int p0, .int 0]) (rest := []) ⟨hx, hb, hml, hown, hts⟩ (c_X5_memberAt l D cA N _ _ _ hc1 _) (va_cwS 2 hts gX5_lowestIn_X5_memberAt rfl rfl rfl (by decide +kernel) ⟨Nat.le_of_ble_eq_true rfl, Nat.le_of_ble_eq_true rfl⟩) (sg_pre0 hK) rfl rfl hl.1 rfl (lv_room (Nat.le_of_ble_eq_true rfl)) dX5_lowestIn_2 ⟨Nat.zero_le _, Nat.zero_le _⟩) hP hS hA (fun H locs hP hS => ?_)
  have hq := Option.some.inj hf
  exact sg_iret hx hb hr hP hD hS dX5_lowestIn_5 hq rfl hlocks
set_option maxRecDepth 100000 in
set_option maxHeartbeats 4000000 in
theorem c_X1_sourceIn (l : Launch) (D : va_G) (cA : Nat → ClassId) (ad : Nat → Nat) (N : Nat) (u : sg_St) (p1 : Int32) (r : Int32) (hf : fX1_sourceIn N u p1 = some r) : sg_CI l D cA (sg_WX cA ad) yX1_sourceIn wsX1_sourceIn ({ frames := 2, cells := 0, slots := 0, locals := 43 }) [.ref (ad 1), .int p1] u r u := by
  intro sz
  refine Met.ofW (cc := cX1_sourceIn) (maxL := 2) (ret := (some .int)) (by decide) rfl ?_
  intro p e s m args below meth c s₁ B hml hv
  obtain ⟨rfl, hsz, hP, hK, hD0⟩ := hv
  have hx := B.exec
  have hb := B.bytes
  have hr := B.returns
  have hts := atoms_spec (ws := wsX1_sourceIn) B.pre
  have hown : s.vm.findClass RX1 = some m.cls := findClass_of_methodNamed B.named
  have hlocks := B.notSynchronized
  subst hsz
  have hD := hD0.self (sz := s.heap.size)
  generalize hAe : va_A (sg_WX cA ad u) s.heap.size = A at hD ⊢
  have hA : ∀ q : Nat, s.heap.size ≤ q → A q := fun q h => by rw [← hAe]; exact Or.inr h
  have hS : va_S A s.heap s.heap [] := va_S.rf
  have hl := lv_entry ([.ref (ad 1), .int p1]) (n := 2) (Nat.le_of_ble_eq_true rfl)
  rw [lg_entry_eq]
  generalize (lg_sl ([.ref (ad 1), .int p1]) ++ List.replicate (2 - (lg_sl ([.ref (ad 1), .int p1])).length) Slot.unset).toArray = ls at hl ⊢
  replace hl : lv_has ls 2 [(0, .ref (ad 1)), (1, .int p1)] := hl
  have hinX1 : ∀ w ∈ u_ws RX1 TX1 10, w ∈ wsX1_sourceIn := by decide +kernel
  unfold fX1_sourceIn at hf
  refine lv_iload_n hx hb dX1_sourceIn_0 rfl (lv_at hl 1 rfl) ?_
  refine lv_aload_n hx hb dX1_sourceIn_1 rfl (lv_at hl 0 rfl) ?_
  refine va_get (D := D) (ci := 3) (C := RX1) (T := TX1) (N := 10) hx hb hts hinX1 hown hK.1 hP 1 rfl rfl 8 (by decide) (hts (.fieldLink RX1 34 "Switchgear$Grid" "sources" "I") (by decide +kernel)) (fun _ h9 => h9) rfl dX1_sourceIn_2 ?_
  refine lv_iand hx hb dX1_sourceIn_5 ?_
  obtain ⟨r2, hc1, hf⟩ := sg_b_s hf
  refine sg_ci0 (va_runSN (As := [.int (p1 &&& (u 2 0))]) (rest := []) ⟨hx, hb, hml, hown, hts⟩ (c_X5_lowestIn l D cA N _ _ hc1 _) ⟨va_cnB (host := RX5) 1 hts gX1_sourceIn_X5_lowestIn_n58 rfl rfl rfl (hK.2 _ (List.mem_of_getElem? (i := 4) rfl)) (hts (.initialized RX5) (by decide +kernel)) (by decide +kernel) ⟨Nat.le_of_ble_eq_true rfl, Nat.le_of_ble_eq_true rfl⟩, hts (.static yX5_lowestIn) (by decide +kernel), trivial⟩ (sg_pre0 hK) rfl rfl hl.1 rfl (lv_room (Nat.le_of_ble_eq_true rfl)) dX1_sourceIn_6 ⟨Nat.zero_le _, Nat.zero_le _⟩) hP hS hA (fun H locs hP hS => ?_)
  have hq := Option.some.inj hf
  exact sg_iret hx hb hr hP hD hS dX1_sourceIn_9 hq rfl hlocks
set_option maxRecDepth 100000 in
set_option maxHeartbeats 4000000 in
theorem c_X1_isNode (l : Launch) (D : va_G) (cA : Nat → ClassId) (ad : Nat → Nat) (N : Nat) (u : sg_St) (p1 : Int32) (r : Int32) (hf : fX1_isNode N u p1 = some r) : sg_CI l D cA (sg_WX cA ad) yX1_isNode wsX1_isNode ({ frames := 0, cells := 0, slots := 0, locals := 0 }) [.ref (ad 1), .int p1] u r u := by
  intro sz
  refine Met.ofW (cc := cX1_isNode) (maxL := 2) (ret := (some .boolean)) (by decide) rfl ?_
  intro p e s m args below meth c s₁ B hml hv
  obtain ⟨rfl, hsz, hP, hK, hD0⟩ := hv
  have hx := B.exec
  have hb := B.bytes
  have hr := B.returns
  have hts := atoms_spec (ws := wsX1_isNode) B.pre
  have hown : s.vm.findClass RX1 = some m.cls := findClass_of_methodNamed B.named
  have hlocks := B.notSynchronized
  subst hsz
  have hD := hD0.self (sz := s.heap.size)
  generalize hAe : va_A (sg_WX cA ad u) s.heap.size = A at hD ⊢
  have hA : ∀ q : Nat, s.heap.size ≤ q → A q := fun q h => by rw [← hAe]; exact Or.inr h
  have hS : va_S A s.heap s.heap [] := va_S.rf
  have hl := lv_entry ([.ref (ad 1), .int p1]) (n := 2) (Nat.le_of_ble_eq_true rfl)
  rw [lg_entry_eq]
  generalize (lg_sl ([.ref (ad 1), .int p1]) ++ List.replicate (2 - (lg_sl ([.ref (ad 1), .int p1])).length) Slot.unset).toArray = ls at hl ⊢
  replace hl : lv_has ls 2 [(0, .ref (ad 1)), (1, .int p1)] := hl
  have hinX1 : ∀ w ∈ u_ws RX1 TX1 10, w ∈ wsX1_isNode := by decide +kernel
  have hJ16 : ∀ (H : Heap) (locs : List Loc) (ls : Array Slot), fX1_isNode_j16 N u  = some r → va_P D vwCl (sg_WX cA ad u) H → va_D A (sg_WX cA ad u) → va_S A s.heap H locs → lv_has ls 2 [(0, .ref (ad 1))] → W p l e (headSpec wsX1_isNode ({ frames := 0, cells := 0, slots := 0, locals := 0 })).room s m ([.ref (ad 1), .int p1] : List Value).toArray below meth c H locs 0 0 (MQ below (va_Qi (fun x y => x = r ∧ y = u) (sg_BX D (sg_WX cA ad) A) A) ([.ref (ad 1), .int p1] : List Value).toArray s 0 0 A) (F0 m 16 ls []) := by
    intro H locs ls hf hP hD hS hl
    unfold fX1_isNode_j16 at hf
    refine lv_iconst (v := 0) hx hb dX1_isNode_16 (by decide) ?_
    have hq := Option.some.inj hf
    exact sg_zret hx hb hr rfl hP hD hS dX1_isNode_17 hq rfl hlocks
  unfold fX1_isNode at hf
  refine lv_iload_n hx hb dX1_isNode_0 rfl (lv_at hl 1 rfl) ?_
  refine lv_if_lt (tgt := 16) hx hb dX1_isNode_1 (by decide) (fun c2 => ?_) (fun c2 => ?_)
  · have hf := sg_ip c2 hf
    exact hJ16 _ _ _ hf hP hD hS (lv_sub hl [0] rfl)
  · have hf := sg_in c2 hf
    refine lv_iload_n hx hb dX1_isNode_4 rfl (lv_at hl 1 rfl) ?_
    refine lv_aload_n hx hb dX1_isNode_5 rfl (lv_at hl 0 rfl) ?_
    refine va_get (D := D) (ci := 3) (C := RX1) (T := TX1) (N := 10) hx hb hts hinX1 hown hK.1 hP 1 rfl rfl 6 (by decide) (hts (.fieldLink RX1 30 "Switchgear$Grid" "nodeCount" "I") (by decide +kernel)) (fun _ h9 => h9) rfl dX1_isNode_6 ?_
    refine lv_icmp_ge (tgt := 16) hx hb dX1_isNode_9 (by decide) (fun c1 => ?_) (fun c1 => ?_)
    · have hf := sg_ip c1 hf
      exact hJ16 _ _ _ hf hP hD hS (lv_sub hl [0] rfl)
    · have hf := sg_in c1 hf
      refine lv_iconst (v := 1) hx hb dX1_isNode_12 (by decide) ?_
      refine lv_goto (tgt := 17) hx hb dX1_isNode_13 (by decide) ?_
      have hq := Option.some.inj hf
      exact sg_zret hx hb hr rfl hP hD hS dX1_isNode_17 hq rfl hlocks
set_option maxRecDepth 100000 in
set_option maxHeartbeats 4000000 in
theorem c_X1_capacityAt (l : Launch) (D : va_G) (cA : Nat → ClassId) (ad : Nat → Nat) (N : Nat) (u : sg_St) (p1 : Int32) (r : Int32) (hf : fX1_capacityAt N u p1 = some r) : sg_CI l D cA (sg_WX cA ad) yX1_capacityAt wsX1_capacityAt ({ frames := 1, cells := 0, slots := 0, locals := 21 }) [.ref (ad 1), .int p1] u r u := by
  intro sz
  refine Met.ofW (cc := cX1_capacityAt) (maxL := 2) (ret := (some .int)) (by decide) rfl ?_
  intro p e s m args below meth c s₁ B hml hv
  obtain ⟨rfl, hsz, hP, hK, hD0⟩ := hv
  have hx := B.exec
  have hb := B.bytes
  have hr := B.returns
  have hts := atoms_spec (ws := wsX1_capacityAt) B.pre
  have hown : s.vm.findClass RX1 = some m.cls := findClass_of_methodNamed B.named
  have hlocks := B.notSynchronized
  subst hsz
  have hD := hD0.self (sz := s.heap.size)
  generalize hAe : va_A (sg_WX cA ad u) s.heap.size = A at hD ⊢
  have hA : ∀ q : Nat, s.heap.size ≤ q → A q := fun q h => by rw [← hAe]; exact Or.inr h
  have hS : va_S A s.heap s.heap [] := va_S.rf
  have hl := lv_entry ([.ref (ad 1), .int p1]) (n := 2) (Nat.le_of_ble_eq_true rfl)
  rw [lg_entry_eq]
  generalize (lg_sl ([.ref (ad 1), .int p1]) ++ List.replicate (2 - (lg_sl ([.ref (ad 1), .int p1])).length) Slot.unset).toArray = ls at hl ⊢
  replace hl : lv_has ls 2 [(0, .ref (ad 1)), (1, .int p1)] := hl
  have hinX1 : ∀ w ∈ u_ws RX1 TX1 10, w ∈ wsX1_capacityAt := by decide +kernel
  unfold fX1_capacityAt at hf
  refine lv_aload_n hx hb dX1_capacityAt_0 rfl (lv_at hl 0 rfl) ?_
  refine lv_iload_n hx hb dX1_capacityAt_1 rfl (lv_at hl 1 rfl) ?_
  obtain ⟨r2, hc1, hf⟩ := sg_b_s hf
  refine sg_ci (va_runV (As := [.int p1]) (rest := []) ⟨hx, hb, hml, hown, hts⟩ (c_X1_isNode l D cA ad N _ _ _ hc1 _) (cwV 1 hts gX1_capacityAt_X1_isNode rfl rfl rfl (by decide +kernel) ⟨Nat.le_of_ble_eq_true rfl, Nat.le_of_ble_eq_true rfl⟩) (sg_pre hK hP hD (ci := 3) (q0 := 1) rfl rfl) rfl rfl hl.1 rfl (lv_room (Nat.le_of_ble_eq_true rfl)) dX1_capacityAt_2 ⟨Nat.zero_le _, Nat.zero_le _⟩) hD hS hA (fun H locs hP hD hS => ?_)
  refine lv_if_eq (tgt := 17) hx hb dX1_capacityAt_5 (by decide) (fun c5 => ?_) (fun c5 => ?_)
  · have hf := sg_ip c5 hf
    refine lv_iconst (v := 0) hx hb dX1_capacityAt_17 (by decide) ?_
    have hq := Option.some.inj hf
    exact sg_iret hx hb hr hP hD hS dX1_capacityAt_18 hq rfl hlocks
  · have hf := sg_in c5 hf
    refine lv_aload_n hx hb dX1_capacityAt_8 rfl (lv_at hl 0 rfl) ?_
    refine va_get (D := D) (ci := 3) (C := RX1) (T := TX1) (N := 10) hx hb hts hinX1 hown hK.1 hP 1 rfl rfl 0 (by decide) (hts (.fieldLink RX1 9 "Switchgear$Grid" "capacity" "[I") (by decide +kernel)) (fun _ h9 => h9) rfl dX1_capacityAt_9 ?_
    refine lv_iload_n hx hb dX1_capacityAt_12 rfl (lv_at hl 1 rfl) ?_
    obtain ⟨hg4, hf⟩ := sg_g_s hf
    refine va_iald hx hb hK.1 hP 6 0 rfl rfl (sg_inb_s hg4) dX1_capacityAt_13 ?_
    refine lv_goto (tgt := 18) hx hb dX1_capacityAt_14 (by decide) ?_
    have hq := Option.some.inj hf
    exact sg_iret hx hb hr hP hD hS dX1_capacityAt_18 hq rfl hlocks
set_option maxRecDepth 100000 in
set_option maxHeartbeats 4000000 in
theorem c_X1_asksTooMuch (l : Launch) (D : va_G) (cA : Nat → ClassId) (ad : Nat → Nat) (N : Nat) (u : sg_St) (p1 : Int32) (r : Int32) (hf : fX1_asksTooMuch N u p1 = some r) : sg_CI l D cA (sg_WX cA ad) yX1_asksTooMuch wsX1_asksTooMuch ({ frames := 3, cells := 0, slots := 0, locals := 64 }) [.ref (ad 1), .int p1] u r u := by
  intro sz
  refine Met.ofW (cc := cX1_asksTooMuch) (maxL := 2) (ret := (some .boolean)) (by decide) rfl ?_
  intro p e s m args below meth c s₁ B hml hv
  obtain ⟨rfl, hsz, hP, hK, hD0⟩ := hv
  have hx := B.exec
  have hb := B.bytes
  have hr := B.returns
  have hts := atoms_spec (ws := wsX1_asksTooMuch) B.pre
  have hown : s.vm.findClass RX1 = some m.cls := findClass_of_methodNamed B.named
  have hlocks := B.notSynchronized
  subst hsz
  have hD := hD0.self (sz := s.heap.size)
  generalize hAe : va_A (sg_WX cA ad u) s.heap.size = A at hD ⊢
  have hA : ∀ q : Nat, s.heap.size ≤ q → A q := fun q h => by rw [← hAe]; exact Or.inr h
  have hS : va_S A s.heap s.heap [] := va_S.rf
  have hl := lv_entry ([.ref (ad 1), .int p1]) (n := 2) (Nat.le_of_ble_eq_true rfl)
  rw [lg_entry_eq]
  generalize (lg_sl ([.ref (ad 1), .int p1]) ++ List.replicate (2 - (lg_sl ([.ref (ad 1), .int p1])).length) Slot.unset).toArray = ls at hl ⊢
  replace hl : lv_has ls 2 [(0, .ref (ad 1)), (1, .int p1)] := hl
  unfold fX1_asksTooMuch at hf
  refine lv_aload_n hx hb dX1_asksTooMuch_0 rfl (lv_at hl 0 rfl) ?_
  refine lv_iload_n hx hb dX1_asksTooMuch_1 rfl (lv_at hl 1 rfl) ?_
  obtain ⟨r2, hc1, hf⟩ := sg_b_s hf
  refine sg_ci (va_runV (As := [.int p1]) (rest := []) ⟨hx, hb, hml, hown, hts⟩ (c_X1_loadIn l D cA ad N _ _ _ hc1 _) (cwV 1 hts gX1_asksTooMuch_X1_loadIn rfl rfl rfl (by decide +kernel) ⟨Nat.le_of_ble_eq_true rfl, Nat.le_of_ble_eq_true rfl⟩) (sg_pre hK hP hD (ci := 3) (q0 := 1) rfl rfl) rfl rfl hl.1 rfl (lv_room (Nat.le_of_ble_eq_true rfl)) dX1_asksTooMuch_2 ⟨Nat.zero_le _, Nat.zero_le _⟩) hD hS hA (fun H locs hP hD hS => ?_)
  refine lv_aload_n hx hb dX1_asksTooMuch_5 rfl (lv_at hl 0 rfl) ?_
  refine lv_aload_n hx hb dX1_asksTooMuch_6 rfl (lv_at hl 0 rfl) ?_
  refine lv_iload_n hx hb dX1_asksTooMuch_7 rfl (lv_at hl 1 rfl) ?_
  obtain ⟨r5, hc4, hf⟩ := sg_b_s hf
  refine sg_ci (va_runV (As := [.int p1]) (rest := [.ref (ad 1), .int r2]) ⟨hx, hb, hml, hown, hts⟩ (c_X1_sourceIn l D cA ad N _ _ _ hc4 _) (cwV 1 hts gX1_asksTooMuch_X1_sourceIn rfl rfl rfl (by decide +kernel) ⟨Nat.le_of_ble_eq_true rfl, Nat.le_of_ble_eq_true rfl⟩) (sg_pre hK hP hD (ci := 3) (q0 := 1) rfl rfl) rfl rfl hl.1 rfl (lv_room (Nat.le_of_ble_eq_true rfl)) dX1_asksTooMuch_8 ⟨Nat.zero_le _, Nat.zero_le _⟩) hD hS hA (fun H locs hP hD hS => ?_)
  obtain ⟨r8, hc7, hf⟩ := sg_b_s hf
  refine sg_ci (va_runV (As := [.int r5]) (rest := [.int r2]) ⟨hx, hb, hml, hown, hts⟩ (c_X1_capacityAt l D cA ad N _ _ _ hc7 _) (cwV 1 hts gX1_asksTooMuch_X1_capacityAt rfl rfl rfl (by decide +kernel) ⟨Nat.le_of_ble_eq_true rfl, Nat.le_of_ble_eq_true rfl⟩) (sg_pre hK hP hD (ci := 3) (q0 := 1) rfl rfl) rfl rfl hl.1 rfl (lv_room (Nat.le_of_ble_eq_true rfl)) dX1_asksTooMuch_11 ⟨Nat.zero_le _, Nat.zero_le _⟩) hD hS hA (fun H locs hP hD hS => ?_)
  refine lv_icmp_le (tgt := 21) hx hb dX1_asksTooMuch_14 (by decide) (fun c10 => ?_) (fun c10 => ?_)
  · have hf := sg_ip c10 hf
    refine lv_iconst (v := 0) hx hb dX1_asksTooMuch_21 (by decide) ?_
    have hq := Option.some.inj hf
    exact sg_zret hx hb hr rfl hP hD hS dX1_asksTooMuch_22 hq rfl hlocks
  · have hf := sg_in c10 hf
    refine lv_iconst (v := 1) hx hb dX1_asksTooMuch_17 (by decide) ?_
    refine lv_goto (tgt := 22) hx hb dX1_asksTooMuch_18 (by decide) ?_
    have hq := Option.some.inj hf
    exact sg_zret hx hb hr rfl hP hD hS dX1_asksTooMuch_22 hq rfl hlocks
set_option maxRecDepth 100000 in
set_option maxHeartbeats 4000000 in
theorem c_X1_neighbours (l : Launch) (D : va_G) (cA : Nat → ClassId) (ad : Nat → Nat) (N : Nat) (u : sg_St) (p1 p2 : Int32) (r : Int32) (hf : fX1_neighbours N u p1 p2 = some r) : sg_CI l D cA (sg_WX cA ad) yX1_neighbours wsX1_neighbours ({ frames := 1, cells := 0, slots := 0, locals := 22 }) [.ref (ad 1), .int p1, .int p2] u r u := by
  intro sz
  refine Met.ofW (cc := cX1_neighbours) (maxL := 6) (ret := (some .int)) (by decide) rfl ?_
  intro p e s m args below meth c s₁ B hml hv
  obtain ⟨rfl, hsz, hP, hK, hD0⟩ := hv
  have hx := B.exec
  have hb := B.bytes
  have hr := B.returns
  have hts := atoms_spec (ws := wsX1_neighbours) B.pre
  have hown : s.vm.findClass RX1 = some m.cls := findClass_of_methodNamed B.named
  have hlocks := B.notSynchronized
  subst hsz
  have hD := hD0.self (sz := s.heap.size)
  generalize hAe : va_A (sg_WX cA ad u) s.heap.size = A at hD ⊢
  have hA : ∀ q : Nat, s.heap.size ≤ q → A q := fun q h => by rw [← hAe]; exact Or.inr h
  have hS : va_S A s.heap s.heap [] := va_S.rf
  have hl := lv_entry ([.ref (ad 1), .int p1, .int p2]) (n := 6) (Nat.le_of_ble_eq_true rfl)
  rw [lg_entry_eq]
  generalize (lg_sl ([.ref (ad 1), .int p1, .int p2]) ++ List.replicate (6 - (lg_sl ([.ref (ad 1), .int p1, .int p2])).length) Slot.unset).toArray = ls at hl ⊢
  replace hl : lv_has ls 6 [(0, .ref (ad 1)), (1, .int p1), (2, .int p2)] := hl
  have hinX1 : ∀ w ∈ u_ws RX1 TX1 10, w ∈ wsX1_neighbours := by decide +kernel
  have hL5 : ∀ (v1 v2 : Int32) (n : Nat) (x : Int32 × Int32) (r9 : Int32), sg_it (fun x => fX1_neighbours_L5 N u v1 v2 x.1 x.2) n x = some r9 → ∀ (H : Heap) (locs : List Loc) (ls : Array Slot), va_P D vwCl (sg_WX cA ad u) H → va_D A (sg_WX cA ad u) → va_S A s.heap H locs → lv_has ls 6 [(0, .ref (ad 1)), (1, .int v1), (2, .int v2), (3, .int x.1), (4, .int x.2)] → (∀ (H : Heap) (locs : List Loc) (ls : Array Slot), va_P D vwCl (sg_WX cA ad u) H → va_D A (sg_WX cA ad u) → va_S A s.heap H locs → lv_has ls 6 [(0, .ref (ad 1)), (3, .int r9)] → W p l e (headSpec wsX1_neighbours ({ frames := 1, cells := 0, slots := 0, locals := 22 })).room s m ([.ref (ad 1), .int p1, .int p2] : List Value).toArray below meth c H locs 0 0 (MQ below (va_Qi (fun x y => x = r ∧ y = u) (sg_BX D (sg_WX cA ad) A) A) ([.ref (ad 1), .int p1, .int p2] : List Value).toArray s 0 0 A) (F0 m 56 ls [])) → W p l e (headSpec wsX1_neighbours ({ frames := 1, cells := 0, slots := 0, locals := 22 })).room s m ([.ref (ad 1), .int p1, .int p2] : List Value).toArray below meth c H locs 0 0 (MQ below (va_Qi (fun x y => x = r ∧ y = u) (sg_BX D (sg_WX cA ad) A) A) ([.ref (ad 1), .int p1, .int p2] : List Value).toArray s 0 0 A) (F0 m 5 ls []) := by
    intro v1 v2
    refine sg_loop _ ?_
    intro x y r9 hf hI hy H locs ls hP hD hS hl hk
    replace hf : fX1_neighbours_L5 N u v1 v2 x.1 x.2 = some y := hf
    have hJ34 : ∀ (v3 v4 k0 : Int32) (H : Heap) (locs : List Loc) (ls : Array Slot), fX1_neighbours_j34 N u v1 v2 v3 v4 k0 = some y → va_P D vwCl (sg_WX cA ad u) H → va_D A (sg_WX cA ad u) → va_S A s.heap H locs → lv_has ls 6 [(0, .ref (ad 1)), (1, .int v1), (2, .int v2), (3, .int v3), (4, .int v4)] → W p l e (headSpec wsX1_neighbours ({ frames := 1, cells := 0, slots := 0, locals := 22 })).room s m ([.ref (ad 1), .int p1, .int p2] : List Value).toArray below meth c H locs 0 0 (MQ below (va_Qi (fun x y => x = r ∧ y = u) (sg_BX D (sg_WX cA ad) A) A) ([.ref (ad 1), .int p1, .int p2] : List Value).toArray s 0 0 A) (F0 m 34 ls [.int k0]) := by
      intro v3 v4 k0 H locs ls hf hP hD hS hl
      unfold fX1_neighbours_j34 at hf
      refine lv_istore (lv' := [(5, .int k0), (0, .ref (ad 1)), (1, .int v1), (2, .int v2), (3, .int v3), (4, .int v4)]) hx hb dX1_neighbours_34 hl (by decide) rfl (fun ls hl => ?_)
      refine lv_iload hx hb dX1_neighbours_36 (lv_at hl 0 rfl) ?_
      refine lv_iconst (v := (-1)) hx hb dX1_neighbours_38 (by decide) ?_
      refine lv_icmp_eq (tgt := 50) hx hb dX1_neighbours_39 (by decide) (fun c4 => ?_) (fun c4 => ?_)
      · have hf := sg_ip c4 hf
        refine lv_iinc (v := v4 + 1) (lv' := [(4, .int (v4 + 1)), (5, .int k0), (0, .ref (ad 1)), (1, .int v1), (2, .int v2), (3, .int v3)]) hx hb dX1_neighbours_50 hl (k := 5) rfl rfl (by decide) rfl (fun ls hl => ?_)
        refine lv_goto (tgt := 5) hx hb dX1_neighbours_53 (by decide) ?_
        exact hI _ (Option.some.inj hf).symm _ _ _ hP hD hS (lv_sub hl [2, 3, 4, 5, 0] rfl) hk
      · have hf := sg_in c4 hf
        refine lv_iload_n hx hb dX1_neighbours_42 rfl (lv_at hl 4 rfl) ?_
        refine lv_iload hx hb dX1_neighbours_43 (lv_at hl 0 rfl) ?_
        obtain ⟨r2, hc1, hf⟩ := sg_b_s hf
        refine sg_ci0 (va_runSN (As := [.int k0]) (rest := [.int v3]) ⟨hx, hb, hml, hown, hts⟩ (c_X5_bit l D cA N _ _ hc1 _) ⟨va_cnB (host := RX5) 1 hts gX1_neighbours_X5_bit_n37 rfl rfl rfl (hK.2 _ (List.mem_of_getElem? (i := 2) rfl)) (hts (.initialized RX5) (by decide +kernel)) (by decide +kernel) ⟨Nat.le_of_ble_eq_true rfl, Nat.le_of_ble_eq_true rfl⟩, hts (.static yX5_bit) (by decide +kernel), trivial⟩ (sg_pre0 hK) rfl rfl hl.1 rfl (lv_room (Nat.le_of_ble_eq_true rfl)) dX1_neighbours_45 ⟨Nat.zero_le _, Nat.zero_le _⟩) hP hS hA (fun H locs hP hS => ?_)
        refine lv_ior hx hb dX1_neighbours_48 ?_
        refine lv_istore_n (lv' := [(3, .int (v3 ||| r2)), (5, .int k0), (0, .ref (ad 1)), (1, .int v1), (2, .int v2), (4, .int v4)]) hx hb dX1_neighbours_49 rfl hl (by decide) rfl (fun ls hl => ?_)
        refine lv_iinc (v := v4 + 1) (lv' := [(4, .int (v4 + 1)), (3, .int (v3 ||| r2)), (5, .int k0), (0, .ref (ad 1)), (1, .int v1), (2, .int v2)]) hx hb dX1_neighbours_50 hl (k := 5) rfl rfl (by decide) rfl (fun ls hl => ?_)
        refine lv_goto (tgt := 5) hx hb dX1_neighbours_53 (by decide) ?_
        exact hI _ (Option.some.inj hf).symm _ _ _ hP hD hS (lv_sub hl [3, 4, 5, 1, 0] rfl) hk
    unfold fX1_neighbours_L5 at hf
    refine lv_iload hx hb dX1_neighbours_5 (lv_at hl 4 rfl) ?_
    refine lv_aload_n hx hb dX1_neighbours_7 rfl (lv_at hl 0 rfl) ?_
    refine va_get (D := D) (ci := 3) (C := RX1) (T := TX1) (N := 10) hx hb hts hinX1 hown hK.1 hP 1 rfl rfl 7 (by decide) (hts (.fieldLink RX1 41 "Switchgear$Grid" "lineCount" "I") (by decide +kernel)) (fun _ h9 => h9) rfl dX1_neighbours_8 ?_
    refine lv_icmp_ge (tgt := 56) hx hb dX1_neighbours_11 (by decide) (fun c8 => ?_) (fun c8 => ?_)
    · have hf := sg_ip c8 hf
      have hq := hy _ (Option.some.inj hf).symm
      subst hq
      exact hk _ _ _ hP hD hS (lv_sub hl [0, 3] rfl)
    · have hf := sg_in c8 hf
      refine lv_iload_n hx hb dX1_neighbours_14 rfl (lv_at hl 2 rfl) ?_
      refine lv_iload hx hb dX1_neighbours_15 (lv_at hl 4 rfl) ?_
      obtain ⟨r2, hc1, hf⟩ := sg_b_s hf
      refine sg_ci0 (va_runSN (As := [.int v2, .int x.2]) (rest := []) ⟨hx, hb, hml, hown, hts⟩ (c_X5_has l D cA N _ _ _ hc1 _) ⟨va_cnB (host := RX5) 2 hts gX1_neighbours_X5_has_n54 rfl rfl rfl (hK.2 _ (List.mem_of_getElem? (i := 3) rfl)) (hts (.initialized RX5) (by decide +kernel)) (by decide +kernel) ⟨Nat.le_of_ble_eq_true rfl, Nat.le_of_ble_eq_true rfl⟩, hts (.static yX5_has) (by decide +kernel), trivial⟩ (sg_pre0 hK) rfl rfl hl.1 rfl (lv_room (Nat.le_of_ble_eq_true rfl)) dX1_neighbours_17 ⟨Nat.zero_le _, Nat.zero_le _⟩) hP hS hA (fun H locs hP hS => ?_)
      refine lv_if_eq (tgt := 33) hx hb dX1_neighbours_20 (by decide) (fun c7 => ?_) (fun c7 => ?_)
      · have hf := sg_ip c7 hf
        refine lv_iconst (v := (-1)) hx hb dX1_neighbours_33 (by decide) ?_
        exact hJ34 _ _ _ _ _ _ hf hP hD hS (lv_sub hl [0, 1, 2, 3, 4] rfl)
      · have hf := sg_in c7 hf
        refine lv_aload_n hx hb dX1_neighbours_23 rfl (lv_at hl 0 rfl) ?_
        refine lv_iload_n hx hb dX1_neighbours_24 rfl (lv_at hl 1 rfl) ?_
        refine lv_iload hx hb dX1_neighbours_25 (lv_at hl 4 rfl) ?_
        obtain ⟨r5, hc4, hf⟩ := sg_b_s hf
        refine sg_ci (va_runV (As := [.int v1, .int x.2]) (rest := []) ⟨hx, hb, hml, hown, hts⟩ (c_X1_acrossFrom l D cA ad N _ _ _ _ hc4 _) (cwV 2 hts gX1_neighbours_X1_acrossFrom rfl rfl rfl (by decide +kernel) ⟨Nat.le_of_ble_eq_true rfl, Nat.le_of_ble_eq_true rfl⟩) (sg_pre hK hP hD (ci := 3) (q0 := 1) rfl rfl) rfl rfl hl.1 rfl (lv_room (Nat.le_of_ble_eq_true rfl)) dX1_neighbours_27 ⟨Nat.zero_le _, Nat.zero_le _⟩) hD hS hA (fun H locs hP hD hS => ?_)
        refine lv_goto (tgt := 34) hx hb dX1_neighbours_30 (by decide) ?_
        exact hJ34 _ _ _ _ _ _ hf hP hD hS (lv_sub hl [0, 1, 2, 3, 4] rfl)
  unfold fX1_neighbours at hf
  refine lv_iconst (v := 0) hx hb dX1_neighbours_0 (by decide) ?_
  refine lv_istore_n (lv' := [(3, .int 0), (0, .ref (ad 1)), (1, .int p1), (2, .int p2)]) hx hb dX1_neighbours_1 rfl hl (by decide) rfl (fun ls hl => ?_)
  refine lv_iconst (v := 0) hx hb dX1_neighbours_2 (by decide) ?_
  refine lv_istore (lv' := [(4, .int 0), (3, .int 0), (0, .ref (ad 1)), (1, .int p1), (2, .int p2)]) hx hb dX1_neighbours_3 hl (by decide) rfl (fun ls hl => ?_)
  obtain ⟨e1, hc2, hf⟩ := sg_b_s hf
  refine hL5 _ _ _ _ e1 hc2 _ _ _ hP hD hS (lv_sub hl [2, 3, 4, 1, 0] rfl) (fun H locs ls hP hD hS hl => ?_)
  refine lv_iload_n hx hb dX1_neighbours_56 rfl (lv_at hl 1 rfl) ?_
  have hq := Option.some.inj hf
  exact sg_iret hx hb hr hP hD hS dX1_neighbours_57 hq rfl hlocks
set_option maxRecDepth 100000 in
set_option maxHeartbeats 4000000 in
theorem c_X1_islandAround (l : Launch) (D : va_G) (cA : Nat → ClassId) (ad : Nat → Nat) (N : Nat) (u : sg_St) (p1 p2 : Int32) (r : Int32) (hf : fX1_islandAround N u p1 p2 = some r) : sg_CI l D cA (sg_WX cA ad) yX1_islandAround wsX1_islandAround ({ frames := 2, cells := 0, slots := 0, locals := 47 }) [.ref (ad 1), .int p1, .int p2] u r u := by
  intro sz
  refine Met.ofW (cc := cX1_islandAround) (maxL := 8) (ret := (some .int)) (by decide) rfl ?_
  intro p e s m args below meth c s₁ B hml hv
  obtain ⟨rfl, hsz, hP, hK, hD0⟩ := hv
  have hx := B.exec
  have hb := B.bytes
  have hr := B.returns
  have hts := atoms_spec (ws := wsX1_islandAround) B.pre
  have hown : s.vm.findClass RX1 = some m.cls := findClass_of_methodNamed B.named
  have hlocks := B.notSynchronized
  subst hsz
  have hD := hD0.self (sz := s.heap.size)
  generalize hAe : va_A (sg_WX cA ad u) s.heap.size = A at hD ⊢
  have hA : ∀ q : Nat, s.heap.size ≤ q → A q := fun q h => by rw [← hAe]; exact Or.inr h
  have hS : va_S A s.heap s.heap [] := va_S.rf
  have hl := lv_entry ([.ref (ad 1), .int p1, .int p2]) (n := 8) (Nat.le_of_ble_eq_true rfl)
  rw [lg_entry_eq]
  generalize (lg_sl ([.ref (ad 1), .int p1, .int p2]) ++ List.replicate (8 - (lg_sl ([.ref (ad 1), .int p1, .int p2])).length) Slot.unset).toArray = ls at hl ⊢
  replace hl : lv_has ls 8 [(0, .ref (ad 1)), (1, .int p1), (2, .int p2)] := hl
  have hL11 : ∀ (v2 : Int32) (n : Nat) (x : Int32 × Int32 × Int32) (r9 : Int32), sg_it (fun x => fX1_islandAround_L11 N u v2 x.1 x.2.1 x.2.2) n x = some r9 → ∀ (H : Heap) (locs : List Loc) (ls : Array Slot), va_P D vwCl (sg_WX cA ad u) H → va_D A (sg_WX cA ad u) → va_S A s.heap H locs → lv_has ls 8 [(0, .ref (ad 1)), (2, .int v2), (3, .int x.1), (4, .int x.2.1), (5, .int x.2.2)] → (∀ (H : Heap) (locs : List Loc) (ls : Array Slot), va_P D vwCl (sg_WX cA ad u) H → va_D A (sg_WX cA ad u) → va_S A s.heap H locs → lv_has ls 8 [(0, .ref (ad 1)), (3, .int r9)] → W p l e (headSpec wsX1_islandAround ({ frames := 2, cells := 0, slots := 0, locals := 47 })).room s m ([.ref (ad 1), .int p1, .int p2] : List Value).toArray below meth c H locs 0 0 (MQ below (va_Qi (fun x y => x = r ∧ y = u) (sg_BX D (sg_WX cA ad) A) A) ([.ref (ad 1), .int p1, .int p2] : List Value).toArray s 0 0 A) (F0 m 69 ls [])) → W p l e (headSpec wsX1_islandAround ({ frames := 2, cells := 0, slots := 0, locals := 47 })).room s m ([.ref (ad 1), .int p1, .int p2] : List Value).toArray below meth c H locs 0 0 (MQ below (va_Qi (fun x y => x = r ∧ y = u) (sg_BX D (sg_WX cA ad) A) A) ([.ref (ad 1), .int p1, .int p2] : List Value).toArray s 0 0 A) (F0 m 11 ls []) := by
    intro v2
    refine sg_loop _ ?_
    intro x y r9 hf hI hy H locs ls hP hD hS hl hk
    replace hf : fX1_islandAround_L11 N u v2 x.1 x.2.1 x.2.2 = some y := hf
    unfold fX1_islandAround_L11 at hf
    refine lv_iload hx hb dX1_islandAround_11 (lv_at hl 4 rfl) ?_
    refine lv_bipush (v := 10) hx hb dX1_islandAround_13 (by decide) ?_
    refine lv_icmp_ge (tgt := 69) hx hb dX1_islandAround_15 (by decide) (fun c12 => ?_) (fun c12 => ?_)
    · have hf := sg_ip c12 hf
      have hq := hy _ (Option.some.inj hf).symm
      subst hq
      exact hk _ _ _ hP hD hS (lv_sub hl [0, 2] rfl)
    · have hf := sg_in c12 hf
      refine lv_iload hx hb dX1_islandAround_18 (lv_at hl 3 rfl) ?_
      refine lv_if_eq (tgt := 69) hx hb dX1_islandAround_20 (by decide) (fun c11 => ?_) (fun c11 => ?_)
      · have hf := sg_ip c11 hf
        have hq := hy _ (Option.some.inj hf).symm
        subst hq
        exact hk _ _ _ hP hD hS (lv_sub hl [0, 2] rfl)
      · have hf := sg_in c11 hf
        refine lv_iload hx hb dX1_islandAround_23 (lv_at hl 3 rfl) ?_
        obtain ⟨r2, hc1, hf⟩ := sg_b_s hf
        refine sg_ci0 (va_runSN (As := [.int x.2.1]) (rest := []) ⟨hx, hb, hml, hown, hts⟩ (c_X5_lowestIn l D cA N _ _ hc1 _) ⟨va_cnB (host := RX5) 1 hts gX1_islandAround_X5_lowestIn_n58 rfl rfl rfl (hK.2 _ (List.mem_of_getElem? (i := 4) rfl)) (hts (.initialized RX5) (by decide +kernel)) (by decide +kernel) ⟨Nat.le_of_ble_eq_true rfl, Nat.le_of_ble_eq_true rfl⟩, hts (.static yX5_lowestIn) (by decide +kernel), trivial⟩ (sg_pre0 hK) rfl rfl hl.1 rfl (lv_room (Nat.le_of_ble_eq_true rfl)) dX1_islandAround_25 ⟨Nat.zero_le _, Nat.zero_le _⟩) hP hS hA (fun H locs hP hS => ?_)
        refine lv_istore (lv' := [(6, .int r2), (0, .ref (ad 1)), (2, .int v2), (3, .int x.1), (4, .int x.2.1), (5, .int x.2.2)]) hx hb dX1_islandAround_28 hl (by decide) rfl (fun ls hl => ?_)
        refine lv_aload_n hx hb dX1_islandAround_30 rfl (lv_at hl 1 rfl) ?_
        refine lv_iload hx hb dX1_islandAround_31 (lv_at hl 0 rfl) ?_
        refine lv_iload_n hx hb dX1_islandAround_33 rfl (lv_at hl 2 rfl) ?_
        obtain ⟨r5, hc4, hf⟩ := sg_b_s hf
        refine sg_ci (va_runV (As := [.int r2, .int v2]) (rest := []) ⟨hx, hb, hml, hown, hts⟩ (c_X1_neighbours l D cA ad N _ _ _ _ hc4 _) (cwV 2 hts gX1_islandAround_X1_neighbours rfl rfl rfl (by decide +kernel) ⟨Nat.le_of_ble_eq_true rfl, Nat.le_of_ble_eq_true rfl⟩) (sg_pre hK hP hD (ci := 3) (q0 := 1) rfl rfl) rfl rfl hl.1 rfl (lv_room (Nat.le_of_ble_eq_true rfl)) dX1_islandAround_34 ⟨Nat.zero_le _, Nat.zero_le _⟩) hD hS hA (fun H locs hP hD hS => ?_)
        refine lv_iload_n hx hb dX1_islandAround_37 rfl (lv_at hl 3 rfl) ?_
        refine lv_iconst (v := (-1)) hx hb dX1_islandAround_38 (by decide) ?_
        refine lv_ixor hx hb dX1_islandAround_39 ?_
        refine lv_iand hx hb dX1_islandAround_40 ?_
        refine lv_istore (lv' := [(7, .int (r5 &&& (x.1 ^^^ ((-1))))), (6, .int r2), (0, .ref (ad 1)), (2, .int v2), (3, .int x.1), (4, .int x.2.1), (5, .int x.2.2)]) hx hb dX1_islandAround_41 hl (by decide) rfl (fun ls hl => ?_)
        refine lv_iload_n hx hb dX1_islandAround_43 rfl (lv_at hl 4 rfl) ?_
        refine lv_iload hx hb dX1_islandAround_44 (lv_at hl 0 rfl) ?_
        refine lv_ior hx hb dX1_islandAround_46 ?_
        refine lv_istore_n (lv' := [(3, .int (x.1 ||| (r5 &&& (x.1 ^^^ ((-1)))))), (7, .int (r5 &&& (x.1 ^^^ ((-1))))), (6, .int r2), (0, .ref (ad 1)), (2, .int v2), (4, .int x.2.1), (5, .int x.2.2)]) hx hb dX1_islandAround_47 rfl hl (by decide) rfl (fun ls hl => ?_)
        refine lv_iload hx hb dX1_islandAround_48 (lv_at hl 5 rfl) ?_
        refine lv_iload hx hb dX1_islandAround_50 (lv_at hl 2 rfl) ?_
        obtain ⟨r8, hc7, hf⟩ := sg_b_s hf
        refine sg_ci0 (va_runSN (As := [.int r2]) (rest := [.int x.2.1]) ⟨hx, hb, hml, hown, hts⟩ (c_X5_bit l D cA N _ _ hc7 _) ⟨va_cnB (host := RX5) 1 hts gX1_islandAround_X5_bit_n37 rfl rfl rfl (hK.2 _ (List.mem_of_getElem? (i := 2) rfl)) (hts (.initialized RX5) (by decide +kernel)) (by decide +kernel) ⟨Nat.le_of_ble_eq_true rfl, Nat.le_of_ble_eq_true rfl⟩, hts (.static yX5_bit) (by decide +kernel), trivial⟩ (sg_pre0 hK) rfl rfl hl.1 rfl (lv_room (Nat.le_of_ble_eq_true rfl)) dX1_islandAround_52 ⟨Nat.zero_le _, Nat.zero_le _⟩) hP hS hA (fun H locs hP hS => ?_)
        refine lv_iconst (v := (-1)) hx hb dX1_islandAround_55 (by decide) ?_
        refine lv_ixor hx hb dX1_islandAround_56 ?_
        refine lv_iand hx hb dX1_islandAround_57 ?_
        refine lv_iload hx hb dX1_islandAround_58 (lv_at hl 1 rfl) ?_
        refine lv_ior hx hb dX1_islandAround_60 ?_
        refine lv_topi (fun x10 ex10 => ?_)
        have hf := sg_l_s ex10 hf
        refine lv_istore (lv' := [(4, .int x10), (3, .int (x.1 ||| (r5 &&& (x.1 ^^^ ((-1)))))), (7, .int (r5 &&& (x.1 ^^^ ((-1))))), (6, .int r2), (0, .ref (ad 1)), (2, .int v2), (5, .int x.2.2)]) hx hb dX1_islandAround_61 hl (by decide) rfl (fun ls hl => ?_)
        refine lv_iinc (v := x.2.2 + 1) (lv' := [(5, .int (x.2.2 + 1)), (4, .int x10), (3, .int (x.1 ||| (r5 &&& (x.1 ^^^ ((-1)))))), (7, .int (r5 &&& (x.1 ^^^ ((-1))))), (6, .int r2), (0, .ref (ad 1)), (2, .int v2)]) hx hb dX1_islandAround_63 hl (k := 6) rfl rfl (by decide) rfl (fun ls hl => ?_)
        refine lv_goto (tgt := 11) hx hb dX1_islandAround_66 (by decide) ?_
        exact hI _ (Option.some.inj hf).symm _ _ _ hP hD hS (lv_sub hl [5, 6, 2, 1, 0] rfl) hk
  unfold fX1_islandAround at hf
  refine lv_iload_n hx hb dX1_islandAround_0 rfl (lv_at hl 1 rfl) ?_
  obtain ⟨r2, hc1, hf⟩ := sg_b_s hf
  refine sg_ci0 (va_runSN (As := [.int p1]) (rest := []) ⟨hx, hb, hml, hown, hts⟩ (c_X5_bit l D cA N _ _ hc1 _) ⟨va_cnB (host := RX5) 1 hts gX1_islandAround_X5_bit_n37 rfl rfl rfl (hK.2 _ (List.mem_of_getElem? (i := 2) rfl)) (hts (.initialized RX5) (by decide +kernel)) (by decide +kernel) ⟨Nat.le_of_ble_eq_true rfl, Nat.le_of_ble_eq_true rfl⟩, hts (.static yX5_bit) (by decide +kernel), trivial⟩ (sg_pre0 hK) rfl rfl hl.1 rfl (lv_room (Nat.le_of_ble_eq_true rfl)) dX1_islandAround_1 ⟨Nat.zero_le _, Nat.zero_le _⟩) hP hS hA (fun H locs hP hS => ?_)
  refine lv_istore_n (lv' := [(3, .int r2), (0, .ref (ad 1)), (1, .int p1), (2, .int p2)]) hx hb dX1_islandAround_4 rfl hl (by decide) rfl (fun ls hl => ?_)
  refine lv_iload_n hx hb dX1_islandAround_5 rfl (lv_at hl 0 rfl) ?_
  refine lv_istore (lv' := [(4, .int r2), (3, .int r2), (0, .ref (ad 1)), (1, .int p1), (2, .int p2)]) hx hb dX1_islandAround_6 hl (by decide) rfl (fun ls hl => ?_)
  refine lv_iconst (v := 0) hx hb dX1_islandAround_8 (by decide) ?_
  refine lv_istore (lv' := [(5, .int 0), (4, .int r2), (3, .int r2), (0, .ref (ad 1)), (1, .int p1), (2, .int p2)]) hx hb dX1_islandAround_9 hl (by decide) rfl (fun ls hl => ?_)
  obtain ⟨e4, hc5, hf⟩ := sg_b_s hf
  refine hL11 _ _ _ e4 hc5 _ _ _ hP hD hS (lv_sub hl [3, 5, 2, 1, 0] rfl) (fun H locs ls hP hD hS hl => ?_)
  refine lv_iload_n hx hb dX1_islandAround_69 rfl (lv_at hl 1 rfl) ?_
  have hq := Option.some.inj hf
  exact sg_iret hx hb hr hP hD hS dX1_islandAround_70 hq rfl hlocks
set_option maxRecDepth 100000 in
set_option maxHeartbeats 4000000 in
theorem c_X1_islandGrownFrom (l : Launch) (D : va_G) (cA : Nat → ClassId) (ad : Nat → Nat) (N : Nat) (u : sg_St) (p1 p2 : Int32) (r : Int32) (hf : fX1_islandGrownFrom N u p1 p2 = some r) : sg_CI l D cA (sg_WX cA ad) yX1_islandGrownFrom wsX1_islandGrownFrom ({ frames := 1, cells := 0, slots := 0, locals := 21 }) [.ref (ad 1), .int p1, .int p2] u r u := by
  intro sz
  refine Met.ofW (cc := cX1_islandGrownFrom) (maxL := 8) (ret := (some .int)) (by decide) rfl ?_
  intro p e s m args below meth c s₁ B hml hv
  obtain ⟨rfl, hsz, hP, hK, hD0⟩ := hv
  have hx := B.exec
  have hb := B.bytes
  have hr := B.returns
  have hts := atoms_spec (ws := wsX1_islandGrownFrom) B.pre
  have hown : s.vm.findClass RX1 = some m.cls := findClass_of_methodNamed B.named
  have hlocks := B.notSynchronized
  subst hsz
  have hD := hD0.self (sz := s.heap.size)
  generalize hAe : va_A (sg_WX cA ad u) s.heap.size = A at hD ⊢
  have hA : ∀ q : Nat, s.heap.size ≤ q → A q := fun q h => by rw [← hAe]; exact Or.inr h
  have hS : va_S A s.heap s.heap [] := va_S.rf
  have hl := lv_entry ([.ref (ad 1), .int p1, .int p2]) (n := 8) (Nat.le_of_ble_eq_true rfl)
  rw [lg_entry_eq]
  generalize (lg_sl ([.ref (ad 1), .int p1, .int p2]) ++ List.replicate (8 - (lg_sl ([.ref (ad 1), .int p1, .int p2])).length) Slot.unset).toArray = ls at hl ⊢
  replace hl : lv_has ls 8 [(0, .ref (ad 1)), (1, .int p1), (2, .int p2)] := hl
  have hinX1 : ∀ w ∈ u_ws RX1 TX1 10, w ∈ wsX1_islandGrownFrom := by decide +kernel
  have hL29 : ∀ (v2 v5 v6 : Int32) (n : Nat) (x : Int32 × Int32) (r9 : Int32), sg_it (fun x => fX1_islandGrownFrom_L29 N u v2 v5 v6 x.1 x.2) n x = some r9 → ∀ (H : Heap) (locs : List Loc) (ls : Array Slot), va_P D vwCl (sg_WX cA ad u) H → va_D A (sg_WX cA ad u) → va_S A s.heap H locs → lv_has ls 8 [(0, .ref (ad 1)), (2, .int v2), (3, .int x.1), (5, .int v5), (6, .int v6), (7, .int x.2)] → (∀ (H : Heap) (locs : List Loc) (ls : Array Slot), va_P D vwCl (sg_WX cA ad u) H → va_D A (sg_WX cA ad u) → va_S A s.heap H locs → lv_has ls 8 [(0, .ref (ad 1)), (2, .int v2), (3, .int r9), (5, .int v5), (6, .int v6)] → W p l e (headSpec wsX1_islandGrownFrom ({ frames := 1, cells := 0, slots := 0, locals := 21 })).room s m ([.ref (ad 1), .int p1, .int p2] : List Value).toArray below meth c H locs 0 0 (MQ below (va_Qi (fun x y => x = r ∧ y = u) (sg_BX D (sg_WX cA ad) A) A) ([.ref (ad 1), .int p1, .int p2] : List Value).toArray s 0 0 A) (F0 m 105 ls [])) → W p l e (headSpec wsX1_islandGrownFrom ({ frames := 1, cells := 0, slots := 0, locals := 21 })).room s m ([.ref (ad 1), .int p1, .int p2] : List Value).toArray below meth c H locs 0 0 (MQ below (va_Qi (fun x y => x = r ∧ y = u) (sg_BX D (sg_WX cA ad) A) A) ([.ref (ad 1), .int p1, .int p2] : List Value).toArray s 0 0 A) (F0 m 29 ls []) := by
    intro v2 v5 v6
    refine sg_loop _ ?_
    intro x y r9 hf hI hy H locs ls hP hD hS hl hk
    replace hf : fX1_islandGrownFrom_L29 N u v2 v5 v6 x.1 x.2 = some y := hf
    have hJ75 : ∀ (v3 v7 : Int32) (H : Heap) (locs : List Loc) (ls : Array Slot), fX1_islandGrownFrom_j75 N u v2 v3 v5 v6 v7 = some y → va_P D vwCl (sg_WX cA ad u) H → va_D A (sg_WX cA ad u) → va_S A s.heap H locs → lv_has ls 8 [(0, .ref (ad 1)), (2, .int v2), (3, .int v3), (5, .int v5), (6, .int v6), (7, .int v7)] → W p l e (headSpec wsX1_islandGrownFrom ({ frames := 1, cells := 0, slots := 0, locals := 21 })).room s m ([.ref (ad 1), .int p1, .int p2] : List Value).toArray below meth c H locs 0 0 (MQ below (va_Qi (fun x y => x = r ∧ y = u) (sg_BX D (sg_WX cA ad) A) A) ([.ref (ad 1), .int p1, .int p2] : List Value).toArray s 0 0 A) (F0 m 75 ls []) := by
      intro v3 v7 H locs ls hf hP hD hS hl
      unfold fX1_islandGrownFrom_j75 at hf
      refine lv_iload_n hx hb dX1_islandGrownFrom_75 rfl (lv_at hl 2 rfl) ?_
      refine lv_aload_n hx hb dX1_islandGrownFrom_76 rfl (lv_at hl 0 rfl) ?_
      refine va_get (D := D) (ci := 3) (C := RX1) (T := TX1) (N := 10) hx hb hts hinX1 hown hK.1 hP 1 rfl rfl 3 (by decide) (hts (.fieldLink RX1 21 "Switchgear$Grid" "one" "[I") (by decide +kernel)) (fun _ h9 => h9) rfl dX1_islandGrownFrom_77 ?_
      refine lv_iload hx hb dX1_islandGrownFrom_80 (lv_at hl 5 rfl) ?_
      obtain ⟨hg1, hf⟩ := sg_g_s hf
      refine va_iald hx hb hK.1 hP 9 0 rfl rfl (sg_inb_s hg1) dX1_islandGrownFrom_82 ?_
      obtain ⟨r3, hc2, hf⟩ := sg_b_s hf
      refine sg_ci0 (va_runSN (As := [.int (u 14 (v7).toNatClampNeg)]) (rest := [.int v3]) ⟨hx, hb, hml, hown, hts⟩ (c_X5_bit l D cA N _ _ hc2 _) ⟨va_cnB (host := RX5) 1 hts gX1_islandGrownFrom_X5_bit_n37 rfl rfl rfl (hK.2 _ (List.mem_of_getElem? (i := 2) rfl)) (hts (.initialized RX5) (by decide +kernel)) (by decide +kernel) ⟨Nat.le_of_ble_eq_true rfl, Nat.le_of_ble_eq_true rfl⟩, hts (.static yX5_bit) (by decide +kernel), trivial⟩ (sg_pre0 hK) rfl rfl hl.1 rfl (lv_room (Nat.le_of_ble_eq_true rfl)) dX1_islandGrownFrom_83 ⟨Nat.zero_le _, Nat.zero_le _⟩) hP hS hA (fun H locs hP hS => ?_)
      refine lv_aload_n hx hb dX1_islandGrownFrom_86 rfl (lv_at hl 0 rfl) ?_
      refine va_get (D := D) (ci := 3) (C := RX1) (T := TX1) (N := 10) hx hb hts hinX1 hown hK.1 hP 1 rfl rfl 4 (by decide) (hts (.fieldLink RX1 24 "Switchgear$Grid" "other" "[I") (by decide +kernel)) (fun _ h9 => h9) rfl dX1_islandGrownFrom_87 ?_
      refine lv_iload hx hb dX1_islandGrownFrom_90 (lv_at hl 5 rfl) ?_
      obtain ⟨hg5, hf⟩ := sg_g_s hf
      refine va_iald hx hb hK.1 hP 10 0 rfl rfl (sg_inb_s hg5) dX1_islandGrownFrom_92 ?_
      obtain ⟨r7, hc6, hf⟩ := sg_b_s hf
      refine sg_ci0 (va_runSN (As := [.int (u 15 (v7).toNatClampNeg)]) (rest := [.int r3, .int v3]) ⟨hx, hb, hml, hown, hts⟩ (c_X5_bit l D cA N _ _ hc6 _) ⟨va_cnB (host := RX5) 1 hts gX1_islandGrownFrom_X5_bit_n37 rfl rfl rfl (hK.2 _ (List.mem_of_getElem? (i := 2) rfl)) (hts (.initialized RX5) (by decide +kernel)) (by decide +kernel) ⟨Nat.le_of_ble_eq_true rfl, Nat.le_of_ble_eq_true rfl⟩, hts (.static yX5_bit) (by decide +kernel), trivial⟩ (sg_pre0 hK) rfl rfl hl.1 rfl (lv_room (Nat.le_of_ble_eq_true rfl)) dX1_islandGrownFrom_93 ⟨Nat.zero_le _, Nat.zero_le _⟩) hP hS hA (fun H locs hP hS => ?_)
      refine lv_ior hx hb dX1_islandGrownFrom_96 ?_
      refine lv_ior hx hb dX1_islandGrownFrom_97 ?_
      refine lv_istore_n (lv' := [(3, .int (v3 ||| (r3 ||| r7))), (0, .ref (ad 1)), (2, .int v2), (5, .int v5), (6, .int v6), (7, .int v7)]) hx hb dX1_islandGrownFrom_98 rfl hl (by decide) rfl (fun ls hl => ?_)
      refine lv_iinc (v := v7 + 1) (lv' := [(7, .int (v7 + 1)), (3, .int (v3 ||| (r3 ||| r7))), (0, .ref (ad 1)), (2, .int v2), (5, .int v5), (6, .int v6)]) hx hb dX1_islandGrownFrom_99 hl (k := 5) rfl rfl (by decide) rfl (fun ls hl => ?_)
      refine lv_goto (tgt := 29) hx hb dX1_islandGrownFrom_102 (by decide) ?_
      exact hI _ (Option.some.inj hf).symm _ _ _ hP hD hS (lv_sub hl [2, 3, 1, 4, 5, 0] rfl) hk
    unfold fX1_islandGrownFrom_L29 at hf
    refine lv_iload hx hb dX1_islandGrownFrom_29 (lv_at hl 5 rfl) ?_
    refine lv_aload_n hx hb dX1_islandGrownFrom_31 rfl (lv_at hl 0 rfl) ?_
    refine va_get (D := D) (ci := 3) (C := RX1) (T := TX1) (N := 10) hx hb hts hinX1 hown hK.1 hP 1 rfl rfl 7 (by decide) (hts (.fieldLink RX1 41 "Switchgear$Grid" "lineCount" "I") (by decide +kernel)) (fun _ h9 => h9) rfl dX1_islandGrownFrom_32 ?_
    refine lv_icmp_ge (tgt := 105) hx hb dX1_islandGrownFrom_35 (by decide) (fun c15 => ?_) (fun c15 => ?_)
    · have hf := sg_ip c15 hf
      have hq := hy _ (Option.some.inj hf).symm
      subst hq
      exact hk _ _ _ hP hD hS (lv_sub hl [0, 1, 2, 3, 4] rfl)
    · have hf := sg_in c15 hf
      refine lv_iload_n hx hb dX1_islandGrownFrom_38 rfl (lv_at hl 1 rfl) ?_
      refine lv_iload hx hb dX1_islandGrownFrom_39 (lv_at hl 5 rfl) ?_
      obtain ⟨r2, hc1, hf⟩ := sg_b_s hf
      refine sg_ci0 (va_runSN (As := [.int v2, .int x.2]) (rest := []) ⟨hx, hb, hml, hown, hts⟩ (c_X5_has l D cA N _ _ _ hc1 _) ⟨va_cnB (host := RX5) 2 hts gX1_islandGrownFrom_X5_has_n54 rfl rfl rfl (hK.2 _ (List.mem_of_getElem? (i := 3) rfl)) (hts (.initialized RX5) (by decide +kernel)) (by decide +kernel) ⟨Nat.le_of_ble_eq_true rfl, Nat.le_of_ble_eq_true rfl⟩, hts (.static yX5_has) (by decide +kernel), trivial⟩ (sg_pre0 hK) rfl rfl hl.1 rfl (lv_room (Nat.le_of_ble_eq_true rfl)) dX1_islandGrownFrom_41 ⟨Nat.zero_le _, Nat.zero_le _⟩) hP hS hA (fun H locs hP hS => ?_)
      refine lv_if_eq (tgt := 99) hx hb dX1_islandGrownFrom_44 (by decide) (fun c14 => ?_) (fun c14 => ?_)
      · have hf := sg_ip c14 hf
        refine lv_iinc (v := x.2 + 1) (lv' := [(7, .int (x.2 + 1)), (0, .ref (ad 1)), (2, .int v2), (3, .int x.1), (5, .int v5), (6, .int v6)]) hx hb dX1_islandGrownFrom_99 hl (k := 5) rfl rfl (by decide) rfl (fun ls hl => ?_)
        refine lv_goto (tgt := 29) hx hb dX1_islandGrownFrom_102 (by decide) ?_
        exact hI _ (Option.some.inj hf).symm _ _ _ hP hD hS (lv_sub hl [1, 2, 3, 4, 5, 0] rfl) hk
      · have hf := sg_in c14 hf
        refine lv_iload_n hx hb dX1_islandGrownFrom_47 rfl (lv_at hl 2 rfl) ?_
        refine lv_aload_n hx hb dX1_islandGrownFrom_48 rfl (lv_at hl 0 rfl) ?_
        refine va_get (D := D) (ci := 3) (C := RX1) (T := TX1) (N := 10) hx hb hts hinX1 hown hK.1 hP 1 rfl rfl 3 (by decide) (hts (.fieldLink RX1 21 "Switchgear$Grid" "one" "[I") (by decide +kernel)) (fun _ h9 => h9) rfl dX1_islandGrownFrom_49 ?_
        refine lv_iload hx hb dX1_islandGrownFrom_52 (lv_at hl 5 rfl) ?_
        obtain ⟨hg4, hf⟩ := sg_g_s hf
        refine va_iald hx hb hK.1 hP 9 0 rfl rfl (sg_inb_s hg4) dX1_islandGrownFrom_54 ?_
        obtain ⟨r6, hc5, hf⟩ := sg_b_s hf
        refine sg_ci0 (va_runSN (As := [.int x.1, .int (u 14 (x.2).toNatClampNeg)]) (rest := []) ⟨hx, hb, hml, hown, hts⟩ (c_X5_has l D cA N _ _ _ hc5 _) ⟨va_cnB (host := RX5) 2 hts gX1_islandGrownFrom_X5_has_n54 rfl rfl rfl (hK.2 _ (List.mem_of_getElem? (i := 3) rfl)) (hts (.initialized RX5) (by decide +kernel)) (by decide +kernel) ⟨Nat.le_of_ble_eq_true rfl, Nat.le_of_ble_eq_true rfl⟩, hts (.static yX5_has) (by decide +kernel), trivial⟩ (sg_pre0 hK) rfl rfl hl.1 rfl (lv_room (Nat.le_of_ble_eq_true rfl)) dX1_islandGrownFrom_55 ⟨Nat.zero_le _, Nat.zero_le _⟩) hP hS hA (fun H locs hP hS => ?_)
        refine lv_if_ne (tgt := 75) hx hb dX1_islandGrownFrom_58 (by decide) (fun c13 => ?_) (fun c13 => ?_)
        · have hf := sg_in c13 hf
          exact hJ75 _ _ _ _ _ hf hP hD hS (lv_sub hl [0, 1, 2, 3, 4, 5] rfl)
        · have hf := sg_ip c13 hf
          refine lv_iload_n hx hb dX1_islandGrownFrom_61 rfl (lv_at hl 2 rfl) ?_
          refine lv_aload_n hx hb dX1_islandGrownFrom_62 rfl (lv_at hl 0 rfl) ?_
          refine va_get (D := D) (ci := 3) (C := RX1) (T := TX1) (N := 10) hx hb hts hinX1 hown hK.1 hP 1 rfl rfl 4 (by decide) (hts (.fieldLink RX1 24 "Switchgear$Grid" "other" "[I") (by decide +kernel)) (fun _ h9 => h9) rfl dX1_islandGrownFrom_63 ?_
          refine lv_iload hx hb dX1_islandGrownFrom_66 (lv_at hl 5 rfl) ?_
          obtain ⟨hg8, hf⟩ := sg_g_s hf
          refine va_iald hx hb hK.1 hP 10 0 rfl rfl (sg_inb_s hg8) dX1_islandGrownFrom_68 ?_
          obtain ⟨r10, hc9, hf⟩ := sg_b_s hf
          refine sg_ci0 (va_runSN (As := [.int x.1, .int (u 15 (x.2).toNatClampNeg)]) (rest := []) ⟨hx, hb, hml, hown, hts⟩ (c_X5_has l D cA N _ _ _ hc9 _) ⟨va_cnB (host := RX5) 2 hts gX1_islandGrownFrom_X5_has_n54 rfl rfl rfl (hK.2 _ (List.mem_of_getElem? (i := 3) rfl)) (hts (.initialized RX5) (by decide +kernel)) (by decide +kernel) ⟨Nat.le_of_ble_eq_true rfl, Nat.le_of_ble_eq_true rfl⟩, hts (.static yX5_has) (by decide +kernel), trivial⟩ (sg_pre0 hK) rfl rfl hl.1 rfl (lv_room (Nat.le_of_ble_eq_true rfl)) dX1_islandGrownFrom_69 ⟨Nat.zero_le _, Nat.zero_le _⟩) hP hS hA (fun H locs hP hS => ?_)
          refine lv_if_eq (tgt := 99) hx hb dX1_islandGrownFrom_72 (by decide) (fun c12 => ?_) (fun c12 => ?_)
          · have hf := sg_ip c12 hf
            refine lv_iinc (v := x.2 + 1) (lv' := [(7, .int (x.2 + 1)), (0, .ref (ad 1)), (2, .int v2), (3, .int x.1), (5, .int v5), (6, .int v6)]) hx hb dX1_islandGrownFrom_99 hl (k := 5) rfl rfl (by decide) rfl (fun ls hl => ?_)
            refine lv_goto (tgt := 29) hx hb dX1_islandGrownFrom_102 (by decide) ?_
            exact hI _ (Option.some.inj hf).symm _ _ _ hP hD hS (lv_sub hl [1, 2, 3, 4, 5, 0] rfl) hk
          · have hf := sg_in c12 hf
            exact hJ75 _ _ _ _ _ hf hP hD hS (lv_sub hl [0, 1, 2, 3, 4, 5] rfl)
  have hL11 : ∀ (v2 : Int32) (n : Nat) (x : Int32 × Int32 × Int32) (r9 : Int32), sg_it (fun x => fX1_islandGrownFrom_L11 N u v2 x.1 x.2.1 x.2.2) n x = some r9 → ∀ (H : Heap) (locs : List Loc) (ls : Array Slot), va_P D vwCl (sg_WX cA ad u) H → va_D A (sg_WX cA ad u) → va_S A s.heap H locs → lv_has ls 8 [(0, .ref (ad 1)), (2, .int v2), (3, .int x.1), (4, .int x.2.1), (5, .int x.2.2)] → (∀ (H : Heap) (locs : List Loc) (ls : Array Slot), va_P D vwCl (sg_WX cA ad u) H → va_D A (sg_WX cA ad u) → va_S A s.heap H locs → lv_has ls 8 [(0, .ref (ad 1)), (3, .int r9)] → W p l e (headSpec wsX1_islandGrownFrom ({ frames := 1, cells := 0, slots := 0, locals := 21 })).room s m ([.ref (ad 1), .int p1, .int p2] : List Value).toArray below meth c H locs 0 0 (MQ below (va_Qi (fun x y => x = r ∧ y = u) (sg_BX D (sg_WX cA ad) A) A) ([.ref (ad 1), .int p1, .int p2] : List Value).toArray s 0 0 A) (F0 m 124 ls [])) → W p l e (headSpec wsX1_islandGrownFrom ({ frames := 1, cells := 0, slots := 0, locals := 21 })).room s m ([.ref (ad 1), .int p1, .int p2] : List Value).toArray below meth c H locs 0 0 (MQ below (va_Qi (fun x y => x = r ∧ y = u) (sg_BX D (sg_WX cA ad) A) A) ([.ref (ad 1), .int p1, .int p2] : List Value).toArray s 0 0 A) (F0 m 11 ls []) := by
    intro v2
    refine sg_loop _ ?_
    intro x y r9 hf hI hy H locs ls hP hD hS hl hk
    replace hf : fX1_islandGrownFrom_L11 N u v2 x.1 x.2.1 x.2.2 = some y := hf
    have hJ116 : ∀ (v3 v5 k0 : Int32) (H : Heap) (locs : List Loc) (ls : Array Slot), fX1_islandGrownFrom_j116 N u v2 v3 v5 k0 = some y → va_P D vwCl (sg_WX cA ad u) H → va_D A (sg_WX cA ad u) → va_S A s.heap H locs → lv_has ls 8 [(0, .ref (ad 1)), (2, .int v2), (3, .int v3), (5, .int v5)] → W p l e (headSpec wsX1_islandGrownFrom ({ frames := 1, cells := 0, slots := 0, locals := 21 })).room s m ([.ref (ad 1), .int p1, .int p2] : List Value).toArray below meth c H locs 0 0 (MQ below (va_Qi (fun x y => x = r ∧ y = u) (sg_BX D (sg_WX cA ad) A) A) ([.ref (ad 1), .int p1, .int p2] : List Value).toArray s 0 0 A) (F0 m 116 ls [.int k0]) := by
      intro v3 v5 k0 H locs ls hf hP hD hS hl
      unfold fX1_islandGrownFrom_j116 at hf
      refine lv_istore (lv' := [(4, .int k0), (0, .ref (ad 1)), (2, .int v2), (3, .int v3), (5, .int v5)]) hx hb dX1_islandGrownFrom_116 hl (by decide) rfl (fun ls hl => ?_)
      refine lv_iinc (v := v5 + 1) (lv' := [(5, .int (v5 + 1)), (4, .int k0), (0, .ref (ad 1)), (2, .int v2), (3, .int v3)]) hx hb dX1_islandGrownFrom_118 hl (k := 4) rfl rfl (by decide) rfl (fun ls hl => ?_)
      refine lv_goto (tgt := 11) hx hb dX1_islandGrownFrom_121 (by decide) ?_
      exact hI _ (Option.some.inj hf).symm _ _ _ hP hD hS (lv_sub hl [2, 3, 4, 1, 0] rfl) hk
    unfold fX1_islandGrownFrom_L11 at hf
    refine lv_iload hx hb dX1_islandGrownFrom_11 (lv_at hl 4 rfl) ?_
    refine lv_bipush (v := 10) hx hb dX1_islandGrownFrom_13 (by decide) ?_
    refine lv_icmp_ge (tgt := 124) hx hb dX1_islandGrownFrom_15 (by decide) (fun c5 => ?_) (fun c5 => ?_)
    · have hf := sg_ip c5 hf
      have hq := hy _ (Option.some.inj hf).symm
      subst hq
      exact hk _ _ _ hP hD hS (lv_sub hl [0, 2] rfl)
    · have hf := sg_in c5 hf
      refine lv_iload hx hb dX1_islandGrownFrom_18 (lv_at hl 3 rfl) ?_
      refine lv_if_eq (tgt := 124) hx hb dX1_islandGrownFrom_20 (by decide) (fun c4 => ?_) (fun c4 => ?_)
      · have hf := sg_ip c4 hf
        have hq := hy _ (Option.some.inj hf).symm
        subst hq
        exact hk _ _ _ hP hD hS (lv_sub hl [0, 2] rfl)
      · have hf := sg_in c4 hf
        refine lv_iload_n hx hb dX1_islandGrownFrom_23 rfl (lv_at hl 2 rfl) ?_
        refine lv_istore (lv' := [(6, .int x.1), (0, .ref (ad 1)), (2, .int v2), (3, .int x.1), (4, .int x.2.1), (5, .int x.2.2)]) hx hb dX1_islandGrownFrom_24 hl (by decide) rfl (fun ls hl => ?_)
        refine lv_iconst (v := 0) hx hb dX1_islandGrownFrom_26 (by decide) ?_
        refine lv_istore (lv' := [(7, .int 0), (6, .int x.1), (0, .ref (ad 1)), (2, .int v2), (3, .int x.1), (4, .int x.2.1), (5, .int x.2.2)]) hx hb dX1_islandGrownFrom_27 hl (by decide) rfl (fun ls hl => ?_)
        obtain ⟨e1, hc2, hf⟩ := sg_b_s hf
        refine hL29 _ _ _ _ _ e1 hc2 _ _ _ hP hD hS (lv_sub hl [2, 3, 4, 6, 1, 0] rfl) (fun H locs ls hP hD hS hl => ?_)
        refine lv_iload_n hx hb dX1_islandGrownFrom_105 rfl (lv_at hl 2 rfl) ?_
        refine lv_iload hx hb dX1_islandGrownFrom_106 (lv_at hl 4 rfl) ?_
        refine lv_icmp_eq (tgt := 115) hx hb dX1_islandGrownFrom_108 (by decide) (fun c3 => ?_) (fun c3 => ?_)
        · have hf := sg_ip c3 hf
          refine lv_iconst (v := 0) hx hb dX1_islandGrownFrom_115 (by decide) ?_
          exact hJ116 _ _ _ _ _ _ hf hP hD hS (lv_sub hl [0, 1, 2, 3] rfl)
        · have hf := sg_in c3 hf
          refine lv_iconst (v := 1) hx hb dX1_islandGrownFrom_111 (by decide) ?_
          refine lv_goto (tgt := 116) hx hb dX1_islandGrownFrom_112 (by decide) ?_
          exact hJ116 _ _ _ _ _ _ hf hP hD hS (lv_sub hl [0, 1, 2, 3] rfl)
  unfold fX1_islandGrownFrom at hf
  refine lv_iload_n hx hb dX1_islandGrownFrom_0 rfl (lv_at hl 1 rfl) ?_
  obtain ⟨r2, hc1, hf⟩ := sg_b_s hf
  refine sg_ci0 (va_runSN (As := [.int p1]) (rest := []) ⟨hx, hb, hml, hown, hts⟩ (c_X5_bit l D cA N _ _ hc1 _) ⟨va_cnB (host := RX5) 1 hts gX1_islandGrownFrom_X5_bit_n37 rfl rfl rfl (hK.2 _ (List.mem_of_getElem? (i := 2) rfl)) (hts (.initialized RX5) (by decide +kernel)) (by decide +kernel) ⟨Nat.le_of_ble_eq_true rfl, Nat.le_of_ble_eq_true rfl⟩, hts (.static yX5_bit) (by decide +kernel), trivial⟩ (sg_pre0 hK) rfl rfl hl.1 rfl (lv_room (Nat.le_of_ble_eq_true rfl)) dX1_islandGrownFrom_1 ⟨Nat.zero_le _, Nat.zero_le _⟩) hP hS hA (fun H locs hP hS => ?_)
  refine lv_istore_n (lv' := [(3, .int r2), (0, .ref (ad 1)), (1, .int p1), (2, .int p2)]) hx hb dX1_islandGrownFrom_4 rfl hl (by decide) rfl (fun ls hl => ?_)
  refine lv_iconst (v := 1) hx hb dX1_islandGrownFrom_5 (by decide) ?_
  refine lv_istore (lv' := [(4, .int 1), (3, .int r2), (0, .ref (ad 1)), (1, .int p1), (2, .int p2)]) hx hb dX1_islandGrownFrom_6 hl (by decide) rfl (fun ls hl => ?_)
  refine lv_iconst (v := 0) hx hb dX1_islandGrownFrom_8 (by decide) ?_
  refine lv_istore (lv' := [(5, .int 0), (4, .int 1), (3, .int r2), (0, .ref (ad 1)), (1, .int p1), (2, .int p2)]) hx hb dX1_islandGrownFrom_9 hl (by decide) rfl (fun ls hl => ?_)
  obtain ⟨e4, hc5, hf⟩ := sg_b_s hf
  refine hL11 _ _ _ e4 hc5 _ _ _ hP hD hS (lv_sub hl [3, 5, 2, 1, 0] rfl) (fun H locs ls hP hD hS hl => ?_)
  refine lv_iload_n hx hb dX1_islandGrownFrom_124 rfl (lv_at hl 1 rfl) ?_
  have hq := Option.some.inj hf
  exact sg_iret hx hb hr hP hD hS dX1_islandGrownFrom_125 hq rfl hlocks
set_option maxRecDepth 100000 in
set_option maxHeartbeats 4000000 in
theorem c_X1_linesAt (l : Launch) (D : va_G) (cA : Nat → ClassId) (ad : Nat → Nat) (N : Nat) (u : sg_St) (p1 p2 : Int32) (r : Int32) (hf : fX1_linesAt N u p1 p2 = some r) : sg_CI l D cA (sg_WX cA ad) yX1_linesAt wsX1_linesAt ({ frames := 1, cells := 0, slots := 0, locals := 21 }) [.ref (ad 1), .int p1, .int p2] u r u := by
  intro sz
  refine Met.ofW (cc := cX1_linesAt) (maxL := 5) (ret := (some .int)) (by decide) rfl ?_
  intro p e s m args below meth c s₁ B hml hv
  obtain ⟨rfl, hsz, hP, hK, hD0⟩ := hv
  have hx := B.exec
  have hb := B.bytes
  have hr := B.returns
  have hts := atoms_spec (ws := wsX1_linesAt) B.pre
  have hown : s.vm.findClass RX1 = some m.cls := findClass_of_methodNamed B.named
  have hlocks := B.notSynchronized
  subst hsz
  have hD := hD0.self (sz := s.heap.size)
  generalize hAe : va_A (sg_WX cA ad u) s.heap.size = A at hD ⊢
  have hA : ∀ q : Nat, s.heap.size ≤ q → A q := fun q h => by rw [← hAe]; exact Or.inr h
  have hS : va_S A s.heap s.heap [] := va_S.rf
  have hl := lv_entry ([.ref (ad 1), .int p1, .int p2]) (n := 5) (Nat.le_of_ble_eq_true rfl)
  rw [lg_entry_eq]
  generalize (lg_sl ([.ref (ad 1), .int p1, .int p2]) ++ List.replicate (5 - (lg_sl ([.ref (ad 1), .int p1, .int p2])).length) Slot.unset).toArray = ls at hl ⊢
  replace hl : lv_has ls 5 [(0, .ref (ad 1)), (1, .int p1), (2, .int p2)] := hl
  have hinX1 : ∀ w ∈ u_ws RX1 TX1 10, w ∈ wsX1_linesAt := by decide +kernel
  have hL5 : ∀ (v1 v2 : Int32) (n : Nat) (x : Int32 × Int32) (r9 : Int32), sg_it (fun x => fX1_linesAt_L5 N u v1 v2 x.1 x.2) n x = some r9 → ∀ (H : Heap) (locs : List Loc) (ls : Array Slot), va_P D vwCl (sg_WX cA ad u) H → va_D A (sg_WX cA ad u) → va_S A s.heap H locs → lv_has ls 5 [(0, .ref (ad 1)), (1, .int v1), (2, .int v2), (3, .int x.1), (4, .int x.2)] → (∀ (H : Heap) (locs : List Loc) (ls : Array Slot), va_P D vwCl (sg_WX cA ad u) H → va_D A (sg_WX cA ad u) → va_S A s.heap H locs → lv_has ls 5 [(0, .ref (ad 1)), (3, .int r9)] → W p l e (headSpec wsX1_linesAt ({ frames := 1, cells := 0, slots := 0, locals := 21 })).room s m ([.ref (ad 1), .int p1, .int p2] : List Value).toArray below meth c H locs 0 0 (MQ below (va_Qi (fun x y => x = r ∧ y = u) (sg_BX D (sg_WX cA ad) A) A) ([.ref (ad 1), .int p1, .int p2] : List Value).toArray s 0 0 A) (F0 m 65 ls [])) → W p l e (headSpec wsX1_linesAt ({ frames := 1, cells := 0, slots := 0, locals := 21 })).room s m ([.ref (ad 1), .int p1, .int p2] : List Value).toArray below meth c H locs 0 0 (MQ below (va_Qi (fun x y => x = r ∧ y = u) (sg_BX D (sg_WX cA ad) A) A) ([.ref (ad 1), .int p1, .int p2] : List Value).toArray s 0 0 A) (F0 m 5 ls []) := by
    intro v1 v2
    refine sg_loop _ ?_
    intro x y r9 hf hI hy H locs ls hP hD hS hl hk
    replace hf : fX1_linesAt_L5 N u v1 v2 x.1 x.2 = some y := hf
    have hJ51 : ∀ (v3 v4 : Int32) (H : Heap) (locs : List Loc) (ls : Array Slot), fX1_linesAt_j51 N u v1 v2 v3 v4 = some y → va_P D vwCl (sg_WX cA ad u) H → va_D A (sg_WX cA ad u) → va_S A s.heap H locs → lv_has ls 5 [(0, .ref (ad 1)), (1, .int v1), (2, .int v2), (3, .int v3), (4, .int v4)] → W p l e (headSpec wsX1_linesAt ({ frames := 1, cells := 0, slots := 0, locals := 21 })).room s m ([.ref (ad 1), .int p1, .int p2] : List Value).toArray below meth c H locs 0 0 (MQ below (va_Qi (fun x y => x = r ∧ y = u) (sg_BX D (sg_WX cA ad) A) A) ([.ref (ad 1), .int p1, .int p2] : List Value).toArray s 0 0 A) (F0 m 51 ls []) := by
      intro v3 v4 H locs ls hf hP hD hS hl
      unfold fX1_linesAt_j51 at hf
      refine lv_iload_n hx hb dX1_linesAt_51 rfl (lv_at hl 3 rfl) ?_
      refine lv_iload hx hb dX1_linesAt_52 (lv_at hl 4 rfl) ?_
      obtain ⟨r2, hc1, hf⟩ := sg_b_s hf
      refine sg_ci0 (va_runSN (As := [.int v4]) (rest := [.int v3]) ⟨hx, hb, hml, hown, hts⟩ (c_X5_bit l D cA N _ _ hc1 _) ⟨va_cnB (host := RX5) 1 hts gX1_linesAt_X5_bit_n37 rfl rfl rfl (hK.2 _ (List.mem_of_getElem? (i := 2) rfl)) (hts (.initialized RX5) (by decide +kernel)) (by decide +kernel) ⟨Nat.le_of_ble_eq_true rfl, Nat.le_of_ble_eq_true rfl⟩, hts (.static yX5_bit) (by decide +kernel), trivial⟩ (sg_pre0 hK) rfl rfl hl.1 rfl (lv_room (Nat.le_of_ble_eq_true rfl)) dX1_linesAt_54 ⟨Nat.zero_le _, Nat.zero_le _⟩) hP hS hA (fun H locs hP hS => ?_)
      refine lv_ior hx hb dX1_linesAt_57 ?_
      refine lv_istore_n (lv' := [(3, .int (v3 ||| r2)), (0, .ref (ad 1)), (1, .int v1), (2, .int v2), (4, .int v4)]) hx hb dX1_linesAt_58 rfl hl (by decide) rfl (fun ls hl => ?_)
      refine lv_iinc (v := v4 + 1) (lv' := [(4, .int (v4 + 1)), (3, .int (v3 ||| r2)), (0, .ref (ad 1)), (1, .int v1), (2, .int v2)]) hx hb dX1_linesAt_59 hl (k := 4) rfl rfl (by decide) rfl (fun ls hl => ?_)
      refine lv_goto (tgt := 5) hx hb dX1_linesAt_62 (by decide) ?_
      exact hI _ (Option.some.inj hf).symm _ _ _ hP hD hS (lv_sub hl [2, 3, 4, 1, 0] rfl) hk
    unfold fX1_linesAt_L5 at hf
    refine lv_iload hx hb dX1_linesAt_5 (lv_at hl 4 rfl) ?_
    refine lv_aload_n hx hb dX1_linesAt_7 rfl (lv_at hl 0 rfl) ?_
    refine va_get (D := D) (ci := 3) (C := RX1) (T := TX1) (N := 10) hx hb hts hinX1 hown hK.1 hP 1 rfl rfl 7 (by decide) (hts (.fieldLink RX1 41 "Switchgear$Grid" "lineCount" "I") (by decide +kernel)) (fun _ h9 => h9) rfl dX1_linesAt_8 ?_
    refine lv_icmp_ge (tgt := 65) hx hb dX1_linesAt_11 (by decide) (fun c15 => ?_) (fun c15 => ?_)
    · have hf := sg_ip c15 hf
      have hq := hy _ (Option.some.inj hf).symm
      subst hq
      exact hk _ _ _ hP hD hS (lv_sub hl [0, 3] rfl)
    · have hf := sg_in c15 hf
      refine lv_iload_n hx hb dX1_linesAt_14 rfl (lv_at hl 2 rfl) ?_
      refine lv_iload hx hb dX1_linesAt_15 (lv_at hl 4 rfl) ?_
      obtain ⟨r2, hc1, hf⟩ := sg_b_s hf
      refine sg_ci0 (va_runSN (As := [.int v2, .int x.2]) (rest := []) ⟨hx, hb, hml, hown, hts⟩ (c_X5_has l D cA N _ _ _ hc1 _) ⟨va_cnB (host := RX5) 2 hts gX1_linesAt_X5_has_n54 rfl rfl rfl (hK.2 _ (List.mem_of_getElem? (i := 3) rfl)) (hts (.initialized RX5) (by decide +kernel)) (by decide +kernel) ⟨Nat.le_of_ble_eq_true rfl, Nat.le_of_ble_eq_true rfl⟩, hts (.static yX5_has) (by decide +kernel), trivial⟩ (sg_pre0 hK) rfl rfl hl.1 rfl (lv_room (Nat.le_of_ble_eq_true rfl)) dX1_linesAt_17 ⟨Nat.zero_le _, Nat.zero_le _⟩) hP hS hA (fun H locs hP hS => ?_)
      refine lv_if_eq (tgt := 59) hx hb dX1_linesAt_20 (by decide) (fun c14 => ?_) (fun c14 => ?_)
      · have hf := sg_ip c14 hf
        refine lv_iinc (v := x.2 + 1) (lv' := [(4, .int (x.2 + 1)), (0, .ref (ad 1)), (1, .int v1), (2, .int v2), (3, .int x.1)]) hx hb dX1_linesAt_59 hl (k := 4) rfl rfl (by decide) rfl (fun ls hl => ?_)
        refine lv_goto (tgt := 5) hx hb dX1_linesAt_62 (by decide) ?_
        exact hI _ (Option.some.inj hf).symm _ _ _ hP hD hS (lv_sub hl [1, 2, 3, 4, 0] rfl) hk
      · have hf := sg_in c14 hf
        refine lv_iload_n hx hb dX1_linesAt_23 rfl (lv_at hl 1 rfl) ?_
        refine lv_aload_n hx hb dX1_linesAt_24 rfl (lv_at hl 0 rfl) ?_
        refine va_get (D := D) (ci := 3) (C := RX1) (T := TX1) (N := 10) hx hb hts hinX1 hown hK.1 hP 1 rfl rfl 3 (by decide) (hts (.fieldLink RX1 21 "Switchgear$Grid" "one" "[I") (by decide +kernel)) (fun _ h9 => h9) rfl dX1_linesAt_25 ?_
        refine lv_iload hx hb dX1_linesAt_28 (lv_at hl 4 rfl) ?_
        obtain ⟨hg4, hf⟩ := sg_g_s hf
        refine va_iald hx hb hK.1 hP 9 0 rfl rfl (sg_inb_s hg4) dX1_linesAt_30 ?_
        obtain ⟨r6, hc5, hf⟩ := sg_b_s hf
        refine sg_ci0 (va_runSN (As := [.int v1, .int (u 14 (x.2).toNatClampNeg)]) (rest := []) ⟨hx, hb, hml, hown, hts⟩ (c_X5_has l D cA N _ _ _ hc5 _) ⟨va_cnB (host := RX5) 2 hts gX1_linesAt_X5_has_n54 rfl rfl rfl (hK.2 _ (List.mem_of_getElem? (i := 3) rfl)) (hts (.initialized RX5) (by decide +kernel)) (by decide +kernel) ⟨Nat.le_of_ble_eq_true rfl, Nat.le_of_ble_eq_true rfl⟩, hts (.static yX5_has) (by decide +kernel), trivial⟩ (sg_pre0 hK) rfl rfl hl.1 rfl (lv_room (Nat.le_of_ble_eq_true rfl)) dX1_linesAt_31 ⟨Nat.zero_le _, Nat.zero_le _⟩) hP hS hA (fun H locs hP hS => ?_)
        refine lv_if_ne (tgt := 51) hx hb dX1_linesAt_34 (by decide) (fun c13 => ?_) (fun c13 => ?_)
        · have hf := sg_in c13 hf
          exact hJ51 _ _ _ _ _ hf hP hD hS (lv_sub hl [0, 1, 2, 3, 4] rfl)
        · have hf := sg_ip c13 hf
          refine lv_iload_n hx hb dX1_linesAt_37 rfl (lv_at hl 1 rfl) ?_
          refine lv_aload_n hx hb dX1_linesAt_38 rfl (lv_at hl 0 rfl) ?_
          refine va_get (D := D) (ci := 3) (C := RX1) (T := TX1) (N := 10) hx hb hts hinX1 hown hK.1 hP 1 rfl rfl 4 (by decide) (hts (.fieldLink RX1 24 "Switchgear$Grid" "other" "[I") (by decide +kernel)) (fun _ h9 => h9) rfl dX1_linesAt_39 ?_
          refine lv_iload hx hb dX1_linesAt_42 (lv_at hl 4 rfl) ?_
          obtain ⟨hg8, hf⟩ := sg_g_s hf
          refine va_iald hx hb hK.1 hP 10 0 rfl rfl (sg_inb_s hg8) dX1_linesAt_44 ?_
          obtain ⟨r10, hc9, hf⟩ := sg_b_s hf
          refine sg_ci0 (va_runSN (As := [.int v1, .int (u 15 (x.2).toNatClampNeg)]) (rest := []) ⟨hx, hb, hml, hown, hts⟩ (c_X5_has l D cA N _ _ _ hc9 _) ⟨va_cnB (host := RX5) 2 hts gX1_linesAt_X5_has_n54 rfl rfl rfl (hK.2 _ (List.mem_of_getElem? (i := 3) rfl)) (hts (.initialized RX5) (by decide +kernel)) (by decide +kernel) ⟨Nat.le_of_ble_eq_true rfl, Nat.le_of_ble_eq_true rfl⟩, hts (.static yX5_has) (by decide +kernel), trivial⟩ (sg_pre0 hK) rfl rfl hl.1 rfl (lv_room (Nat.le_of_ble_eq_true rfl)) dX1_linesAt_45 ⟨Nat.zero_le _, Nat.zero_le _⟩) hP hS hA (fun H locs hP hS => ?_)
          refine lv_if_eq (tgt := 59) hx hb dX1_linesAt_48 (by decide) (fun c12 => ?_) (fun c12 => ?_)
          · have hf := sg_ip c12 hf
            refine lv_iinc (v := x.2 + 1) (lv' := [(4, .int (x.2 + 1)), (0, .ref (ad 1)), (1, .int v1), (2, .int v2), (3, .int x.1)]) hx hb dX1_linesAt_59 hl (k := 4) rfl rfl (by decide) rfl (fun ls hl => ?_)
            refine lv_goto (tgt := 5) hx hb dX1_linesAt_62 (by decide) ?_
            exact hI _ (Option.some.inj hf).symm _ _ _ hP hD hS (lv_sub hl [1, 2, 3, 4, 0] rfl) hk
          · have hf := sg_in c12 hf
            exact hJ51 _ _ _ _ _ hf hP hD hS (lv_sub hl [0, 1, 2, 3, 4] rfl)
  unfold fX1_linesAt at hf
  refine lv_iconst (v := 0) hx hb dX1_linesAt_0 (by decide) ?_
  refine lv_istore_n (lv' := [(3, .int 0), (0, .ref (ad 1)), (1, .int p1), (2, .int p2)]) hx hb dX1_linesAt_1 rfl hl (by decide) rfl (fun ls hl => ?_)
  refine lv_iconst (v := 0) hx hb dX1_linesAt_2 (by decide) ?_
  refine lv_istore (lv' := [(4, .int 0), (3, .int 0), (0, .ref (ad 1)), (1, .int p1), (2, .int p2)]) hx hb dX1_linesAt_3 hl (by decide) rfl (fun ls hl => ?_)
  obtain ⟨e1, hc2, hf⟩ := sg_b_s hf
  refine hL5 _ _ _ _ e1 hc2 _ _ _ hP hD hS (lv_sub hl [2, 3, 4, 1, 0] rfl) (fun H locs ls hP hD hS hl => ?_)
  refine lv_iload_n hx hb dX1_linesAt_65 rfl (lv_at hl 1 rfl) ?_
  have hq := Option.some.inj hf
  exact sg_iret hx hb hr hP hD hS dX1_linesAt_66 hq rfl hlocks
set_option maxRecDepth 100000 in
set_option maxHeartbeats 4000000 in
theorem c_X1_liveWith (l : Launch) (D : va_G) (cA : Nat → ClassId) (ad : Nat → Nat) (N : Nat) (u : sg_St) (p1 : Int32) (r : Int32) (hf : fX1_liveWith N u p1 = some r) : sg_CI l D cA (sg_WX cA ad) yX1_liveWith wsX1_liveWith ({ frames := 3, cells := 0, slots := 0, locals := 74 }) [.ref (ad 1), .int p1] u r u := by
  intro sz
  refine Met.ofW (cc := cX1_liveWith) (maxL := 4) (ret := (some .int)) (by decide) rfl ?_
  intro p e s m args below meth c s₁ B hml hv
  obtain ⟨rfl, hsz, hP, hK, hD0⟩ := hv
  have hx := B.exec
  have hb := B.bytes
  have hr := B.returns
  have hts := atoms_spec (ws := wsX1_liveWith) B.pre
  have hown : s.vm.findClass RX1 = some m.cls := findClass_of_methodNamed B.named
  have hlocks := B.notSynchronized
  subst hsz
  have hD := hD0.self (sz := s.heap.size)
  generalize hAe : va_A (sg_WX cA ad u) s.heap.size = A at hD ⊢
  have hA : ∀ q : Nat, s.heap.size ≤ q → A q := fun q h => by rw [← hAe]; exact Or.inr h
  have hS : va_S A s.heap s.heap [] := va_S.rf
  have hl := lv_entry ([.ref (ad 1), .int p1]) (n := 4) (Nat.le_of_ble_eq_true rfl)
  rw [lg_entry_eq]
  generalize (lg_sl ([.ref (ad 1), .int p1]) ++ List.replicate (4 - (lg_sl ([.ref (ad 1), .int p1])).length) Slot.unset).toArray = ls at hl ⊢
  replace hl : lv_has ls 4 [(0, .ref (ad 1)), (1, .int p1)] := hl
  have hinX1 : ∀ w ∈ u_ws RX1 TX1 10, w ∈ wsX1_liveWith := by decide +kernel
  have hL4 : ∀ (v1 : Int32) (n : Nat) (x : Int32 × Int32) (r9 : Int32), sg_it (fun x => fX1_liveWith_L4 N u v1 x.1 x.2) n x = some r9 → ∀ (H : Heap) (locs : List Loc) (ls : Array Slot), va_P D vwCl (sg_WX cA ad u) H → va_D A (sg_WX cA ad u) → va_S A s.heap H locs → lv_has ls 4 [(0, .ref (ad 1)), (1, .int v1), (2, .int x.1), (3, .int x.2)] → (∀ (H : Heap) (locs : List Loc) (ls : Array Slot), va_P D vwCl (sg_WX cA ad u) H → va_D A (sg_WX cA ad u) → va_S A s.heap H locs → lv_has ls 4 [(0, .ref (ad 1)), (2, .int r9)] → W p l e (headSpec wsX1_liveWith ({ frames := 3, cells := 0, slots := 0, locals := 74 })).room s m ([.ref (ad 1), .int p1] : List Value).toArray below meth c H locs 0 0 (MQ below (va_Qi (fun x y => x = r ∧ y = u) (sg_BX D (sg_WX cA ad) A) A) ([.ref (ad 1), .int p1] : List Value).toArray s 0 0 A) (F0 m 38 ls [])) → W p l e (headSpec wsX1_liveWith ({ frames := 3, cells := 0, slots := 0, locals := 74 })).room s m ([.ref (ad 1), .int p1] : List Value).toArray below meth c H locs 0 0 (MQ below (va_Qi (fun x y => x = r ∧ y = u) (sg_BX D (sg_WX cA ad) A) A) ([.ref (ad 1), .int p1] : List Value).toArray s 0 0 A) (F0 m 4 ls []) := by
    intro v1
    refine sg_loop _ ?_
    intro x y r9 hf hI hy H locs ls hP hD hS hl hk
    replace hf : fX1_liveWith_L4 N u v1 x.1 x.2 = some y := hf
    unfold fX1_liveWith_L4 at hf
    refine lv_iload_n hx hb dX1_liveWith_4 rfl (lv_at hl 3 rfl) ?_
    refine lv_aload_n hx hb dX1_liveWith_5 rfl (lv_at hl 0 rfl) ?_
    refine va_get (D := D) (ci := 3) (C := RX1) (T := TX1) (N := 10) hx hb hts hinX1 hown hK.1 hP 1 rfl rfl 6 (by decide) (hts (.fieldLink RX1 30 "Switchgear$Grid" "nodeCount" "I") (by decide +kernel)) (fun _ h9 => h9) rfl dX1_liveWith_6 ?_
    refine lv_icmp_ge (tgt := 38) hx hb dX1_liveWith_9 (by decide) (fun c8 => ?_) (fun c8 => ?_)
    · have hf := sg_ip c8 hf
      have hq := hy _ (Option.some.inj hf).symm
      subst hq
      exact hk _ _ _ hP hD hS (lv_sub hl [0, 2] rfl)
    · have hf := sg_in c8 hf
      refine lv_aload_n hx hb dX1_liveWith_12 rfl (lv_at hl 0 rfl) ?_
      refine va_get (D := D) (ci := 3) (C := RX1) (T := TX1) (N := 10) hx hb hts hinX1 hown hK.1 hP 1 rfl rfl 8 (by decide) (hts (.fieldLink RX1 34 "Switchgear$Grid" "sources" "I") (by decide +kernel)) (fun _ h9 => h9) rfl dX1_liveWith_13 ?_
      refine lv_iload_n hx hb dX1_liveWith_16 rfl (lv_at hl 3 rfl) ?_
      obtain ⟨r2, hc1, hf⟩ := sg_b_s hf
      refine sg_ci0 (va_runSN (As := [.int (u 2 0), .int x.2]) (rest := []) ⟨hx, hb, hml, hown, hts⟩ (c_X5_has l D cA N _ _ _ hc1 _) ⟨va_cnB (host := RX5) 2 hts gX1_liveWith_X5_has_n54 rfl rfl rfl (hK.2 _ (List.mem_of_getElem? (i := 3) rfl)) (hts (.initialized RX5) (by decide +kernel)) (by decide +kernel) ⟨Nat.le_of_ble_eq_true rfl, Nat.le_of_ble_eq_true rfl⟩, hts (.static yX5_has) (by decide +kernel), trivial⟩ (sg_pre0 hK) rfl rfl hl.1 rfl (lv_room (Nat.le_of_ble_eq_true rfl)) dX1_liveWith_17 ⟨Nat.zero_le _, Nat.zero_le _⟩) hP hS hA (fun H locs hP hS => ?_)
      refine lv_if_eq (tgt := 32) hx hb dX1_liveWith_20 (by decide) (fun c7 => ?_) (fun c7 => ?_)
      · have hf := sg_ip c7 hf
        refine lv_iinc (v := x.2 + 1) (lv' := [(3, .int (x.2 + 1)), (0, .ref (ad 1)), (1, .int v1), (2, .int x.1)]) hx hb dX1_liveWith_32 hl (k := 3) rfl rfl (by decide) rfl (fun ls hl => ?_)
        refine lv_goto (tgt := 4) hx hb dX1_liveWith_35 (by decide) ?_
        exact hI _ (Option.some.inj hf).symm _ _ _ hP hD hS (lv_sub hl [1, 2, 3, 0] rfl) hk
      · have hf := sg_in c7 hf
        refine lv_iload_n hx hb dX1_liveWith_23 rfl (lv_at hl 2 rfl) ?_
        refine lv_aload_n hx hb dX1_liveWith_24 rfl (lv_at hl 0 rfl) ?_
        refine lv_iload_n hx hb dX1_liveWith_25 rfl (lv_at hl 3 rfl) ?_
        refine lv_iload_n hx hb dX1_liveWith_26 rfl (lv_at hl 1 rfl) ?_
        obtain ⟨r5, hc4, hf⟩ := sg_b_s hf
        refine sg_ci (va_runV (As := [.int x.2, .int v1]) (rest := [.int x.1]) ⟨hx, hb, hml, hown, hts⟩ (c_X1_islandAround l D cA ad N _ _ _ _ hc4 _) (cwV 2 hts gX1_liveWith_X1_islandAround rfl rfl rfl (by decide +kernel) ⟨Nat.le_of_ble_eq_true rfl, Nat.le_of_ble_eq_true rfl⟩) (sg_pre hK hP hD (ci := 3) (q0 := 1) rfl rfl) rfl rfl hl.1 rfl (lv_room (Nat.le_of_ble_eq_true rfl)) dX1_liveWith_27 ⟨Nat.zero_le _, Nat.zero_le _⟩) hD hS hA (fun H locs hP hD hS => ?_)
        refine lv_ior hx hb dX1_liveWith_30 ?_
        refine lv_istore_n (lv' := [(2, .int (x.1 ||| r5)), (0, .ref (ad 1)), (1, .int v1), (3, .int x.2)]) hx hb dX1_liveWith_31 rfl hl (by decide) rfl (fun ls hl => ?_)
        refine lv_iinc (v := x.2 + 1) (lv' := [(3, .int (x.2 + 1)), (2, .int (x.1 ||| r5)), (0, .ref (ad 1)), (1, .int v1)]) hx hb dX1_liveWith_32 hl (k := 3) rfl rfl (by decide) rfl (fun ls hl => ?_)
        refine lv_goto (tgt := 4) hx hb dX1_liveWith_35 (by decide) ?_
        exact hI _ (Option.some.inj hf).symm _ _ _ hP hD hS (lv_sub hl [2, 3, 1, 0] rfl) hk
  unfold fX1_liveWith at hf
  refine lv_iconst (v := 0) hx hb dX1_liveWith_0 (by decide) ?_
  refine lv_istore_n (lv' := [(2, .int 0), (0, .ref (ad 1)), (1, .int p1)]) hx hb dX1_liveWith_1 rfl hl (by decide) rfl (fun ls hl => ?_)
  refine lv_iconst (v := 0) hx hb dX1_liveWith_2 (by decide) ?_
  refine lv_istore_n (lv' := [(3, .int 0), (2, .int 0), (0, .ref (ad 1)), (1, .int p1)]) hx hb dX1_liveWith_3 rfl hl (by decide) rfl (fun ls hl => ?_)
  obtain ⟨e1, hc2, hf⟩ := sg_b_s hf
  refine hL4 _ _ _ e1 hc2 _ _ _ hP hD hS (lv_sub hl [2, 3, 1, 0] rfl) (fun H locs ls hP hD hS hl => ?_)
  refine lv_iload_n hx hb dX1_liveWith_38 rfl (lv_at hl 1 rfl) ?_
  have hq := Option.some.inj hf
  exact sg_iret hx hb hr hP hD hS dX1_liveWith_39 hq rfl hlocks
set_option maxRecDepth 100000 in
set_option maxHeartbeats 4000000 in
theorem c_X1_oneEnd (l : Launch) (D : va_G) (cA : Nat → ClassId) (ad : Nat → Nat) (N : Nat) (u : sg_St) (p1 : Int32) (r : Int32) (hf : fX1_oneEnd N u p1 = some r) : sg_CI l D cA (sg_WX cA ad) yX1_oneEnd wsX1_oneEnd ({ frames := 1, cells := 0, slots := 0, locals := 21 }) [.ref (ad 1), .int p1] u r u := by
  intro sz
  refine Met.ofW (cc := cX1_oneEnd) (maxL := 2) (ret := (some .int)) (by decide) rfl ?_
  intro p e s m args below meth c s₁ B hml hv
  obtain ⟨rfl, hsz, hP, hK, hD0⟩ := hv
  have hx := B.exec
  have hb := B.bytes
  have hr := B.returns
  have hts := atoms_spec (ws := wsX1_oneEnd) B.pre
  have hown : s.vm.findClass RX1 = some m.cls := findClass_of_methodNamed B.named
  have hlocks := B.notSynchronized
  subst hsz
  have hD := hD0.self (sz := s.heap.size)
  generalize hAe : va_A (sg_WX cA ad u) s.heap.size = A at hD ⊢
  have hA : ∀ q : Nat, s.heap.size ≤ q → A q := fun q h => by rw [← hAe]; exact Or.inr h
  have hS : va_S A s.heap s.heap [] := va_S.rf
  have hl := lv_entry ([.ref (ad 1), .int p1]) (n := 2) (Nat.le_of_ble_eq_true rfl)
  rw [lg_entry_eq]
  generalize (lg_sl ([.ref (ad 1), .int p1]) ++ List.replicate (2 - (lg_sl ([.ref (ad 1), .int p1])).length) Slot.unset).toArray = ls at hl ⊢
  replace hl : lv_has ls 2 [(0, .ref (ad 1)), (1, .int p1)] := hl
  have hinX1 : ∀ w ∈ u_ws RX1 TX1 10, w ∈ wsX1_oneEnd := by decide +kernel
  unfold fX1_oneEnd at hf
  refine lv_aload_n hx hb dX1_oneEnd_0 rfl (lv_at hl 0 rfl) ?_
  refine lv_iload_n hx hb dX1_oneEnd_1 rfl (lv_at hl 1 rfl) ?_
  obtain ⟨r2, hc1, hf⟩ := sg_b_s hf
  refine sg_ci (va_runV (As := [.int p1]) (rest := []) ⟨hx, hb, hml, hown, hts⟩ (c_X1_isLine l D cA ad N _ _ _ hc1 _) (cwV 1 hts gX1_oneEnd_X1_isLine rfl rfl rfl (by decide +kernel) ⟨Nat.le_of_ble_eq_true rfl, Nat.le_of_ble_eq_true rfl⟩) (sg_pre hK hP hD (ci := 3) (q0 := 1) rfl rfl) rfl rfl hl.1 rfl (lv_room (Nat.le_of_ble_eq_true rfl)) dX1_oneEnd_2 ⟨Nat.zero_le _, Nat.zero_le _⟩) hD hS hA (fun H locs hP hD hS => ?_)
  refine lv_if_eq (tgt := 17) hx hb dX1_oneEnd_5 (by decide) (fun c5 => ?_) (fun c5 => ?_)
  · have hf := sg_ip c5 hf
    refine lv_iconst (v := (-1)) hx hb dX1_oneEnd_17 (by decide) ?_
    have hq := Option.some.inj hf
    exact sg_iret hx hb hr hP hD hS dX1_oneEnd_18 hq rfl hlocks
  · have hf := sg_in c5 hf
    refine lv_aload_n hx hb dX1_oneEnd_8 rfl (lv_at hl 0 rfl) ?_
    refine va_get (D := D) (ci := 3) (C := RX1) (T := TX1) (N := 10) hx hb hts hinX1 hown hK.1 hP 1 rfl rfl 3 (by decide) (hts (.fieldLink RX1 21 "Switchgear$Grid" "one" "[I") (by decide +kernel)) (fun _ h9 => h9) rfl dX1_oneEnd_9 ?_
    refine lv_iload_n hx hb dX1_oneEnd_12 rfl (lv_at hl 1 rfl) ?_
    obtain ⟨hg4, hf⟩ := sg_g_s hf
    refine va_iald hx hb hK.1 hP 9 0 rfl rfl (sg_inb_s hg4) dX1_oneEnd_13 ?_
    refine lv_goto (tgt := 18) hx hb dX1_oneEnd_14 (by decide) ?_
    have hq := Option.some.inj hf
    exact sg_iret hx hb hr hP hD hS dX1_oneEnd_18 hq rfl hlocks
set_option maxRecDepth 100000 in
set_option maxHeartbeats 4000000 in
theorem c_X1_sourceOfLine (l : Launch) (D : va_G) (cA : Nat → ClassId) (ad : Nat → Nat) (N : Nat) (u : sg_St) (p1 p2 : Int32) (r : Int32) (hf : fX1_sourceOfLine N u p1 p2 = some r) : sg_CI l D cA (sg_WX cA ad) yX1_sourceOfLine wsX1_sourceOfLine ({ frames := 3, cells := 0, slots := 0, locals := 74 }) [.ref (ad 1), .int p1, .int p2] u r u := by
  intro sz
  refine Met.ofW (cc := cX1_sourceOfLine) (maxL := 3) (ret := (some .int)) (by decide) rfl ?_
  intro p e s m args below meth c s₁ B hml hv
  obtain ⟨rfl, hsz, hP, hK, hD0⟩ := hv
  have hx := B.exec
  have hb := B.bytes
  have hr := B.returns
  have hts := atoms_spec (ws := wsX1_sourceOfLine) B.pre
  have hown : s.vm.findClass RX1 = some m.cls := findClass_of_methodNamed B.named
  have hlocks := B.notSynchronized
  subst hsz
  have hD := hD0.self (sz := s.heap.size)
  generalize hAe : va_A (sg_WX cA ad u) s.heap.size = A at hD ⊢
  have hA : ∀ q : Nat, s.heap.size ≤ q → A q := fun q h => by rw [← hAe]; exact Or.inr h
  have hS : va_S A s.heap s.heap [] := va_S.rf
  have hl := lv_entry ([.ref (ad 1), .int p1, .int p2]) (n := 3) (Nat.le_of_ble_eq_true rfl)
  rw [lg_entry_eq]
  generalize (lg_sl ([.ref (ad 1), .int p1, .int p2]) ++ List.replicate (3 - (lg_sl ([.ref (ad 1), .int p1, .int p2])).length) Slot.unset).toArray = ls at hl ⊢
  replace hl : lv_has ls 3 [(0, .ref (ad 1)), (1, .int p1), (2, .int p2)] := hl
  unfold fX1_sourceOfLine at hf
  refine lv_aload_n hx hb dX1_sourceOfLine_0 rfl (lv_at hl 0 rfl) ?_
  refine lv_aload_n hx hb dX1_sourceOfLine_1 rfl (lv_at hl 0 rfl) ?_
  refine lv_aload_n hx hb dX1_sourceOfLine_2 rfl (lv_at hl 0 rfl) ?_
  refine lv_iload_n hx hb dX1_sourceOfLine_3 rfl (lv_at hl 1 rfl) ?_
  obtain ⟨r2, hc1, hf⟩ := sg_b_s hf
  refine sg_ci (va_runV (As := [.int p1]) (rest := [.ref (ad 1), .ref (ad 1)]) ⟨hx, hb, hml, hown, hts⟩ (c_X1_oneEnd l D cA ad N _ _ _ hc1 _) (cwV 1 hts gX1_sourceOfLine_X1_oneEnd rfl rfl rfl (by decide +kernel) ⟨Nat.le_of_ble_eq_true rfl, Nat.le_of_ble_eq_true rfl⟩) (sg_pre hK hP hD (ci := 3) (q0 := 1) rfl rfl) rfl rfl hl.1 rfl (lv_room (Nat.le_of_ble_eq_true rfl)) dX1_sourceOfLine_4 ⟨Nat.zero_le _, Nat.zero_le _⟩) hD hS hA (fun H locs hP hD hS => ?_)
  refine lv_iload_n hx hb dX1_sourceOfLine_7 rfl (lv_at hl 2 rfl) ?_
  obtain ⟨r5, hc4, hf⟩ := sg_b_s hf
  refine sg_ci (va_runV (As := [.int r2, .int p2]) (rest := [.ref (ad 1)]) ⟨hx, hb, hml, hown, hts⟩ (c_X1_islandAround l D cA ad N _ _ _ _ hc4 _) (cwV 2 hts gX1_sourceOfLine_X1_islandAround rfl rfl rfl (by decide +kernel) ⟨Nat.le_of_ble_eq_true rfl, Nat.le_of_ble_eq_true rfl⟩) (sg_pre hK hP hD (ci := 3) (q0 := 1) rfl rfl) rfl rfl hl.1 rfl (lv_room (Nat.le_of_ble_eq_true rfl)) dX1_sourceOfLine_8 ⟨Nat.zero_le _, Nat.zero_le _⟩) hD hS hA (fun H locs hP hD hS => ?_)
  obtain ⟨r8, hc7, hf⟩ := sg_b_s hf
  refine sg_ci (va_runV (As := [.int r5]) (rest := []) ⟨hx, hb, hml, hown, hts⟩ (c_X1_sourceIn l D cA ad N _ _ _ hc7 _) (cwV 1 hts gX1_sourceOfLine_X1_sourceIn rfl rfl rfl (by decide +kernel) ⟨Nat.le_of_ble_eq_true rfl, Nat.le_of_ble_eq_true rfl⟩) (sg_pre hK hP hD (ci := 3) (q0 := 1) rfl rfl) rfl rfl hl.1 rfl (lv_room (Nat.le_of_ble_eq_true rfl)) dX1_sourceOfLine_11 ⟨Nat.zero_le _, Nat.zero_le _⟩) hD hS hA (fun H locs hP hD hS => ?_)
  have hq := Option.some.inj hf
  exact sg_iret hx hb hr hP hD hS dX1_sourceOfLine_14 hq rfl hlocks
set_option maxRecDepth 100000 in
set_option maxHeartbeats 4000000 in
theorem c_X1_loadCutOffBy (l : Launch) (D : va_G) (cA : Nat → ClassId) (ad : Nat → Nat) (N : Nat) (u : sg_St) (p1 p2 : Int32) (r : Int32) (hf : fX1_loadCutOffBy N u p1 p2 = some r) : sg_CI l D cA (sg_WX cA ad) yX1_loadCutOffBy wsX1_loadCutOffBy ({ frames := 4, cells := 0, slots := 0, locals := 96 }) [.ref (ad 1), .int p1, .int p2] u r u := by
  intro sz
  refine Met.ofW (cc := cX1_loadCutOffBy) (maxL := 5) (ret := (some .int)) (by decide) rfl ?_
  intro p e s m args below meth c s₁ B hml hv
  obtain ⟨rfl, hsz, hP, hK, hD0⟩ := hv
  have hx := B.exec
  have hb := B.bytes
  have hr := B.returns
  have hts := atoms_spec (ws := wsX1_loadCutOffBy) B.pre
  have hown : s.vm.findClass RX1 = some m.cls := findClass_of_methodNamed B.named
  have hlocks := B.notSynchronized
  subst hsz
  have hD := hD0.self (sz := s.heap.size)
  generalize hAe : va_A (sg_WX cA ad u) s.heap.size = A at hD ⊢
  have hA : ∀ q : Nat, s.heap.size ≤ q → A q := fun q h => by rw [← hAe]; exact Or.inr h
  have hS : va_S A s.heap s.heap [] := va_S.rf
  have hl := lv_entry ([.ref (ad 1), .int p1, .int p2]) (n := 5) (Nat.le_of_ble_eq_true rfl)
  rw [lg_entry_eq]
  generalize (lg_sl ([.ref (ad 1), .int p1, .int p2]) ++ List.replicate (5 - (lg_sl ([.ref (ad 1), .int p1, .int p2])).length) Slot.unset).toArray = ls at hl ⊢
  replace hl : lv_has ls 5 [(0, .ref (ad 1)), (1, .int p1), (2, .int p2)] := hl
  have hJ71 : ∀ (v4 : Int32) (H : Heap) (locs : List Loc) (ls : Array Slot), fX1_loadCutOffBy_j71 N u v4 = some r → va_P D vwCl (sg_WX cA ad u) H → va_D A (sg_WX cA ad u) → va_S A s.heap H locs → lv_has ls 5 [(0, .ref (ad 1)), (4, .int v4)] → W p l e (headSpec wsX1_loadCutOffBy ({ frames := 4, cells := 0, slots := 0, locals := 96 })).room s m ([.ref (ad 1), .int p1, .int p2] : List Value).toArray below meth c H locs 0 0 (MQ below (va_Qi (fun x y => x = r ∧ y = u) (sg_BX D (sg_WX cA ad) A) A) ([.ref (ad 1), .int p1, .int p2] : List Value).toArray s 0 0 A) (F0 m 71 ls []) := by
    intro v4 H locs ls hf hP hD hS hl
    unfold fX1_loadCutOffBy_j71 at hf
    refine lv_aload_n hx hb dX1_loadCutOffBy_71 rfl (lv_at hl 0 rfl) ?_
    refine lv_iload hx hb dX1_loadCutOffBy_72 (lv_at hl 1 rfl) ?_
    obtain ⟨r2, hc1, hf⟩ := sg_b_s hf
    refine sg_ci (va_runV (As := [.int v4]) (rest := []) ⟨hx, hb, hml, hown, hts⟩ (c_X1_loadIn l D cA ad N _ _ _ hc1 _) (cwV 1 hts gX1_loadCutOffBy_X1_loadIn rfl rfl rfl (by decide +kernel) ⟨Nat.le_of_ble_eq_true rfl, Nat.le_of_ble_eq_true rfl⟩) (sg_pre hK hP hD (ci := 3) (q0 := 1) rfl rfl) rfl rfl hl.1 rfl (lv_room (Nat.le_of_ble_eq_true rfl)) dX1_loadCutOffBy_74 ⟨Nat.zero_le _, Nat.zero_le _⟩) hD hS hA (fun H locs hP hD hS => ?_)
    have hq := Option.some.inj hf
    exact sg_iret hx hb hr hP hD hS dX1_loadCutOffBy_77 hq rfl hlocks
  unfold fX1_loadCutOffBy at hf
  refine lv_iload_n hx hb dX1_loadCutOffBy_0 rfl (lv_at hl 2 rfl) ?_
  refine lv_iload_n hx hb dX1_loadCutOffBy_1 rfl (lv_at hl 1 rfl) ?_
  obtain ⟨r2, hc1, hf⟩ := sg_b_s hf
  refine sg_ci0 (va_runSN (As := [.int p2, .int p1]) (rest := []) ⟨hx, hb, hml, hown, hts⟩ (c_X5_has l D cA N _ _ _ hc1 _) ⟨va_cnB (host := RX5) 2 hts gX1_loadCutOffBy_X5_has_n54 rfl rfl rfl (hK.2 _ (List.mem_of_getElem? (i := 3) rfl)) (hts (.initialized RX5) (by decide +kernel)) (by decide +kernel) ⟨Nat.le_of_ble_eq_true rfl, Nat.le_of_ble_eq_true rfl⟩, hts (.static yX5_has) (by decide +kernel), trivial⟩ (sg_pre0 hK) rfl rfl hl.1 rfl (lv_room (Nat.le_of_ble_eq_true rfl)) dX1_loadCutOffBy_2 ⟨Nat.zero_le _, Nat.zero_le _⟩) hP hS hA (fun H locs hP hS => ?_)
  refine lv_if_eq (tgt := 18) hx hb dX1_loadCutOffBy_5 (by decide) (fun c30 => ?_) (fun c30 => ?_)
  · have hf := sg_ip c30 hf
    refine lv_iconst (v := 0) hx hb dX1_loadCutOffBy_18 (by decide) ?_
    have hq := Option.some.inj hf
    exact sg_iret hx hb hr hP hD hS dX1_loadCutOffBy_19 hq rfl hlocks
  · have hf := sg_in c30 hf
    refine lv_aload_n hx hb dX1_loadCutOffBy_8 rfl (lv_at hl 0 rfl) ?_
    refine lv_iload_n hx hb dX1_loadCutOffBy_9 rfl (lv_at hl 1 rfl) ?_
    refine lv_iload_n hx hb dX1_loadCutOffBy_10 rfl (lv_at hl 2 rfl) ?_
    obtain ⟨r5, hc4, hf⟩ := sg_b_s hf
    refine sg_ci (va_runV (As := [.int p1, .int p2]) (rest := []) ⟨hx, hb, hml, hown, hts⟩ (c_X1_sourceOfLine l D cA ad N _ _ _ _ hc4 _) (cwV 2 hts gX1_loadCutOffBy_X1_sourceOfLine rfl rfl rfl (by decide +kernel) ⟨Nat.le_of_ble_eq_true rfl, Nat.le_of_ble_eq_true rfl⟩) (sg_pre hK hP hD (ci := 3) (q0 := 1) rfl rfl) rfl rfl hl.1 rfl (lv_room (Nat.le_of_ble_eq_true rfl)) dX1_loadCutOffBy_11 ⟨Nat.zero_le _, Nat.zero_le _⟩) hD hS hA (fun H locs hP hD hS => ?_)
    refine lv_iconst (v := (-1)) hx hb dX1_loadCutOffBy_14 (by decide) ?_
    refine lv_icmp_ne (tgt := 20) hx hb dX1_loadCutOffBy_15 (by decide) (fun c29 => ?_) (fun c29 => ?_)
    · have hf := sg_in c29 hf
      refine lv_aload_n hx hb dX1_loadCutOffBy_20 rfl (lv_at hl 0 rfl) ?_
      refine lv_iload_n hx hb dX1_loadCutOffBy_21 rfl (lv_at hl 1 rfl) ?_
      obtain ⟨r8, hc7, hf⟩ := sg_b_s hf
      refine sg_ci (va_runV (As := [.int p1]) (rest := []) ⟨hx, hb, hml, hown, hts⟩ (c_X1_oneEnd l D cA ad N _ _ _ hc7 _) (cwV 1 hts gX1_loadCutOffBy_X1_oneEnd rfl rfl rfl (by decide +kernel) ⟨Nat.le_of_ble_eq_true rfl, Nat.le_of_ble_eq_true rfl⟩) (sg_pre hK hP hD (ci := 3) (q0 := 1) rfl rfl) rfl rfl hl.1 rfl (lv_room (Nat.le_of_ble_eq_true rfl)) dX1_loadCutOffBy_22 ⟨Nat.zero_le _, Nat.zero_le _⟩) hD hS hA (fun H locs hP hD hS => ?_)
      refine lv_istore_n (lv' := [(3, .int r8), (0, .ref (ad 1)), (1, .int p1), (2, .int p2)]) hx hb dX1_loadCutOffBy_25 rfl hl (by decide) rfl (fun ls hl => ?_)
      refine lv_aload_n hx hb dX1_loadCutOffBy_26 rfl (lv_at hl 1 rfl) ?_
      refine lv_iload_n hx hb dX1_loadCutOffBy_27 rfl (lv_at hl 0 rfl) ?_
      refine lv_iload_n hx hb dX1_loadCutOffBy_28 rfl (lv_at hl 3 rfl) ?_
      refine lv_iload_n hx hb dX1_loadCutOffBy_29 rfl (lv_at hl 2 rfl) ?_
      obtain ⟨r11, hc10, hf⟩ := sg_b_s hf
      refine sg_ci0 (va_runSN (As := [.int p1]) (rest := [.int p2, .int r8, .ref (ad 1)]) ⟨hx, hb, hml, hown, hts⟩ (c_X5_bit l D cA N _ _ hc10 _) ⟨va_cnB (host := RX5) 1 hts gX1_loadCutOffBy_X5_bit_n37 rfl rfl rfl (hK.2 _ (List.mem_of_getElem? (i := 2) rfl)) (hts (.initialized RX5) (by decide +kernel)) (by decide +kernel) ⟨Nat.le_of_ble_eq_true rfl, Nat.le_of_ble_eq_true rfl⟩, hts (.static yX5_bit) (by decide +kernel), trivial⟩ (sg_pre0 hK) rfl rfl hl.1 rfl (lv_room (Nat.le_of_ble_eq_true rfl)) dX1_loadCutOffBy_30 ⟨Nat.zero_le _, Nat.zero_le _⟩) hP hS hA (fun H locs hP hS => ?_)
      refine lv_iconst (v := (-1)) hx hb dX1_loadCutOffBy_33 (by decide) ?_
      refine lv_ixor hx hb dX1_loadCutOffBy_34 ?_
      refine lv_iand hx hb dX1_loadCutOffBy_35 ?_
      obtain ⟨r14, hc13, hf⟩ := sg_b_s hf
      refine sg_ci (va_runV (As := [.int r8, .int (p2 &&& (r11 ^^^ ((-1))))]) (rest := []) ⟨hx, hb, hml, hown, hts⟩ (c_X1_islandAround l D cA ad N _ _ _ _ hc13 _) (cwV 2 hts gX1_loadCutOffBy_X1_islandAround rfl rfl rfl (by decide +kernel) ⟨Nat.le_of_ble_eq_true rfl, Nat.le_of_ble_eq_true rfl⟩) (sg_pre hK hP hD (ci := 3) (q0 := 1) rfl rfl) rfl rfl hl.1 rfl (lv_room (Nat.le_of_ble_eq_true rfl)) dX1_loadCutOffBy_36 ⟨Nat.zero_le _, Nat.zero_le _⟩) hD hS hA (fun H locs hP hD hS => ?_)
      refine lv_istore (lv' := [(4, .int r14), (3, .int r8), (0, .ref (ad 1)), (1, .int p1), (2, .int p2)]) hx hb dX1_loadCutOffBy_39 hl (by decide) rfl (fun ls hl => ?_)
      refine lv_aload_n hx hb dX1_loadCutOffBy_41 rfl (lv_at hl 2 rfl) ?_
      refine lv_iload hx hb dX1_loadCutOffBy_42 (lv_at hl 0 rfl) ?_
      obtain ⟨r17, hc16, hf⟩ := sg_b_s hf
      refine sg_ci (va_runV (As := [.int r14]) (rest := []) ⟨hx, hb, hml, hown, hts⟩ (c_X1_sourceIn l D cA ad N _ _ _ hc16 _) (cwV 1 hts gX1_loadCutOffBy_X1_sourceIn rfl rfl rfl (by decide +kernel) ⟨Nat.le_of_ble_eq_true rfl, Nat.le_of_ble_eq_true rfl⟩) (sg_pre hK hP hD (ci := 3) (q0 := 1) rfl rfl) rfl rfl hl.1 rfl (lv_room (Nat.le_of_ble_eq_true rfl)) dX1_loadCutOffBy_44 ⟨Nat.zero_le _, Nat.zero_le _⟩) hD hS hA (fun H locs hP hD hS => ?_)
      refine lv_iconst (v := (-1)) hx hb dX1_loadCutOffBy_47 (by decide) ?_
      refine lv_icmp_eq (tgt := 71) hx hb dX1_loadCutOffBy_48 (by decide) (fun c28 => ?_) (fun c28 => ?_)
      · have hf := sg_ip c28 hf
        exact hJ71 _ _ _ _ hf hP hD hS (lv_sub hl [2, 0] rfl)
      · have hf := sg_in c28 hf
        refine lv_aload_n hx hb dX1_loadCutOffBy_51 rfl (lv_at hl 2 rfl) ?_
        refine lv_aload_n hx hb dX1_loadCutOffBy_52 rfl (lv_at hl 2 rfl) ?_
        refine lv_iload_n hx hb dX1_loadCutOffBy_53 rfl (lv_at hl 1 rfl) ?_
        refine lv_iload_n hx hb dX1_loadCutOffBy_54 rfl (lv_at hl 3 rfl) ?_
        obtain ⟨r20, hc19, hf⟩ := sg_b_s hf
        refine sg_ci (va_runV (As := [.int r8, .int p1]) (rest := [.ref (ad 1)]) ⟨hx, hb, hml, hown, hts⟩ (c_X1_acrossFrom l D cA ad N _ _ _ _ hc19 _) (cwV 2 hts gX1_loadCutOffBy_X1_acrossFrom rfl rfl rfl (by decide +kernel) ⟨Nat.le_of_ble_eq_true rfl, Nat.le_of_ble_eq_true rfl⟩) (sg_pre hK hP hD (ci := 3) (q0 := 1) rfl rfl) rfl rfl hl.1 rfl (lv_room (Nat.le_of_ble_eq_true rfl)) dX1_loadCutOffBy_55 ⟨Nat.zero_le _, Nat.zero_le _⟩) hD hS hA (fun H locs hP hD hS => ?_)
        refine lv_iload_n hx hb dX1_loadCutOffBy_58 rfl (lv_at hl 4 rfl) ?_
        refine lv_iload_n hx hb dX1_loadCutOffBy_59 rfl (lv_at hl 3 rfl) ?_
        obtain ⟨r23, hc22, hf⟩ := sg_b_s hf
        refine sg_ci0 (va_runSN (As := [.int p1]) (rest := [.int p2, .int r20, .ref (ad 1)]) ⟨hx, hb, hml, hown, hts⟩ (c_X5_bit l D cA N _ _ hc22 _) ⟨va_cnB (host := RX5) 1 hts gX1_loadCutOffBy_X5_bit_n37 rfl rfl rfl (hK.2 _ (List.mem_of_getElem? (i := 2) rfl)) (hts (.initialized RX5) (by decide +kernel)) (by decide +kernel) ⟨Nat.le_of_ble_eq_true rfl, Nat.le_of_ble_eq_true rfl⟩, hts (.static yX5_bit) (by decide +kernel), trivial⟩ (sg_pre0 hK) rfl rfl hl.1 rfl (lv_room (Nat.le_of_ble_eq_true rfl)) dX1_loadCutOffBy_60 ⟨Nat.zero_le _, Nat.zero_le _⟩) hP hS hA (fun H locs hP hS => ?_)
        refine lv_iconst (v := (-1)) hx hb dX1_loadCutOffBy_63 (by decide) ?_
        refine lv_ixor hx hb dX1_loadCutOffBy_64 ?_
        refine lv_iand hx hb dX1_loadCutOffBy_65 ?_
        obtain ⟨r26, hc25, hf⟩ := sg_b_s hf
        refine sg_ci (va_runV (As := [.int r20, .int (p2 &&& (r23 ^^^ ((-1))))]) (rest := []) ⟨hx, hb, hml, hown, hts⟩ (c_X1_islandAround l D cA ad N _ _ _ _ hc25 _) (cwV 2 hts gX1_loadCutOffBy_X1_islandAround rfl rfl rfl (by decide +kernel) ⟨Nat.le_of_ble_eq_true rfl, Nat.le_of_ble_eq_true rfl⟩) (sg_pre hK hP hD (ci := 3) (q0 := 1) rfl rfl) rfl rfl hl.1 rfl (lv_room (Nat.le_of_ble_eq_true rfl)) dX1_loadCutOffBy_66 ⟨Nat.zero_le _, Nat.zero_le _⟩) hD hS hA (fun H locs hP hD hS => ?_)
        refine lv_istore (lv' := [(4, .int r26), (3, .int r8), (0, .ref (ad 1)), (1, .int p1), (2, .int p2)]) hx hb dX1_loadCutOffBy_69 hl (by decide) rfl (fun ls hl => ?_)
        exact hJ71 _ _ _ _ hf hP hD hS (lv_sub hl [2, 0] rfl)
    · have hf := sg_ip c29 hf
      refine lv_iconst (v := 0) hx hb dX1_loadCutOffBy_18 (by decide) ?_
      have hq := Option.some.inj hf
      exact sg_iret hx hb hr hP hD hS dX1_loadCutOffBy_19 hq rfl hlocks
set_option maxRecDepth 100000 in
set_option maxHeartbeats 4000000 in
theorem c_X1_putLoad (l : Launch) (D : va_G) (cA : Nat → ClassId) (ad : Nat → Nat) (N : Nat) (u : sg_St) (p1 p2 : Int32) (u' : sg_St) (hf : fX1_putLoad N u p1 p2 = some u') : sg_CV l D cA (sg_WX cA ad) yX1_putLoad wsX1_putLoad ({ frames := 1, cells := 0, slots := 0, locals := 21 }) [.ref (ad 1), .int p1, .int p2] u u' := by
  intro sz
  refine Met.ofW (cc := cX1_putLoad) (maxL := 3) (ret := none) (by decide) rfl ?_
  intro p e s m args below meth c s₁ B hml hv
  obtain ⟨rfl, hsz, hP, hK, hD0⟩ := hv
  have hx := B.exec
  have hb := B.bytes
  have hr := B.returns
  have hts := atoms_spec (ws := wsX1_putLoad) B.pre
  have hown : s.vm.findClass RX1 = some m.cls := findClass_of_methodNamed B.named
  have hlocks := B.notSynchronized
  subst hsz
  have hD := hD0.self (sz := s.heap.size)
  generalize hAe : va_A (sg_WX cA ad u) s.heap.size = A at hD ⊢
  have hA : ∀ q : Nat, s.heap.size ≤ q → A q := fun q h => by rw [← hAe]; exact Or.inr h
  have hS : va_S A s.heap s.heap [] := va_S.rf
  have hl := lv_entry ([.ref (ad 1), .int p1, .int p2]) (n := 3) (Nat.le_of_ble_eq_true rfl)
  rw [lg_entry_eq]
  generalize (lg_sl ([.ref (ad 1), .int p1, .int p2]) ++ List.replicate (3 - (lg_sl ([.ref (ad 1), .int p1, .int p2])).length) Slot.unset).toArray = ls at hl ⊢
  replace hl : lv_has ls 3 [(0, .ref (ad 1)), (1, .int p1), (2, .int p2)] := hl
  have hinX1 : ∀ w ∈ u_ws RX1 TX1 10, w ∈ wsX1_putLoad := by decide +kernel
  unfold fX1_putLoad at hf
  refine lv_aload_n hx hb dX1_putLoad_0 rfl (lv_at hl 0 rfl) ?_
  refine lv_iload_n hx hb dX1_putLoad_1 rfl (lv_at hl 1 rfl) ?_
  obtain ⟨r2, hc1, hf⟩ := sg_b_s hf
  refine sg_ci (va_runV (As := [.int p1]) (rest := []) ⟨hx, hb, hml, hown, hts⟩ (c_X1_isNode l D cA ad N _ _ _ hc1 _) (cwV 1 hts gX1_putLoad_X1_isNode rfl rfl rfl (by decide +kernel) ⟨Nat.le_of_ble_eq_true rfl, Nat.le_of_ble_eq_true rfl⟩) (sg_pre hK hP hD (ci := 3) (q0 := 1) rfl rfl) rfl rfl hl.1 rfl (lv_room (Nat.le_of_ble_eq_true rfl)) dX1_putLoad_2 ⟨Nat.zero_le _, Nat.zero_le _⟩) hD hS hA (fun H locs hP hD hS => ?_)
  refine lv_if_eq (tgt := 15) hx hb dX1_putLoad_5 (by decide) (fun c5 => ?_) (fun c5 => ?_)
  · have hf := sg_ip c5 hf
    have hq := Option.some.inj hf
    exact sg_vret hx hb hr hP hD hS dX1_putLoad_15 hq hlocks
  · have hf := sg_in c5 hf
    refine lv_aload_n hx hb dX1_putLoad_8 rfl (lv_at hl 0 rfl) ?_
    refine va_get (D := D) (ci := 3) (C := RX1) (T := TX1) (N := 10) hx hb hts hinX1 hown hK.1 hP 1 rfl rfl 1 (by decide) (hts (.fieldLink RX1 15 "Switchgear$Grid" "load" "[I") (by decide +kernel)) (fun _ h9 => h9) rfl dX1_putLoad_9 ?_
    refine lv_iload_n hx hb dX1_putLoad_12 rfl (lv_at hl 1 rfl) ?_
    refine lv_iload_n hx hb dX1_putLoad_13 rfl (lv_at hl 2 rfl) ?_
    obtain ⟨hg4, hf⟩ := sg_g_s hf
    refine va_iast hx hb hK.1 hP hD hS 7 0 rfl rfl (sg_inb_s hg4) dX1_putLoad_14 (fun H locs hP hD hS => ?_)
    replace hP : va_P D vwCl (sg_WX cA ad (sg_set u 12 (p1).toNatClampNeg p2)) H := by rw [← sg_WX_12]; exact hP
    replace hD : va_D A (sg_WX cA ad (sg_set u 12 (p1).toNatClampNeg p2)) := by rw [← sg_WX_12]; exact hD
    have hq := Option.some.inj hf
    exact sg_vret hx hb hr hP hD hS dX1_putLoad_15 hq hlocks
set_option maxRecDepth 100000 in
set_option maxHeartbeats 4000000 in
theorem c_X1_weightIn (l : Launch) (D : va_G) (cA : Nat → ClassId) (ad : Nat → Nat) (N : Nat) (u : sg_St) (p1 : Int32) (r : Int32) (hf : fX1_weightIn N u p1 = some r) : sg_CI l D cA (sg_WX cA ad) yX1_weightIn wsX1_weightIn ({ frames := 1, cells := 0, slots := 0, locals := 21 }) [.ref (ad 1), .int p1] u r u := by
  intro sz
  refine Met.ofW (cc := cX1_weightIn) (maxL := 4) (ret := (some .int)) (by decide) rfl ?_
  intro p e s m args below meth c s₁ B hml hv
  obtain ⟨rfl, hsz, hP, hK, hD0⟩ := hv
  have hx := B.exec
  have hb := B.bytes
  have hr := B.returns
  have hts := atoms_spec (ws := wsX1_weightIn) B.pre
  have hown : s.vm.findClass RX1 = some m.cls := findClass_of_methodNamed B.named
  have hlocks := B.notSynchronized
  subst hsz
  have hD := hD0.self (sz := s.heap.size)
  generalize hAe : va_A (sg_WX cA ad u) s.heap.size = A at hD ⊢
  have hA : ∀ q : Nat, s.heap.size ≤ q → A q := fun q h => by rw [← hAe]; exact Or.inr h
  have hS : va_S A s.heap s.heap [] := va_S.rf
  have hl := lv_entry ([.ref (ad 1), .int p1]) (n := 4) (Nat.le_of_ble_eq_true rfl)
  rw [lg_entry_eq]
  generalize (lg_sl ([.ref (ad 1), .int p1]) ++ List.replicate (4 - (lg_sl ([.ref (ad 1), .int p1])).length) Slot.unset).toArray = ls at hl ⊢
  replace hl : lv_has ls 4 [(0, .ref (ad 1)), (1, .int p1)] := hl
  have hinX1 : ∀ w ∈ u_ws RX1 TX1 10, w ∈ wsX1_weightIn := by decide +kernel
  have hL4 : ∀ (v1 : Int32) (n : Nat) (x : Int32 × Int32) (r9 : Int32), sg_it (fun x => fX1_weightIn_L4 N u v1 x.1 x.2) n x = some r9 → ∀ (H : Heap) (locs : List Loc) (ls : Array Slot), va_P D vwCl (sg_WX cA ad u) H → va_D A (sg_WX cA ad u) → va_S A s.heap H locs → lv_has ls 4 [(0, .ref (ad 1)), (1, .int v1), (2, .int x.1), (3, .int x.2)] → (∀ (H : Heap) (locs : List Loc) (ls : Array Slot), va_P D vwCl (sg_WX cA ad u) H → va_D A (sg_WX cA ad u) → va_S A s.heap H locs → lv_has ls 4 [(0, .ref (ad 1)), (2, .int r9)] → W p l e (headSpec wsX1_weightIn ({ frames := 1, cells := 0, slots := 0, locals := 21 })).room s m ([.ref (ad 1), .int p1] : List Value).toArray below meth c H locs 0 0 (MQ below (va_Qi (fun x y => x = r ∧ y = u) (sg_BX D (sg_WX cA ad) A) A) ([.ref (ad 1), .int p1] : List Value).toArray s 0 0 A) (F0 m 42 ls [])) → W p l e (headSpec wsX1_weightIn ({ frames := 1, cells := 0, slots := 0, locals := 21 })).room s m ([.ref (ad 1), .int p1] : List Value).toArray below meth c H locs 0 0 (MQ below (va_Qi (fun x y => x = r ∧ y = u) (sg_BX D (sg_WX cA ad) A) A) ([.ref (ad 1), .int p1] : List Value).toArray s 0 0 A) (F0 m 4 ls []) := by
    intro v1
    refine sg_loop _ ?_
    intro x y r9 hf hI hy H locs ls hP hD hS hl hk
    replace hf : fX1_weightIn_L4 N u v1 x.1 x.2 = some y := hf
    unfold fX1_weightIn_L4 at hf
    refine lv_iload_n hx hb dX1_weightIn_4 rfl (lv_at hl 3 rfl) ?_
    refine lv_aload_n hx hb dX1_weightIn_5 rfl (lv_at hl 0 rfl) ?_
    refine va_get (D := D) (ci := 3) (C := RX1) (T := TX1) (N := 10) hx hb hts hinX1 hown hK.1 hP 1 rfl rfl 6 (by decide) (hts (.fieldLink RX1 30 "Switchgear$Grid" "nodeCount" "I") (by decide +kernel)) (fun _ h9 => h9) rfl dX1_weightIn_6 ?_
    refine lv_icmp_ge (tgt := 42) hx hb dX1_weightIn_9 (by decide) (fun c7 => ?_) (fun c7 => ?_)
    · have hf := sg_ip c7 hf
      have hq := hy _ (Option.some.inj hf).symm
      subst hq
      exact hk _ _ _ hP hD hS (lv_sub hl [0, 2] rfl)
    · have hf := sg_in c7 hf
      refine lv_iload_n hx hb dX1_weightIn_12 rfl (lv_at hl 1 rfl) ?_
      refine lv_iload_n hx hb dX1_weightIn_13 rfl (lv_at hl 3 rfl) ?_
      obtain ⟨r2, hc1, hf⟩ := sg_b_s hf
      refine sg_ci0 (va_runSN (As := [.int v1, .int x.2]) (rest := []) ⟨hx, hb, hml, hown, hts⟩ (c_X5_has l D cA N _ _ _ hc1 _) ⟨va_cnB (host := RX5) 2 hts gX1_weightIn_X5_has_n54 rfl rfl rfl (hK.2 _ (List.mem_of_getElem? (i := 3) rfl)) (hts (.initialized RX5) (by decide +kernel)) (by decide +kernel) ⟨Nat.le_of_ble_eq_true rfl, Nat.le_of_ble_eq_true rfl⟩, hts (.static yX5_has) (by decide +kernel), trivial⟩ (sg_pre0 hK) rfl rfl hl.1 rfl (lv_room (Nat.le_of_ble_eq_true rfl)) dX1_weightIn_14 ⟨Nat.zero_le _, Nat.zero_le _⟩) hP hS hA (fun H locs hP hS => ?_)
      refine lv_if_eq (tgt := 36) hx hb dX1_weightIn_17 (by decide) (fun c6 => ?_) (fun c6 => ?_)
      · have hf := sg_ip c6 hf
        refine lv_iinc (v := x.2 + 1) (lv' := [(3, .int (x.2 + 1)), (0, .ref (ad 1)), (1, .int v1), (2, .int x.1)]) hx hb dX1_weightIn_36 hl (k := 3) rfl rfl (by decide) rfl (fun ls hl => ?_)
        refine lv_goto (tgt := 4) hx hb dX1_weightIn_39 (by decide) ?_
        exact hI _ (Option.some.inj hf).symm _ _ _ hP hD hS (lv_sub hl [1, 2, 3, 0] rfl) hk
      · have hf := sg_in c6 hf
        refine lv_iload_n hx hb dX1_weightIn_20 rfl (lv_at hl 2 rfl) ?_
        refine lv_aload_n hx hb dX1_weightIn_21 rfl (lv_at hl 0 rfl) ?_
        refine va_get (D := D) (ci := 3) (C := RX1) (T := TX1) (N := 10) hx hb hts hinX1 hown hK.1 hP 1 rfl rfl 1 (by decide) (hts (.fieldLink RX1 15 "Switchgear$Grid" "load" "[I") (by decide +kernel)) (fun _ h9 => h9) rfl dX1_weightIn_22 ?_
        refine lv_iload_n hx hb dX1_weightIn_25 rfl (lv_at hl 3 rfl) ?_
        obtain ⟨hg4, hf⟩ := sg_g_s hf
        refine va_iald hx hb hK.1 hP 7 0 rfl rfl (sg_inb_s hg4) dX1_weightIn_26 ?_
        refine lv_aload_n hx hb dX1_weightIn_27 rfl (lv_at hl 0 rfl) ?_
        refine va_get (D := D) (ci := 3) (C := RX1) (T := TX1) (N := 10) hx hb hts hinX1 hown hK.1 hP 1 rfl rfl 2 (by decide) (hts (.fieldLink RX1 18 "Switchgear$Grid" "priority" "[I") (by decide +kernel)) (fun _ h9 => h9) rfl dX1_weightIn_28 ?_
        refine lv_iload_n hx hb dX1_weightIn_31 rfl (lv_at hl 3 rfl) ?_
        obtain ⟨hg5, hf⟩ := sg_g_s hf
        refine va_iald hx hb hK.1 hP 8 0 rfl rfl (sg_inb_s hg5) dX1_weightIn_32 ?_
        refine lv_imul hx hb dX1_weightIn_33 ?_
        refine lv_iadd hx hb dX1_weightIn_34 ?_
        refine lv_istore_n (lv' := [(2, .int (x.1 + ((u 12 (x.2).toNatClampNeg) * (u 13 (x.2).toNatClampNeg)))), (0, .ref (ad 1)), (1, .int v1), (3, .int x.2)]) hx hb dX1_weightIn_35 rfl hl (by decide) rfl (fun ls hl => ?_)
        refine lv_iinc (v := x.2 + 1) (lv' := [(3, .int (x.2 + 1)), (2, .int (x.1 + ((u 12 (x.2).toNatClampNeg) * (u 13 (x.2).toNatClampNeg)))), (0, .ref (ad 1)), (1, .int v1)]) hx hb dX1_weightIn_36 hl (k := 3) rfl rfl (by decide) rfl (fun ls hl => ?_)
        refine lv_goto (tgt := 4) hx hb dX1_weightIn_39 (by decide) ?_
        exact hI _ (Option.some.inj hf).symm _ _ _ hP hD hS (lv_sub hl [2, 3, 1, 0] rfl) hk
  unfold fX1_weightIn at hf
  refine lv_iconst (v := 0) hx hb dX1_weightIn_0 (by decide) ?_
  refine lv_istore_n (lv' := [(2, .int 0), (0, .ref (ad 1)), (1, .int p1)]) hx hb dX1_weightIn_1 rfl hl (by decide) rfl (fun ls hl => ?_)
  refine lv_iconst (v := 0) hx hb dX1_weightIn_2 (by decide) ?_
  refine lv_istore_n (lv' := [(3, .int 0), (2, .int 0), (0, .ref (ad 1)), (1, .int p1)]) hx hb dX1_weightIn_3 rfl hl (by decide) rfl (fun ls hl => ?_)
  obtain ⟨e1, hc2, hf⟩ := sg_b_s hf
  refine hL4 _ _ _ e1 hc2 _ _ _ hP hD hS (lv_sub hl [2, 3, 1, 0] rfl) (fun H locs ls hP hD hS hl => ?_)
  refine lv_iload_n hx hb dX1_weightIn_42 rfl (lv_at hl 1 rfl) ?_
  have hq := Option.some.inj hf
  exact sg_iret hx hb hr hP hD hS dX1_weightIn_43 hq rfl hlocks
set_option maxRecDepth 100000 in
set_option maxHeartbeats 4000000 in
theorem c_X5_needLoad (l : Launch) (hlt : l.stackTraces = false) (D : va_G) (cA : Nat → ClassId) (N : Nat) (p0 : Int32) (R : (Nat ⊕ Unit) × sg_St) (hf : fX5_needLoad N p0 = some R) : sg_TV l D cA (sg_W0) yX5_needLoad wsX5_needLoad ({ frames := 8, cells := 1, slots := 6, locals := 400 }) [.int p0] sg_u0 1 6 R := by
  intro sz
  refine vx_ofW (cc := cX5_needLoad) (maxL := 1) (ret := none) (by decide) rfl ?_
  intro p e s m args below meth c s₁ B hml htab hv
  obtain ⟨rfl, ⟨hsz, hP, hK, hD0⟩, hT⟩ := hv
  have hx := B.exec
  have hb := B.bytes
  have hr := B.returns
  have hts := atoms_spec (ws := wsX5_needLoad) B.pre
  have hown : s.vm.findClass RX5 = some m.cls := findClass_of_methodNamed B.named
  have hlocks := B.notSynchronized
  subst hsz
  have hD := hD0.self (sz := s.heap.size)
  generalize hAe : va_A (sg_W0 sg_u0) s.heap.size = A at hD hT ⊢
  have hA : ∀ q : Nat, s.heap.size ≤ q → A q := fun q h => by rw [← hAe]; exact Or.inr h
  have hS : va_S A s.heap s.heap [] := va_S.rf
  have hl := lv_entry ([.int p0]) (n := 1) (Nat.le_of_ble_eq_true rfl)
  rw [lg_entry_eq]
  generalize (lg_sl ([.int p0]) ++ List.replicate (1 - (lg_sl ([.int p0])).length) Slot.unset).toArray = ls at hl ⊢
  replace hl : lv_has ls 1 [(0, .int p0)] := hl
  have hJ10 : ∀ (H : Heap) (locs : List Loc) (ls : Array Slot), fX5_needLoad_j10 N  = some R → va_P D vwCl (sg_W0 sg_u0) H → va_D A (sg_W0 sg_u0) → va_S A s.heap H locs → lv_has ls 1 [] → W p l e (headSpec wsX5_needLoad ({ frames := 8, cells := 1, slots := 6, locals := 400 })).room s m ([.int p0] : List Value).toArray below meth c H locs 0 0 (vx_MQ below (sg_QV D (sg_W0) A R) (sg_XC D (sg_W0) A R) ([.int p0] : List Value).toArray s 1 6 A) (F0 m 10 ls []) := by
    intro H locs ls hf hP hD hS hl
    unfold fX5_needLoad_j10 at hf
    have hq := Option.some.inj hf
    exact sg_throwW (cls := "java/lang/IllegalArgumentException") (text := "a load is from 0 to 99") (k := 1) hx hb hlt hown hts hT hP hD hS (hl.1.trans hml.symm) htab hlocks (by decide +kernel) (by decide +kernel) (by decide +kernel) (by decide +kernel) (by decide +kernel) (by decide +kernel) (by decide +kernel) dX5_needLoad_10 dX5_needLoad_13 dX5_needLoad_14 dX5_needLoad_17 dX5_needLoad_20 ⟨Nat.le_of_ble_eq_true rfl, Nat.le_of_ble_eq_true rfl, Nat.le_of_ble_eq_true rfl, Nat.le_of_ble_eq_true rfl, by decide, by decide⟩ (by decide +kernel) hq
  unfold fX5_needLoad at hf
  refine lv_iload_n hx hb dX5_needLoad_0 rfl (lv_at hl 0 rfl) ?_
  refine lv_if_lt (tgt := 10) hx hb dX5_needLoad_1 (by decide) (fun c2 => ?_) (fun c2 => ?_)
  · have hf := sg_ip c2 hf
    refine W.widen (k := 0) (n := 0) (by decide) (by decide) ?_
    exact hJ10 _ _ _ hf hP hD hS (lv_sub hl [] rfl)
  · have hf := sg_in c2 hf
    refine lv_iload_n hx hb dX5_needLoad_4 rfl (lv_at hl 0 rfl) ?_
    refine lv_bipush (v := 99) hx hb dX5_needLoad_5 (by decide) ?_
    refine lv_icmp_le (tgt := 21) hx hb dX5_needLoad_7 (by decide) (fun c1 => ?_) (fun c1 => ?_)
    · have hf := sg_ip c1 hf
      have hq := Option.some.inj hf
      exact sg_tv hx hb hr hP hD hS dX5_needLoad_21 hq hlocks (by decide) (by decide)
    · have hf := sg_in c1 hf
      refine W.widen (k := 0) (n := 0) (by decide) (by decide) ?_
      exact hJ10 _ _ _ hf hP hD hS (lv_sub hl [] rfl)
set_option maxRecDepth 100000 in
set_option maxHeartbeats 4000000 in
theorem c_X5_added (l : Launch) (hlt : l.stackTraces = false) (D : va_G) (cA : Nat → ClassId) (N : Nat) (p0 : Int32) (R : (Nat ⊕ Int32) × sg_St) (hf : fX5_added N p0 = some R) : sg_TI l D cA (sg_W0) yX5_added wsX5_added ({ frames := 8, cells := 1, slots := 6, locals := 400 }) [.int p0] sg_u0 1 6 R := by
  intro sz
  refine vx_ofW (cc := cX5_added) (maxL := 1) (ret := (some .int)) (by decide) rfl ?_
  intro p e s m args below meth c s₁ B hml htab hv
  obtain ⟨rfl, ⟨hsz, hP, hK, hD0⟩, hT⟩ := hv
  have hx := B.exec
  have hb := B.bytes
  have hr := B.returns
  have hts := atoms_spec (ws := wsX5_added) B.pre
  have hown : s.vm.findClass RX5 = some m.cls := findClass_of_methodNamed B.named
  have hlocks := B.notSynchronized
  subst hsz
  have hD := hD0.self (sz := s.heap.size)
  generalize hAe : va_A (sg_W0 sg_u0) s.heap.size = A at hD hT ⊢
  have hA : ∀ q : Nat, s.heap.size ≤ q → A q := fun q h => by rw [← hAe]; exact Or.inr h
  have hS : va_S A s.heap s.heap [] := va_S.rf
  have hl := lv_entry ([.int p0]) (n := 1) (Nat.le_of_ble_eq_true rfl)
  rw [lg_entry_eq]
  generalize (lg_sl ([.int p0]) ++ List.replicate (1 - (lg_sl ([.int p0])).length) Slot.unset).toArray = ls at hl ⊢
  replace hl : lv_has ls 1 [(0, .int p0)] := hl
  unfold fX5_added at hf
  refine lv_iload_n hx hb dX5_added_0 rfl (lv_at hl 0 rfl) ?_
  refine lv_iconst (v := (-1)) hx hb dX5_added_1 (by decide) ?_
  refine lv_icmp_ne (tgt := 16) hx hb dX5_added_2 (by decide) (fun c1 => ?_) (fun c1 => ?_)
  · have hf := sg_in c1 hf
    refine lv_iload_n hx hb dX5_added_16 rfl (lv_at hl 0 rfl) ?_
    have hq := Option.some.inj hf
    exact sg_ti hx hb hr rfl hP hD hS dX5_added_17 hq hlocks (by decide) (by decide)
  · have hf := sg_ip c1 hf
    have hq := Option.some.inj hf
    exact sg_throwW (cls := "java/lang/IllegalStateException") (text := "there is no room for one more") (k := 0) hx hb hlt hown hts hT hP hD hS (hl.1.trans hml.symm) htab hlocks (by decide +kernel) (by decide +kernel) (by decide +kernel) (by decide +kernel) (by decide +kernel) (by decide +kernel) (by decide +kernel) dX5_added_5 dX5_added_8 dX5_added_9 dX5_added_12 dX5_added_15 ⟨Nat.le_of_ble_eq_true rfl, Nat.le_of_ble_eq_true rfl, Nat.le_of_ble_eq_true rfl, Nat.le_of_ble_eq_true rfl, by decide, by decide⟩ (by decide +kernel) hq
