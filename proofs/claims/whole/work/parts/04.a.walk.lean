def fJ6_bitCount_0f7a4 (N : Nat) (p0 : Int32) : Option Int32 :=
  sg_l (p0 - ((((p0).toUInt32 >>> ((1 : Int32).toUInt32 &&& Int32.toUInt32 31)).toInt32) &&& 1431655765)) (fun x1 => sg_l ((x1 &&& 858993459) + ((((x1).toUInt32 >>> ((2 : Int32).toUInt32 &&& Int32.toUInt32 31)).toInt32) &&& 858993459)) (fun x2 => sg_l ((x2 + (((x2).toUInt32 >>> ((4 : Int32).toUInt32 &&& Int32.toUInt32 31)).toInt32)) &&& 252645135) (fun x3 => sg_l (x3 + (((x3).toUInt32 >>> ((8 : Int32).toUInt32 &&& Int32.toUInt32 31)).toInt32)) (fun x4 => sg_l (x4 + (((x4).toUInt32 >>> ((16 : Int32).toUInt32 &&& Int32.toUInt32 31)).toInt32)) (fun x5 => some (x5 &&& 63))))))
set_option maxRecDepth 100000 in
set_option maxHeartbeats 4000000 in
theorem c_J6_bitCount_0f7a4 (l : Launch) (D : va_G) (cA : Nat → ClassId) (N : Nat) (p0 : Int32) (r : Int32) (hf : fJ6_bitCount_0f7a4 N p0 = some r) : sg_CI l D cA (sg_W0) yJ6_bitCount_0f7a4 wsJ6_bitCount_0f7a4 ({ frames := 0, cells := 0, slots := 0, locals := 0 }) [.int p0] sg_u0 r sg_u0 := by
  intro sz
  refine Met.ofW (cc := cJ6_bitCount_0f7a4) (maxL := 1) (ret := (some .int)) (by decide) rfl ?_
  intro p e s m args below meth c s₁ B hml hv
  obtain ⟨rfl, hsz, hP, hK, hD0⟩ := hv
  have hx := B.exec
  have hb := B.bytes
  have hr := B.returns
  have hts := atoms_spec (ws := wsJ6_bitCount_0f7a4) B.pre
  have hown : s.vm.findClass RJ6 = some m.cls := findClass_of_methodNamed B.named
  have hlocks := B.notSynchronized
  subst hsz
  have hD := hD0.self (sz := s.heap.size)
  generalize hAe : va_A (sg_W0 sg_u0) s.heap.size = A at hD ⊢
  have hA : ∀ q : Nat, s.heap.size ≤ q → A q := fun q h => by rw [← hAe]; exact Or.inr h
  have hS : va_S A s.heap s.heap [] := va_S.rf
  have hl := lv_entry ([.int p0]) (n := 1) (Nat.le_of_ble_eq_true rfl)
  rw [lg_entry_eq]
  generalize (lg_sl ([.int p0]) ++ List.replicate (1 - (lg_sl ([.int p0])).length) Slot.unset).toArray = ls at hl ⊢
  replace hl : lv_has ls 1 [(0, .int p0)] := hl
  unfold fJ6_bitCount_0f7a4 at hf
  refine lv_iload_n hx hb dJ6_bitCount_0f7a4_0 rfl (lv_at hl 0 rfl) ?_
  refine lv_iload_n hx hb dJ6_bitCount_0f7a4_1 rfl (lv_at hl 0 rfl) ?_
  refine lv_iconst (v := 1) hx hb dJ6_bitCount_0f7a4_2 (by decide) ?_
  refine lv_iushr (v := ((p0).toUInt32 >>> ((1 : Int32).toUInt32 &&& Int32.toUInt32 31)).toInt32) hx hb dJ6_bitCount_0f7a4_3 rfl ?_
  refine lv_ldcw (v := 1431655765) hx hb hown (hts (.constant RJ6 265 (1431655765)) (by decide +kernel)) dJ6_bitCount_0f7a4_4 ?_
  refine lv_iand hx hb dJ6_bitCount_0f7a4_7 ?_
  refine lv_isub hx hb dJ6_bitCount_0f7a4_8 ?_
  refine lv_topi (fun x1 ex1 => ?_)
  have hf := sg_l_s ex1 hf
  refine lv_istore_n (lv' := [(0, .int x1)]) hx hb dJ6_bitCount_0f7a4_9 rfl hl (by decide) rfl (fun ls hl => ?_)
  refine lv_iload_n hx hb dJ6_bitCount_0f7a4_10 rfl (lv_at hl 0 rfl) ?_
  refine lv_ldcw (v := 858993459) hx hb hown (hts (.constant RJ6 266 (858993459)) (by decide +kernel)) dJ6_bitCount_0f7a4_11 ?_
  refine lv_iand hx hb dJ6_bitCount_0f7a4_14 ?_
  refine lv_iload_n hx hb dJ6_bitCount_0f7a4_15 rfl (lv_at hl 0 rfl) ?_
  refine lv_iconst (v := 2) hx hb dJ6_bitCount_0f7a4_16 (by decide) ?_
  refine lv_iushr (v := ((x1).toUInt32 >>> ((2 : Int32).toUInt32 &&& Int32.toUInt32 31)).toInt32) hx hb dJ6_bitCount_0f7a4_17 rfl ?_
  refine lv_ldcw (v := 858993459) hx hb hown (hts (.constant RJ6 266 (858993459)) (by decide +kernel)) dJ6_bitCount_0f7a4_18 ?_
  refine lv_iand hx hb dJ6_bitCount_0f7a4_21 ?_
  refine lv_iadd hx hb dJ6_bitCount_0f7a4_22 ?_
  refine lv_topi (fun x2 ex2 => ?_)
  have hf := sg_l_s ex2 hf
  refine lv_istore_n (lv' := [(0, .int x2)]) hx hb dJ6_bitCount_0f7a4_23 rfl hl (by decide) rfl (fun ls hl => ?_)
  refine lv_iload_n hx hb dJ6_bitCount_0f7a4_24 rfl (lv_at hl 0 rfl) ?_
  refine lv_iload_n hx hb dJ6_bitCount_0f7a4_25 rfl (lv_at hl 0 rfl) ?_
  refine lv_iconst (v := 4) hx hb dJ6_bitCount_0f7a4_26 (by decide) ?_
  refine lv_iushr (v := ((x2).toUInt32 >>> ((4 : Int32).toUInt32 &&& Int32.toUInt32 31)).toInt32) hx hb dJ6_bitCount_0f7a4_27 rfl ?_
  refine lv_iadd hx hb dJ6_bitCount_0f7a4_28 ?_
  refine lv_ldcw (v := 252645135) hx hb hown (hts (.constant RJ6 267 (252645135)) (by decide +kernel)) dJ6_bitCount_0f7a4_29 ?_
  refine lv_iand hx hb dJ6_bitCount_0f7a4_32 ?_
  refine lv_topi (fun x3 ex3 => ?_)
  have hf := sg_l_s ex3 hf
  refine lv_istore_n (lv' := [(0, .int x3)]) hx hb dJ6_bitCount_0f7a4_33 rfl hl (by decide) rfl (fun ls hl => ?_)
  refine lv_iload_n hx hb dJ6_bitCount_0f7a4_34 rfl (lv_at hl 0 rfl) ?_
  refine lv_iload_n hx hb dJ6_bitCount_0f7a4_35 rfl (lv_at hl 0 rfl) ?_
  refine lv_bipush (v := 8) hx hb dJ6_bitCount_0f7a4_36 (by decide) ?_
  refine lv_iushr (v := ((x3).toUInt32 >>> ((8 : Int32).toUInt32 &&& Int32.toUInt32 31)).toInt32) hx hb dJ6_bitCount_0f7a4_38 rfl ?_
  refine lv_iadd hx hb dJ6_bitCount_0f7a4_39 ?_
  refine lv_topi (fun x4 ex4 => ?_)
  have hf := sg_l_s ex4 hf
  refine lv_istore_n (lv' := [(0, .int x4)]) hx hb dJ6_bitCount_0f7a4_40 rfl hl (by decide) rfl (fun ls hl => ?_)
  refine lv_iload_n hx hb dJ6_bitCount_0f7a4_41 rfl (lv_at hl 0 rfl) ?_
  refine lv_iload_n hx hb dJ6_bitCount_0f7a4_42 rfl (lv_at hl 0 rfl) ?_
  refine lv_bipush (v := 16) hx hb dJ6_bitCount_0f7a4_43 (by decide) ?_
  refine lv_iushr (v := ((x4).toUInt32 >>> ((16 : Int32).toUInt32 &&& Int32.toUInt32 31)).toInt32) hx hb dJ6_bitCount_0f7a4_45 rfl ?_
  refine lv_iadd hx hb dJ6_bitCount_0f7a4_46 ?_
  refine lv_topi (fun x5 ex5 => ?_)
  have hf := sg_l_s ex5 hf
  refine lv_istore_n (lv' := [(0, .int x5)]) hx hb dJ6_bitCount_0f7a4_47 rfl hl (by decide) rfl (fun ls hl => ?_)
  refine lv_iload_n hx hb dJ6_bitCount_0f7a4_48 rfl (lv_at hl 0 rfl) ?_
  refine lv_bipush (v := 63) hx hb dJ6_bitCount_0f7a4_49 (by decide) ?_
  refine lv_iand hx hb dJ6_bitCount_0f7a4_51 ?_
  have hq := Option.some.inj hf
  exact sg_iret hx hb hr hP hD hS dJ6_bitCount_0f7a4_52 hq rfl hlocks
def fX5_has (N : Nat) (p0 p1 : Int32) : Option Int32 :=
  (if ((p0 >>> (p1 &&& 31)) &&& 1) = 0 then some 0 else some 1)
set_option maxRecDepth 100000 in
set_option maxHeartbeats 4000000 in
theorem c_X5_has (l : Launch) (D : va_G) (cA : Nat → ClassId) (N : Nat) (p0 p1 : Int32) (r : Int32) (hf : fX5_has N p0 p1 = some r) : sg_CI l D cA (sg_W0) yX5_has wsX5_has ({ frames := 0, cells := 0, slots := 0, locals := 0 }) [.int p0, .int p1] sg_u0 r sg_u0 := by
  intro sz
  refine Met.ofW (cc := cX5_has) (maxL := 2) (ret := (some .boolean)) (by decide) rfl ?_
  intro p e s m args below meth c s₁ B hml hv
  obtain ⟨rfl, hsz, hP, hK, hD0⟩ := hv
  have hx := B.exec
  have hb := B.bytes
  have hr := B.returns
  have hts := atoms_spec (ws := wsX5_has) B.pre
  have hown : s.vm.findClass RX5 = some m.cls := findClass_of_methodNamed B.named
  have hlocks := B.notSynchronized
  subst hsz
  have hD := hD0.self (sz := s.heap.size)
  generalize hAe : va_A (sg_W0 sg_u0) s.heap.size = A at hD ⊢
  have hA : ∀ q : Nat, s.heap.size ≤ q → A q := fun q h => by rw [← hAe]; exact Or.inr h
  have hS : va_S A s.heap s.heap [] := va_S.rf
  have hl := lv_entry ([.int p0, .int p1]) (n := 2) (Nat.le_of_ble_eq_true rfl)
  rw [lg_entry_eq]
  generalize (lg_sl ([.int p0, .int p1]) ++ List.replicate (2 - (lg_sl ([.int p0, .int p1])).length) Slot.unset).toArray = ls at hl ⊢
  replace hl : lv_has ls 2 [(0, .int p0), (1, .int p1)] := hl
  unfold fX5_has at hf
  refine lv_iload_n hx hb dX5_has_0 rfl (lv_at hl 0 rfl) ?_
  refine lv_iload_n hx hb dX5_has_1 rfl (lv_at hl 1 rfl) ?_
  refine lv_ishr hx hb dX5_has_2 ?_
  refine lv_iconst (v := 1) hx hb dX5_has_3 (by decide) ?_
  refine lv_iand hx hb dX5_has_4 ?_
  refine lv_if_eq (tgt := 12) hx hb dX5_has_5 (by decide) (fun c1 => ?_) (fun c1 => ?_)
  · have hf := sg_ip c1 hf
    refine lv_iconst (v := 0) hx hb dX5_has_12 (by decide) ?_
    have hq := Option.some.inj hf
    exact sg_zret hx hb hr rfl hP hD hS dX5_has_13 hq rfl hlocks
  · have hf := sg_in c1 hf
    refine lv_iconst (v := 1) hx hb dX5_has_8 (by decide) ?_
    refine lv_goto (tgt := 13) hx hb dX5_has_9 (by decide) ?_
    have hq := Option.some.inj hf
    exact sg_zret hx hb hr rfl hP hD hS dX5_has_13 hq rfl hlocks
def fX5_bit (N : Nat) (p0 : Int32) : Option Int32 :=
  some ((1 : Int32) <<< (p0 &&& 31))
set_option maxRecDepth 100000 in
set_option maxHeartbeats 4000000 in
theorem c_X5_bit (l : Launch) (D : va_G) (cA : Nat → ClassId) (N : Nat) (p0 : Int32) (r : Int32) (hf : fX5_bit N p0 = some r) : sg_CI l D cA (sg_W0) yX5_bit wsX5_bit ({ frames := 0, cells := 0, slots := 0, locals := 0 }) [.int p0] sg_u0 r sg_u0 := by
  intro sz
  refine Met.ofW (cc := cX5_bit) (maxL := 1) (ret := (some .int)) (by decide) rfl ?_
  intro p e s m args below meth c s₁ B hml hv
  obtain ⟨rfl, hsz, hP, hK, hD0⟩ := hv
  have hx := B.exec
  have hb := B.bytes
  have hr := B.returns
  have hts := atoms_spec (ws := wsX5_bit) B.pre
  have hown : s.vm.findClass RX5 = some m.cls := findClass_of_methodNamed B.named
  have hlocks := B.notSynchronized
  subst hsz
  have hD := hD0.self (sz := s.heap.size)
  generalize hAe : va_A (sg_W0 sg_u0) s.heap.size = A at hD ⊢
  have hA : ∀ q : Nat, s.heap.size ≤ q → A q := fun q h => by rw [← hAe]; exact Or.inr h
  have hS : va_S A s.heap s.heap [] := va_S.rf
  have hl := lv_entry ([.int p0]) (n := 1) (Nat.le_of_ble_eq_true rfl)
  rw [lg_entry_eq]
  generalize (lg_sl ([.int p0]) ++ List.replicate (1 - (lg_sl ([.int p0])).length) Slot.unset).toArray = ls at hl ⊢
  replace hl : lv_has ls 1 [(0, .int p0)] := hl
  unfold fX5_bit at hf
  refine lv_iconst (v := 1) hx hb dX5_bit_0 (by decide) ?_
  refine lv_iload_n hx hb dX5_bit_1 rfl (lv_at hl 0 rfl) ?_
  refine lv_ishl hx hb dX5_bit_2 ?_
  have hq := Option.some.inj hf
  exact sg_iret hx hb hr hP hD hS dX5_bit_3 hq rfl hlocks
def fX5_memberAt_L4 (N : Nat) (v0 v1 v2 v3 : Int32) : Option ((Int32 × Int32) ⊕ (Int32)) :=
  (if 12 ≤ v3 then some (.inr ((-1))) else (if ((v0 >>> (v3 &&& 31)) &&& 1) = 0 then some (.inl (v2, v3 + 1)) else (if v2 = v1 then some (.inr v3) else some (.inl (v2 + 1, v3 + 1)))))
def fX5_memberAt (N : Nat) (p0 p1 : Int32) : Option Int32 :=
  sg_it (fun x => fX5_memberAt_L4 N p0 p1 x.1 x.2) N (0, 0)
set_option maxRecDepth 100000 in
set_option maxHeartbeats 4000000 in
theorem c_X5_memberAt (l : Launch) (D : va_G) (cA : Nat → ClassId) (N : Nat) (p0 p1 : Int32) (r : Int32) (hf : fX5_memberAt N p0 p1 = some r) : sg_CI l D cA (sg_W0) yX5_memberAt wsX5_memberAt ({ frames := 0, cells := 0, slots := 0, locals := 0 }) [.int p0, .int p1] sg_u0 r sg_u0 := by
  intro sz
  refine Met.ofW (cc := cX5_memberAt) (maxL := 4) (ret := (some .int)) (by decide) rfl ?_
  intro p e s m args below meth c s₁ B hml hv
  obtain ⟨rfl, hsz, hP, hK, hD0⟩ := hv
  have hx := B.exec
  have hb := B.bytes
  have hr := B.returns
  have hts := atoms_spec (ws := wsX5_memberAt) B.pre
  have hown : s.vm.findClass RX5 = some m.cls := findClass_of_methodNamed B.named
  have hlocks := B.notSynchronized
  subst hsz
  have hD := hD0.self (sz := s.heap.size)
  generalize hAe : va_A (sg_W0 sg_u0) s.heap.size = A at hD ⊢
  have hA : ∀ q : Nat, s.heap.size ≤ q → A q := fun q h => by rw [← hAe]; exact Or.inr h
  have hS : va_S A s.heap s.heap [] := va_S.rf
  have hl := lv_entry ([.int p0, .int p1]) (n := 4) (Nat.le_of_ble_eq_true rfl)
  rw [lg_entry_eq]
  generalize (lg_sl ([.int p0, .int p1]) ++ List.replicate (4 - (lg_sl ([.int p0, .int p1])).length) Slot.unset).toArray = ls at hl ⊢
  replace hl : lv_has ls 4 [(0, .int p0), (1, .int p1)] := hl
  have hL4 : ∀ (v0 v1 : Int32) (n : Nat) (x : Int32 × Int32) (r9 : Int32), sg_it (fun x => fX5_memberAt_L4 N v0 v1 x.1 x.2) n x = some r9 → r9 = r → ∀ (H : Heap) (locs : List Loc) (ls : Array Slot), va_P D vwCl (sg_W0 sg_u0) H → va_D A (sg_W0 sg_u0) → va_S A s.heap H locs → lv_has ls 4 [(0, .int v0), (1, .int v1), (2, .int x.1), (3, .int x.2)] → W p l e (headSpec wsX5_memberAt ({ frames := 0, cells := 0, slots := 0, locals := 0 })).room s m ([.int p0, .int p1] : List Value).toArray below meth c H locs 0 0 (MQ below (va_Qi (fun x y => x = r ∧ y = sg_u0) (sg_BX D (sg_W0) A) A) ([.int p0, .int p1] : List Value).toArray s 0 0 A) (F0 m 4 ls []) := by
    intro v0 v1
    refine sg_loop _ ?_
    intro x y r9 hf hI hy hr9 H locs ls hP hD hS hl
    replace hf : fX5_memberAt_L4 N v0 v1 x.1 x.2 = some y := hf
    unfold fX5_memberAt_L4 at hf
    refine lv_iload_n hx hb dX5_memberAt_4 rfl (lv_at hl 3 rfl) ?_
    refine lv_bipush (v := 12) hx hb dX5_memberAt_5 (by decide) ?_
    refine lv_icmp_ge (tgt := 34) hx hb dX5_memberAt_7 (by decide) (fun c3 => ?_) (fun c3 => ?_)
    · have hf := sg_ip c3 hf
      refine lv_iconst (v := (-1)) hx hb dX5_memberAt_34 (by decide) ?_
      have hq := (hy _ (Option.some.inj hf).symm).trans hr9
      exact sg_iret hx hb hr hP hD hS dX5_memberAt_35 hq rfl hlocks
    · have hf := sg_in c3 hf
      refine lv_iload_n hx hb dX5_memberAt_10 rfl (lv_at hl 0 rfl) ?_
      refine lv_iload_n hx hb dX5_memberAt_11 rfl (lv_at hl 3 rfl) ?_
      refine lv_ishr hx hb dX5_memberAt_12 ?_
      refine lv_iconst (v := 1) hx hb dX5_memberAt_13 (by decide) ?_
      refine lv_iand hx hb dX5_memberAt_14 ?_
      refine lv_if_eq (tgt := 28) hx hb dX5_memberAt_15 (by decide) (fun c2 => ?_) (fun c2 => ?_)
      · have hf := sg_ip c2 hf
        refine lv_iinc (v := x.2 + 1) (lv' := [(3, .int (x.2 + 1)), (0, .int v0), (1, .int v1), (2, .int x.1)]) hx hb dX5_memberAt_28 hl (k := 3) rfl rfl (by decide) rfl (fun ls hl => ?_)
        refine lv_goto (tgt := 4) hx hb dX5_memberAt_31 (by decide) ?_
        exact hI _ (Option.some.inj hf).symm hr9 _ _ _ hP hD hS (lv_sub hl [1, 2, 3, 0] rfl)
      · have hf := sg_in c2 hf
        refine lv_iload_n hx hb dX5_memberAt_18 rfl (lv_at hl 2 rfl) ?_
        refine lv_iload_n hx hb dX5_memberAt_19 rfl (lv_at hl 1 rfl) ?_
        refine lv_icmp_ne (tgt := 25) hx hb dX5_memberAt_20 (by decide) (fun c1 => ?_) (fun c1 => ?_)
        · have hf := sg_in c1 hf
          refine lv_iinc (v := x.1 + 1) (lv' := [(2, .int (x.1 + 1)), (0, .int v0), (1, .int v1), (3, .int x.2)]) hx hb dX5_memberAt_25 hl (k := 2) rfl rfl (by decide) rfl (fun ls hl => ?_)
          refine lv_iinc (v := x.2 + 1) (lv' := [(3, .int (x.2 + 1)), (2, .int (x.1 + 1)), (0, .int v0), (1, .int v1)]) hx hb dX5_memberAt_28 hl (k := 3) rfl rfl (by decide) rfl (fun ls hl => ?_)
          refine lv_goto (tgt := 4) hx hb dX5_memberAt_31 (by decide) ?_
          exact hI _ (Option.some.inj hf).symm hr9 _ _ _ hP hD hS (lv_sub hl [2, 3, 1, 0] rfl)
        · have hf := sg_ip c1 hf
          refine lv_iload_n hx hb dX5_memberAt_23 rfl (lv_at hl 3 rfl) ?_
          have hq := (hy _ (Option.some.inj hf).symm).trans hr9
          exact sg_iret hx hb hr hP hD hS dX5_memberAt_24 hq rfl hlocks
  unfold fX5_memberAt at hf
  refine lv_iconst (v := 0) hx hb dX5_memberAt_0 (by decide) ?_
  refine lv_istore_n (lv' := [(2, .int 0), (0, .int p0), (1, .int p1)]) hx hb dX5_memberAt_1 rfl hl (by decide) rfl (fun ls hl => ?_)
  refine lv_iconst (v := 0) hx hb dX5_memberAt_2 (by decide) ?_
  refine lv_istore_n (lv' := [(3, .int 0), (2, .int 0), (0, .int p0), (1, .int p1)]) hx hb dX5_memberAt_3 rfl hl (by decide) rfl (fun ls hl => ?_)
  exact hL4 _ _ _ _ _ hf rfl _ _ _ hP hD hS (lv_sub hl [2, 3, 1, 0] rfl)
def fX5_lowestIn (N : Nat) (p0 : Int32) : Option Int32 :=
  sg_b (fX5_memberAt N p0 0) (fun r2 => some r2)
set_option maxRecDepth 100000 in
set_option maxHeartbeats 4000000 in
theorem c_X5_lowestIn (l : Launch) (D : va_G) (cA : Nat → ClassId) (N : Nat) (p0 : Int32) (r : Int32) (hf : fX5_lowestIn N p0 = some r) : sg_CI l D cA (sg_W0) yX5_lowestIn wsX5_lowestIn ({ frames := 1, cells := 0, slots := 0, locals := 23 }) [.int p0] sg_u0 r sg_u0 := by
  intro sz
  refine Met.ofW (cc := cX5_lowestIn) (maxL := 1) (ret := (some .int)) (by decide) rfl ?_
  intro p e s m args below meth c s₁ B hml hv
  obtain ⟨rfl, hsz, hP, hK, hD0⟩ := hv
  have hx := B.exec
  have hb := B.bytes
  have hr := B.returns
  have hts := atoms_spec (ws := wsX5_lowestIn) B.pre
  have hown : s.vm.findClass RX5 = some m.cls := findClass_of_methodNamed B.named
  have hlocks := B.notSynchronized
  subst hsz
  have hD := hD0.self (sz := s.heap.size)
  generalize hAe : va_A (sg_W0 sg_u0) s.heap.size = A at hD ⊢
  have hA : ∀ q : Nat, s.heap.size ≤ q → A q := fun q h => by rw [← hAe]; exact Or.inr h
  have hS : va_S A s.heap s.heap [] := va_S.rf
  have hl := lv_entry ([.int p0]) (n := 1) (Nat.le_of_ble_eq_true rfl)
  rw [lg_entry_eq]
  generalize (lg_sl ([.int p0]) ++ List.replicate (1 - (lg_sl ([.int p0])).length) Slot.unset).toArray = ls at hl ⊢
  replace hl : lv_has ls 1 [(0, .int p0)] := hl
  unfold fX5_lowestIn at hf
  refine lv_iload_n hx hb dX5_lowestIn_0 rfl (lv_at hl 0 rfl) ?_
  refine lv_iconst (v := 0) hx hb dX5_lowestIn_1 (by decide) ?_
  obtain ⟨r2, hc1, hf⟩ := sg_b_s hf
  refine sg_ci0 (va_runS (As := [.int p0, .int 0]) (rest := []) ⟨hx, hb, hml, hown, hts⟩ (c_X5_memberAt l D cA N _ _ _ hc1 _) (va_cwS 2 hts gX5_lowestIn_X5_memberAt rfl rfl rfl (by decide +kernel) ⟨Nat.le_of_ble_eq_true rfl, Nat.le_of_ble_eq_true rfl⟩) (sg_pre0 hK) rfl rfl hl.1 rfl (lv_room (Nat.le_of_ble_eq_true rfl)) dX5_lowestIn_2 ⟨Nat.zero_le _, Nat.zero_le _⟩) hP hS hA (fun H locs hP hS => ?_)
  have hq := Option.some.inj hf
  exact sg_iret hx hb hr hP hD hS dX5_lowestIn_5 hq rfl hlocks
def fX1_isNode_j16 (N : Nat) (u : sg_St) : Option (Int32) :=
  some 0
def fX1_isNode (N : Nat) (u : sg_St) (p1 : Int32) : Option Int32 :=
  (if p1 < 0 then fX1_isNode_j16 N u else (if (u 0 0) ≤ p1 then fX1_isNode_j16 N u else some 1))
set_option maxRecDepth 100000 in
set_option maxHeartbeats 4000000 in
theorem c_X1_isNode (l : Launch) (D : va_G) (cA : Nat → ClassId) (ad : Nat → Nat) (N : Nat) (u : sg_St) (p1 : Int32) (r : Int32) (hf : fX1_isNode N u p1 = some r) : sg_CI l D cA (sg_WX cA ad) yX1_isNode wsX1_isNode ({ frames := 0, cells := 0, slots := 0, locals := 0 }) [.ref (ad 1), .int p1] u r u := by
  intro sz
  refine Met.ofW (cc := cX1_isNode) (maxL := 2) (ret := (some .boolean)) (by decide) rfl ?_
  intro p e s m args below meth c s₁ B hml hv
  obtain ⟨rfl, hsz, hP, hK, hD0⟩ := hv
  have hx := B.exec
  have hb := B.bytes
  have hr := B.returns
  have hts := atoms_spec (ws := wsX1_isNode) B.pre
  have hown : s.vm.findClass RX1 = some m.cls := findClass_of_methodNamed B.named
  have hlocks := B.notSynchronized
  subst hsz
  have hD := hD0.self (sz := s.heap.size)
  generalize hAe : va_A (sg_WX cA ad u) s.heap.size = A at hD ⊢
  have hA : ∀ q : Nat, s.heap.size ≤ q → A q := fun q h => by rw [← hAe]; exact Or.inr h
  have hS : va_S A s.heap s.heap [] := va_S.rf
  have hl := lv_entry ([.ref (ad 1), .int p1]) (n := 2) (Nat.le_of_ble_eq_true rfl)
  rw [lg_entry_eq]
  generalize (lg_sl ([.ref (ad 1), .int p1]) ++ List.replicate (2 - (lg_sl ([.ref (ad 1), .int p1])).length) Slot.unset).toArray = ls at hl ⊢
  replace hl : lv_has ls 2 [(0, .ref (ad 1)), (1, .int p1)] := hl
  have hinX1 : ∀ w ∈ u_ws RX1 TX1 10, w ∈ wsX1_isNode := by decide +kernel
  have hJ16 : ∀ (H : Heap) (locs : List Loc) (ls : Array Slot), fX1_isNode_j16 N u  = some r → va_P D vwCl (sg_WX cA ad u) H → va_D A (sg_WX cA ad u) → va_S A s.heap H locs → lv_has ls 2 [(0, .ref (ad 1))] → W p l e (headSpec wsX1_isNode ({ frames := 0, cells := 0, slots := 0, locals := 0 })).room s m ([.ref (ad 1), .int p1] : List Value).toArray below meth c H locs 0 0 (MQ below (va_Qi (fun x y => x = r ∧ y = u) (sg_BX D (sg_WX cA ad) A) A) ([.ref (ad 1), .int p1] : List Value).toArray s 0 0 A) (F0 m 16 ls []) := by
    intro H locs ls hf hP hD hS hl
    unfold fX1_isNode_j16 at hf
    refine lv_iconst (v := 0) hx hb dX1_isNode_16 (by decide) ?_
    have hq := Option.some.inj hf
    exact sg_zret hx hb hr rfl hP hD hS dX1_isNode_17 hq rfl hlocks
  unfold fX1_isNode at hf
  refine lv_iload_n hx hb dX1_isNode_0 rfl (lv_at hl 1 rfl) ?_
  refine lv_if_lt (tgt := 16) hx hb dX1_isNode_1 (by decide) (fun c2 => ?_) (fun c2 => ?_)
  · have hf := sg_ip c2 hf
    exact hJ16 _ _ _ hf hP hD hS (lv_sub hl [0] rfl)
  · have hf := sg_in c2 hf
    refine lv_iload_n hx hb dX1_isNode_4 rfl (lv_at hl 1 rfl) ?_
    refine lv_aload_n hx hb dX1_isNode_5 rfl (lv_at hl 0 rfl) ?_
    refine va_get (D := D) (ci := 3) (C := RX1) (T := TX1) (N := 10) hx hb hts hinX1 hown hK.1 hP 1 rfl rfl 6 (by decide) (hts (.fieldLink RX1 30 "Switchgear$Grid" "nodeCount" "I") (by decide +kernel)) (fun _ h9 => h9) rfl dX1_isNode_6 ?_
    refine lv_icmp_ge (tgt := 16) hx hb dX1_isNode_9 (by decide) (fun c1 => ?_) (fun c1 => ?_)
    · have hf := sg_ip c1 hf
      exact hJ16 _ _ _ hf hP hD hS (lv_sub hl [0] rfl)
    · have hf := sg_in c1 hf
      refine lv_iconst (v := 1) hx hb dX1_isNode_12 (by decide) ?_
      refine lv_goto (tgt := 17) hx hb dX1_isNode_13 (by decide) ?_
      have hq := Option.some.inj hf
      exact sg_zret hx hb hr rfl hP hD hS dX1_isNode_17 hq rfl hlocks
def fX1_isLine_j16 (N : Nat) (u : sg_St) : Option (Int32) :=
  some 0
def fX1_isLine (N : Nat) (u : sg_St) (p1 : Int32) : Option Int32 :=
  (if p1 < 0 then fX1_isLine_j16 N u else (if (u 1 0) ≤ p1 then fX1_isLine_j16 N u else some 1))
set_option maxRecDepth 100000 in
set_option maxHeartbeats 4000000 in
theorem c_X1_isLine (l : Launch) (D : va_G) (cA : Nat → ClassId) (ad : Nat → Nat) (N : Nat) (u : sg_St) (p1 : Int32) (r : Int32) (hf : fX1_isLine N u p1 = some r) : sg_CI l D cA (sg_WX cA ad) yX1_isLine wsX1_isLine ({ frames := 0, cells := 0, slots := 0, locals := 0 }) [.ref (ad 1), .int p1] u r u := by
  intro sz
  refine Met.ofW (cc := cX1_isLine) (maxL := 2) (ret := (some .boolean)) (by decide) rfl ?_
  intro p e s m args below meth c s₁ B hml hv
  obtain ⟨rfl, hsz, hP, hK, hD0⟩ := hv
  have hx := B.exec
  have hb := B.bytes
  have hr := B.returns
  have hts := atoms_spec (ws := wsX1_isLine) B.pre
  have hown : s.vm.findClass RX1 = some m.cls := findClass_of_methodNamed B.named
  have hlocks := B.notSynchronized
  subst hsz
  have hD := hD0.self (sz := s.heap.size)
  generalize hAe : va_A (sg_WX cA ad u) s.heap.size = A at hD ⊢
  have hA : ∀ q : Nat, s.heap.size ≤ q → A q := fun q h => by rw [← hAe]; exact Or.inr h
  have hS : va_S A s.heap s.heap [] := va_S.rf
  have hl := lv_entry ([.ref (ad 1), .int p1]) (n := 2) (Nat.le_of_ble_eq_true rfl)
  rw [lg_entry_eq]
  generalize (lg_sl ([.ref (ad 1), .int p1]) ++ List.replicate (2 - (lg_sl ([.ref (ad 1), .int p1])).length) Slot.unset).toArray = ls at hl ⊢
  replace hl : lv_has ls 2 [(0, .ref (ad 1)), (1, .int p1)] := hl
  have hinX1 : ∀ w ∈ u_ws RX1 TX1 10, w ∈ wsX1_isLine := by decide +kernel
  have hJ16 : ∀ (H : Heap) (locs : List Loc) (ls : Array Slot), fX1_isLine_j16 N u  = some r → va_P D vwCl (sg_WX cA ad u) H → va_D A (sg_WX cA ad u) → va_S A s.heap H locs → lv_has ls 2 [(0, .ref (ad 1))] → W p l e (headSpec wsX1_isLine ({ frames := 0, cells := 0, slots := 0, locals := 0 })).room s m ([.ref (ad 1), .int p1] : List Value).toArray below meth c H locs 0 0 (MQ below (va_Qi (fun x y => x = r ∧ y = u) (sg_BX D (sg_WX cA ad) A) A) ([.ref (ad 1), .int p1] : List Value).toArray s 0 0 A) (F0 m 16 ls []) := by
    intro H locs ls hf hP hD hS hl
    unfold fX1_isLine_j16 at hf
    refine lv_iconst (v := 0) hx hb dX1_isLine_16 (by decide) ?_
    have hq := Option.some.inj hf
    exact sg_zret hx hb hr rfl hP hD hS dX1_isLine_17 hq rfl hlocks
  unfold fX1_isLine at hf
  refine lv_iload_n hx hb dX1_isLine_0 rfl (lv_at hl 1 rfl) ?_
  refine lv_if_lt (tgt := 16) hx hb dX1_isLine_1 (by decide) (fun c2 => ?_) (fun c2 => ?_)
  · have hf := sg_ip c2 hf
    exact hJ16 _ _ _ hf hP hD hS (lv_sub hl [0] rfl)
  · have hf := sg_in c2 hf
    refine lv_iload_n hx hb dX1_isLine_4 rfl (lv_at hl 1 rfl) ?_
    refine lv_aload_n hx hb dX1_isLine_5 rfl (lv_at hl 0 rfl) ?_
    refine va_get (D := D) (ci := 3) (C := RX1) (T := TX1) (N := 10) hx hb hts hinX1 hown hK.1 hP 1 rfl rfl 7 (by decide) (hts (.fieldLink RX1 41 "Switchgear$Grid" "lineCount" "I") (by decide +kernel)) (fun _ h9 => h9) rfl dX1_isLine_6 ?_
    refine lv_icmp_ge (tgt := 16) hx hb dX1_isLine_9 (by decide) (fun c1 => ?_) (fun c1 => ?_)
    · have hf := sg_ip c1 hf
      exact hJ16 _ _ _ hf hP hD hS (lv_sub hl [0] rfl)
    · have hf := sg_in c1 hf
      refine lv_iconst (v := 1) hx hb dX1_isLine_12 (by decide) ?_
      refine lv_goto (tgt := 17) hx hb dX1_isLine_13 (by decide) ?_
      have hq := Option.some.inj hf
      exact sg_zret hx hb hr rfl hP hD hS dX1_isLine_17 hq rfl hlocks
def fX1_loadAt_j21 (N : Nat) (u : sg_St) : Option (Int32) :=
  some 0
def fX1_loadAt (N : Nat) (u : sg_St) (p1 : Int32) : Option Int32 :=
  (if p1 < 0 then fX1_loadAt_j21 N u else (if (u 0 0) ≤ p1 then fX1_loadAt_j21 N u else sg_g (sg_inb p1 10) (some (u 12 (p1).toNatClampNeg))))
set_option maxRecDepth 100000 in
set_option maxHeartbeats 4000000 in
theorem c_X1_loadAt (l : Launch) (D : va_G) (cA : Nat → ClassId) (ad : Nat → Nat) (N : Nat) (u : sg_St) (p1 : Int32) (r : Int32) (hf : fX1_loadAt N u p1 = some r) : sg_CI l D cA (sg_WX cA ad) yX1_loadAt wsX1_loadAt ({ frames := 0, cells := 0, slots := 0, locals := 0 }) [.ref (ad 1), .int p1] u r u := by
  intro sz
  refine Met.ofW (cc := cX1_loadAt) (maxL := 2) (ret := (some .int)) (by decide) rfl ?_
  intro p e s m args below meth c s₁ B hml hv
  obtain ⟨rfl, hsz, hP, hK, hD0⟩ := hv
  have hx := B.exec
  have hb := B.bytes
  have hr := B.returns
  have hts := atoms_spec (ws := wsX1_loadAt) B.pre
  have hown : s.vm.findClass RX1 = some m.cls := findClass_of_methodNamed B.named
  have hlocks := B.notSynchronized
  subst hsz
  have hD := hD0.self (sz := s.heap.size)
  generalize hAe : va_A (sg_WX cA ad u) s.heap.size = A at hD ⊢
  have hA : ∀ q : Nat, s.heap.size ≤ q → A q := fun q h => by rw [← hAe]; exact Or.inr h
  have hS : va_S A s.heap s.heap [] := va_S.rf
  have hl := lv_entry ([.ref (ad 1), .int p1]) (n := 2) (Nat.le_of_ble_eq_true rfl)
  rw [lg_entry_eq]
  generalize (lg_sl ([.ref (ad 1), .int p1]) ++ List.replicate (2 - (lg_sl ([.ref (ad 1), .int p1])).length) Slot.unset).toArray = ls at hl ⊢
  replace hl : lv_has ls 2 [(0, .ref (ad 1)), (1, .int p1)] := hl
  have hinX1 : ∀ w ∈ u_ws RX1 TX1 10, w ∈ wsX1_loadAt := by decide +kernel
  have hJ21 : ∀ (H : Heap) (locs : List Loc) (ls : Array Slot), fX1_loadAt_j21 N u  = some r → va_P D vwCl (sg_WX cA ad u) H → va_D A (sg_WX cA ad u) → va_S A s.heap H locs → lv_has ls 2 [(0, .ref (ad 1))] → W p l e (headSpec wsX1_loadAt ({ frames := 0, cells := 0, slots := 0, locals := 0 })).room s m ([.ref (ad 1), .int p1] : List Value).toArray below meth c H locs 0 0 (MQ below (va_Qi (fun x y => x = r ∧ y = u) (sg_BX D (sg_WX cA ad) A) A) ([.ref (ad 1), .int p1] : List Value).toArray s 0 0 A) (F0 m 21 ls []) := by
    intro H locs ls hf hP hD hS hl
    unfold fX1_loadAt_j21 at hf
    refine lv_iconst (v := 0) hx hb dX1_loadAt_21 (by decide) ?_
    have hq := Option.some.inj hf
    exact sg_iret hx hb hr hP hD hS dX1_loadAt_22 hq rfl hlocks
  unfold fX1_loadAt at hf
  refine lv_iload_n hx hb dX1_loadAt_0 rfl (lv_at hl 1 rfl) ?_
  refine lv_if_lt (tgt := 21) hx hb dX1_loadAt_1 (by decide) (fun c3 => ?_) (fun c3 => ?_)
  · have hf := sg_ip c3 hf
    exact hJ21 _ _ _ hf hP hD hS (lv_sub hl [0] rfl)
  · have hf := sg_in c3 hf
    refine lv_iload_n hx hb dX1_loadAt_4 rfl (lv_at hl 1 rfl) ?_
    refine lv_aload_n hx hb dX1_loadAt_5 rfl (lv_at hl 0 rfl) ?_
    refine va_get (D := D) (ci := 3) (C := RX1) (T := TX1) (N := 10) hx hb hts hinX1 hown hK.1 hP 1 rfl rfl 6 (by decide) (hts (.fieldLink RX1 30 "Switchgear$Grid" "nodeCount" "I") (by decide +kernel)) (fun _ h9 => h9) rfl dX1_loadAt_6 ?_
    refine lv_icmp_ge (tgt := 21) hx hb dX1_loadAt_9 (by decide) (fun c2 => ?_) (fun c2 => ?_)
    · have hf := sg_ip c2 hf
      exact hJ21 _ _ _ hf hP hD hS (lv_sub hl [0] rfl)
    · have hf := sg_in c2 hf
      refine lv_aload_n hx hb dX1_loadAt_12 rfl (lv_at hl 0 rfl) ?_
      refine va_get (D := D) (ci := 3) (C := RX1) (T := TX1) (N := 10) hx hb hts hinX1 hown hK.1 hP 1 rfl rfl 1 (by decide) (hts (.fieldLink RX1 15 "Switchgear$Grid" "load" "[I") (by decide +kernel)) (fun _ h9 => h9) rfl dX1_loadAt_13 ?_
      refine lv_iload_n hx hb dX1_loadAt_16 rfl (lv_at hl 1 rfl) ?_
      obtain ⟨hg1, hf⟩ := sg_g_s hf
      refine va_iald hx hb hK.1 hP 7 0 rfl rfl (sg_inb_s hg1) dX1_loadAt_17 ?_
      refine lv_goto (tgt := 22) hx hb dX1_loadAt_18 (by decide) ?_
      have hq := Option.some.inj hf
      exact sg_iret hx hb hr hP hD hS dX1_loadAt_22 hq rfl hlocks
def fX1_acrossFrom (N : Nat) (u : sg_St) (p1 p2 : Int32) : Option Int32 :=
  (if p2 < 0 then some ((-1)) else (if p2 < (u 1 0) then sg_g (sg_inb p2 12) ((if (u 14 (p2).toNatClampNeg) = p1 then sg_g (sg_inb p2 12) (some (u 15 (p2).toNatClampNeg)) else sg_g (sg_inb p2 12) ((if (u 15 (p2).toNatClampNeg) = p1 then sg_g (sg_inb p2 12) (some (u 14 (p2).toNatClampNeg)) else some ((-1)))))) else some ((-1))))
set_option maxRecDepth 100000 in
set_option maxHeartbeats 4000000 in
theorem c_X1_acrossFrom (l : Launch) (D : va_G) (cA : Nat → ClassId) (ad : Nat → Nat) (N : Nat) (u : sg_St) (p1 p2 : Int32) (r : Int32) (hf : fX1_acrossFrom N u p1 p2 = some r) : sg_CI l D cA (sg_WX cA ad) yX1_acrossFrom wsX1_acrossFrom ({ frames := 0, cells := 0, slots := 0, locals := 0 }) [.ref (ad 1), .int p1, .int p2] u r u := by
  intro sz
  refine Met.ofW (cc := cX1_acrossFrom) (maxL := 3) (ret := (some .int)) (by decide) rfl ?_
  intro p e s m args below meth c s₁ B hml hv
  obtain ⟨rfl, hsz, hP, hK, hD0⟩ := hv
  have hx := B.exec
  have hb := B.bytes
  have hr := B.returns
  have hts := atoms_spec (ws := wsX1_acrossFrom) B.pre
  have hown : s.vm.findClass RX1 = some m.cls := findClass_of_methodNamed B.named
  have hlocks := B.notSynchronized
  subst hsz
  have hD := hD0.self (sz := s.heap.size)
  generalize hAe : va_A (sg_WX cA ad u) s.heap.size = A at hD ⊢
  have hA : ∀ q : Nat, s.heap.size ≤ q → A q := fun q h => by rw [← hAe]; exact Or.inr h
  have hS : va_S A s.heap s.heap [] := va_S.rf
  have hl := lv_entry ([.ref (ad 1), .int p1, .int p2]) (n := 3) (Nat.le_of_ble_eq_true rfl)
  rw [lg_entry_eq]
  generalize (lg_sl ([.ref (ad 1), .int p1, .int p2]) ++ List.replicate (3 - (lg_sl ([.ref (ad 1), .int p1, .int p2])).length) Slot.unset).toArray = ls at hl ⊢
  replace hl : lv_has ls 3 [(0, .ref (ad 1)), (1, .int p1), (2, .int p2)] := hl
  have hinX1 : ∀ w ∈ u_ws RX1 TX1 10, w ∈ wsX1_acrossFrom := by decide +kernel
  unfold fX1_acrossFrom at hf
  refine lv_iload_n hx hb dX1_acrossFrom_0 rfl (lv_at hl 2 rfl) ?_
  refine lv_if_lt (tgt := 12) hx hb dX1_acrossFrom_1 (by decide) (fun c8 => ?_) (fun c8 => ?_)
  · have hf := sg_ip c8 hf
    refine lv_iconst (v := (-1)) hx hb dX1_acrossFrom_12 (by decide) ?_
    have hq := Option.some.inj hf
    exact sg_iret hx hb hr hP hD hS dX1_acrossFrom_13 hq rfl hlocks
  · have hf := sg_in c8 hf
    refine lv_iload_n hx hb dX1_acrossFrom_4 rfl (lv_at hl 2 rfl) ?_
    refine lv_aload_n hx hb dX1_acrossFrom_5 rfl (lv_at hl 0 rfl) ?_
    refine va_get (D := D) (ci := 3) (C := RX1) (T := TX1) (N := 10) hx hb hts hinX1 hown hK.1 hP 1 rfl rfl 7 (by decide) (hts (.fieldLink RX1 41 "Switchgear$Grid" "lineCount" "I") (by decide +kernel)) (fun _ h9 => h9) rfl dX1_acrossFrom_6 ?_
    refine lv_icmp_lt (tgt := 14) hx hb dX1_acrossFrom_9 (by decide) (fun c7 => ?_) (fun c7 => ?_)
    · have hf := sg_ip c7 hf
      refine lv_aload_n hx hb dX1_acrossFrom_14 rfl (lv_at hl 0 rfl) ?_
      refine va_get (D := D) (ci := 3) (C := RX1) (T := TX1) (N := 10) hx hb hts hinX1 hown hK.1 hP 1 rfl rfl 3 (by decide) (hts (.fieldLink RX1 21 "Switchgear$Grid" "one" "[I") (by decide +kernel)) (fun _ h9 => h9) rfl dX1_acrossFrom_15 ?_
      refine lv_iload_n hx hb dX1_acrossFrom_18 rfl (lv_at hl 2 rfl) ?_
      obtain ⟨hg1, hf⟩ := sg_g_s hf
      refine va_iald hx hb hK.1 hP 9 0 rfl rfl (sg_inb_s hg1) dX1_acrossFrom_19 ?_
      refine lv_iload_n hx hb dX1_acrossFrom_20 rfl (lv_at hl 1 rfl) ?_
      refine lv_icmp_ne (tgt := 31) hx hb dX1_acrossFrom_21 (by decide) (fun c6 => ?_) (fun c6 => ?_)
      · have hf := sg_in c6 hf
        refine lv_aload_n hx hb dX1_acrossFrom_31 rfl (lv_at hl 0 rfl) ?_
        refine va_get (D := D) (ci := 3) (C := RX1) (T := TX1) (N := 10) hx hb hts hinX1 hown hK.1 hP 1 rfl rfl 4 (by decide) (hts (.fieldLink RX1 24 "Switchgear$Grid" "other" "[I") (by decide +kernel)) (fun _ h9 => h9) rfl dX1_acrossFrom_32 ?_
        refine lv_iload_n hx hb dX1_acrossFrom_35 rfl (lv_at hl 2 rfl) ?_
        obtain ⟨hg2, hf⟩ := sg_g_s hf
        refine va_iald hx hb hK.1 hP 10 0 rfl rfl (sg_inb_s hg2) dX1_acrossFrom_36 ?_
        refine lv_iload_n hx hb dX1_acrossFrom_37 rfl (lv_at hl 1 rfl) ?_
        refine lv_icmp_ne (tgt := 50) hx hb dX1_acrossFrom_38 (by decide) (fun c4 => ?_) (fun c4 => ?_)
        · have hf := sg_in c4 hf
          refine lv_iconst (v := (-1)) hx hb dX1_acrossFrom_50 (by decide) ?_
          have hq := Option.some.inj hf
          exact sg_iret hx hb hr hP hD hS dX1_acrossFrom_51 hq rfl hlocks
        · have hf := sg_ip c4 hf
          refine lv_aload_n hx hb dX1_acrossFrom_41 rfl (lv_at hl 0 rfl) ?_
          refine va_get (D := D) (ci := 3) (C := RX1) (T := TX1) (N := 10) hx hb hts hinX1 hown hK.1 hP 1 rfl rfl 3 (by decide) (hts (.fieldLink RX1 21 "Switchgear$Grid" "one" "[I") (by decide +kernel)) (fun _ h9 => h9) rfl dX1_acrossFrom_42 ?_
          refine lv_iload_n hx hb dX1_acrossFrom_45 rfl (lv_at hl 2 rfl) ?_
          obtain ⟨hg3, hf⟩ := sg_g_s hf
          refine va_iald hx hb hK.1 hP 9 0 rfl rfl (sg_inb_s hg3) dX1_acrossFrom_46 ?_
          refine lv_goto (tgt := 51) hx hb dX1_acrossFrom_47 (by decide) ?_
          have hq := Option.some.inj hf
          exact sg_iret hx hb hr hP hD hS dX1_acrossFrom_51 hq rfl hlocks
      · have hf := sg_ip c6 hf
        refine lv_aload_n hx hb dX1_acrossFrom_24 rfl (lv_at hl 0 rfl) ?_
        refine va_get (D := D) (ci := 3) (C := RX1) (T := TX1) (N := 10) hx hb hts hinX1 hown hK.1 hP 1 rfl rfl 4 (by decide) (hts (.fieldLink RX1 24 "Switchgear$Grid" "other" "[I") (by decide +kernel)) (fun _ h9 => h9) rfl dX1_acrossFrom_25 ?_
        refine lv_iload_n hx hb dX1_acrossFrom_28 rfl (lv_at hl 2 rfl) ?_
        obtain ⟨hg5, hf⟩ := sg_g_s hf
        refine va_iald hx hb hK.1 hP 10 0 rfl rfl (sg_inb_s hg5) dX1_acrossFrom_29 ?_
        have hq := Option.some.inj hf
        exact sg_iret hx hb hr hP hD hS dX1_acrossFrom_30 hq rfl hlocks
    · have hf := sg_in c7 hf
      refine lv_iconst (v := (-1)) hx hb dX1_acrossFrom_12 (by decide) ?_
      have hq := Option.some.inj hf
      exact sg_iret hx hb hr hP hD hS dX1_acrossFrom_13 hq rfl hlocks
def fX1_ratingAt (N : Nat) (u : sg_St) (p1 : Int32) : Option Int32 :=
  sg_b (fX1_isLine N u p1) (fun r2 => (if r2 = 0 then some 0 else sg_g (sg_inb p1 12) (some (u 16 (p1).toNatClampNeg))))
set_option maxRecDepth 100000 in
set_option maxHeartbeats 4000000 in
theorem c_X1_ratingAt (l : Launch) (D : va_G) (cA : Nat → ClassId) (ad : Nat → Nat) (N : Nat) (u : sg_St) (p1 : Int32) (r : Int32) (hf : fX1_ratingAt N u p1 = some r) : sg_CI l D cA (sg_WX cA ad) yX1_ratingAt wsX1_ratingAt ({ frames := 1, cells := 0, slots := 0, locals := 21 }) [.ref (ad 1), .int p1] u r u := by
  intro sz
  refine Met.ofW (cc := cX1_ratingAt) (maxL := 2) (ret := (some .int)) (by decide) rfl ?_
  intro p e s m args below meth c s₁ B hml hv
  obtain ⟨rfl, hsz, hP, hK, hD0⟩ := hv
  have hx := B.exec
  have hb := B.bytes
  have hr := B.returns
  have hts := atoms_spec (ws := wsX1_ratingAt) B.pre
  have hown : s.vm.findClass RX1 = some m.cls := findClass_of_methodNamed B.named
  have hlocks := B.notSynchronized
  subst hsz
  have hD := hD0.self (sz := s.heap.size)
  generalize hAe : va_A (sg_WX cA ad u) s.heap.size = A at hD ⊢
  have hA : ∀ q : Nat, s.heap.size ≤ q → A q := fun q h => by rw [← hAe]; exact Or.inr h
  have hS : va_S A s.heap s.heap [] := va_S.rf
  have hl := lv_entry ([.ref (ad 1), .int p1]) (n := 2) (Nat.le_of_ble_eq_true rfl)
  rw [lg_entry_eq]
  generalize (lg_sl ([.ref (ad 1), .int p1]) ++ List.replicate (2 - (lg_sl ([.ref (ad 1), .int p1])).length) Slot.unset).toArray = ls at hl ⊢
  replace hl : lv_has ls 2 [(0, .ref (ad 1)), (1, .int p1)] := hl
  have hinX1 : ∀ w ∈ u_ws RX1 TX1 10, w ∈ wsX1_ratingAt := by decide +kernel
  unfold fX1_ratingAt at hf
  refine lv_aload_n hx hb dX1_ratingAt_0 rfl (lv_at hl 0 rfl) ?_
  refine lv_iload_n hx hb dX1_ratingAt_1 rfl (lv_at hl 1 rfl) ?_
  obtain ⟨r2, hc1, hf⟩ := sg_b_s hf
  refine sg_ci (va_runV (As := [.int p1]) (rest := []) ⟨hx, hb, hml, hown, hts⟩ (c_X1_isLine l D cA ad N _ _ _ hc1 _) (cwV 1 hts gX1_ratingAt_X1_isLine rfl rfl rfl (by decide +kernel) ⟨Nat.le_of_ble_eq_true rfl, Nat.le_of_ble_eq_true rfl⟩) (sg_pre hK hP hD (ci := 3) (q0 := 1) rfl rfl) rfl rfl hl.1 rfl (lv_room (Nat.le_of_ble_eq_true rfl)) dX1_ratingAt_2 ⟨Nat.zero_le _, Nat.zero_le _⟩) hD hS hA (fun H locs hP hD hS => ?_)
  refine lv_if_eq (tgt := 17) hx hb dX1_ratingAt_5 (by decide) (fun c5 => ?_) (fun c5 => ?_)
  · have hf := sg_ip c5 hf
    refine lv_iconst (v := 0) hx hb dX1_ratingAt_17 (by decide) ?_
    have hq := Option.some.inj hf
    exact sg_iret hx hb hr hP hD hS dX1_ratingAt_18 hq rfl hlocks
  · have hf := sg_in c5 hf
    refine lv_aload_n hx hb dX1_ratingAt_8 rfl (lv_at hl 0 rfl) ?_
    refine va_get (D := D) (ci := 3) (C := RX1) (T := TX1) (N := 10) hx hb hts hinX1 hown hK.1 hP 1 rfl rfl 5 (by decide) (hts (.fieldLink RX1 27 "Switchgear$Grid" "rating" "[I") (by decide +kernel)) (fun _ h9 => h9) rfl dX1_ratingAt_9 ?_
    refine lv_iload_n hx hb dX1_ratingAt_12 rfl (lv_at hl 1 rfl) ?_
    obtain ⟨hg4, hf⟩ := sg_g_s hf
    refine va_iald hx hb hK.1 hP 11 0 rfl rfl (sg_inb_s hg4) dX1_ratingAt_13 ?_
    refine lv_goto (tgt := 18) hx hb dX1_ratingAt_14 (by decide) ?_
    have hq := Option.some.inj hf
    exact sg_iret hx hb hr hP hD hS dX1_ratingAt_18 hq rfl hlocks
def fX1_loadIn_L4 (N : Nat) (u : sg_St) (v1 v2 v3 : Int32) : Option ((Int32 × Int32) ⊕ (Int32)) :=
  (if (u 0 0) ≤ v3 then some (.inr v2) else sg_b (fX5_has N v1 v3) (fun r2 => (if r2 = 0 then some (.inl (v2, v3 + 1)) else sg_g (sg_inb v3 10) (some (.inl (v2 + (u 12 (v3).toNatClampNeg), v3 + 1))))))
def fX1_loadIn (N : Nat) (u : sg_St) (p1 : Int32) : Option Int32 :=
  sg_b (sg_it (fun x => fX1_loadIn_L4 N u p1 x.1 x.2) N (0, 0)) (fun e1 => some e1)
set_option maxRecDepth 100000 in
set_option maxHeartbeats 4000000 in
theorem c_X1_loadIn (l : Launch) (D : va_G) (cA : Nat → ClassId) (ad : Nat → Nat) (N : Nat) (u : sg_St) (p1 : Int32) (r : Int32) (hf : fX1_loadIn N u p1 = some r) : sg_CI l D cA (sg_WX cA ad) yX1_loadIn wsX1_loadIn ({ frames := 1, cells := 0, slots := 0, locals := 21 }) [.ref (ad 1), .int p1] u r u := by
  intro sz
  refine Met.ofW (cc := cX1_loadIn) (maxL := 4) (ret := (some .int)) (by decide) rfl ?_
  intro p e s m args below meth c s₁ B hml hv
  obtain ⟨rfl, hsz, hP, hK, hD0⟩ := hv
  have hx := B.exec
  have hb := B.bytes
  have hr := B.returns
  have hts := atoms_spec (ws := wsX1_loadIn) B.pre
  have hown : s.vm.findClass RX1 = some m.cls := findClass_of_methodNamed B.named
  have hlocks := B.notSynchronized
  subst hsz
  have hD := hD0.self (sz := s.heap.size)
  generalize hAe : va_A (sg_WX cA ad u) s.heap.size = A at hD ⊢
  have hA : ∀ q : Nat, s.heap.size ≤ q → A q := fun q h => by rw [← hAe]; exact Or.inr h
  have hS : va_S A s.heap s.heap [] := va_S.rf
  have hl := lv_entry ([.ref (ad 1), .int p1]) (n := 4) (Nat.le_of_ble_eq_true rfl)
  rw [lg_entry_eq]
  generalize (lg_sl ([.ref (ad 1), .int p1]) ++ List.replicate (4 - (lg_sl ([.ref (ad 1), .int p1])).length) Slot.unset).toArray = ls at hl ⊢
  replace hl : lv_has ls 4 [(0, .ref (ad 1)), (1, .int p1)] := hl
  have hinX1 : ∀ w ∈ u_ws RX1 TX1 10, w ∈ wsX1_loadIn := by decide +kernel
  have hL4 : ∀ (v1 : Int32) (n : Nat) (x : Int32 × Int32) (r9 : Int32), sg_it (fun x => fX1_loadIn_L4 N u v1 x.1 x.2) n x = some r9 → ∀ (H : Heap) (locs : List Loc) (ls : Array Slot), va_P D vwCl (sg_WX cA ad u) H → va_D A (sg_WX cA ad u) → va_S A s.heap H locs → lv_has ls 4 [(0, .ref (ad 1)), (1, .int v1), (2, .int x.1), (3, .int x.2)] → (∀ (H : Heap) (locs : List Loc) (ls : Array Slot), va_P D vwCl (sg_WX cA ad u) H → va_D A (sg_WX cA ad u) → va_S A s.heap H locs → lv_has ls 4 [(0, .ref (ad 1)), (2, .int r9)] → W p l e (headSpec wsX1_loadIn ({ frames := 1, cells := 0, slots := 0, locals := 21 })).room s m ([.ref (ad 1), .int p1] : List Value).toArray below meth c H locs 0 0 (MQ below (va_Qi (fun x y => x = r ∧ y = u) (sg_BX D (sg_WX cA ad) A) A) ([.ref (ad 1), .int p1] : List Value).toArray s 0 0 A) (F0 m 35 ls [])) → W p l e (headSpec wsX1_loadIn ({ frames := 1, cells := 0, slots := 0, locals := 21 })).room s m ([.ref (ad 1), .int p1] : List Value).toArray below meth c H locs 0 0 (MQ below (va_Qi (fun x y => x = r ∧ y = u) (sg_BX D (sg_WX cA ad) A) A) ([.ref (ad 1), .int p1] : List Value).toArray s 0 0 A) (F0 m 4 ls []) := by
    intro v1
    refine sg_loop _ ?_
    intro x y r9 hf hI hy H locs ls hP hD hS hl hk
    replace hf : fX1_loadIn_L4 N u v1 x.1 x.2 = some y := hf
    unfold fX1_loadIn_L4 at hf
    refine lv_iload_n hx hb dX1_loadIn_4 rfl (lv_at hl 3 rfl) ?_
    refine lv_aload_n hx hb dX1_loadIn_5 rfl (lv_at hl 0 rfl) ?_
    refine va_get (D := D) (ci := 3) (C := RX1) (T := TX1) (N := 10) hx hb hts hinX1 hown hK.1 hP 1 rfl rfl 6 (by decide) (hts (.fieldLink RX1 30 "Switchgear$Grid" "nodeCount" "I") (by decide +kernel)) (fun _ h9 => h9) rfl dX1_loadIn_6 ?_
    refine lv_icmp_ge (tgt := 35) hx hb dX1_loadIn_9 (by decide) (fun c6 => ?_) (fun c6 => ?_)
    · have hf := sg_ip c6 hf
      have hq := hy _ (Option.some.inj hf).symm
      subst hq
      exact hk _ _ _ hP hD hS (lv_sub hl [0, 2] rfl)
    · have hf := sg_in c6 hf
      refine lv_iload_n hx hb dX1_loadIn_12 rfl (lv_at hl 1 rfl) ?_
      refine lv_iload_n hx hb dX1_loadIn_13 rfl (lv_at hl 3 rfl) ?_
      obtain ⟨r2, hc1, hf⟩ := sg_b_s hf
      refine sg_ci0 (va_runSN (As := [.int v1, .int x.2]) (rest := []) ⟨hx, hb, hml, hown, hts⟩ (c_X5_has l D cA N _ _ _ hc1 _) ⟨va_cnB (host := RX5) 2 hts gX1_loadIn_X5_has_n54 rfl rfl rfl (hK.2 _ (List.mem_of_getElem? (i := 3) rfl)) (hts (.initialized RX5) (by decide +kernel)) (by decide +kernel) ⟨Nat.le_of_ble_eq_true rfl, Nat.le_of_ble_eq_true rfl⟩, hts (.static yX5_has) (by decide +kernel), trivial⟩ (sg_pre0 hK) rfl rfl hl.1 rfl (lv_room (Nat.le_of_ble_eq_true rfl)) dX1_loadIn_14 ⟨Nat.zero_le _, Nat.zero_le _⟩) hP hS hA (fun H locs hP hS => ?_)
      refine lv_if_eq (tgt := 29) hx hb dX1_loadIn_17 (by decide) (fun c5 => ?_) (fun c5 => ?_)
      · have hf := sg_ip c5 hf
        refine lv_iinc (v := x.2 + 1) (lv' := [(3, .int (x.2 + 1)), (0, .ref (ad 1)), (1, .int v1), (2, .int x.1)]) hx hb dX1_loadIn_29 hl (k := 3) rfl rfl (by decide) rfl (fun ls hl => ?_)
        refine lv_goto (tgt := 4) hx hb dX1_loadIn_32 (by decide) ?_
        exact hI _ (Option.some.inj hf).symm _ _ _ hP hD hS (lv_sub hl [1, 2, 3, 0] rfl) hk
      · have hf := sg_in c5 hf
        refine lv_iload_n hx hb dX1_loadIn_20 rfl (lv_at hl 2 rfl) ?_
        refine lv_aload_n hx hb dX1_loadIn_21 rfl (lv_at hl 0 rfl) ?_
        refine va_get (D := D) (ci := 3) (C := RX1) (T := TX1) (N := 10) hx hb hts hinX1 hown hK.1 hP 1 rfl rfl 1 (by decide) (hts (.fieldLink RX1 15 "Switchgear$Grid" "load" "[I") (by decide +kernel)) (fun _ h9 => h9) rfl dX1_loadIn_22 ?_
        refine lv_iload_n hx hb dX1_loadIn_25 rfl (lv_at hl 3 rfl) ?_
        obtain ⟨hg4, hf⟩ := sg_g_s hf
        refine va_iald hx hb hK.1 hP 7 0 rfl rfl (sg_inb_s hg4) dX1_loadIn_26 ?_
        refine lv_iadd hx hb dX1_loadIn_27 ?_
        refine lv_istore_n (lv' := [(2, .int (x.1 + (u 12 (x.2).toNatClampNeg))), (0, .ref (ad 1)), (1, .int v1), (3, .int x.2)]) hx hb dX1_loadIn_28 rfl hl (by decide) rfl (fun ls hl => ?_)
        refine lv_iinc (v := x.2 + 1) (lv' := [(3, .int (x.2 + 1)), (2, .int (x.1 + (u 12 (x.2).toNatClampNeg))), (0, .ref (ad 1)), (1, .int v1)]) hx hb dX1_loadIn_29 hl (k := 3) rfl rfl (by decide) rfl (fun ls hl => ?_)
        refine lv_goto (tgt := 4) hx hb dX1_loadIn_32 (by decide) ?_
        exact hI _ (Option.some.inj hf).symm _ _ _ hP hD hS (lv_sub hl [2, 3, 1, 0] rfl) hk
  unfold fX1_loadIn at hf
  refine lv_iconst (v := 0) hx hb dX1_loadIn_0 (by decide) ?_
  refine lv_istore_n (lv' := [(2, .int 0), (0, .ref (ad 1)), (1, .int p1)]) hx hb dX1_loadIn_1 rfl hl (by decide) rfl (fun ls hl => ?_)
  refine lv_iconst (v := 0) hx hb dX1_loadIn_2 (by decide) ?_
  refine lv_istore_n (lv' := [(3, .int 0), (2, .int 0), (0, .ref (ad 1)), (1, .int p1)]) hx hb dX1_loadIn_3 rfl hl (by decide) rfl (fun ls hl => ?_)
  obtain ⟨e1, hc2, hf⟩ := sg_b_s hf
  refine hL4 _ _ _ e1 hc2 _ _ _ hP hD hS (lv_sub hl [2, 3, 1, 0] rfl) (fun H locs ls hP hD hS hl => ?_)
  refine lv_iload_n hx hb dX1_loadIn_35 rfl (lv_at hl 1 rfl) ?_
  have hq := Option.some.inj hf
  exact sg_iret hx hb hr hP hD hS dX1_loadIn_36 hq rfl hlocks
