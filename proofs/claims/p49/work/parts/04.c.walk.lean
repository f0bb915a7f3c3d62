set_option maxRecDepth 100000 in
set_option maxHeartbeats 4000000 in
theorem c_X5_addBus (l : Launch) (hlt : l.stackTraces = false) (D : va_G) (cA : Nat → ClassId) (ad : Nat → Nat) (N : Nat) (u : sg_St) (p1 p2 : Int32) (R : (Nat ⊕ Int32) × sg_St) (hf : fX5_addBus N u p1 p2 = some R) : sg_TI l D cA (sg_WX cA ad) yX5_addBus wsX5_addBus ({ frames := 9, cells := 3, slots := 18, locals := 420 }) [.ref (ad 0), .int p1, .int p2] u 3 18 R := by
  intro sz
  refine vx_ofW (cc := cX5_addBus) (maxL := 3) (ret := (some .int)) (by decide) rfl ?_
  intro p e s m args below meth c s₁ B hml htab hv
  obtain ⟨rfl, ⟨hsz, hP, hK, hD0⟩, hT⟩ := hv
  have hx := B.exec
  have hb := B.bytes
  have hr := B.returns
  have hts := atoms_spec (ws := wsX5_addBus) B.pre
  have hown : s.vm.findClass RX5 = some m.cls := findClass_of_methodNamed B.named
  have hlocks := B.notSynchronized
  subst hsz
  have hD := hD0.self (sz := s.heap.size)
  generalize hAe : va_A (sg_WX cA ad u) s.heap.size = A at hD hT ⊢
  have hA : ∀ q : Nat, s.heap.size ≤ q → A q := fun q h => by rw [← hAe]; exact Or.inr h
  have hS : va_S A s.heap s.heap [] := va_S.rf
  have hl := lv_entry ([.ref (ad 0), .int p1, .int p2]) (n := 3) (Nat.le_of_ble_eq_true rfl)
  rw [lg_entry_eq]
  generalize (lg_sl ([.ref (ad 0), .int p1, .int p2]) ++ List.replicate (3 - (lg_sl ([.ref (ad 0), .int p1, .int p2])).length) Slot.unset).toArray = ls at hl ⊢
  replace hl : lv_has ls 3 [(0, .ref (ad 0)), (1, .int p1), (2, .int p2)] := hl
  have hinX5 : ∀ w ∈ u_ws RX5 TX5 6, w ∈ wsX5_addBus := by decide +kernel
  have hJ14 : ∀ (u : sg_St) (H : Heap) (locs : List Loc) (ls : Array Slot), fX5_addBus_j14 N u  = some R → va_P D vwCl (sg_WX cA ad u) H → va_D A (sg_WX cA ad u) → va_S A s.heap H locs → lv_has ls 3 [(0, .ref (ad 0))] → W p l e (headSpec wsX5_addBus ({ frames := 9, cells := 3, slots := 18, locals := 420 })).room s m ([.ref (ad 0), .int p1, .int p2] : List Value).toArray below meth c H locs 1 6 (vx_MQ below (sg_QI D (sg_WX cA ad) A R) (sg_XC D (sg_WX cA ad) A R) ([.ref (ad 0), .int p1, .int p2] : List Value).toArray s 3 18 A) (F0 m 14 ls []) := by
    intro u H locs ls hf hP hD hS hl
    unfold fX5_addBus_j14 at hf
    have hq := Option.some.inj hf
    exact sg_throw (cls := "java/lang/IllegalArgumentException") (text := "a priority is from 0 to 9") (k := 1) hx hb hlt hown hts hT hP hD hS (hl.1.trans hml.symm) htab hlocks (by decide +kernel) (by decide +kernel) (by decide +kernel) (by decide +kernel) (by decide +kernel) (by decide +kernel) (by decide +kernel) dX5_addBus_14 dX5_addBus_17 dX5_addBus_18 dX5_addBus_20 dX5_addBus_23 ⟨Nat.le_of_ble_eq_true rfl, Nat.le_of_ble_eq_true rfl, Nat.le_of_ble_eq_true rfl, Nat.le_of_ble_eq_true rfl, by decide, by decide⟩ (by decide +kernel) hq
  unfold fX5_addBus at hf
  refine lv_iload_n hx hb dX5_addBus_0 rfl (lv_at hl 1 rfl) ?_
  obtain ⟨x4, hc1, hxx4, hf⟩ := sg_bt0_s hf
  refine sg_xv0 (vx_runS (As := [.int p1]) (rest := []) ⟨hx, hb, hml, hown, hts⟩ (c_X5_needLoad l hlt D cA N _ x4 hc1 _) (va_cwS 1 hts gX5_addBus_X5_needLoad rfl rfl rfl (by decide +kernel) ⟨Nat.le_of_ble_eq_true rfl, Nat.le_of_ble_eq_true rfl⟩) (sg_preT0 hK hT hS hA) rfl rfl hl.1 rfl (lv_room (Nat.le_of_ble_eq_true rfl)) dX5_addBus_1 ⟨Nat.le_of_ble_eq_true rfl, Nat.le_of_ble_eq_true rfl⟩) hP hD hS hA htab hlocks (by decide) (by decide) hxx4 (fun u5 H locs hrx4 hP hS => ?_)
  replace hf := hf _ _ hrx4
  refine lv_iload_n hx hb dX5_addBus_4 rfl (lv_at hl 2 rfl) ?_
  refine lv_if_lt (tgt := 14) hx hb dX5_addBus_5 (by decide) (fun c15 => ?_) (fun c15 => ?_)
  · have hf := sg_ip c15 hf
    refine W.widen (k := 1) (n := 6) (by decide) (by decide) ?_
    exact hJ14 _ _ _ _ hf hP hD hS (lv_sub hl [0] rfl)
  · have hf := sg_in c15 hf
    refine lv_iload_n hx hb dX5_addBus_8 rfl (lv_at hl 2 rfl) ?_
    refine lv_bipush (v := 9) hx hb dX5_addBus_9 (by decide) ?_
    refine lv_icmp_le (tgt := 24) hx hb dX5_addBus_11 (by decide) (fun c14 => ?_) (fun c14 => ?_)
    · have hf := sg_ip c14 hf
      refine lv_aload_n hx hb dX5_addBus_24 rfl (lv_at hl 0 rfl) ?_
      refine va_get (D := D) (ci := 7) (C := RX5) (T := TX5) (N := 6) hx hb hts hinX5 hown hK.1 hP 0 rfl rfl 0 (by decide) (hts (.fieldLink RX5 10 "Switchgear" "grid" "LSwitchgear$Grid;") (by decide +kernel)) (fun _ h9 => h9) rfl dX5_addBus_25 ?_
      refine lv_iconst (v := 0) hx hb dX5_addBus_28 (by decide) ?_
      refine lv_iload_n hx hb dX5_addBus_29 rfl (lv_at hl 1 rfl) ?_
      refine lv_iload_n hx hb dX5_addBus_30 rfl (lv_at hl 2 rfl) ?_
      obtain ⟨r7, u8, hc6, hf⟩ := sg_b2_s hf
      refine sg_ci (va_runV (As := [.int 0, .int p1, .int p2]) (rest := []) ⟨hx, hb, hml, hown, hts⟩ (c_X1_addNode l D cA ad N _ _ _ _ _ _ hc6 _) (cwV 3 hts gX5_addBus_X1_addNode rfl rfl rfl (by decide +kernel) ⟨Nat.le_of_ble_eq_true rfl, Nat.le_of_ble_eq_true rfl⟩) (sg_pre hK hP hD (ci := 3) (q0 := 1) rfl rfl) rfl rfl hl.1 rfl (lv_room (Nat.le_of_ble_eq_true rfl)) dX5_addBus_31 ⟨Nat.le_of_ble_eq_true rfl, Nat.le_of_ble_eq_true rfl⟩) hD hS hA (fun H locs hP hD hS => ?_)
      obtain ⟨x12, hc9, hxx12, hf⟩ := sg_bt0_s hf
      refine sg_xi0 (vx_runS (As := [.int r7]) (rest := []) ⟨hx, hb, hml, hown, hts⟩ (c_X5_added l hlt D cA N _ x12 hc9 _) (va_cwS 1 hts gX5_addBus_X5_added rfl rfl rfl (by decide +kernel) ⟨Nat.le_of_ble_eq_true rfl, Nat.le_of_ble_eq_true rfl⟩) (sg_preT0 hK hT hS hA) rfl rfl hl.1 rfl (lv_room (Nat.le_of_ble_eq_true rfl)) dX5_addBus_34 ⟨Nat.le_of_ble_eq_true rfl, Nat.le_of_ble_eq_true rfl⟩) hP hD hS hA htab hlocks (by decide) (by decide) hxx12 (fun r10 u13 H locs hrx12 hP hS => ?_)
      replace hf := hf _ _ hrx12
      have hq := Option.some.inj hf
      exact sg_ti hx hb hr rfl hP hD hS dX5_addBus_37 hq hlocks (by decide) (by decide)
    · have hf := sg_in c14 hf
      refine W.widen (k := 1) (n := 6) (by decide) (by decide) ?_
      exact hJ14 _ _ _ _ hf hP hD hS (lv_sub hl [0] rfl)
set_option maxRecDepth 100000 in
set_option maxHeartbeats 4000000 in
theorem c_X5_needNode (l : Launch) (hlt : l.stackTraces = false) (D : va_G) (cA : Nat → ClassId) (ad : Nat → Nat) (N : Nat) (u : sg_St) (p1 : Int32) (R : (Nat ⊕ Unit) × sg_St) (hf : fX5_needNode N u p1 = some R) : sg_TV l D cA (sg_WX cA ad) yX5_needNode wsX5_needNode ({ frames := 8, cells := 1, slots := 6, locals := 400 }) [.ref (ad 0), .int p1] u 1 6 R := by
  intro sz
  refine vx_ofW (cc := cX5_needNode) (maxL := 2) (ret := none) (by decide) rfl ?_
  intro p e s m args below meth c s₁ B hml htab hv
  obtain ⟨rfl, ⟨hsz, hP, hK, hD0⟩, hT⟩ := hv
  have hx := B.exec
  have hb := B.bytes
  have hr := B.returns
  have hts := atoms_spec (ws := wsX5_needNode) B.pre
  have hown : s.vm.findClass RX5 = some m.cls := findClass_of_methodNamed B.named
  have hlocks := B.notSynchronized
  subst hsz
  have hD := hD0.self (sz := s.heap.size)
  generalize hAe : va_A (sg_WX cA ad u) s.heap.size = A at hD hT ⊢
  have hA : ∀ q : Nat, s.heap.size ≤ q → A q := fun q h => by rw [← hAe]; exact Or.inr h
  have hS : va_S A s.heap s.heap [] := va_S.rf
  have hl := lv_entry ([.ref (ad 0), .int p1]) (n := 2) (Nat.le_of_ble_eq_true rfl)
  rw [lg_entry_eq]
  generalize (lg_sl ([.ref (ad 0), .int p1]) ++ List.replicate (2 - (lg_sl ([.ref (ad 0), .int p1])).length) Slot.unset).toArray = ls at hl ⊢
  replace hl : lv_has ls 2 [(0, .ref (ad 0)), (1, .int p1)] := hl
  have hinX5 : ∀ w ∈ u_ws RX5 TX5 6, w ∈ wsX5_needNode := by decide +kernel
  unfold fX5_needNode at hf
  refine lv_aload_n hx hb dX5_needNode_0 rfl (lv_at hl 0 rfl) ?_
  refine va_get (D := D) (ci := 7) (C := RX5) (T := TX5) (N := 6) hx hb hts hinX5 hown hK.1 hP 0 rfl rfl 0 (by decide) (hts (.fieldLink RX5 10 "Switchgear" "grid" "LSwitchgear$Grid;") (by decide +kernel)) (fun _ h9 => h9) rfl dX5_needNode_1 ?_
  refine lv_iload_n hx hb dX5_needNode_4 rfl (lv_at hl 1 rfl) ?_
  obtain ⟨r2, hc1, hf⟩ := sg_b_s hf
  refine sg_ci (va_runV (As := [.int p1]) (rest := []) ⟨hx, hb, hml, hown, hts⟩ (c_X1_isNode l D cA ad N _ _ _ hc1 _) (cwV 1 hts gX5_needNode_X1_isNode rfl rfl rfl (by decide +kernel) ⟨Nat.le_of_ble_eq_true rfl, Nat.le_of_ble_eq_true rfl⟩) (sg_pre hK hP hD (ci := 3) (q0 := 1) rfl rfl) rfl rfl hl.1 rfl (lv_room (Nat.le_of_ble_eq_true rfl)) dX5_needNode_5 ⟨Nat.le_of_ble_eq_true rfl, Nat.le_of_ble_eq_true rfl⟩) hD hS hA (fun H locs hP hD hS => ?_)
  refine lv_if_ne (tgt := 22) hx hb dX5_needNode_8 (by decide) (fun c4 => ?_) (fun c4 => ?_)
  · have hf := sg_in c4 hf
    have hq := Option.some.inj hf
    exact sg_tv hx hb hr hP hD hS dX5_needNode_22 hq hlocks (by decide) (by decide)
  · have hf := sg_ip c4 hf
    have hq := Option.some.inj hf
    exact sg_throwN (cls := "java/util/NoSuchElementException") (text := "there is no such node") (k := 5) hx hb hlt hown hts hT hP hD hS (hl.1.trans hml.symm) htab hlocks (by decide +kernel) (by decide +kernel) (by decide +kernel) (by decide +kernel) (by decide +kernel) (by decide +kernel) (by decide +kernel) dX5_needNode_11 dX5_needNode_14 dX5_needNode_15 dX5_needNode_18 dX5_needNode_21 ⟨Nat.le_of_ble_eq_true rfl, Nat.le_of_ble_eq_true rfl, Nat.le_of_ble_eq_true rfl, Nat.le_of_ble_eq_true rfl, by decide, by decide⟩ (by decide +kernel) hq
set_option maxRecDepth 100000 in
set_option maxHeartbeats 4000000 in
theorem c_X5_addLine (l : Launch) (hlt : l.stackTraces = false) (D : va_G) (cA : Nat → ClassId) (ad : Nat → Nat) (N : Nat) (u : sg_St) (p1 p2 p3 p4 : Int32) (R : (Nat ⊕ Int32) × sg_St) (hf : fX5_addLine N u p1 p2 p3 p4 = some R) : sg_TI l D cA (sg_WX cA ad) yX5_addLine wsX5_addLine ({ frames := 9, cells := 4, slots := 24, locals := 421 }) [.ref (ad 0), .int p1, .int p2, .int p3, .int p4] u 4 24 R := by
  intro sz
  refine vx_ofW (cc := cX5_addLine) (maxL := 6) (ret := (some .int)) (by decide) rfl ?_
  intro p e s m args below meth c s₁ B hml htab hv
  obtain ⟨rfl, ⟨hsz, hP, hK, hD0⟩, hT⟩ := hv
  have hx := B.exec
  have hb := B.bytes
  have hr := B.returns
  have hts := atoms_spec (ws := wsX5_addLine) B.pre
  have hown : s.vm.findClass RX5 = some m.cls := findClass_of_methodNamed B.named
  have hlocks := B.notSynchronized
  subst hsz
  have hD := hD0.self (sz := s.heap.size)
  generalize hAe : va_A (sg_WX cA ad u) s.heap.size = A at hD hT ⊢
  have hA : ∀ q : Nat, s.heap.size ≤ q → A q := fun q h => by rw [← hAe]; exact Or.inr h
  have hS : va_S A s.heap s.heap [] := va_S.rf
  have hl := lv_entry ([.ref (ad 0), .int p1, .int p2, .int p3, .int p4]) (n := 6) (Nat.le_of_ble_eq_true rfl)
  rw [lg_entry_eq]
  generalize (lg_sl ([.ref (ad 0), .int p1, .int p2, .int p3, .int p4]) ++ List.replicate (6 - (lg_sl ([.ref (ad 0), .int p1, .int p2, .int p3, .int p4])).length) Slot.unset).toArray = ls at hl ⊢
  replace hl : lv_has ls 6 [(0, .ref (ad 0)), (1, .int p1), (2, .int p2), (3, .int p3), (4, .int p4)] := hl
  have hinX5 : ∀ w ∈ u_ws RX5 TX5 6, w ∈ wsX5_addLine := by decide +kernel
  have hJ37 : ∀ (u : sg_St) (H : Heap) (locs : List Loc) (ls : Array Slot), fX5_addLine_j37 N u  = some R → va_P D vwCl (sg_WX cA ad u) H → va_D A (sg_WX cA ad u) → va_S A s.heap H locs → lv_has ls 6 [(0, .ref (ad 0))] → W p l e (headSpec wsX5_addLine ({ frames := 9, cells := 4, slots := 24, locals := 421 })).room s m ([.ref (ad 0), .int p1, .int p2, .int p3, .int p4] : List Value).toArray below meth c H locs 2 12 (vx_MQ below (sg_QI D (sg_WX cA ad) A R) (sg_XC D (sg_WX cA ad) A R) ([.ref (ad 0), .int p1, .int p2, .int p3, .int p4] : List Value).toArray s 4 24 A) (F0 m 37 ls []) := by
    intro u H locs ls hf hP hD hS hl
    unfold fX5_addLine_j37 at hf
    have hq := Option.some.inj hf
    exact sg_throw (cls := "java/lang/IllegalArgumentException") (text := "a rating is from 1 to 999") (k := 1) hx hb hlt hown hts hT hP hD hS (hl.1.trans hml.symm) htab hlocks (by decide +kernel) (by decide +kernel) (by decide +kernel) (by decide +kernel) (by decide +kernel) (by decide +kernel) (by decide +kernel) dX5_addLine_37 dX5_addLine_40 dX5_addLine_41 dX5_addLine_43 dX5_addLine_46 ⟨Nat.le_of_ble_eq_true rfl, Nat.le_of_ble_eq_true rfl, Nat.le_of_ble_eq_true rfl, Nat.le_of_ble_eq_true rfl, by decide, by decide⟩ (by decide +kernel) hq
  unfold fX5_addLine at hf
  refine lv_aload_n hx hb dX5_addLine_0 rfl (lv_at hl 0 rfl) ?_
  refine lv_iload_n hx hb dX5_addLine_1 rfl (lv_at hl 1 rfl) ?_
  obtain ⟨x4, hc1, hxx4, hf⟩ := sg_bt_s hf
  refine sg_xv (vx_runV (As := [.int p1]) (rest := []) ⟨hx, hb, hml, hown, hts⟩ (c_X5_needNode l hlt D cA ad N _ _ x4 hc1 _) (cwV 1 hts gX5_addLine_X5_needNode rfl rfl rfl (by decide +kernel) ⟨Nat.le_of_ble_eq_true rfl, Nat.le_of_ble_eq_true rfl⟩) (sg_preT hK hP hD hT hS hA (ci := 7) (q0 := 0) rfl rfl) rfl rfl hl.1 rfl (lv_room (Nat.le_of_ble_eq_true rfl)) dX5_addLine_2 ⟨Nat.le_of_ble_eq_true rfl, Nat.le_of_ble_eq_true rfl⟩) hD hS hA htab hlocks (by decide) (by decide) hxx4 (fun u3 H locs hrx4 hP hD hS => ?_)
  replace hf := hf _ _ hrx4
  refine lv_aload_n hx hb dX5_addLine_5 rfl (lv_at hl 0 rfl) ?_
  refine lv_iload_n hx hb dX5_addLine_6 rfl (lv_at hl 2 rfl) ?_
  obtain ⟨x8, hc5, hxx8, hf⟩ := sg_bt_s hf
  refine sg_xv (vx_runV (As := [.int p2]) (rest := []) ⟨hx, hb, hml, hown, hts⟩ (c_X5_needNode l hlt D cA ad N _ _ x8 hc5 _) (cwV 1 hts gX5_addLine_X5_needNode rfl rfl rfl (by decide +kernel) ⟨Nat.le_of_ble_eq_true rfl, Nat.le_of_ble_eq_true rfl⟩) (sg_preT hK hP hD hT hS hA (ci := 7) (q0 := 0) rfl rfl) rfl rfl hl.1 rfl (lv_room (Nat.le_of_ble_eq_true rfl)) dX5_addLine_7 ⟨Nat.le_of_ble_eq_true rfl, Nat.le_of_ble_eq_true rfl⟩) hD hS hA htab hlocks (by decide) (by decide) hxx8 (fun u7 H locs hrx8 hP hD hS => ?_)
  replace hf := hf _ _ hrx8
  refine lv_iload_n hx hb dX5_addLine_10 rfl (lv_at hl 1 rfl) ?_
  refine lv_iload_n hx hb dX5_addLine_11 rfl (lv_at hl 2 rfl) ?_
  refine lv_icmp_ne (tgt := 25) hx hb dX5_addLine_12 (by decide) (fun c22 => ?_) (fun c22 => ?_)
  · have hf := sg_in c22 hf
    refine lv_iload_n hx hb dX5_addLine_25 rfl (lv_at hl 3 rfl) ?_
    refine lv_iconst (v := 1) hx hb dX5_addLine_26 (by decide) ?_
    refine lv_icmp_lt (tgt := 37) hx hb dX5_addLine_27 (by decide) (fun c21 => ?_) (fun c21 => ?_)
    · have hf := sg_ip c21 hf
      refine W.widen (k := 2) (n := 12) (by decide) (by decide) ?_
      exact hJ37 _ _ _ _ hf hP hD hS (lv_sub hl [0] rfl)
    · have hf := sg_in c21 hf
      refine lv_iload_n hx hb dX5_addLine_30 rfl (lv_at hl 3 rfl) ?_
      refine lv_sipush (v := 999) hx hb dX5_addLine_31 (by decide) ?_
      refine lv_icmp_le (tgt := 47) hx hb dX5_addLine_34 (by decide) (fun c20 => ?_) (fun c20 => ?_)
      · have hf := sg_ip c20 hf
        refine lv_aload_n hx hb dX5_addLine_47 rfl (lv_at hl 0 rfl) ?_
        refine va_get (D := D) (ci := 7) (C := RX5) (T := TX5) (N := 6) hx hb hts hinX5 hown hK.1 hP 0 rfl rfl 0 (by decide) (hts (.fieldLink RX5 10 "Switchgear" "grid" "LSwitchgear$Grid;") (by decide +kernel)) (fun _ h9 => h9) rfl dX5_addLine_48 ?_
        refine lv_iload_n hx hb dX5_addLine_51 rfl (lv_at hl 1 rfl) ?_
        refine lv_iload_n hx hb dX5_addLine_52 rfl (lv_at hl 2 rfl) ?_
        refine lv_iload_n hx hb dX5_addLine_53 rfl (lv_at hl 3 rfl) ?_
        refine lv_iload hx hb dX5_addLine_54 (lv_at hl 4 rfl) ?_
        obtain ⟨r10, u11, hc9, hf⟩ := sg_b2_s hf
        refine sg_ci (va_runV (As := [.int p1, .int p2, .int p3, .int p4]) (rest := []) ⟨hx, hb, hml, hown, hts⟩ (c_X1_addLineBetween l D cA ad N _ _ _ _ _ _ _ hc9 _) (cwV 4 hts gX5_addLine_X1_addLineBetween rfl rfl rfl (by decide +kernel) ⟨Nat.le_of_ble_eq_true rfl, Nat.le_of_ble_eq_true rfl⟩) (sg_pre hK hP hD (ci := 3) (q0 := 1) rfl rfl) rfl rfl hl.1 rfl (lv_room (Nat.le_of_ble_eq_true rfl)) dX5_addLine_56 ⟨Nat.le_of_ble_eq_true rfl, Nat.le_of_ble_eq_true rfl⟩) hD hS hA (fun H locs hP hD hS => ?_)
        obtain ⟨x15, hc12, hxx15, hf⟩ := sg_bt0_s hf
        refine sg_xi0 (vx_runS (As := [.int r10]) (rest := []) ⟨hx, hb, hml, hown, hts⟩ (c_X5_added l hlt D cA N _ x15 hc12 _) (va_cwS 1 hts gX5_addLine_X5_added rfl rfl rfl (by decide +kernel) ⟨Nat.le_of_ble_eq_true rfl, Nat.le_of_ble_eq_true rfl⟩) (sg_preT0 hK hT hS hA) rfl rfl hl.1 rfl (lv_room (Nat.le_of_ble_eq_true rfl)) dX5_addLine_59 ⟨Nat.le_of_ble_eq_true rfl, Nat.le_of_ble_eq_true rfl⟩) hP hD hS hA htab hlocks (by decide) (by decide) hxx15 (fun r13 u16 H locs hrx15 hP hS => ?_)
        replace hf := hf _ _ hrx15
        refine lv_istore (lv' := [(5, .int r13), (0, .ref (ad 0)), (1, .int p1), (2, .int p2), (3, .int p3), (4, .int p4)]) hx hb dX5_addLine_62 hl (by decide) rfl (fun ls hl => ?_)
        refine lv_aload_n hx hb dX5_addLine_64 rfl (lv_at hl 1 rfl) ?_
        refine va_get (D := D) (ci := 7) (C := RX5) (T := TX5) (N := 6) hx hb hts hinX5 hown hK.1 hP 0 rfl rfl 3 (by decide) (hts (.fieldLink RX5 37 "Switchgear" "protection" "LSwitchgear$Protection;") (by decide +kernel)) (fun _ h9 => h9) rfl dX5_addLine_65 ?_
        refine lv_iload hx hb dX5_addLine_68 (lv_at hl 0 rfl) ?_
        refine lv_iload_n hx hb dX5_addLine_70 rfl (lv_at hl 4 rfl) ?_
        refine lv_iconst (v := 1) hx hb dX5_addLine_71 (by decide) ?_
        refine lv_iconst (v := 0) hx hb dX5_addLine_72 (by decide) ?_
        obtain ⟨u19, hc17, hf⟩ := sg_b_s hf
        refine sg_cv (va_runV (As := [.int r13, .int p3, .int 1, .int 0]) (rest := []) ⟨hx, hb, hml, hown, hts⟩ (c_X3_setUp l D cA ad N _ _ _ _ _ _ hc17 _) (cwV 4 hts gX5_addLine_X3_setUp rfl rfl rfl (by decide +kernel) ⟨Nat.le_of_ble_eq_true rfl, Nat.le_of_ble_eq_true rfl⟩) (sg_pre hK hP hD (ci := 5) (q0 := 4) rfl rfl) rfl rfl hl.1 rfl (lv_room (Nat.le_of_ble_eq_true rfl)) dX5_addLine_73 ⟨Nat.le_of_ble_eq_true rfl, Nat.le_of_ble_eq_true rfl⟩) hD hS hA (fun H locs hP hD hS => ?_)
        refine lv_iload hx hb dX5_addLine_76 (lv_at hl 0 rfl) ?_
        have hq := Option.some.inj hf
        exact sg_ti hx hb hr rfl hP hD hS dX5_addLine_78 hq hlocks (by decide) (by decide)
      · have hf := sg_in c20 hf
        refine W.widen (k := 2) (n := 12) (by decide) (by decide) ?_
        exact hJ37 _ _ _ _ hf hP hD hS (lv_sub hl [0] rfl)
  · have hf := sg_ip c22 hf
    have hq := Option.some.inj hf
    exact sg_throw (cls := "java/lang/IllegalArgumentException") (text := "a line has two different ends") (k := 1) hx hb hlt hown hts hT hP hD hS (hl.1.trans hml.symm) htab hlocks (by decide +kernel) (by decide +kernel) (by decide +kernel) (by decide +kernel) (by decide +kernel) (by decide +kernel) (by decide +kernel) dX5_addLine_15 dX5_addLine_18 dX5_addLine_19 dX5_addLine_21 dX5_addLine_24 ⟨Nat.le_of_ble_eq_true rfl, Nat.le_of_ble_eq_true rfl, Nat.le_of_ble_eq_true rfl, Nat.le_of_ble_eq_true rfl, by decide, by decide⟩ (by decide +kernel) hq
set_option maxRecDepth 100000 in
set_option maxHeartbeats 4000000 in
theorem c_X5_addSource (l : Launch) (hlt : l.stackTraces = false) (D : va_G) (cA : Nat → ClassId) (ad : Nat → Nat) (N : Nat) (u : sg_St) (p1 : Int32) (R : (Nat ⊕ Int32) × sg_St) (hf : fX5_addSource N u p1 = some R) : sg_TI l D cA (sg_WX cA ad) yX5_addSource wsX5_addSource ({ frames := 9, cells := 2, slots := 12, locals := 420 }) [.ref (ad 0), .int p1] u 2 12 R := by
  intro sz
  refine vx_ofW (cc := cX5_addSource) (maxL := 2) (ret := (some .int)) (by decide) rfl ?_
  intro p e s m args below meth c s₁ B hml htab hv
  obtain ⟨rfl, ⟨hsz, hP, hK, hD0⟩, hT⟩ := hv
  have hx := B.exec
  have hb := B.bytes
  have hr := B.returns
  have hts := atoms_spec (ws := wsX5_addSource) B.pre
  have hown : s.vm.findClass RX5 = some m.cls := findClass_of_methodNamed B.named
  have hlocks := B.notSynchronized
  subst hsz
  have hD := hD0.self (sz := s.heap.size)
  generalize hAe : va_A (sg_WX cA ad u) s.heap.size = A at hD hT ⊢
  have hA : ∀ q : Nat, s.heap.size ≤ q → A q := fun q h => by rw [← hAe]; exact Or.inr h
  have hS : va_S A s.heap s.heap [] := va_S.rf
  have hl := lv_entry ([.ref (ad 0), .int p1]) (n := 2) (Nat.le_of_ble_eq_true rfl)
  rw [lg_entry_eq]
  generalize (lg_sl ([.ref (ad 0), .int p1]) ++ List.replicate (2 - (lg_sl ([.ref (ad 0), .int p1])).length) Slot.unset).toArray = ls at hl ⊢
  replace hl : lv_has ls 2 [(0, .ref (ad 0)), (1, .int p1)] := hl
  have hinX5 : ∀ w ∈ u_ws RX5 TX5 6, w ∈ wsX5_addSource := by decide +kernel
  have hJ12 : ∀ (u : sg_St) (H : Heap) (locs : List Loc) (ls : Array Slot), fX5_addSource_j12 N u  = some R → va_P D vwCl (sg_WX cA ad u) H → va_D A (sg_WX cA ad u) → va_S A s.heap H locs → lv_has ls 2 [(0, .ref (ad 0))] → W p l e (headSpec wsX5_addSource ({ frames := 9, cells := 2, slots := 12, locals := 420 })).room s m ([.ref (ad 0), .int p1] : List Value).toArray below meth c H locs 0 0 (vx_MQ below (sg_QI D (sg_WX cA ad) A R) (sg_XC D (sg_WX cA ad) A R) ([.ref (ad 0), .int p1] : List Value).toArray s 2 12 A) (F0 m 12 ls []) := by
    intro u H locs ls hf hP hD hS hl
    unfold fX5_addSource_j12 at hf
    have hq := Option.some.inj hf
    exact sg_throw (cls := "java/lang/IllegalArgumentException") (text := "a capacity is from 1 to 999") (k := 1) hx hb hlt hown hts hT hP hD hS (hl.1.trans hml.symm) htab hlocks (by decide +kernel) (by decide +kernel) (by decide +kernel) (by decide +kernel) (by decide +kernel) (by decide +kernel) (by decide +kernel) dX5_addSource_12 dX5_addSource_15 dX5_addSource_16 dX5_addSource_18 dX5_addSource_21 ⟨Nat.le_of_ble_eq_true rfl, Nat.le_of_ble_eq_true rfl, Nat.le_of_ble_eq_true rfl, Nat.le_of_ble_eq_true rfl, by decide, by decide⟩ (by decide +kernel) hq
  unfold fX5_addSource at hf
  refine lv_iload_n hx hb dX5_addSource_0 rfl (lv_at hl 1 rfl) ?_
  refine lv_iconst (v := 1) hx hb dX5_addSource_1 (by decide) ?_
  refine lv_icmp_lt (tgt := 12) hx hb dX5_addSource_2 (by decide) (fun c10 => ?_) (fun c10 => ?_)
  · have hf := sg_ip c10 hf
    refine W.widen (k := 0) (n := 0) (by decide) (by decide) ?_
    exact hJ12 _ _ _ _ hf hP hD hS (lv_sub hl [0] rfl)
  · have hf := sg_in c10 hf
    refine lv_iload_n hx hb dX5_addSource_5 rfl (lv_at hl 1 rfl) ?_
    refine lv_sipush (v := 999) hx hb dX5_addSource_6 (by decide) ?_
    refine lv_icmp_le (tgt := 22) hx hb dX5_addSource_9 (by decide) (fun c9 => ?_) (fun c9 => ?_)
    · have hf := sg_ip c9 hf
      refine lv_aload_n hx hb dX5_addSource_22 rfl (lv_at hl 0 rfl) ?_
      refine va_get (D := D) (ci := 7) (C := RX5) (T := TX5) (N := 6) hx hb hts hinX5 hown hK.1 hP 0 rfl rfl 0 (by decide) (hts (.fieldLink RX5 10 "Switchgear" "grid" "LSwitchgear$Grid;") (by decide +kernel)) (fun _ h9 => h9) rfl dX5_addSource_23 ?_
      refine lv_iload_n hx hb dX5_addSource_26 rfl (lv_at hl 1 rfl) ?_
      refine lv_iconst (v := 0) hx hb dX5_addSource_27 (by decide) ?_
      refine lv_iconst (v := 0) hx hb dX5_addSource_28 (by decide) ?_
      obtain ⟨r2, u3, hc1, hf⟩ := sg_b2_s hf
      refine sg_ci (va_runV (As := [.int p1, .int 0, .int 0]) (rest := []) ⟨hx, hb, hml, hown, hts⟩ (c_X1_addNode l D cA ad N _ _ _ _ _ _ hc1 _) (cwV 3 hts gX5_addSource_X1_addNode rfl rfl rfl (by decide +kernel) ⟨Nat.le_of_ble_eq_true rfl, Nat.le_of_ble_eq_true rfl⟩) (sg_pre hK hP hD (ci := 3) (q0 := 1) rfl rfl) rfl rfl hl.1 rfl (lv_room (Nat.le_of_ble_eq_true rfl)) dX5_addSource_29 ⟨Nat.le_of_ble_eq_true rfl, Nat.le_of_ble_eq_true rfl⟩) hD hS hA (fun H locs hP hD hS => ?_)
      obtain ⟨x7, hc4, hxx7, hf⟩ := sg_bt0_s hf
      refine sg_xi0 (vx_runS (As := [.int r2]) (rest := []) ⟨hx, hb, hml, hown, hts⟩ (c_X5_added l hlt D cA N _ x7 hc4 _) (va_cwS 1 hts gX5_addSource_X5_added rfl rfl rfl (by decide +kernel) ⟨Nat.le_of_ble_eq_true rfl, Nat.le_of_ble_eq_true rfl⟩) (sg_preT0 hK hT hS hA) rfl rfl hl.1 rfl (lv_room (Nat.le_of_ble_eq_true rfl)) dX5_addSource_32 ⟨Nat.le_of_ble_eq_true rfl, Nat.le_of_ble_eq_true rfl⟩) hP hD hS hA htab hlocks (by decide) (by decide) hxx7 (fun r5 u8 H locs hrx7 hP hS => ?_)
      replace hf := hf _ _ hrx7
      have hq := Option.some.inj hf
      exact sg_ti hx hb hr rfl hP hD hS dX5_addSource_35 hq hlocks (by decide) (by decide)
    · have hf := sg_in c9 hf
      refine W.widen (k := 0) (n := 0) (by decide) (by decide) ?_
      exact hJ12 _ _ _ _ hf hP hD hS (lv_sub hl [0] rfl)
set_option maxRecDepth 100000 in
set_option maxHeartbeats 4000000 in
theorem c_X5_bestAt (l : Launch) (hlt : l.stackTraces = false) (D : va_G) (cA : Nat → ClassId) (ad : Nat → Nat) (N : Nat) (u : sg_St) (p1 : Int32) (R : (Nat ⊕ Int32) × sg_St) (hf : fX5_bestAt N u p1 = some R) : sg_TI l D cA (sg_WX cA ad) yX5_bestAt wsX5_bestAt ({ frames := 35, cells := 1, slots := 6, locals := 892 }) [.ref (ad 0), .int p1] u 1 6 R := by
  intro sz
  refine vx_ofW (cc := cX5_bestAt) (maxL := 2) (ret := (some .int)) (by decide) rfl ?_
  intro p e s m args below meth c s₁ B hml htab hv
  obtain ⟨rfl, ⟨hsz, hP, hK, hD0⟩, hT⟩ := hv
  have hx := B.exec
  have hb := B.bytes
  have hr := B.returns
  have hts := atoms_spec (ws := wsX5_bestAt) B.pre
  have hown : s.vm.findClass RX5 = some m.cls := findClass_of_methodNamed B.named
  have hlocks := B.notSynchronized
  subst hsz
  have hD := hD0.self (sz := s.heap.size)
  generalize hAe : va_A (sg_WX cA ad u) s.heap.size = A at hD hT ⊢
  have hA : ∀ q : Nat, s.heap.size ≤ q → A q := fun q h => by rw [← hAe]; exact Or.inr h
  have hS : va_S A s.heap s.heap [] := va_S.rf
  have hl := lv_entry ([.ref (ad 0), .int p1]) (n := 2) (Nat.le_of_ble_eq_true rfl)
  rw [lg_entry_eq]
  generalize (lg_sl ([.ref (ad 0), .int p1]) ++ List.replicate (2 - (lg_sl ([.ref (ad 0), .int p1])).length) Slot.unset).toArray = ls at hl ⊢
  replace hl : lv_has ls 2 [(0, .ref (ad 0)), (1, .int p1)] := hl
  have hinX2 : ∀ w ∈ u_ws RX2 TX2 5, w ∈ wsX5_bestAt := by decide +kernel
  have hinX5 : ∀ w ∈ u_ws RX5 TX5 6, w ∈ wsX5_bestAt := by decide +kernel
  have hJ25 : ∀ (u : sg_St) (H : Heap) (locs : List Loc) (ls : Array Slot), fX5_bestAt_j25 N u  = some R → va_P D vwCl (sg_WX cA ad u) H → va_D A (sg_WX cA ad u) → va_S A s.heap H locs → lv_has ls 2 [(0, .ref (ad 0))] → W p l e (headSpec wsX5_bestAt ({ frames := 35, cells := 1, slots := 6, locals := 892 })).room s m ([.ref (ad 0), .int p1] : List Value).toArray below meth c H locs 0 0 (vx_MQ below (sg_QI D (sg_WX cA ad) A R) (sg_XC D (sg_WX cA ad) A R) ([.ref (ad 0), .int p1] : List Value).toArray s 1 6 A) (F0 m 25 ls []) := by
    intro u H locs ls hf hP hD hS hl
    unfold fX5_bestAt_j25 at hf
    have hq := Option.some.inj hf
    exact sg_throwW (cls := "java/lang/IndexOutOfBoundsException") (text := "the best plan has no line with this index") (k := 2) hx hb hlt hown hts hT hP hD hS (hl.1.trans hml.symm) htab hlocks (by decide +kernel) (by decide +kernel) (by decide +kernel) (by decide +kernel) (by decide +kernel) (by decide +kernel) (by decide +kernel) dX5_bestAt_25 dX5_bestAt_28 dX5_bestAt_29 dX5_bestAt_32 dX5_bestAt_35 ⟨Nat.le_of_ble_eq_true rfl, Nat.le_of_ble_eq_true rfl, Nat.le_of_ble_eq_true rfl, Nat.le_of_ble_eq_true rfl, by decide, by decide⟩ (by decide +kernel) hq
  unfold fX5_bestAt at hf
  refine lv_aload_n hx hb dX5_bestAt_0 rfl (lv_at hl 0 rfl) ?_
  refine va_get (D := D) (ci := 7) (C := RX5) (T := TX5) (N := 6) hx hb hts hinX5 hown hK.1 hP 0 rfl rfl 4 (by decide) (hts (.fieldLink RX5 46 "Switchgear" "planner" "LSwitchgear$Planner;") (by decide +kernel)) (fun _ h9 => h9) rfl dX5_bestAt_1 ?_
  obtain ⟨u3, hc1, hf⟩ := sg_b_s hf
  refine sg_cv (va_runV (As := []) (rest := []) ⟨hx, hb, hml, hown, hts⟩ (c_X2_findBest l D cA ad N _ _ hc1 _) (cwV 0 hts gX5_bestAt_X2_findBest rfl rfl rfl (by decide +kernel) ⟨Nat.le_of_ble_eq_true rfl, Nat.le_of_ble_eq_true rfl⟩) (sg_pre hK hP hD (ci := 4) (q0 := 5) rfl rfl) rfl rfl hl.1 rfl (lv_room (Nat.le_of_ble_eq_true rfl)) dX5_bestAt_4 ⟨Nat.le_of_ble_eq_true rfl, Nat.le_of_ble_eq_true rfl⟩) hD hS hA (fun H locs hP hD hS => ?_)
  refine lv_iload_n hx hb dX5_bestAt_7 rfl (lv_at hl 1 rfl) ?_
  refine lv_if_lt (tgt := 25) hx hb dX5_bestAt_8 (by decide) (fun c11 => ?_) (fun c11 => ?_)
  · have hf := sg_ip c11 hf
    refine W.widen (k := 0) (n := 0) (by decide) (by decide) ?_
    exact hJ25 _ _ _ _ hf hP hD hS (lv_sub hl [0] rfl)
  · have hf := sg_in c11 hf
    refine lv_iload_n hx hb dX5_bestAt_11 rfl (lv_at hl 1 rfl) ?_
    refine lv_aload_n hx hb dX5_bestAt_12 rfl (lv_at hl 0 rfl) ?_
    refine va_get (D := D) (ci := 7) (C := RX5) (T := TX5) (N := 6) hx hb hts hinX5 hown hK.1 hP 0 rfl rfl 4 (by decide) (hts (.fieldLink RX5 46 "Switchgear" "planner" "LSwitchgear$Planner;") (by decide +kernel)) (fun _ h9 => h9) rfl dX5_bestAt_13 ?_
    refine va_getN (D := D) (ci := 4) (C := RX2) (T := TX2) (N := 5) (host := RX5) (ref := RX2) hx hb hts hinX2 hown hK.1 hP 5 rfl rfl 3 (by decide) (va_Nw.use rfl (hK.2 _ (List.mem_of_getElem? (i := 17) rfl))) (fun _ h9 => h9) rfl dX5_bestAt_16 ?_
    obtain ⟨r5, hc4, hf⟩ := sg_b_s hf
    refine sg_ci0 (va_runS (As := [.int (u3 8 0)]) (rest := [.int p1]) ⟨hx, hb, hml, hown, hts⟩ (c_J6_bitCount_0f7a4 l D cA N _ _ hc4 _) (va_cwS 1 hts gX5_bestAt_J6_bitCount_0f7a4 rfl rfl rfl (by decide +kernel) ⟨Nat.le_of_ble_eq_true rfl, Nat.le_of_ble_eq_true rfl⟩) (sg_pre0 hK) rfl rfl hl.1 rfl (lv_room (Nat.le_of_ble_eq_true rfl)) dX5_bestAt_19 ⟨Nat.le_of_ble_eq_true rfl, Nat.le_of_ble_eq_true rfl⟩) hP hS hA (fun H locs hP hS => ?_)
    refine lv_icmp_lt (tgt := 36) hx hb dX5_bestAt_22 (by decide) (fun c10 => ?_) (fun c10 => ?_)
    · have hf := sg_ip c10 hf
      refine lv_aload_n hx hb dX5_bestAt_36 rfl (lv_at hl 0 rfl) ?_
      refine va_get (D := D) (ci := 7) (C := RX5) (T := TX5) (N := 6) hx hb hts hinX5 hown hK.1 hP 0 rfl rfl 4 (by decide) (hts (.fieldLink RX5 46 "Switchgear" "planner" "LSwitchgear$Planner;") (by decide +kernel)) (fun _ h9 => h9) rfl dX5_bestAt_37 ?_
      refine va_getN (D := D) (ci := 4) (C := RX2) (T := TX2) (N := 5) (host := RX5) (ref := RX2) hx hb hts hinX2 hown hK.1 hP 5 rfl rfl 3 (by decide) (va_Nw.use rfl (hK.2 _ (List.mem_of_getElem? (i := 17) rfl))) (fun _ h9 => h9) rfl dX5_bestAt_40 ?_
      refine lv_iload_n hx hb dX5_bestAt_43 rfl (lv_at hl 1 rfl) ?_
      obtain ⟨r8, hc7, hf⟩ := sg_b_s hf
      refine sg_ci0 (va_runS (As := [.int (u3 8 0), .int p1]) (rest := []) ⟨hx, hb, hml, hown, hts⟩ (c_X5_memberAt l D cA N _ _ _ hc7 _) (va_cwS 2 hts gX5_bestAt_X5_memberAt rfl rfl rfl (by decide +kernel) ⟨Nat.le_of_ble_eq_true rfl, Nat.le_of_ble_eq_true rfl⟩) (sg_pre0 hK) rfl rfl hl.1 rfl (lv_room (Nat.le_of_ble_eq_true rfl)) dX5_bestAt_44 ⟨Nat.le_of_ble_eq_true rfl, Nat.le_of_ble_eq_true rfl⟩) hP hS hA (fun H locs hP hS => ?_)
      have hq := Option.some.inj hf
      exact sg_ti hx hb hr rfl hP hD hS dX5_bestAt_47 hq hlocks (by decide) (by decide)
    · have hf := sg_in c10 hf
      refine W.widen (k := 0) (n := 0) (by decide) (by decide) ?_
      exact hJ25 _ _ _ _ hf hP hD hS (lv_sub hl [0] rfl)
set_option maxRecDepth 100000 in
set_option maxHeartbeats 4000000 in
theorem c_X5_bestSize (l : Launch) (D : va_G) (cA : Nat → ClassId) (ad : Nat → Nat) (N : Nat) (u : sg_St) (r : Int32) (u' : sg_St) (hf : fX5_bestSize N u = some (r, u')) : sg_CI l D cA (sg_WX cA ad) yX5_bestSize wsX5_bestSize ({ frames := 35, cells := 0, slots := 0, locals := 892 }) [.ref (ad 0)] u r u' := by
  intro sz
  refine Met.ofW (cc := cX5_bestSize) (maxL := 1) (ret := (some .int)) (by decide) rfl ?_
  intro p e s m args below meth c s₁ B hml hv
  obtain ⟨rfl, hsz, hP, hK, hD0⟩ := hv
  have hx := B.exec
  have hb := B.bytes
  have hr := B.returns
  have hts := atoms_spec (ws := wsX5_bestSize) B.pre
  have hown : s.vm.findClass RX5 = some m.cls := findClass_of_methodNamed B.named
  have hlocks := B.notSynchronized
  subst hsz
  have hD := hD0.self (sz := s.heap.size)
  generalize hAe : va_A (sg_WX cA ad u) s.heap.size = A at hD ⊢
  have hA : ∀ q : Nat, s.heap.size ≤ q → A q := fun q h => by rw [← hAe]; exact Or.inr h
  have hS : va_S A s.heap s.heap [] := va_S.rf
  have hl := lv_entry ([.ref (ad 0)]) (n := 1) (Nat.le_of_ble_eq_true rfl)
  rw [lg_entry_eq]
  generalize (lg_sl ([.ref (ad 0)]) ++ List.replicate (1 - (lg_sl ([.ref (ad 0)])).length) Slot.unset).toArray = ls at hl ⊢
  replace hl : lv_has ls 1 [(0, .ref (ad 0))] := hl
  have hinX2 : ∀ w ∈ u_ws RX2 TX2 5, w ∈ wsX5_bestSize := by decide +kernel
  have hinX5 : ∀ w ∈ u_ws RX5 TX5 6, w ∈ wsX5_bestSize := by decide +kernel
  unfold fX5_bestSize at hf
  refine lv_aload_n hx hb dX5_bestSize_0 rfl (lv_at hl 0 rfl) ?_
  refine va_get (D := D) (ci := 7) (C := RX5) (T := TX5) (N := 6) hx hb hts hinX5 hown hK.1 hP 0 rfl rfl 4 (by decide) (hts (.fieldLink RX5 46 "Switchgear" "planner" "LSwitchgear$Planner;") (by decide +kernel)) (fun _ h9 => h9) rfl dX5_bestSize_1 ?_
  obtain ⟨u3, hc1, hf⟩ := sg_b_s hf
  refine sg_cv (va_runV (As := []) (rest := []) ⟨hx, hb, hml, hown, hts⟩ (c_X2_findBest l D cA ad N _ _ hc1 _) (cwV 0 hts gX5_bestSize_X2_findBest rfl rfl rfl (by decide +kernel) ⟨Nat.le_of_ble_eq_true rfl, Nat.le_of_ble_eq_true rfl⟩) (sg_pre hK hP hD (ci := 4) (q0 := 5) rfl rfl) rfl rfl hl.1 rfl (lv_room (Nat.le_of_ble_eq_true rfl)) dX5_bestSize_4 ⟨Nat.zero_le _, Nat.zero_le _⟩) hD hS hA (fun H locs hP hD hS => ?_)
  refine lv_aload_n hx hb dX5_bestSize_7 rfl (lv_at hl 0 rfl) ?_
  refine va_get (D := D) (ci := 7) (C := RX5) (T := TX5) (N := 6) hx hb hts hinX5 hown hK.1 hP 0 rfl rfl 4 (by decide) (hts (.fieldLink RX5 46 "Switchgear" "planner" "LSwitchgear$Planner;") (by decide +kernel)) (fun _ h9 => h9) rfl dX5_bestSize_8 ?_
  refine va_getN (D := D) (ci := 4) (C := RX2) (T := TX2) (N := 5) (host := RX5) (ref := RX2) hx hb hts hinX2 hown hK.1 hP 5 rfl rfl 3 (by decide) (va_Nw.use rfl (hK.2 _ (List.mem_of_getElem? (i := 17) rfl))) (fun _ h9 => h9) rfl dX5_bestSize_11 ?_
  obtain ⟨r5, hc4, hf⟩ := sg_b_s hf
  refine sg_ci0 (va_runS (As := [.int (u3 8 0)]) (rest := []) ⟨hx, hb, hml, hown, hts⟩ (c_J6_bitCount_0f7a4 l D cA N _ _ hc4 _) (va_cwS 1 hts gX5_bestSize_J6_bitCount_0f7a4 rfl rfl rfl (by decide +kernel) ⟨Nat.le_of_ble_eq_true rfl, Nat.le_of_ble_eq_true rfl⟩) (sg_pre0 hK) rfl rfl hl.1 rfl (lv_room (Nat.le_of_ble_eq_true rfl)) dX5_bestSize_14 ⟨Nat.zero_le _, Nat.zero_le _⟩) hP hS hA (fun H locs hP hS => ?_)
  have hq := Option.some.inj hf
  exact sg_iret hx hb hr hP hD hS dX5_bestSize_17 (congrArg Prod.fst hq) (congrArg Prod.snd hq) hlocks
set_option maxRecDepth 100000 in
set_option maxHeartbeats 4000000 in
theorem c_X5_bestValue (l : Launch) (D : va_G) (cA : Nat → ClassId) (ad : Nat → Nat) (N : Nat) (u : sg_St) (r : Int32) (u' : sg_St) (hf : fX5_bestValue N u = some (r, u')) : sg_CI l D cA (sg_WX cA ad) yX5_bestValue wsX5_bestValue ({ frames := 35, cells := 0, slots := 0, locals := 892 }) [.ref (ad 0)] u r u' := by
  intro sz
  refine Met.ofW (cc := cX5_bestValue) (maxL := 1) (ret := (some .int)) (by decide) rfl ?_
  intro p e s m args below meth c s₁ B hml hv
  obtain ⟨rfl, hsz, hP, hK, hD0⟩ := hv
  have hx := B.exec
  have hb := B.bytes
  have hr := B.returns
  have hts := atoms_spec (ws := wsX5_bestValue) B.pre
  have hown : s.vm.findClass RX5 = some m.cls := findClass_of_methodNamed B.named
  have hlocks := B.notSynchronized
  subst hsz
  have hD := hD0.self (sz := s.heap.size)
  generalize hAe : va_A (sg_WX cA ad u) s.heap.size = A at hD ⊢
  have hA : ∀ q : Nat, s.heap.size ≤ q → A q := fun q h => by rw [← hAe]; exact Or.inr h
  have hS : va_S A s.heap s.heap [] := va_S.rf
  have hl := lv_entry ([.ref (ad 0)]) (n := 1) (Nat.le_of_ble_eq_true rfl)
  rw [lg_entry_eq]
  generalize (lg_sl ([.ref (ad 0)]) ++ List.replicate (1 - (lg_sl ([.ref (ad 0)])).length) Slot.unset).toArray = ls at hl ⊢
  replace hl : lv_has ls 1 [(0, .ref (ad 0))] := hl
  have hinX2 : ∀ w ∈ u_ws RX2 TX2 5, w ∈ wsX5_bestValue := by decide +kernel
  have hinX5 : ∀ w ∈ u_ws RX5 TX5 6, w ∈ wsX5_bestValue := by decide +kernel
  unfold fX5_bestValue at hf
  refine lv_aload_n hx hb dX5_bestValue_0 rfl (lv_at hl 0 rfl) ?_
  refine va_get (D := D) (ci := 7) (C := RX5) (T := TX5) (N := 6) hx hb hts hinX5 hown hK.1 hP 0 rfl rfl 4 (by decide) (hts (.fieldLink RX5 46 "Switchgear" "planner" "LSwitchgear$Planner;") (by decide +kernel)) (fun _ h9 => h9) rfl dX5_bestValue_1 ?_
  obtain ⟨u3, hc1, hf⟩ := sg_b_s hf
  refine sg_cv (va_runV (As := []) (rest := []) ⟨hx, hb, hml, hown, hts⟩ (c_X2_findBest l D cA ad N _ _ hc1 _) (cwV 0 hts gX5_bestValue_X2_findBest rfl rfl rfl (by decide +kernel) ⟨Nat.le_of_ble_eq_true rfl, Nat.le_of_ble_eq_true rfl⟩) (sg_pre hK hP hD (ci := 4) (q0 := 5) rfl rfl) rfl rfl hl.1 rfl (lv_room (Nat.le_of_ble_eq_true rfl)) dX5_bestValue_4 ⟨Nat.zero_le _, Nat.zero_le _⟩) hD hS hA (fun H locs hP hD hS => ?_)
  refine lv_aload_n hx hb dX5_bestValue_7 rfl (lv_at hl 0 rfl) ?_
  refine va_get (D := D) (ci := 7) (C := RX5) (T := TX5) (N := 6) hx hb hts hinX5 hown hK.1 hP 0 rfl rfl 4 (by decide) (hts (.fieldLink RX5 46 "Switchgear" "planner" "LSwitchgear$Planner;") (by decide +kernel)) (fun _ h9 => h9) rfl dX5_bestValue_8 ?_
  refine va_getN (D := D) (ci := 4) (C := RX2) (T := TX2) (N := 5) (host := RX5) (ref := RX2) hx hb hts hinX2 hown hK.1 hP 5 rfl rfl 4 (by decide) (va_Nw.use rfl (hK.2 _ (List.mem_of_getElem? (i := 16) rfl))) (fun _ h9 => h9) rfl dX5_bestValue_11 ?_
  have hq := Option.some.inj hf
  exact sg_iret hx hb hr hP hD hS dX5_bestValue_14 (congrArg Prod.fst hq) (congrArg Prod.snd hq) hlocks
set_option maxRecDepth 100000 in
set_option maxHeartbeats 4000000 in
theorem c_X5_needLine (l : Launch) (hlt : l.stackTraces = false) (D : va_G) (cA : Nat → ClassId) (ad : Nat → Nat) (N : Nat) (u : sg_St) (p1 : Int32) (R : (Nat ⊕ Unit) × sg_St) (hf : fX5_needLine N u p1 = some R) : sg_TV l D cA (sg_WX cA ad) yX5_needLine wsX5_needLine ({ frames := 8, cells := 1, slots := 6, locals := 400 }) [.ref (ad 0), .int p1] u 1 6 R := by
  intro sz
  refine vx_ofW (cc := cX5_needLine) (maxL := 2) (ret := none) (by decide) rfl ?_
  intro p e s m args below meth c s₁ B hml htab hv
  obtain ⟨rfl, ⟨hsz, hP, hK, hD0⟩, hT⟩ := hv
  have hx := B.exec
  have hb := B.bytes
  have hr := B.returns
  have hts := atoms_spec (ws := wsX5_needLine) B.pre
  have hown : s.vm.findClass RX5 = some m.cls := findClass_of_methodNamed B.named
  have hlocks := B.notSynchronized
  subst hsz
  have hD := hD0.self (sz := s.heap.size)
  generalize hAe : va_A (sg_WX cA ad u) s.heap.size = A at hD hT ⊢
  have hA : ∀ q : Nat, s.heap.size ≤ q → A q := fun q h => by rw [← hAe]; exact Or.inr h
  have hS : va_S A s.heap s.heap [] := va_S.rf
  have hl := lv_entry ([.ref (ad 0), .int p1]) (n := 2) (Nat.le_of_ble_eq_true rfl)
  rw [lg_entry_eq]
  generalize (lg_sl ([.ref (ad 0), .int p1]) ++ List.replicate (2 - (lg_sl ([.ref (ad 0), .int p1])).length) Slot.unset).toArray = ls at hl ⊢
  replace hl : lv_has ls 2 [(0, .ref (ad 0)), (1, .int p1)] := hl
  have hinX5 : ∀ w ∈ u_ws RX5 TX5 6, w ∈ wsX5_needLine := by decide +kernel
  unfold fX5_needLine at hf
  refine lv_aload_n hx hb dX5_needLine_0 rfl (lv_at hl 0 rfl) ?_
  refine va_get (D := D) (ci := 7) (C := RX5) (T := TX5) (N := 6) hx hb hts hinX5 hown hK.1 hP 0 rfl rfl 0 (by decide) (hts (.fieldLink RX5 10 "Switchgear" "grid" "LSwitchgear$Grid;") (by decide +kernel)) (fun _ h9 => h9) rfl dX5_needLine_1 ?_
  refine lv_iload_n hx hb dX5_needLine_4 rfl (lv_at hl 1 rfl) ?_
  obtain ⟨r2, hc1, hf⟩ := sg_b_s hf
  refine sg_ci (va_runV (As := [.int p1]) (rest := []) ⟨hx, hb, hml, hown, hts⟩ (c_X1_isLine l D cA ad N _ _ _ hc1 _) (cwV 1 hts gX5_needLine_X1_isLine rfl rfl rfl (by decide +kernel) ⟨Nat.le_of_ble_eq_true rfl, Nat.le_of_ble_eq_true rfl⟩) (sg_pre hK hP hD (ci := 3) (q0 := 1) rfl rfl) rfl rfl hl.1 rfl (lv_room (Nat.le_of_ble_eq_true rfl)) dX5_needLine_5 ⟨Nat.le_of_ble_eq_true rfl, Nat.le_of_ble_eq_true rfl⟩) hD hS hA (fun H locs hP hD hS => ?_)
  refine lv_if_ne (tgt := 22) hx hb dX5_needLine_8 (by decide) (fun c4 => ?_) (fun c4 => ?_)
  · have hf := sg_in c4 hf
    have hq := Option.some.inj hf
    exact sg_tv hx hb hr hP hD hS dX5_needLine_22 hq hlocks (by decide) (by decide)
  · have hf := sg_ip c4 hf
    have hq := Option.some.inj hf
    exact sg_throwN (cls := "java/util/NoSuchElementException") (text := "there is no such line") (k := 5) hx hb hlt hown hts hT hP hD hS (hl.1.trans hml.symm) htab hlocks (by decide +kernel) (by decide +kernel) (by decide +kernel) (by decide +kernel) (by decide +kernel) (by decide +kernel) (by decide +kernel) dX5_needLine_11 dX5_needLine_14 dX5_needLine_15 dX5_needLine_18 dX5_needLine_21 ⟨Nat.le_of_ble_eq_true rfl, Nat.le_of_ble_eq_true rfl, Nat.le_of_ble_eq_true rfl, Nat.le_of_ble_eq_true rfl, by decide, by decide⟩ (by decide +kernel) hq
set_option maxRecDepth 100000 in
set_option maxHeartbeats 4000000 in
theorem c_X5_canClose (l : Launch) (hlt : l.stackTraces = false) (D : va_G) (cA : Nat → ClassId) (ad : Nat → Nat) (N : Nat) (u : sg_St) (p1 : Int32) (R : (Nat ⊕ Int32) × sg_St) (hf : fX5_canClose N u p1 = some R) : sg_TI l D cA (sg_WX cA ad) yX5_canClose wsX5_canClose ({ frames := 18, cells := 1, slots := 6, locals := 472 }) [.ref (ad 0), .int p1] u 1 6 R := by
  intro sz
  refine vx_ofW (cc := cX5_canClose) (maxL := 2) (ret := (some .char)) (by decide) rfl ?_
  intro p e s m args below meth c s₁ B hml htab hv
  obtain ⟨rfl, ⟨hsz, hP, hK, hD0⟩, hT⟩ := hv
  have hx := B.exec
  have hb := B.bytes
  have hr := B.returns
  have hts := atoms_spec (ws := wsX5_canClose) B.pre
  have hown : s.vm.findClass RX5 = some m.cls := findClass_of_methodNamed B.named
  have hlocks := B.notSynchronized
  subst hsz
  have hD := hD0.self (sz := s.heap.size)
  generalize hAe : va_A (sg_WX cA ad u) s.heap.size = A at hD hT ⊢
  have hA : ∀ q : Nat, s.heap.size ≤ q → A q := fun q h => by rw [← hAe]; exact Or.inr h
  have hS : va_S A s.heap s.heap [] := va_S.rf
  have hl := lv_entry ([.ref (ad 0), .int p1]) (n := 2) (Nat.le_of_ble_eq_true rfl)
  rw [lg_entry_eq]
  generalize (lg_sl ([.ref (ad 0), .int p1]) ++ List.replicate (2 - (lg_sl ([.ref (ad 0), .int p1])).length) Slot.unset).toArray = ls at hl ⊢
  replace hl : lv_has ls 2 [(0, .ref (ad 0)), (1, .int p1)] := hl
  have hinX4 : ∀ w ∈ u_ws RX4 TX4 5, w ∈ wsX5_canClose := by decide +kernel
  have hinX5 : ∀ w ∈ u_ws RX5 TX5 6, w ∈ wsX5_canClose := by decide +kernel
  unfold fX5_canClose at hf
  refine lv_aload_n hx hb dX5_canClose_0 rfl (lv_at hl 0 rfl) ?_
  refine lv_iload_n hx hb dX5_canClose_1 rfl (lv_at hl 1 rfl) ?_
  obtain ⟨x4, hc1, hxx4, hf⟩ := sg_bt_s hf
  refine sg_xv (vx_runV (As := [.int p1]) (rest := []) ⟨hx, hb, hml, hown, hts⟩ (c_X5_needLine l hlt D cA ad N _ _ x4 hc1 _) (cwV 1 hts gX5_canClose_X5_needLine rfl rfl rfl (by decide +kernel) ⟨Nat.le_of_ble_eq_true rfl, Nat.le_of_ble_eq_true rfl⟩) (sg_preT hK hP hD hT hS hA (ci := 7) (q0 := 0) rfl rfl) rfl rfl hl.1 rfl (lv_room (Nat.le_of_ble_eq_true rfl)) dX5_canClose_2 ⟨Nat.le_of_ble_eq_true rfl, Nat.le_of_ble_eq_true rfl⟩) hD hS hA htab hlocks (by decide) (by decide) hxx4 (fun u3 H locs hrx4 hP hD hS => ?_)
  replace hf := hf _ _ hrx4
  refine lv_aload_n hx hb dX5_canClose_5 rfl (lv_at hl 0 rfl) ?_
  refine va_get (D := D) (ci := 7) (C := RX5) (T := TX5) (N := 6) hx hb hts hinX5 hown hK.1 hP 0 rfl rfl 2 (by decide) (hts (.fieldLink RX5 30 "Switchgear" "switches" "LSwitchgear$Switches;") (by decide +kernel)) (fun _ h9 => h9) rfl dX5_canClose_6 ?_
  refine lv_iload_n hx hb dX5_canClose_9 rfl (lv_at hl 1 rfl) ?_
  refine lv_aload_n hx hb dX5_canClose_10 rfl (lv_at hl 0 rfl) ?_
  refine va_get (D := D) (ci := 7) (C := RX5) (T := TX5) (N := 6) hx hb hts hinX5 hown hK.1 hP 0 rfl rfl 2 (by decide) (hts (.fieldLink RX5 30 "Switchgear" "switches" "LSwitchgear$Switches;") (by decide +kernel)) (fun _ h9 => h9) rfl dX5_canClose_11 ?_
  refine va_getN (D := D) (ci := 6) (C := RX4) (T := TX4) (N := 5) (host := RX5) (ref := RX4) hx hb hts hinX4 hown hK.1 hP 3 rfl rfl 2 (by decide) (va_Nw.use rfl (hK.2 _ (List.mem_of_getElem? (i := 10) rfl))) (fun _ h9 => h9) rfl dX5_canClose_14 ?_
  obtain ⟨r6, u7, hc5, hf⟩ := sg_b2_s hf
  refine sg_ci (va_runV (As := [.int p1, .int (u3 4 0)]) (rest := []) ⟨hx, hb, hml, hown, hts⟩ (c_X4_closeReason l D cA ad N _ _ _ _ _ hc5 _) (cwV 2 hts gX5_canClose_X4_closeReason rfl rfl rfl (by decide +kernel) ⟨Nat.le_of_ble_eq_true rfl, Nat.le_of_ble_eq_true rfl⟩) (sg_pre hK hP hD (ci := 6) (q0 := 3) rfl rfl) rfl rfl hl.1 rfl (lv_room (Nat.le_of_ble_eq_true rfl)) dX5_canClose_17 ⟨Nat.le_of_ble_eq_true rfl, Nat.le_of_ble_eq_true rfl⟩) hD hS hA (fun H locs hP hD hS => ?_)
  obtain ⟨hg8, hf⟩ := sg_g_s hf
  have hq := Option.some.inj hf
  exact sg_ti hx hb hr (sg_nc hg8) hP hD hS dX5_canClose_20 hq hlocks (by decide) (by decide)
set_option maxRecDepth 100000 in
set_option maxHeartbeats 4000000 in
theorem c_X5_canOpen (l : Launch) (hlt : l.stackTraces = false) (D : va_G) (cA : Nat → ClassId) (ad : Nat → Nat) (N : Nat) (u : sg_St) (p1 : Int32) (R : (Nat ⊕ Int32) × sg_St) (hf : fX5_canOpen N u p1 = some R) : sg_TI l D cA (sg_WX cA ad) yX5_canOpen wsX5_canOpen ({ frames := 18, cells := 1, slots := 6, locals := 465 }) [.ref (ad 0), .int p1] u 1 6 R := by
  intro sz
  refine vx_ofW (cc := cX5_canOpen) (maxL := 2) (ret := (some .char)) (by decide) rfl ?_
  intro p e s m args below meth c s₁ B hml htab hv
  obtain ⟨rfl, ⟨hsz, hP, hK, hD0⟩, hT⟩ := hv
  have hx := B.exec
  have hb := B.bytes
  have hr := B.returns
  have hts := atoms_spec (ws := wsX5_canOpen) B.pre
  have hown : s.vm.findClass RX5 = some m.cls := findClass_of_methodNamed B.named
  have hlocks := B.notSynchronized
  subst hsz
  have hD := hD0.self (sz := s.heap.size)
  generalize hAe : va_A (sg_WX cA ad u) s.heap.size = A at hD hT ⊢
  have hA : ∀ q : Nat, s.heap.size ≤ q → A q := fun q h => by rw [← hAe]; exact Or.inr h
  have hS : va_S A s.heap s.heap [] := va_S.rf
  have hl := lv_entry ([.ref (ad 0), .int p1]) (n := 2) (Nat.le_of_ble_eq_true rfl)
  rw [lg_entry_eq]
  generalize (lg_sl ([.ref (ad 0), .int p1]) ++ List.replicate (2 - (lg_sl ([.ref (ad 0), .int p1])).length) Slot.unset).toArray = ls at hl ⊢
  replace hl : lv_has ls 2 [(0, .ref (ad 0)), (1, .int p1)] := hl
  have hinX5 : ∀ w ∈ u_ws RX5 TX5 6, w ∈ wsX5_canOpen := by decide +kernel
  unfold fX5_canOpen at hf
  refine lv_aload_n hx hb dX5_canOpen_0 rfl (lv_at hl 0 rfl) ?_
  refine lv_iload_n hx hb dX5_canOpen_1 rfl (lv_at hl 1 rfl) ?_
  obtain ⟨x4, hc1, hxx4, hf⟩ := sg_bt_s hf
  refine sg_xv (vx_runV (As := [.int p1]) (rest := []) ⟨hx, hb, hml, hown, hts⟩ (c_X5_needLine l hlt D cA ad N _ _ x4 hc1 _) (cwV 1 hts gX5_canOpen_X5_needLine rfl rfl rfl (by decide +kernel) ⟨Nat.le_of_ble_eq_true rfl, Nat.le_of_ble_eq_true rfl⟩) (sg_preT hK hP hD hT hS hA (ci := 7) (q0 := 0) rfl rfl) rfl rfl hl.1 rfl (lv_room (Nat.le_of_ble_eq_true rfl)) dX5_canOpen_2 ⟨Nat.le_of_ble_eq_true rfl, Nat.le_of_ble_eq_true rfl⟩) hD hS hA htab hlocks (by decide) (by decide) hxx4 (fun u3 H locs hrx4 hP hD hS => ?_)
  replace hf := hf _ _ hrx4
  refine lv_aload_n hx hb dX5_canOpen_5 rfl (lv_at hl 0 rfl) ?_
  refine va_get (D := D) (ci := 7) (C := RX5) (T := TX5) (N := 6) hx hb hts hinX5 hown hK.1 hP 0 rfl rfl 2 (by decide) (hts (.fieldLink RX5 30 "Switchgear" "switches" "LSwitchgear$Switches;") (by decide +kernel)) (fun _ h9 => h9) rfl dX5_canOpen_6 ?_
  refine lv_iload_n hx hb dX5_canOpen_9 rfl (lv_at hl 1 rfl) ?_
  obtain ⟨r6, u7, hc5, hf⟩ := sg_b2_s hf
  refine sg_ci (va_runV (As := [.int p1]) (rest := []) ⟨hx, hb, hml, hown, hts⟩ (c_X4_openReason l D cA ad N _ _ _ _ hc5 _) (cwV 1 hts gX5_canOpen_X4_openReason rfl rfl rfl (by decide +kernel) ⟨Nat.le_of_ble_eq_true rfl, Nat.le_of_ble_eq_true rfl⟩) (sg_pre hK hP hD (ci := 6) (q0 := 3) rfl rfl) rfl rfl hl.1 rfl (lv_room (Nat.le_of_ble_eq_true rfl)) dX5_canOpen_10 ⟨Nat.le_of_ble_eq_true rfl, Nat.le_of_ble_eq_true rfl⟩) hD hS hA (fun H locs hP hD hS => ?_)
  obtain ⟨hg8, hf⟩ := sg_g_s hf
  have hq := Option.some.inj hf
  exact sg_ti hx hb hr (sg_nc hg8) hP hD hS dX5_canOpen_13 hq hlocks (by decide) (by decide)
set_option maxRecDepth 100000 in
set_option maxHeartbeats 4000000 in
theorem c_X5_close (l : Launch) (hlt : l.stackTraces = false) (D : va_G) (cA : Nat → ClassId) (ad : Nat → Nat) (N : Nat) (u : sg_St) (p1 : Int32) (R : (Nat ⊕ Int32) × sg_St) (hf : fX5_close N u p1 = some R) : sg_TI l D cA (sg_WX cA ad) yX5_close wsX5_close ({ frames := 18, cells := 1, slots := 6, locals := 472 }) [.ref (ad 0), .int p1] u 1 6 R := by
  intro sz
  refine vx_ofW (cc := cX5_close) (maxL := 3) (ret := (some .char)) (by decide) rfl ?_
  intro p e s m args below meth c s₁ B hml htab hv
  obtain ⟨rfl, ⟨hsz, hP, hK, hD0⟩, hT⟩ := hv
  have hx := B.exec
  have hb := B.bytes
  have hr := B.returns
  have hts := atoms_spec (ws := wsX5_close) B.pre
  have hown : s.vm.findClass RX5 = some m.cls := findClass_of_methodNamed B.named
  have hlocks := B.notSynchronized
  subst hsz
  have hD := hD0.self (sz := s.heap.size)
  generalize hAe : va_A (sg_WX cA ad u) s.heap.size = A at hD hT ⊢
  have hA : ∀ q : Nat, s.heap.size ≤ q → A q := fun q h => by rw [← hAe]; exact Or.inr h
  have hS : va_S A s.heap s.heap [] := va_S.rf
  have hl := lv_entry ([.ref (ad 0), .int p1]) (n := 3) (Nat.le_of_ble_eq_true rfl)
  rw [lg_entry_eq]
  generalize (lg_sl ([.ref (ad 0), .int p1]) ++ List.replicate (3 - (lg_sl ([.ref (ad 0), .int p1])).length) Slot.unset).toArray = ls at hl ⊢
  replace hl : lv_has ls 3 [(0, .ref (ad 0)), (1, .int p1)] := hl
  have hinX4 : ∀ w ∈ u_ws RX4 TX4 5, w ∈ wsX5_close := by decide +kernel
  have hinX5 : ∀ w ∈ u_ws RX5 TX5 6, w ∈ wsX5_close := by decide +kernel
  unfold fX5_close at hf
  refine lv_aload_n hx hb dX5_close_0 rfl (lv_at hl 0 rfl) ?_
  refine lv_iload_n hx hb dX5_close_1 rfl (lv_at hl 1 rfl) ?_
  obtain ⟨x4, hc1, hxx4, hf⟩ := sg_bt_s hf
  refine sg_xv (vx_runV (As := [.int p1]) (rest := []) ⟨hx, hb, hml, hown, hts⟩ (c_X5_needLine l hlt D cA ad N _ _ x4 hc1 _) (cwV 1 hts gX5_close_X5_needLine rfl rfl rfl (by decide +kernel) ⟨Nat.le_of_ble_eq_true rfl, Nat.le_of_ble_eq_true rfl⟩) (sg_preT hK hP hD hT hS hA (ci := 7) (q0 := 0) rfl rfl) rfl rfl hl.1 rfl (lv_room (Nat.le_of_ble_eq_true rfl)) dX5_close_2 ⟨Nat.le_of_ble_eq_true rfl, Nat.le_of_ble_eq_true rfl⟩) hD hS hA htab hlocks (by decide) (by decide) hxx4 (fun u3 H locs hrx4 hP hD hS => ?_)
  replace hf := hf _ _ hrx4
  refine lv_aload_n hx hb dX5_close_5 rfl (lv_at hl 0 rfl) ?_
  refine va_get (D := D) (ci := 7) (C := RX5) (T := TX5) (N := 6) hx hb hts hinX5 hown hK.1 hP 0 rfl rfl 2 (by decide) (hts (.fieldLink RX5 30 "Switchgear" "switches" "LSwitchgear$Switches;") (by decide +kernel)) (fun _ h9 => h9) rfl dX5_close_6 ?_
  refine lv_iload_n hx hb dX5_close_9 rfl (lv_at hl 1 rfl) ?_
  refine lv_aload_n hx hb dX5_close_10 rfl (lv_at hl 0 rfl) ?_
  refine va_get (D := D) (ci := 7) (C := RX5) (T := TX5) (N := 6) hx hb hts hinX5 hown hK.1 hP 0 rfl rfl 2 (by decide) (hts (.fieldLink RX5 30 "Switchgear" "switches" "LSwitchgear$Switches;") (by decide +kernel)) (fun _ h9 => h9) rfl dX5_close_11 ?_
  refine va_getN (D := D) (ci := 6) (C := RX4) (T := TX4) (N := 5) (host := RX5) (ref := RX4) hx hb hts hinX4 hown hK.1 hP 3 rfl rfl 2 (by decide) (va_Nw.use rfl (hK.2 _ (List.mem_of_getElem? (i := 10) rfl))) (fun _ h9 => h9) rfl dX5_close_14 ?_
  obtain ⟨r6, u7, hc5, hf⟩ := sg_b2_s hf
  refine sg_ci (va_runV (As := [.int p1, .int (u3 4 0)]) (rest := []) ⟨hx, hb, hml, hown, hts⟩ (c_X4_closeReason l D cA ad N _ _ _ _ _ hc5 _) (cwV 2 hts gX5_close_X4_closeReason rfl rfl rfl (by decide +kernel) ⟨Nat.le_of_ble_eq_true rfl, Nat.le_of_ble_eq_true rfl⟩) (sg_pre hK hP hD (ci := 6) (q0 := 3) rfl rfl) rfl rfl hl.1 rfl (lv_room (Nat.le_of_ble_eq_true rfl)) dX5_close_17 ⟨Nat.le_of_ble_eq_true rfl, Nat.le_of_ble_eq_true rfl⟩) hD hS hA (fun H locs hP hD hS => ?_)
  refine lv_istore_n (lv' := [(2, .int r6), (0, .ref (ad 0)), (1, .int p1)]) hx hb dX5_close_20 rfl hl (by decide) rfl (fun ls hl => ?_)
  refine lv_iload_n hx hb dX5_close_21 rfl (lv_at hl 0 rfl) ?_
  refine lv_bipush (v := 110) hx hb dX5_close_22 (by decide) ?_
  refine lv_icmp_ne (tgt := 38) hx hb dX5_close_24 (by decide) (fun c16 => ?_) (fun c16 => ?_)
  · have hf := sg_in c16 hf
    refine lv_iload_n hx hb dX5_close_38 rfl (lv_at hl 0 rfl) ?_
    obtain ⟨hg8, hf⟩ := sg_g_s hf
    have hq := Option.some.inj hf
    exact sg_ti hx hb hr (sg_nc hg8) hP hD hS dX5_close_39 hq hlocks (by decide) (by decide)
  · have hf := sg_ip c16 hf
    refine lv_aload_n hx hb dX5_close_27 rfl (lv_at hl 1 rfl) ?_
    refine va_get (D := D) (ci := 7) (C := RX5) (T := TX5) (N := 6) hx hb hts hinX5 hown hK.1 hP 0 rfl rfl 2 (by decide) (hts (.fieldLink RX5 30 "Switchgear" "switches" "LSwitchgear$Switches;") (by decide +kernel)) (fun _ h9 => h9) rfl dX5_close_28 ?_
    refine lv_iload_n hx hb dX5_close_31 rfl (lv_at hl 2 rfl) ?_
    obtain ⟨r10, hc9, hf⟩ := sg_b_s hf
    refine sg_ci0 (va_runS (As := [.int p1]) (rest := [.ref (ad 3)]) ⟨hx, hb, hml, hown, hts⟩ (c_X5_bit l D cA N _ _ hc9 _) (va_cwS 1 hts gX5_close_X5_bit rfl rfl rfl (by decide +kernel) ⟨Nat.le_of_ble_eq_true rfl, Nat.le_of_ble_eq_true rfl⟩) (sg_pre0 hK) rfl rfl hl.1 rfl (lv_room (Nat.le_of_ble_eq_true rfl)) dX5_close_32 ⟨Nat.le_of_ble_eq_true rfl, Nat.le_of_ble_eq_true rfl⟩) hP hS hA (fun H locs hP hS => ?_)
    obtain ⟨u14, hc12, hf⟩ := sg_b_s hf
    refine sg_cv (va_runV (As := [.int r10]) (rest := []) ⟨hx, hb, hml, hown, hts⟩ (c_X4_closeAll l D cA ad N _ _ _ hc12 _) (cwV 1 hts gX5_close_X4_closeAll rfl rfl rfl (by decide +kernel) ⟨Nat.le_of_ble_eq_true rfl, Nat.le_of_ble_eq_true rfl⟩) (sg_pre hK hP hD (ci := 6) (q0 := 3) rfl rfl) rfl rfl hl.1 rfl (lv_room (Nat.le_of_ble_eq_true rfl)) dX5_close_35 ⟨Nat.le_of_ble_eq_true rfl, Nat.le_of_ble_eq_true rfl⟩) hD hS hA (fun H locs hP hD hS => ?_)
    refine lv_iload_n hx hb dX5_close_38 rfl (lv_at hl 0 rfl) ?_
    obtain ⟨hg15, hf⟩ := sg_g_s hf
    have hq := Option.some.inj hf
    exact sg_ti hx hb hr (sg_nc hg15) hP hD hS dX5_close_39 hq hlocks (by decide) (by decide)
set_option maxRecDepth 100000 in
set_option maxHeartbeats 4000000 in
theorem c_X5_current (l : Launch) (hlt : l.stackTraces = false) (D : va_G) (cA : Nat → ClassId) (ad : Nat → Nat) (N : Nat) (u : sg_St) (p1 : Int32) (R : (Nat ⊕ Int32) × sg_St) (hf : fX5_current N u p1 = some R) : sg_TI l D cA (sg_WX cA ad) yX5_current wsX5_current ({ frames := 17, cells := 1, slots := 6, locals := 444 }) [.ref (ad 0), .int p1] u 1 6 R := by
  intro sz
  refine vx_ofW (cc := cX5_current) (maxL := 2) (ret := (some .int)) (by decide) rfl ?_
  intro p e s m args below meth c s₁ B hml htab hv
  obtain ⟨rfl, ⟨hsz, hP, hK, hD0⟩, hT⟩ := hv
  have hx := B.exec
  have hb := B.bytes
  have hr := B.returns
  have hts := atoms_spec (ws := wsX5_current) B.pre
  have hown : s.vm.findClass RX5 = some m.cls := findClass_of_methodNamed B.named
  have hlocks := B.notSynchronized
  subst hsz
  have hD := hD0.self (sz := s.heap.size)
  generalize hAe : va_A (sg_WX cA ad u) s.heap.size = A at hD hT ⊢
  have hA : ∀ q : Nat, s.heap.size ≤ q → A q := fun q h => by rw [← hAe]; exact Or.inr h
  have hS : va_S A s.heap s.heap [] := va_S.rf
  have hl := lv_entry ([.ref (ad 0), .int p1]) (n := 2) (Nat.le_of_ble_eq_true rfl)
  rw [lg_entry_eq]
  generalize (lg_sl ([.ref (ad 0), .int p1]) ++ List.replicate (2 - (lg_sl ([.ref (ad 0), .int p1])).length) Slot.unset).toArray = ls at hl ⊢
  replace hl : lv_has ls 2 [(0, .ref (ad 0)), (1, .int p1)] := hl
  have hinX4 : ∀ w ∈ u_ws RX4 TX4 5, w ∈ wsX5_current := by decide +kernel
  have hinX5 : ∀ w ∈ u_ws RX5 TX5 6, w ∈ wsX5_current := by decide +kernel
  unfold fX5_current at hf
  refine lv_aload_n hx hb dX5_current_0 rfl (lv_at hl 0 rfl) ?_
  refine lv_iload_n hx hb dX5_current_1 rfl (lv_at hl 1 rfl) ?_
  obtain ⟨x4, hc1, hxx4, hf⟩ := sg_bt_s hf
  refine sg_xv (vx_runV (As := [.int p1]) (rest := []) ⟨hx, hb, hml, hown, hts⟩ (c_X5_needLine l hlt D cA ad N _ _ x4 hc1 _) (cwV 1 hts gX5_current_X5_needLine rfl rfl rfl (by decide +kernel) ⟨Nat.le_of_ble_eq_true rfl, Nat.le_of_ble_eq_true rfl⟩) (sg_preT hK hP hD hT hS hA (ci := 7) (q0 := 0) rfl rfl) rfl rfl hl.1 rfl (lv_room (Nat.le_of_ble_eq_true rfl)) dX5_current_2 ⟨Nat.le_of_ble_eq_true rfl, Nat.le_of_ble_eq_true rfl⟩) hD hS hA htab hlocks (by decide) (by decide) hxx4 (fun u3 H locs hrx4 hP hD hS => ?_)
  replace hf := hf _ _ hrx4
  refine lv_aload_n hx hb dX5_current_5 rfl (lv_at hl 0 rfl) ?_
  refine va_get (D := D) (ci := 7) (C := RX5) (T := TX5) (N := 6) hx hb hts hinX5 hown hK.1 hP 0 rfl rfl 1 (by decide) (hts (.fieldLink RX5 21 "Switchgear" "feeder" "LSwitchgear$Feeder;") (by decide +kernel)) (fun _ h9 => h9) rfl dX5_current_6 ?_
  refine lv_iload_n hx hb dX5_current_9 rfl (lv_at hl 1 rfl) ?_
  refine lv_aload_n hx hb dX5_current_10 rfl (lv_at hl 0 rfl) ?_
  refine va_get (D := D) (ci := 7) (C := RX5) (T := TX5) (N := 6) hx hb hts hinX5 hown hK.1 hP 0 rfl rfl 2 (by decide) (hts (.fieldLink RX5 30 "Switchgear" "switches" "LSwitchgear$Switches;") (by decide +kernel)) (fun _ h9 => h9) rfl dX5_current_11 ?_
  refine va_getN (D := D) (ci := 6) (C := RX4) (T := TX4) (N := 5) (host := RX5) (ref := RX4) hx hb hts hinX4 hown hK.1 hP 3 rfl rfl 2 (by decide) (va_Nw.use rfl (hK.2 _ (List.mem_of_getElem? (i := 10) rfl))) (fun _ h9 => h9) rfl dX5_current_14 ?_
  obtain ⟨r6, u7, hc5, hf⟩ := sg_b2_s hf
  refine sg_ci (va_runV (As := [.int p1, .int (u3 4 0)]) (rest := []) ⟨hx, hb, hml, hown, hts⟩ (c_X0_currentIn l D cA ad N _ _ _ _ _ hc5 _) (cwV 2 hts gX5_current_X0_currentIn rfl rfl rfl (by decide +kernel) ⟨Nat.le_of_ble_eq_true rfl, Nat.le_of_ble_eq_true rfl⟩) (sg_pre hK hP hD (ci := 2) (q0 := 2) rfl rfl) rfl rfl hl.1 rfl (lv_room (Nat.le_of_ble_eq_true rfl)) dX5_current_17 ⟨Nat.le_of_ble_eq_true rfl, Nat.le_of_ble_eq_true rfl⟩) hD hS hA (fun H locs hP hD hS => ?_)
  have hq := Option.some.inj hf
  exact sg_ti hx hb hr rfl hP hD hS dX5_current_20 hq hlocks (by decide) (by decide)
set_option maxRecDepth 100000 in
set_option maxHeartbeats 4000000 in
theorem c_X5_currentByCutting (l : Launch) (hlt : l.stackTraces = false) (D : va_G) (cA : Nat → ClassId) (ad : Nat → Nat) (N : Nat) (u : sg_St) (p1 : Int32) (R : (Nat ⊕ Int32) × sg_St) (hf : fX5_currentByCutting N u p1 = some R) : sg_TI l D cA (sg_WX cA ad) yX5_currentByCutting wsX5_currentByCutting ({ frames := 9, cells := 1, slots := 6, locals := 421 }) [.ref (ad 0), .int p1] u 1 6 R := by
  intro sz
  refine vx_ofW (cc := cX5_currentByCutting) (maxL := 2) (ret := (some .int)) (by decide) rfl ?_
  intro p e s m args below meth c s₁ B hml htab hv
  obtain ⟨rfl, ⟨hsz, hP, hK, hD0⟩, hT⟩ := hv
  have hx := B.exec
  have hb := B.bytes
  have hr := B.returns
  have hts := atoms_spec (ws := wsX5_currentByCutting) B.pre
  have hown : s.vm.findClass RX5 = some m.cls := findClass_of_methodNamed B.named
  have hlocks := B.notSynchronized
  subst hsz
  have hD := hD0.self (sz := s.heap.size)
  generalize hAe : va_A (sg_WX cA ad u) s.heap.size = A at hD hT ⊢
  have hA : ∀ q : Nat, s.heap.size ≤ q → A q := fun q h => by rw [← hAe]; exact Or.inr h
  have hS : va_S A s.heap s.heap [] := va_S.rf
  have hl := lv_entry ([.ref (ad 0), .int p1]) (n := 2) (Nat.le_of_ble_eq_true rfl)
  rw [lg_entry_eq]
  generalize (lg_sl ([.ref (ad 0), .int p1]) ++ List.replicate (2 - (lg_sl ([.ref (ad 0), .int p1])).length) Slot.unset).toArray = ls at hl ⊢
  replace hl : lv_has ls 2 [(0, .ref (ad 0)), (1, .int p1)] := hl
  have hinX4 : ∀ w ∈ u_ws RX4 TX4 5, w ∈ wsX5_currentByCutting := by decide +kernel
  have hinX5 : ∀ w ∈ u_ws RX5 TX5 6, w ∈ wsX5_currentByCutting := by decide +kernel
  unfold fX5_currentByCutting at hf
  refine lv_aload_n hx hb dX5_currentByCutting_0 rfl (lv_at hl 0 rfl) ?_
  refine lv_iload_n hx hb dX5_currentByCutting_1 rfl (lv_at hl 1 rfl) ?_
  obtain ⟨x4, hc1, hxx4, hf⟩ := sg_bt_s hf
  refine sg_xv (vx_runV (As := [.int p1]) (rest := []) ⟨hx, hb, hml, hown, hts⟩ (c_X5_needLine l hlt D cA ad N _ _ x4 hc1 _) (cwV 1 hts gX5_currentByCutting_X5_needLine rfl rfl rfl (by decide +kernel) ⟨Nat.le_of_ble_eq_true rfl, Nat.le_of_ble_eq_true rfl⟩) (sg_preT hK hP hD hT hS hA (ci := 7) (q0 := 0) rfl rfl) rfl rfl hl.1 rfl (lv_room (Nat.le_of_ble_eq_true rfl)) dX5_currentByCutting_2 ⟨Nat.le_of_ble_eq_true rfl, Nat.le_of_ble_eq_true rfl⟩) hD hS hA htab hlocks (by decide) (by decide) hxx4 (fun u3 H locs hrx4 hP hD hS => ?_)
  replace hf := hf _ _ hrx4
  refine lv_aload_n hx hb dX5_currentByCutting_5 rfl (lv_at hl 0 rfl) ?_
  refine va_get (D := D) (ci := 7) (C := RX5) (T := TX5) (N := 6) hx hb hts hinX5 hown hK.1 hP 0 rfl rfl 0 (by decide) (hts (.fieldLink RX5 10 "Switchgear" "grid" "LSwitchgear$Grid;") (by decide +kernel)) (fun _ h9 => h9) rfl dX5_currentByCutting_6 ?_
  refine lv_iload_n hx hb dX5_currentByCutting_9 rfl (lv_at hl 1 rfl) ?_
  refine lv_aload_n hx hb dX5_currentByCutting_10 rfl (lv_at hl 0 rfl) ?_
  refine va_get (D := D) (ci := 7) (C := RX5) (T := TX5) (N := 6) hx hb hts hinX5 hown hK.1 hP 0 rfl rfl 2 (by decide) (hts (.fieldLink RX5 30 "Switchgear" "switches" "LSwitchgear$Switches;") (by decide +kernel)) (fun _ h9 => h9) rfl dX5_currentByCutting_11 ?_
  refine va_getN (D := D) (ci := 6) (C := RX4) (T := TX4) (N := 5) (host := RX5) (ref := RX4) hx hb hts hinX4 hown hK.1 hP 3 rfl rfl 2 (by decide) (va_Nw.use rfl (hK.2 _ (List.mem_of_getElem? (i := 10) rfl))) (fun _ h9 => h9) rfl dX5_currentByCutting_14 ?_
  obtain ⟨r6, hc5, hf⟩ := sg_b_s hf
  refine sg_ci (va_runV (As := [.int p1, .int (u3 4 0)]) (rest := []) ⟨hx, hb, hml, hown, hts⟩ (c_X1_loadCutOffBy l D cA ad N _ _ _ _ hc5 _) (cwV 2 hts gX5_currentByCutting_X1_loadCutOffBy rfl rfl rfl (by decide +kernel) ⟨Nat.le_of_ble_eq_true rfl, Nat.le_of_ble_eq_true rfl⟩) (sg_pre hK hP hD (ci := 3) (q0 := 1) rfl rfl) rfl rfl hl.1 rfl (lv_room (Nat.le_of_ble_eq_true rfl)) dX5_currentByCutting_17 ⟨Nat.le_of_ble_eq_true rfl, Nat.le_of_ble_eq_true rfl⟩) hD hS hA (fun H locs hP hD hS => ?_)
  have hq := Option.some.inj hf
  exact sg_ti hx hb hr rfl hP hD hS dX5_currentByCutting_20 hq hlocks (by decide) (by decide)
set_option maxRecDepth 100000 in
set_option maxHeartbeats 4000000 in
theorem c_X5_liveNodes (l : Launch) (D : va_G) (cA : Nat → ClassId) (ad : Nat → Nat) (N : Nat) (u : sg_St) (r : Int32) (hf : fX5_liveNodes N u = some r) : sg_CI l D cA (sg_WX cA ad) yX5_liveNodes wsX5_liveNodes ({ frames := 4, cells := 0, slots := 0, locals := 97 }) [.ref (ad 0)] u r u := by
  intro sz
  refine Met.ofW (cc := cX5_liveNodes) (maxL := 1) (ret := (some .int)) (by decide) rfl ?_
  intro p e s m args below meth c s₁ B hml hv
  obtain ⟨rfl, hsz, hP, hK, hD0⟩ := hv
  have hx := B.exec
  have hb := B.bytes
  have hr := B.returns
  have hts := atoms_spec (ws := wsX5_liveNodes) B.pre
  have hown : s.vm.findClass RX5 = some m.cls := findClass_of_methodNamed B.named
  have hlocks := B.notSynchronized
  subst hsz
  have hD := hD0.self (sz := s.heap.size)
  generalize hAe : va_A (sg_WX cA ad u) s.heap.size = A at hD ⊢
  have hA : ∀ q : Nat, s.heap.size ≤ q → A q := fun q h => by rw [← hAe]; exact Or.inr h
  have hS : va_S A s.heap s.heap [] := va_S.rf
  have hl := lv_entry ([.ref (ad 0)]) (n := 1) (Nat.le_of_ble_eq_true rfl)
  rw [lg_entry_eq]
  generalize (lg_sl ([.ref (ad 0)]) ++ List.replicate (1 - (lg_sl ([.ref (ad 0)])).length) Slot.unset).toArray = ls at hl ⊢
  replace hl : lv_has ls 1 [(0, .ref (ad 0))] := hl
  have hinX4 : ∀ w ∈ u_ws RX4 TX4 5, w ∈ wsX5_liveNodes := by decide +kernel
  have hinX5 : ∀ w ∈ u_ws RX5 TX5 6, w ∈ wsX5_liveNodes := by decide +kernel
  unfold fX5_liveNodes at hf
  refine lv_aload_n hx hb dX5_liveNodes_0 rfl (lv_at hl 0 rfl) ?_
  refine va_get (D := D) (ci := 7) (C := RX5) (T := TX5) (N := 6) hx hb hts hinX5 hown hK.1 hP 0 rfl rfl 0 (by decide) (hts (.fieldLink RX5 10 "Switchgear" "grid" "LSwitchgear$Grid;") (by decide +kernel)) (fun _ h9 => h9) rfl dX5_liveNodes_1 ?_
  refine lv_aload_n hx hb dX5_liveNodes_4 rfl (lv_at hl 0 rfl) ?_
  refine va_get (D := D) (ci := 7) (C := RX5) (T := TX5) (N := 6) hx hb hts hinX5 hown hK.1 hP 0 rfl rfl 2 (by decide) (hts (.fieldLink RX5 30 "Switchgear" "switches" "LSwitchgear$Switches;") (by decide +kernel)) (fun _ h9 => h9) rfl dX5_liveNodes_5 ?_
  refine va_getN (D := D) (ci := 6) (C := RX4) (T := TX4) (N := 5) (host := RX5) (ref := RX4) hx hb hts hinX4 hown hK.1 hP 3 rfl rfl 2 (by decide) (va_Nw.use rfl (hK.2 _ (List.mem_of_getElem? (i := 10) rfl))) (fun _ h9 => h9) rfl dX5_liveNodes_8 ?_
  obtain ⟨r2, hc1, hf⟩ := sg_b_s hf
  refine sg_ci (va_runV (As := [.int (u 4 0)]) (rest := []) ⟨hx, hb, hml, hown, hts⟩ (c_X1_liveWith l D cA ad N _ _ _ hc1 _) (cwV 1 hts gX5_liveNodes_X1_liveWith rfl rfl rfl (by decide +kernel) ⟨Nat.le_of_ble_eq_true rfl, Nat.le_of_ble_eq_true rfl⟩) (sg_pre hK hP hD (ci := 3) (q0 := 1) rfl rfl) rfl rfl hl.1 rfl (lv_room (Nat.le_of_ble_eq_true rfl)) dX5_liveNodes_11 ⟨Nat.zero_le _, Nat.zero_le _⟩) hD hS hA (fun H locs hP hD hS => ?_)
  have hq := Option.some.inj hf
  exact sg_iret hx hb hr hP hD hS dX5_liveNodes_14 hq rfl hlocks
set_option maxRecDepth 100000 in
set_option maxHeartbeats 4000000 in
theorem c_X5_darkLoad (l : Launch) (D : va_G) (cA : Nat → ClassId) (ad : Nat → Nat) (N : Nat) (u : sg_St) (r : Int32) (hf : fX5_darkLoad N u = some r) : sg_CI l D cA (sg_WX cA ad) yX5_darkLoad wsX5_darkLoad ({ frames := 5, cells := 0, slots := 0, locals := 117 }) [.ref (ad 0)] u r u := by
  intro sz
  refine Met.ofW (cc := cX5_darkLoad) (maxL := 1) (ret := (some .int)) (by decide) rfl ?_
  intro p e s m args below meth c s₁ B hml hv
  obtain ⟨rfl, hsz, hP, hK, hD0⟩ := hv
  have hx := B.exec
  have hb := B.bytes
  have hr := B.returns
  have hts := atoms_spec (ws := wsX5_darkLoad) B.pre
  have hown : s.vm.findClass RX5 = some m.cls := findClass_of_methodNamed B.named
  have hlocks := B.notSynchronized
  subst hsz
  have hD := hD0.self (sz := s.heap.size)
  generalize hAe : va_A (sg_WX cA ad u) s.heap.size = A at hD ⊢
  have hA : ∀ q : Nat, s.heap.size ≤ q → A q := fun q h => by rw [← hAe]; exact Or.inr h
  have hS : va_S A s.heap s.heap [] := va_S.rf
  have hl := lv_entry ([.ref (ad 0)]) (n := 1) (Nat.le_of_ble_eq_true rfl)
  rw [lg_entry_eq]
  generalize (lg_sl ([.ref (ad 0)]) ++ List.replicate (1 - (lg_sl ([.ref (ad 0)])).length) Slot.unset).toArray = ls at hl ⊢
  replace hl : lv_has ls 1 [(0, .ref (ad 0))] := hl
  have hinX5 : ∀ w ∈ u_ws RX5 TX5 6, w ∈ wsX5_darkLoad := by decide +kernel
  unfold fX5_darkLoad at hf
  refine lv_aload_n hx hb dX5_darkLoad_0 rfl (lv_at hl 0 rfl) ?_
  refine va_get (D := D) (ci := 7) (C := RX5) (T := TX5) (N := 6) hx hb hts hinX5 hown hK.1 hP 0 rfl rfl 0 (by decide) (hts (.fieldLink RX5 10 "Switchgear" "grid" "LSwitchgear$Grid;") (by decide +kernel)) (fun _ h9 => h9) rfl dX5_darkLoad_1 ?_
  refine lv_aload_n hx hb dX5_darkLoad_4 rfl (lv_at hl 0 rfl) ?_
  refine va_get (D := D) (ci := 7) (C := RX5) (T := TX5) (N := 6) hx hb hts hinX5 hown hK.1 hP 0 rfl rfl 0 (by decide) (hts (.fieldLink RX5 10 "Switchgear" "grid" "LSwitchgear$Grid;") (by decide +kernel)) (fun _ h9 => h9) rfl dX5_darkLoad_5 ?_
  obtain ⟨r2, hc1, hf⟩ := sg_b_s hf
  refine sg_ci (va_runV (As := []) (rest := [.ref (ad 1)]) ⟨hx, hb, hml, hown, hts⟩ (c_X1_allNodes l D cA ad N _ _ hc1 _) (cwV 0 hts gX5_darkLoad_X1_allNodes rfl rfl rfl (by decide +kernel) ⟨Nat.le_of_ble_eq_true rfl, Nat.le_of_ble_eq_true rfl⟩) (sg_pre hK hP hD (ci := 3) (q0 := 1) rfl rfl) rfl rfl hl.1 rfl (lv_room (Nat.le_of_ble_eq_true rfl)) dX5_darkLoad_8 ⟨Nat.zero_le _, Nat.zero_le _⟩) hD hS hA (fun H locs hP hD hS => ?_)
  obtain ⟨r5, hc4, hf⟩ := sg_b_s hf
  refine sg_ci (va_runV (As := [.int r2]) (rest := []) ⟨hx, hb, hml, hown, hts⟩ (c_X1_loadIn l D cA ad N _ _ _ hc4 _) (cwV 1 hts gX5_darkLoad_X1_loadIn rfl rfl rfl (by decide +kernel) ⟨Nat.le_of_ble_eq_true rfl, Nat.le_of_ble_eq_true rfl⟩) (sg_pre hK hP hD (ci := 3) (q0 := 1) rfl rfl) rfl rfl hl.1 rfl (lv_room (Nat.le_of_ble_eq_true rfl)) dX5_darkLoad_11 ⟨Nat.zero_le _, Nat.zero_le _⟩) hD hS hA (fun H locs hP hD hS => ?_)
  refine lv_aload_n hx hb dX5_darkLoad_14 rfl (lv_at hl 0 rfl) ?_
  refine va_get (D := D) (ci := 7) (C := RX5) (T := TX5) (N := 6) hx hb hts hinX5 hown hK.1 hP 0 rfl rfl 0 (by decide) (hts (.fieldLink RX5 10 "Switchgear" "grid" "LSwitchgear$Grid;") (by decide +kernel)) (fun _ h9 => h9) rfl dX5_darkLoad_15 ?_
  refine lv_aload_n hx hb dX5_darkLoad_18 rfl (lv_at hl 0 rfl) ?_
  obtain ⟨r8, hc7, hf⟩ := sg_b_s hf
  refine sg_ci (va_runV (As := []) (rest := [.ref (ad 1), .int r5]) ⟨hx, hb, hml, hown, hts⟩ (c_X5_liveNodes l D cA ad N _ _ hc7 _) (cwV 0 hts gX5_darkLoad_X5_liveNodes rfl rfl rfl (by decide +kernel) ⟨Nat.le_of_ble_eq_true rfl, Nat.le_of_ble_eq_true rfl⟩) (sg_pre hK hP hD (ci := 7) (q0 := 0) rfl rfl) rfl rfl hl.1 rfl (lv_room (Nat.le_of_ble_eq_true rfl)) dX5_darkLoad_19 ⟨Nat.zero_le _, Nat.zero_le _⟩) hD hS hA (fun H locs hP hD hS => ?_)
  obtain ⟨r11, hc10, hf⟩ := sg_b_s hf
  refine sg_ci (va_runV (As := [.int r8]) (rest := [.int r5]) ⟨hx, hb, hml, hown, hts⟩ (c_X1_loadIn l D cA ad N _ _ _ hc10 _) (cwV 1 hts gX5_darkLoad_X1_loadIn rfl rfl rfl (by decide +kernel) ⟨Nat.le_of_ble_eq_true rfl, Nat.le_of_ble_eq_true rfl⟩) (sg_pre hK hP hD (ci := 3) (q0 := 1) rfl rfl) rfl rfl hl.1 rfl (lv_room (Nat.le_of_ble_eq_true rfl)) dX5_darkLoad_22 ⟨Nat.zero_le _, Nat.zero_le _⟩) hD hS hA (fun H locs hP hD hS => ?_)
  refine lv_isub hx hb dX5_darkLoad_25 ?_
  have hq := Option.some.inj hf
  exact sg_iret hx hb hr hP hD hS dX5_darkLoad_26 hq rfl hlocks
set_option maxRecDepth 100000 in
set_option maxHeartbeats 4000000 in
theorem c_X5_lengthOfPathTo (l : Launch) (hlt : l.stackTraces = false) (D : va_G) (cA : Nat → ClassId) (ad : Nat → Nat) (N : Nat) (u : sg_St) (p1 : Int32) (R : (Nat ⊕ Int32) × sg_St) (hf : fX5_lengthOfPathTo N u p1 = some R) : sg_TI l D cA (sg_WX cA ad) yX5_lengthOfPathTo wsX5_lengthOfPathTo ({ frames := 16, cells := 1, slots := 6, locals := 438 }) [.ref (ad 0), .int p1] u 1 6 R := by
  intro sz
  refine vx_ofW (cc := cX5_lengthOfPathTo) (maxL := 3) (ret := (some .int)) (by decide) rfl ?_
  intro p e s m args below meth c s₁ B hml htab hv
  obtain ⟨rfl, ⟨hsz, hP, hK, hD0⟩, hT⟩ := hv
  have hx := B.exec
  have hb := B.bytes
  have hr := B.returns
  have hts := atoms_spec (ws := wsX5_lengthOfPathTo) B.pre
  have hown : s.vm.findClass RX5 = some m.cls := findClass_of_methodNamed B.named
  have hlocks := B.notSynchronized
  subst hsz
  have hD := hD0.self (sz := s.heap.size)
  generalize hAe : va_A (sg_WX cA ad u) s.heap.size = A at hD hT ⊢
  have hA : ∀ q : Nat, s.heap.size ≤ q → A q := fun q h => by rw [← hAe]; exact Or.inr h
  have hS : va_S A s.heap s.heap [] := va_S.rf
  have hl := lv_entry ([.ref (ad 0), .int p1]) (n := 3) (Nat.le_of_ble_eq_true rfl)
  rw [lg_entry_eq]
  generalize (lg_sl ([.ref (ad 0), .int p1]) ++ List.replicate (3 - (lg_sl ([.ref (ad 0), .int p1])).length) Slot.unset).toArray = ls at hl ⊢
  replace hl : lv_has ls 3 [(0, .ref (ad 0)), (1, .int p1)] := hl
  have hinX4 : ∀ w ∈ u_ws RX4 TX4 5, w ∈ wsX5_lengthOfPathTo := by decide +kernel
  have hinX5 : ∀ w ∈ u_ws RX5 TX5 6, w ∈ wsX5_lengthOfPathTo := by decide +kernel
  unfold fX5_lengthOfPathTo at hf
  refine lv_aload_n hx hb dX5_lengthOfPathTo_0 rfl (lv_at hl 0 rfl) ?_
  refine va_get (D := D) (ci := 7) (C := RX5) (T := TX5) (N := 6) hx hb hts hinX5 hown hK.1 hP 0 rfl rfl 1 (by decide) (hts (.fieldLink RX5 21 "Switchgear" "feeder" "LSwitchgear$Feeder;") (by decide +kernel)) (fun _ h9 => h9) rfl dX5_lengthOfPathTo_1 ?_
  refine lv_iload_n hx hb dX5_lengthOfPathTo_4 rfl (lv_at hl 1 rfl) ?_
  refine lv_aload_n hx hb dX5_lengthOfPathTo_5 rfl (lv_at hl 0 rfl) ?_
  refine va_get (D := D) (ci := 7) (C := RX5) (T := TX5) (N := 6) hx hb hts hinX5 hown hK.1 hP 0 rfl rfl 2 (by decide) (hts (.fieldLink RX5 30 "Switchgear" "switches" "LSwitchgear$Switches;") (by decide +kernel)) (fun _ h9 => h9) rfl dX5_lengthOfPathTo_6 ?_
  refine va_getN (D := D) (ci := 6) (C := RX4) (T := TX4) (N := 5) (host := RX5) (ref := RX4) hx hb hts hinX4 hown hK.1 hP 3 rfl rfl 2 (by decide) (va_Nw.use rfl (hK.2 _ (List.mem_of_getElem? (i := 10) rfl))) (fun _ h9 => h9) rfl dX5_lengthOfPathTo_9 ?_
  obtain ⟨r2, u3, hc1, hf⟩ := sg_b2_s hf
  refine sg_ci (va_runV (As := [.int p1, .int (u 4 0)]) (rest := []) ⟨hx, hb, hml, hown, hts⟩ (c_X0_layPath l D cA ad N _ _ _ _ _ hc1 _) (cwV 2 hts gX5_lengthOfPathTo_X0_layPath rfl rfl rfl (by decide +kernel) ⟨Nat.le_of_ble_eq_true rfl, Nat.le_of_ble_eq_true rfl⟩) (sg_pre hK hP hD (ci := 2) (q0 := 2) rfl rfl) rfl rfl hl.1 rfl (lv_room (Nat.le_of_ble_eq_true rfl)) dX5_lengthOfPathTo_12 ⟨Nat.le_of_ble_eq_true rfl, Nat.le_of_ble_eq_true rfl⟩) hD hS hA (fun H locs hP hD hS => ?_)
  refine lv_istore_n (lv' := [(2, .int r2), (0, .ref (ad 0)), (1, .int p1)]) hx hb dX5_lengthOfPathTo_15 rfl hl (by decide) rfl (fun ls hl => ?_)
  refine lv_iload_n hx hb dX5_lengthOfPathTo_16 rfl (lv_at hl 0 rfl) ?_
  refine lv_if_ne (tgt := 31) hx hb dX5_lengthOfPathTo_17 (by decide) (fun c4 => ?_) (fun c4 => ?_)
  · have hf := sg_in c4 hf
    refine lv_iload_n hx hb dX5_lengthOfPathTo_31 rfl (lv_at hl 0 rfl) ?_
    have hq := Option.some.inj hf
    exact sg_ti hx hb hr rfl hP hD hS dX5_lengthOfPathTo_32 hq hlocks (by decide) (by decide)
  · have hf := sg_ip c4 hf
    have hq := Option.some.inj hf
    exact sg_throwW (cls := "java/lang/IllegalStateException") (text := "it is not a closed line of a live island") (k := 0) hx hb hlt hown hts hT hP hD hS (hl.1.trans hml.symm) htab hlocks (by decide +kernel) (by decide +kernel) (by decide +kernel) (by decide +kernel) (by decide +kernel) (by decide +kernel) (by decide +kernel) dX5_lengthOfPathTo_20 dX5_lengthOfPathTo_23 dX5_lengthOfPathTo_24 dX5_lengthOfPathTo_27 dX5_lengthOfPathTo_30 ⟨Nat.le_of_ble_eq_true rfl, Nat.le_of_ble_eq_true rfl, Nat.le_of_ble_eq_true rfl, Nat.le_of_ble_eq_true rfl, by decide, by decide⟩ (by decide +kernel) hq
set_option maxRecDepth 100000 in
set_option maxHeartbeats 4000000 in
theorem c_X5_distance (l : Launch) (hlt : l.stackTraces = false) (D : va_G) (cA : Nat → ClassId) (ad : Nat → Nat) (N : Nat) (u : sg_St) (p1 : Int32) (R : (Nat ⊕ Int32) × sg_St) (hf : fX5_distance N u p1 = some R) : sg_TI l D cA (sg_WX cA ad) yX5_distance wsX5_distance ({ frames := 17, cells := 2, slots := 12, locals := 460 }) [.ref (ad 0), .int p1] u 2 12 R := by
  intro sz
  refine vx_ofW (cc := cX5_distance) (maxL := 2) (ret := (some .int)) (by decide) rfl ?_
  intro p e s m args below meth c s₁ B hml htab hv
  obtain ⟨rfl, ⟨hsz, hP, hK, hD0⟩, hT⟩ := hv
  have hx := B.exec
  have hb := B.bytes
  have hr := B.returns
  have hts := atoms_spec (ws := wsX5_distance) B.pre
  have hown : s.vm.findClass RX5 = some m.cls := findClass_of_methodNamed B.named
  have hlocks := B.notSynchronized
  subst hsz
  have hD := hD0.self (sz := s.heap.size)
  generalize hAe : va_A (sg_WX cA ad u) s.heap.size = A at hD hT ⊢
  have hA : ∀ q : Nat, s.heap.size ≤ q → A q := fun q h => by rw [← hAe]; exact Or.inr h
  have hS : va_S A s.heap s.heap [] := va_S.rf
  have hl := lv_entry ([.ref (ad 0), .int p1]) (n := 2) (Nat.le_of_ble_eq_true rfl)
  rw [lg_entry_eq]
  generalize (lg_sl ([.ref (ad 0), .int p1]) ++ List.replicate (2 - (lg_sl ([.ref (ad 0), .int p1])).length) Slot.unset).toArray = ls at hl ⊢
  replace hl : lv_has ls 2 [(0, .ref (ad 0)), (1, .int p1)] := hl
  unfold fX5_distance at hf
  refine lv_aload_n hx hb dX5_distance_0 rfl (lv_at hl 0 rfl) ?_
  refine lv_iload_n hx hb dX5_distance_1 rfl (lv_at hl 1 rfl) ?_
  obtain ⟨x4, hc1, hxx4, hf⟩ := sg_bt_s hf
  refine sg_xv (vx_runV (As := [.int p1]) (rest := []) ⟨hx, hb, hml, hown, hts⟩ (c_X5_needLine l hlt D cA ad N _ _ x4 hc1 _) (cwV 1 hts gX5_distance_X5_needLine rfl rfl rfl (by decide +kernel) ⟨Nat.le_of_ble_eq_true rfl, Nat.le_of_ble_eq_true rfl⟩) (sg_preT hK hP hD hT hS hA (ci := 7) (q0 := 0) rfl rfl) rfl rfl hl.1 rfl (lv_room (Nat.le_of_ble_eq_true rfl)) dX5_distance_2 ⟨Nat.le_of_ble_eq_true rfl, Nat.le_of_ble_eq_true rfl⟩) hD hS hA htab hlocks (by decide) (by decide) hxx4 (fun u3 H locs hrx4 hP hD hS => ?_)
  replace hf := hf _ _ hrx4
  refine lv_aload_n hx hb dX5_distance_5 rfl (lv_at hl 0 rfl) ?_
  refine lv_iload_n hx hb dX5_distance_6 rfl (lv_at hl 1 rfl) ?_
  obtain ⟨x8, hc5, hxx8, hf⟩ := sg_bt_s hf
  refine sg_xi (vx_runV (As := [.int p1]) (rest := []) ⟨hx, hb, hml, hown, hts⟩ (c_X5_lengthOfPathTo l hlt D cA ad N _ _ x8 hc5 _) (cwV 1 hts gX5_distance_X5_lengthOfPathTo rfl rfl rfl (by decide +kernel) ⟨Nat.le_of_ble_eq_true rfl, Nat.le_of_ble_eq_true rfl⟩) (sg_preT hK hP hD hT hS hA (ci := 7) (q0 := 0) rfl rfl) rfl rfl hl.1 rfl (lv_room (Nat.le_of_ble_eq_true rfl)) dX5_distance_7 ⟨Nat.le_of_ble_eq_true rfl, Nat.le_of_ble_eq_true rfl⟩) hD hS hA htab hlocks (by decide) (by decide) hxx8 (fun r6 u7 H locs hrx8 hP hD hS => ?_)
  replace hf := hf _ _ hrx8
  have hq := Option.some.inj hf
  exact sg_ti hx hb hr rfl hP hD hS dX5_distance_10 hq hlocks (by decide) (by decide)
set_option maxRecDepth 100000 in
set_option maxHeartbeats 4000000 in
theorem c_X5_fault (l : Launch) (hlt : l.stackTraces = false) (D : va_G) (cA : Nat → ClassId) (ad : Nat → Nat) (N : Nat) (u : sg_St) (p1 : Int32) (R : (Nat ⊕ Int32) × sg_St) (hf : fX5_fault N u p1 = some R) : sg_TI l D cA (sg_WX cA ad) yX5_fault wsX5_fault ({ frames := 17, cells := 2, slots := 12, locals := 462 }) [.ref (ad 0), .int p1] u 2 12 R := by
  intro sz
  refine vx_ofW (cc := cX5_fault) (maxL := 4) (ret := (some .int)) (by decide) rfl ?_
  intro p e s m args below meth c s₁ B hml htab hv
  obtain ⟨rfl, ⟨hsz, hP, hK, hD0⟩, hT⟩ := hv
  have hx := B.exec
  have hb := B.bytes
  have hr := B.returns
  have hts := atoms_spec (ws := wsX5_fault) B.pre
  have hown : s.vm.findClass RX5 = some m.cls := findClass_of_methodNamed B.named
  have hlocks := B.notSynchronized
  subst hsz
  have hD := hD0.self (sz := s.heap.size)
  generalize hAe : va_A (sg_WX cA ad u) s.heap.size = A at hD hT ⊢
  have hA : ∀ q : Nat, s.heap.size ≤ q → A q := fun q h => by rw [← hAe]; exact Or.inr h
  have hS : va_S A s.heap s.heap [] := va_S.rf
  have hl := lv_entry ([.ref (ad 0), .int p1]) (n := 4) (Nat.le_of_ble_eq_true rfl)
  rw [lg_entry_eq]
  generalize (lg_sl ([.ref (ad 0), .int p1]) ++ List.replicate (4 - (lg_sl ([.ref (ad 0), .int p1])).length) Slot.unset).toArray = ls at hl ⊢
  replace hl : lv_has ls 4 [(0, .ref (ad 0)), (1, .int p1)] := hl
  have hinX4 : ∀ w ∈ u_ws RX4 TX4 5, w ∈ wsX5_fault := by decide +kernel
  have hinX5 : ∀ w ∈ u_ws RX5 TX5 6, w ∈ wsX5_fault := by decide +kernel
  unfold fX5_fault at hf
  refine lv_aload_n hx hb dX5_fault_0 rfl (lv_at hl 0 rfl) ?_
  refine lv_iload_n hx hb dX5_fault_1 rfl (lv_at hl 1 rfl) ?_
  obtain ⟨x4, hc1, hxx4, hf⟩ := sg_bt_s hf
  refine sg_xv (vx_runV (As := [.int p1]) (rest := []) ⟨hx, hb, hml, hown, hts⟩ (c_X5_needLine l hlt D cA ad N _ _ x4 hc1 _) (cwV 1 hts gX5_fault_X5_needLine rfl rfl rfl (by decide +kernel) ⟨Nat.le_of_ble_eq_true rfl, Nat.le_of_ble_eq_true rfl⟩) (sg_preT hK hP hD hT hS hA (ci := 7) (q0 := 0) rfl rfl) rfl rfl hl.1 rfl (lv_room (Nat.le_of_ble_eq_true rfl)) dX5_fault_2 ⟨Nat.le_of_ble_eq_true rfl, Nat.le_of_ble_eq_true rfl⟩) hD hS hA htab hlocks (by decide) (by decide) hxx4 (fun u3 H locs hrx4 hP hD hS => ?_)
  replace hf := hf _ _ hrx4
  refine lv_aload_n hx hb dX5_fault_5 rfl (lv_at hl 0 rfl) ?_
  refine va_get (D := D) (ci := 7) (C := RX5) (T := TX5) (N := 6) hx hb hts hinX5 hown hK.1 hP 0 rfl rfl 2 (by decide) (hts (.fieldLink RX5 30 "Switchgear" "switches" "LSwitchgear$Switches;") (by decide +kernel)) (fun _ h9 => h9) rfl dX5_fault_6 ?_
  refine va_getN (D := D) (ci := 6) (C := RX4) (T := TX4) (N := 5) (host := RX5) (ref := RX4) hx hb hts hinX4 hown hK.1 hP 3 rfl rfl 4 (by decide) (va_Nw.use rfl (hK.2 _ (List.mem_of_getElem? (i := 11) rfl))) (fun _ h9 => h9) rfl dX5_fault_9 ?_
  refine lv_iload_n hx hb dX5_fault_12 rfl (lv_at hl 1 rfl) ?_
  obtain ⟨r6, hc5, hf⟩ := sg_b_s hf
  refine sg_ci0 (va_runS (As := [.int (u3 6 0), .int p1]) (rest := []) ⟨hx, hb, hml, hown, hts⟩ (c_X5_has l D cA N _ _ _ hc5 _) (va_cwS 2 hts gX5_fault_X5_has rfl rfl rfl (by decide +kernel) ⟨Nat.le_of_ble_eq_true rfl, Nat.le_of_ble_eq_true rfl⟩) (sg_pre0 hK) rfl rfl hl.1 rfl (lv_room (Nat.le_of_ble_eq_true rfl)) dX5_fault_13 ⟨Nat.le_of_ble_eq_true rfl, Nat.le_of_ble_eq_true rfl⟩) hP hS hA (fun H locs hP hS => ?_)
  refine lv_if_eq (tgt := 29) hx hb dX5_fault_16 (by decide) (fun c34 => ?_) (fun c34 => ?_)
  · have hf := sg_ip c34 hf
    refine lv_aload_n hx hb dX5_fault_29 rfl (lv_at hl 0 rfl) ?_
    refine va_get (D := D) (ci := 7) (C := RX5) (T := TX5) (N := 6) hx hb hts hinX5 hown hK.1 hP 0 rfl rfl 3 (by decide) (hts (.fieldLink RX5 37 "Switchgear" "protection" "LSwitchgear$Protection;") (by decide +kernel)) (fun _ h9 => h9) rfl dX5_fault_30 ?_
    refine lv_iload_n hx hb dX5_fault_33 rfl (lv_at hl 1 rfl) ?_
    refine lv_aload_n hx hb dX5_fault_34 rfl (lv_at hl 0 rfl) ?_
    refine va_get (D := D) (ci := 7) (C := RX5) (T := TX5) (N := 6) hx hb hts hinX5 hown hK.1 hP 0 rfl rfl 2 (by decide) (hts (.fieldLink RX5 30 "Switchgear" "switches" "LSwitchgear$Switches;") (by decide +kernel)) (fun _ h9 => h9) rfl dX5_fault_35 ?_
    refine va_getN (D := D) (ci := 6) (C := RX4) (T := TX4) (N := 5) (host := RX5) (ref := RX4) hx hb hts hinX4 hown hK.1 hP 3 rfl rfl 2 (by decide) (va_Nw.use rfl (hK.2 _ (List.mem_of_getElem? (i := 10) rfl))) (fun _ h9 => h9) rfl dX5_fault_38 ?_
    obtain ⟨r9, u10, hc8, hf⟩ := sg_b2_s hf
    refine sg_ci (va_runV (As := [.int p1, .int (u3 4 0)]) (rest := []) ⟨hx, hb, hml, hown, hts⟩ (c_X3_answerTo l D cA ad N _ _ _ _ _ hc8 _) (cwV 2 hts gX5_fault_X3_answerTo rfl rfl rfl (by decide +kernel) ⟨Nat.le_of_ble_eq_true rfl, Nat.le_of_ble_eq_true rfl⟩) (sg_pre hK hP hD (ci := 5) (q0 := 4) rfl rfl) rfl rfl hl.1 rfl (lv_room (Nat.le_of_ble_eq_true rfl)) dX5_fault_41 ⟨Nat.le_of_ble_eq_true rfl, Nat.le_of_ble_eq_true rfl⟩) hD hS hA (fun H locs hP hD hS => ?_)
    refine lv_istore_n (lv' := [(2, .int r9), (0, .ref (ad 0)), (1, .int p1)]) hx hb dX5_fault_44 rfl hl (by decide) rfl (fun ls hl => ?_)
    refine lv_aload_n hx hb dX5_fault_45 rfl (lv_at hl 1 rfl) ?_
    refine va_get (D := D) (ci := 7) (C := RX5) (T := TX5) (N := 6) hx hb hts hinX5 hown hK.1 hP 0 rfl rfl 2 (by decide) (hts (.fieldLink RX5 30 "Switchgear" "switches" "LSwitchgear$Switches;") (by decide +kernel)) (fun _ h9 => h9) rfl dX5_fault_46 ?_
    refine lv_dup hx hb dX5_fault_49 rfl ?_
    refine va_getN (D := D) (ci := 6) (C := RX4) (T := TX4) (N := 5) (host := RX5) (ref := RX4) hx hb hts hinX4 hown hK.1 hP 3 rfl rfl 4 (by decide) (va_Nw.use rfl (hK.2 _ (List.mem_of_getElem? (i := 11) rfl))) (fun _ h9 => h9) rfl dX5_fault_50 ?_
    refine lv_iload_n hx hb dX5_fault_53 rfl (lv_at hl 2 rfl) ?_
    obtain ⟨r12, hc11, hf⟩ := sg_b_s hf
    refine sg_ci0 (va_runS (As := [.int p1]) (rest := [.int (u10 6 0), .ref (ad 3)]) ⟨hx, hb, hml, hown, hts⟩ (c_X5_bit l D cA N _ _ hc11 _) (va_cwS 1 hts gX5_fault_X5_bit rfl rfl rfl (by decide +kernel) ⟨Nat.le_of_ble_eq_true rfl, Nat.le_of_ble_eq_true rfl⟩) (sg_pre0 hK) rfl rfl hl.1 rfl (lv_room (Nat.le_of_ble_eq_true rfl)) dX5_fault_54 ⟨Nat.le_of_ble_eq_true rfl, Nat.le_of_ble_eq_true rfl⟩) hP hS hA (fun H locs hP hS => ?_)
    refine lv_ior hx hb dX5_fault_57 ?_
    refine va_putN (D := D) (ci := 6) (v := .int ((u10 6 0) ||| r12)) (ty := .int) (C := RX4) (T := TX4) (N := 5) (host := RX5) (ref := RX4) hx hb hts hinX4 tyX4 tyX4_ok nmX4 hown hK.1 hP hD hS 3 rfl rfl 4 (by decide) (va_Nw.use rfl (hK.2 _ (List.mem_of_getElem? (i := 11) rfl))) (fun _ h9 => h9) rfl (by decide +kernel) rfl rfl (Nat.le_of_ble_eq_true rfl) dX5_fault_58 (fun H locs hP hD hS => ?_)
    replace hP : va_P D vwCl (sg_WX cA ad (sg_set u10 6 0 ((u10 6 0) ||| r12))) H := by rw [← sg_WX_6]; exact hP
    replace hD : va_D A (sg_WX cA ad (sg_set u10 6 0 ((u10 6 0) ||| r12))) := by rw [← sg_WX_6]; exact hD
    refine lv_iload_n hx hb dX5_fault_61 rfl (lv_at hl 0 rfl) ?_
    refine lv_bipush (v := (-2)) hx hb dX5_fault_62 (by decide) ?_
    refine lv_icmp_ne (tgt := 111) hx hb dX5_fault_64 (by decide) (fun c33 => ?_) (fun c33 => ?_)
    · have hf := sg_in c33 hf
      refine lv_iload_n hx hb dX5_fault_111 rfl (lv_at hl 0 rfl) ?_
      refine lv_iconst (v := (-1)) hx hb dX5_fault_112 (by decide) ?_
      refine lv_icmp_eq (tgt := 137) hx hb dX5_fault_113 (by decide) (fun c20 => ?_) (fun c20 => ?_)
      · have hf := sg_ip c20 hf
        refine lv_iload_n hx hb dX5_fault_137 rfl (lv_at hl 0 rfl) ?_
        have hq := Option.some.inj hf
        exact sg_ti hx hb hr rfl hP hD hS dX5_fault_138 hq hlocks (by decide) (by decide)
      · have hf := sg_in c20 hf
        refine lv_aload_n hx hb dX5_fault_116 rfl (lv_at hl 1 rfl) ?_
        refine va_get (D := D) (ci := 7) (C := RX5) (T := TX5) (N := 6) hx hb hts hinX5 hown hK.1 hP 0 rfl rfl 2 (by decide) (hts (.fieldLink RX5 30 "Switchgear" "switches" "LSwitchgear$Switches;") (by decide +kernel)) (fun _ h9 => h9) rfl dX5_fault_117 ?_
        refine lv_iload_n hx hb dX5_fault_120 rfl (lv_at hl 0 rfl) ?_
        obtain ⟨r15, hc14, hf⟩ := sg_b_s hf
        refine sg_ci0 (va_runS (As := [.int r9]) (rest := [.ref (ad 3)]) ⟨hx, hb, hml, hown, hts⟩ (c_X5_bit l D cA N _ _ hc14 _) (va_cwS 1 hts gX5_fault_X5_bit rfl rfl rfl (by decide +kernel) ⟨Nat.le_of_ble_eq_true rfl, Nat.le_of_ble_eq_true rfl⟩) (sg_pre0 hK) rfl rfl hl.1 rfl (lv_room (Nat.le_of_ble_eq_true rfl)) dX5_fault_121 ⟨Nat.le_of_ble_eq_true rfl, Nat.le_of_ble_eq_true rfl⟩) hP hS hA (fun H locs hP hS => ?_)
        obtain ⟨u19, hc17, hf⟩ := sg_b_s hf
        refine sg_cv (va_runV (As := [.int r15]) (rest := []) ⟨hx, hb, hml, hown, hts⟩ (c_X4_lockOut l D cA ad N _ _ _ hc17 _) (cwV 1 hts gX5_fault_X4_lockOut rfl rfl rfl (by decide +kernel) ⟨Nat.le_of_ble_eq_true rfl, Nat.le_of_ble_eq_true rfl⟩) (sg_pre hK hP hD (ci := 6) (q0 := 3) rfl rfl) rfl rfl hl.1 rfl (lv_room (Nat.le_of_ble_eq_true rfl)) dX5_fault_124 ⟨Nat.le_of_ble_eq_true rfl, Nat.le_of_ble_eq_true rfl⟩) hD hS hA (fun H locs hP hD hS => ?_)
        refine lv_aload_n hx hb dX5_fault_127 rfl (lv_at hl 1 rfl) ?_
        refine lv_dup hx hb dX5_fault_128 rfl ?_
        refine va_get (D := D) (ci := 7) (C := RX5) (T := TX5) (N := 6) hx hb hts hinX5 hown hK.1 hP 0 rfl rfl 5 (by decide) (hts (.fieldLink RX5 168 "Switchgear" "tripCount" "I") (by decide +kernel)) (fun _ h9 => h9) rfl dX5_fault_129 ?_
        refine lv_iconst (v := 1) hx hb dX5_fault_132 (by decide) ?_
        refine lv_iadd hx hb dX5_fault_133 ?_
        refine va_put (D := D) (ci := 7) (v := .int ((u19 10 0) + 1)) (ty := .int) (C := RX5) (T := TX5) (N := 6) hx hb hts hinX5 tyX5 tyX5_ok nmX5 hown hK.1 hP hD hS 0 rfl rfl 5 (by decide) (hts (.fieldLink RX5 168 "Switchgear" "tripCount" "I") (by decide +kernel)) (fun _ h9 => h9) rfl (by decide +kernel) rfl rfl (Nat.le_of_ble_eq_true rfl) dX5_fault_134 (fun H locs hP hD hS => ?_)
        replace hP : va_P D vwCl (sg_WX cA ad (sg_set u19 10 0 ((u19 10 0) + 1))) H := by rw [← sg_WX_10]; exact hP
        replace hD : va_D A (sg_WX cA ad (sg_set u19 10 0 ((u19 10 0) + 1))) := by rw [← sg_WX_10]; exact hD
        refine lv_iload_n hx hb dX5_fault_137 rfl (lv_at hl 0 rfl) ?_
        have hq := Option.some.inj hf
        exact sg_ti hx hb hr rfl hP hD hS dX5_fault_138 hq hlocks (by decide) (by decide)
    · have hf := sg_ip c33 hf
      refine lv_aload_n hx hb dX5_fault_67 rfl (lv_at hl 1 rfl) ?_
      refine va_get (D := D) (ci := 7) (C := RX5) (T := TX5) (N := 6) hx hb hts hinX5 hown hK.1 hP 0 rfl rfl 0 (by decide) (hts (.fieldLink RX5 10 "Switchgear" "grid" "LSwitchgear$Grid;") (by decide +kernel)) (fun _ h9 => h9) rfl dX5_fault_68 ?_
      refine lv_iload_n hx hb dX5_fault_71 rfl (lv_at hl 2 rfl) ?_
      refine lv_aload_n hx hb dX5_fault_72 rfl (lv_at hl 1 rfl) ?_
      refine va_get (D := D) (ci := 7) (C := RX5) (T := TX5) (N := 6) hx hb hts hinX5 hown hK.1 hP 0 rfl rfl 2 (by decide) (hts (.fieldLink RX5 30 "Switchgear" "switches" "LSwitchgear$Switches;") (by decide +kernel)) (fun _ h9 => h9) rfl dX5_fault_73 ?_
      refine va_getN (D := D) (ci := 6) (C := RX4) (T := TX4) (N := 5) (host := RX5) (ref := RX4) hx hb hts hinX4 hown hK.1 hP 3 rfl rfl 2 (by decide) (va_Nw.use rfl (hK.2 _ (List.mem_of_getElem? (i := 10) rfl))) (fun _ h9 => h9) rfl dX5_fault_76 ?_
      obtain ⟨r22, hc21, hf⟩ := sg_b_s hf
      refine sg_ci (va_runV (As := [.int p1, .int ((sg_set u10 6 0 ((u10 6 0) ||| r12)) 4 0)]) (rest := []) ⟨hx, hb, hml, hown, hts⟩ (c_X1_sourceOfLine l D cA ad N _ _ _ _ hc21 _) (cwV 2 hts gX5_fault_X1_sourceOfLine rfl rfl rfl (by decide +kernel) ⟨Nat.le_of_ble_eq_true rfl, Nat.le_of_ble_eq_true rfl⟩) (sg_pre hK hP hD (ci := 3) (q0 := 1) rfl rfl) rfl rfl hl.1 rfl (lv_room (Nat.le_of_ble_eq_true rfl)) dX5_fault_79 ⟨Nat.le_of_ble_eq_true rfl, Nat.le_of_ble_eq_true rfl⟩) hD hS hA (fun H locs hP hD hS => ?_)
      refine lv_istore_n (lv' := [(3, .int r22), (2, .int r9), (0, .ref (ad 0)), (1, .int p1)]) hx hb dX5_fault_82 rfl hl (by decide) rfl (fun ls hl => ?_)
      refine lv_aload_n hx hb dX5_fault_83 rfl (lv_at hl 2 rfl) ?_
      refine va_get (D := D) (ci := 7) (C := RX5) (T := TX5) (N := 6) hx hb hts hinX5 hown hK.1 hP 0 rfl rfl 2 (by decide) (hts (.fieldLink RX5 30 "Switchgear" "switches" "LSwitchgear$Switches;") (by decide +kernel)) (fun _ h9 => h9) rfl dX5_fault_84 ?_
      refine lv_aload_n hx hb dX5_fault_87 rfl (lv_at hl 2 rfl) ?_
      refine va_get (D := D) (ci := 7) (C := RX5) (T := TX5) (N := 6) hx hb hts hinX5 hown hK.1 hP 0 rfl rfl 0 (by decide) (hts (.fieldLink RX5 10 "Switchgear" "grid" "LSwitchgear$Grid;") (by decide +kernel)) (fun _ h9 => h9) rfl dX5_fault_88 ?_
      refine lv_iload_n hx hb dX5_fault_91 rfl (lv_at hl 0 rfl) ?_
      obtain ⟨r25, hc24, hf⟩ := sg_b_s hf
      refine sg_ci0 (va_runS (As := [.int r22]) (rest := [.ref (ad 1), .ref (ad 3)]) ⟨hx, hb, hml, hown, hts⟩ (c_X5_bit l D cA N _ _ hc24 _) (va_cwS 1 hts gX5_fault_X5_bit rfl rfl rfl (by decide +kernel) ⟨Nat.le_of_ble_eq_true rfl, Nat.le_of_ble_eq_true rfl⟩) (sg_pre0 hK) rfl rfl hl.1 rfl (lv_room (Nat.le_of_ble_eq_true rfl)) dX5_fault_92 ⟨Nat.le_of_ble_eq_true rfl, Nat.le_of_ble_eq_true rfl⟩) hP hS hA (fun H locs hP hS => ?_)
      refine lv_aload_n hx hb dX5_fault_95 rfl (lv_at hl 2 rfl) ?_
      refine va_get (D := D) (ci := 7) (C := RX5) (T := TX5) (N := 6) hx hb hts hinX5 hown hK.1 hP 0 rfl rfl 2 (by decide) (hts (.fieldLink RX5 30 "Switchgear" "switches" "LSwitchgear$Switches;") (by decide +kernel)) (fun _ h9 => h9) rfl dX5_fault_96 ?_
      refine va_getN (D := D) (ci := 6) (C := RX4) (T := TX4) (N := 5) (host := RX5) (ref := RX4) hx hb hts hinX4 hown hK.1 hP 3 rfl rfl 2 (by decide) (va_Nw.use rfl (hK.2 _ (List.mem_of_getElem? (i := 10) rfl))) (fun _ h9 => h9) rfl dX5_fault_99 ?_
      obtain ⟨r28, hc27, hf⟩ := sg_b_s hf
      refine sg_ci (va_runV (As := [.int r25, .int ((sg_set u10 6 0 ((u10 6 0) ||| r12)) 4 0)]) (rest := [.ref (ad 3)]) ⟨hx, hb, hml, hown, hts⟩ (c_X1_linesAt l D cA ad N _ _ _ _ hc27 _) (cwV 2 hts gX5_fault_X1_linesAt rfl rfl rfl (by decide +kernel) ⟨Nat.le_of_ble_eq_true rfl, Nat.le_of_ble_eq_true rfl⟩) (sg_pre hK hP hD (ci := 3) (q0 := 1) rfl rfl) rfl rfl hl.1 rfl (lv_room (Nat.le_of_ble_eq_true rfl)) dX5_fault_102 ⟨Nat.le_of_ble_eq_true rfl, Nat.le_of_ble_eq_true rfl⟩) hD hS hA (fun H locs hP hD hS => ?_)
      obtain ⟨u32, hc30, hf⟩ := sg_b_s hf
      refine sg_cv (va_runV (As := [.int r28]) (rest := []) ⟨hx, hb, hml, hown, hts⟩ (c_X4_lockOut l D cA ad N _ _ _ hc30 _) (cwV 1 hts gX5_fault_X4_lockOut rfl rfl rfl (by decide +kernel) ⟨Nat.le_of_ble_eq_true rfl, Nat.le_of_ble_eq_true rfl⟩) (sg_pre hK hP hD (ci := 6) (q0 := 3) rfl rfl) rfl rfl hl.1 rfl (lv_room (Nat.le_of_ble_eq_true rfl)) dX5_fault_105 ⟨Nat.le_of_ble_eq_true rfl, Nat.le_of_ble_eq_true rfl⟩) hD hS hA (fun H locs hP hD hS => ?_)
      refine lv_goto (tgt := 137) hx hb dX5_fault_108 (by decide) ?_
      refine lv_iload_n hx hb dX5_fault_137 rfl (lv_at hl 1 rfl) ?_
      have hq := Option.some.inj hf
      exact sg_ti hx hb hr rfl hP hD hS dX5_fault_138 hq hlocks (by decide) (by decide)
  · have hf := sg_in c34 hf
    have hq := Option.some.inj hf
    exact sg_throw (cls := "java/lang/IllegalStateException") (text := "the line has a fault") (k := 0) hx hb hlt hown hts hT hP hD hS (hl.1.trans hml.symm) htab hlocks (by decide +kernel) (by decide +kernel) (by decide +kernel) (by decide +kernel) (by decide +kernel) (by decide +kernel) (by decide +kernel) dX5_fault_19 dX5_fault_22 dX5_fault_23 dX5_fault_25 dX5_fault_28 ⟨Nat.le_of_ble_eq_true rfl, Nat.le_of_ble_eq_true rfl, Nat.le_of_ble_eq_true rfl, Nat.le_of_ble_eq_true rfl, by decide, by decide⟩ (by decide +kernel) hq
set_option maxRecDepth 100000 in
set_option maxHeartbeats 4000000 in
theorem c_X5_faultCurrent (l : Launch) (hlt : l.stackTraces = false) (D : va_G) (cA : Nat → ClassId) (ad : Nat → Nat) (N : Nat) (u : sg_St) (p1 : Int32) (R : (Nat ⊕ Int32) × sg_St) (hf : fX5_faultCurrent N u p1 = some R) : sg_TI l D cA (sg_WX cA ad) yX5_faultCurrent wsX5_faultCurrent ({ frames := 17, cells := 2, slots := 12, locals := 460 }) [.ref (ad 0), .int p1] u 2 12 R := by
  intro sz
  refine vx_ofW (cc := cX5_faultCurrent) (maxL := 3) (ret := (some .int)) (by decide) rfl ?_
  intro p e s m args below meth c s₁ B hml htab hv
  obtain ⟨rfl, ⟨hsz, hP, hK, hD0⟩, hT⟩ := hv
  have hx := B.exec
  have hb := B.bytes
  have hr := B.returns
  have hts := atoms_spec (ws := wsX5_faultCurrent) B.pre
  have hown : s.vm.findClass RX5 = some m.cls := findClass_of_methodNamed B.named
  have hlocks := B.notSynchronized
  subst hsz
  have hD := hD0.self (sz := s.heap.size)
  generalize hAe : va_A (sg_WX cA ad u) s.heap.size = A at hD hT ⊢
  have hA : ∀ q : Nat, s.heap.size ≤ q → A q := fun q h => by rw [← hAe]; exact Or.inr h
  have hS : va_S A s.heap s.heap [] := va_S.rf
  have hl := lv_entry ([.ref (ad 0), .int p1]) (n := 3) (Nat.le_of_ble_eq_true rfl)
  rw [lg_entry_eq]
  generalize (lg_sl ([.ref (ad 0), .int p1]) ++ List.replicate (3 - (lg_sl ([.ref (ad 0), .int p1])).length) Slot.unset).toArray = ls at hl ⊢
  replace hl : lv_has ls 3 [(0, .ref (ad 0)), (1, .int p1)] := hl
  have hinX4 : ∀ w ∈ u_ws RX4 TX4 5, w ∈ wsX5_faultCurrent := by decide +kernel
  have hinX5 : ∀ w ∈ u_ws RX5 TX5 6, w ∈ wsX5_faultCurrent := by decide +kernel
  unfold fX5_faultCurrent at hf
  refine lv_aload_n hx hb dX5_faultCurrent_0 rfl (lv_at hl 0 rfl) ?_
  refine lv_iload_n hx hb dX5_faultCurrent_1 rfl (lv_at hl 1 rfl) ?_
  obtain ⟨x4, hc1, hxx4, hf⟩ := sg_bt_s hf
  refine sg_xv (vx_runV (As := [.int p1]) (rest := []) ⟨hx, hb, hml, hown, hts⟩ (c_X5_needLine l hlt D cA ad N _ _ x4 hc1 _) (cwV 1 hts gX5_faultCurrent_X5_needLine rfl rfl rfl (by decide +kernel) ⟨Nat.le_of_ble_eq_true rfl, Nat.le_of_ble_eq_true rfl⟩) (sg_preT hK hP hD hT hS hA (ci := 7) (q0 := 0) rfl rfl) rfl rfl hl.1 rfl (lv_room (Nat.le_of_ble_eq_true rfl)) dX5_faultCurrent_2 ⟨Nat.le_of_ble_eq_true rfl, Nat.le_of_ble_eq_true rfl⟩) hD hS hA htab hlocks (by decide) (by decide) hxx4 (fun u3 H locs hrx4 hP hD hS => ?_)
  replace hf := hf _ _ hrx4
  refine lv_aload_n hx hb dX5_faultCurrent_5 rfl (lv_at hl 0 rfl) ?_
  refine lv_iload_n hx hb dX5_faultCurrent_6 rfl (lv_at hl 1 rfl) ?_
  obtain ⟨x8, hc5, hxx8, hf⟩ := sg_bt_s hf
  refine sg_xi (vx_runV (As := [.int p1]) (rest := []) ⟨hx, hb, hml, hown, hts⟩ (c_X5_lengthOfPathTo l hlt D cA ad N _ _ x8 hc5 _) (cwV 1 hts gX5_faultCurrent_X5_lengthOfPathTo rfl rfl rfl (by decide +kernel) ⟨Nat.le_of_ble_eq_true rfl, Nat.le_of_ble_eq_true rfl⟩) (sg_preT hK hP hD hT hS hA (ci := 7) (q0 := 0) rfl rfl) rfl rfl hl.1 rfl (lv_room (Nat.le_of_ble_eq_true rfl)) dX5_faultCurrent_7 ⟨Nat.le_of_ble_eq_true rfl, Nat.le_of_ble_eq_true rfl⟩) hD hS hA htab hlocks (by decide) (by decide) hxx8 (fun r6 u7 H locs hrx8 hP hD hS => ?_)
  replace hf := hf _ _ hrx8
  refine lv_istore_n (lv' := [(2, .int r6), (0, .ref (ad 0)), (1, .int p1)]) hx hb dX5_faultCurrent_10 rfl hl (by decide) rfl (fun ls hl => ?_)
  refine lv_aload_n hx hb dX5_faultCurrent_11 rfl (lv_at hl 1 rfl) ?_
  refine va_get (D := D) (ci := 7) (C := RX5) (T := TX5) (N := 6) hx hb hts hinX5 hown hK.1 hP 0 rfl rfl 3 (by decide) (hts (.fieldLink RX5 37 "Switchgear" "protection" "LSwitchgear$Protection;") (by decide +kernel)) (fun _ h9 => h9) rfl dX5_faultCurrent_12 ?_
  refine lv_iload_n hx hb dX5_faultCurrent_15 rfl (lv_at hl 2 rfl) ?_
  refine lv_iload_n hx hb dX5_faultCurrent_16 rfl (lv_at hl 0 rfl) ?_
  refine lv_aload_n hx hb dX5_faultCurrent_17 rfl (lv_at hl 1 rfl) ?_
  refine va_get (D := D) (ci := 7) (C := RX5) (T := TX5) (N := 6) hx hb hts hinX5 hown hK.1 hP 0 rfl rfl 2 (by decide) (hts (.fieldLink RX5 30 "Switchgear" "switches" "LSwitchgear$Switches;") (by decide +kernel)) (fun _ h9 => h9) rfl dX5_faultCurrent_18 ?_
  refine va_getN (D := D) (ci := 6) (C := RX4) (T := TX4) (N := 5) (host := RX5) (ref := RX4) hx hb hts hinX4 hown hK.1 hP 3 rfl rfl 2 (by decide) (va_Nw.use rfl (hK.2 _ (List.mem_of_getElem? (i := 10) rfl))) (fun _ h9 => h9) rfl dX5_faultCurrent_21 ?_
  obtain ⟨r10, hc9, hf⟩ := sg_b_s hf
  refine sg_ci (va_runV (As := [.int p1, .int r6, .int (u7 4 0)]) (rest := []) ⟨hx, hb, hml, hown, hts⟩ (c_X3_currentOfFault l D cA ad N _ _ _ _ _ hc9 _) (cwV 3 hts gX5_faultCurrent_X3_currentOfFault rfl rfl rfl (by decide +kernel) ⟨Nat.le_of_ble_eq_true rfl, Nat.le_of_ble_eq_true rfl⟩) (sg_pre hK hP hD (ci := 5) (q0 := 4) rfl rfl) rfl rfl hl.1 rfl (lv_room (Nat.le_of_ble_eq_true rfl)) dX5_faultCurrent_24 ⟨Nat.le_of_ble_eq_true rfl, Nat.le_of_ble_eq_true rfl⟩) hD hS hA (fun H locs hP hD hS => ?_)
  have hq := Option.some.inj hf
  exact sg_ti hx hb hr rfl hP hD hS dX5_faultCurrent_27 hq hlocks (by decide) (by decide)
set_option maxRecDepth 100000 in
set_option maxHeartbeats 4000000 in
theorem c_X5_hasFault (l : Launch) (hlt : l.stackTraces = false) (D : va_G) (cA : Nat → ClassId) (ad : Nat → Nat) (N : Nat) (u : sg_St) (p1 : Int32) (R : (Nat ⊕ Int32) × sg_St) (hf : fX5_hasFault N u p1 = some R) : sg_TI l D cA (sg_WX cA ad) yX5_hasFault wsX5_hasFault ({ frames := 9, cells := 1, slots := 6, locals := 421 }) [.ref (ad 0), .int p1] u 1 6 R := by
  intro sz
  refine vx_ofW (cc := cX5_hasFault) (maxL := 2) (ret := (some .boolean)) (by decide) rfl ?_
  intro p e s m args below meth c s₁ B hml htab hv
  obtain ⟨rfl, ⟨hsz, hP, hK, hD0⟩, hT⟩ := hv
  have hx := B.exec
  have hb := B.bytes
  have hr := B.returns
  have hts := atoms_spec (ws := wsX5_hasFault) B.pre
  have hown : s.vm.findClass RX5 = some m.cls := findClass_of_methodNamed B.named
  have hlocks := B.notSynchronized
  subst hsz
  have hD := hD0.self (sz := s.heap.size)
  generalize hAe : va_A (sg_WX cA ad u) s.heap.size = A at hD hT ⊢
  have hA : ∀ q : Nat, s.heap.size ≤ q → A q := fun q h => by rw [← hAe]; exact Or.inr h
  have hS : va_S A s.heap s.heap [] := va_S.rf
  have hl := lv_entry ([.ref (ad 0), .int p1]) (n := 2) (Nat.le_of_ble_eq_true rfl)
  rw [lg_entry_eq]
  generalize (lg_sl ([.ref (ad 0), .int p1]) ++ List.replicate (2 - (lg_sl ([.ref (ad 0), .int p1])).length) Slot.unset).toArray = ls at hl ⊢
  replace hl : lv_has ls 2 [(0, .ref (ad 0)), (1, .int p1)] := hl
  have hinX4 : ∀ w ∈ u_ws RX4 TX4 5, w ∈ wsX5_hasFault := by decide +kernel
  have hinX5 : ∀ w ∈ u_ws RX5 TX5 6, w ∈ wsX5_hasFault := by decide +kernel
  unfold fX5_hasFault at hf
  refine lv_aload_n hx hb dX5_hasFault_0 rfl (lv_at hl 0 rfl) ?_
  refine lv_iload_n hx hb dX5_hasFault_1 rfl (lv_at hl 1 rfl) ?_
  obtain ⟨x4, hc1, hxx4, hf⟩ := sg_bt_s hf
  refine sg_xv (vx_runV (As := [.int p1]) (rest := []) ⟨hx, hb, hml, hown, hts⟩ (c_X5_needLine l hlt D cA ad N _ _ x4 hc1 _) (cwV 1 hts gX5_hasFault_X5_needLine rfl rfl rfl (by decide +kernel) ⟨Nat.le_of_ble_eq_true rfl, Nat.le_of_ble_eq_true rfl⟩) (sg_preT hK hP hD hT hS hA (ci := 7) (q0 := 0) rfl rfl) rfl rfl hl.1 rfl (lv_room (Nat.le_of_ble_eq_true rfl)) dX5_hasFault_2 ⟨Nat.le_of_ble_eq_true rfl, Nat.le_of_ble_eq_true rfl⟩) hD hS hA htab hlocks (by decide) (by decide) hxx4 (fun u3 H locs hrx4 hP hD hS => ?_)
  replace hf := hf _ _ hrx4
  refine lv_aload_n hx hb dX5_hasFault_5 rfl (lv_at hl 0 rfl) ?_
  refine va_get (D := D) (ci := 7) (C := RX5) (T := TX5) (N := 6) hx hb hts hinX5 hown hK.1 hP 0 rfl rfl 2 (by decide) (hts (.fieldLink RX5 30 "Switchgear" "switches" "LSwitchgear$Switches;") (by decide +kernel)) (fun _ h9 => h9) rfl dX5_hasFault_6 ?_
  refine va_getN (D := D) (ci := 6) (C := RX4) (T := TX4) (N := 5) (host := RX5) (ref := RX4) hx hb hts hinX4 hown hK.1 hP 3 rfl rfl 4 (by decide) (va_Nw.use rfl (hK.2 _ (List.mem_of_getElem? (i := 11) rfl))) (fun _ h9 => h9) rfl dX5_hasFault_9 ?_
  refine lv_iload_n hx hb dX5_hasFault_12 rfl (lv_at hl 1 rfl) ?_
  obtain ⟨r6, hc5, hf⟩ := sg_b_s hf
  refine sg_ci0 (va_runS (As := [.int (u3 6 0), .int p1]) (rest := []) ⟨hx, hb, hml, hown, hts⟩ (c_X5_has l D cA N _ _ _ hc5 _) (va_cwS 2 hts gX5_hasFault_X5_has rfl rfl rfl (by decide +kernel) ⟨Nat.le_of_ble_eq_true rfl, Nat.le_of_ble_eq_true rfl⟩) (sg_pre0 hK) rfl rfl hl.1 rfl (lv_room (Nat.le_of_ble_eq_true rfl)) dX5_hasFault_13 ⟨Nat.le_of_ble_eq_true rfl, Nat.le_of_ble_eq_true rfl⟩) hP hS hA (fun H locs hP hS => ?_)
  obtain ⟨hg8, hf⟩ := sg_g_s hf
  have hq := Option.some.inj hf
  exact sg_ti hx hb hr (sg_nz hg8) hP hD hS dX5_hasFault_16 hq hlocks (by decide) (by decide)
set_option maxRecDepth 100000 in
set_option maxHeartbeats 4000000 in
theorem c_X5_isClosed (l : Launch) (hlt : l.stackTraces = false) (D : va_G) (cA : Nat → ClassId) (ad : Nat → Nat) (N : Nat) (u : sg_St) (p1 : Int32) (R : (Nat ⊕ Int32) × sg_St) (hf : fX5_isClosed N u p1 = some R) : sg_TI l D cA (sg_WX cA ad) yX5_isClosed wsX5_isClosed ({ frames := 9, cells := 1, slots := 6, locals := 421 }) [.ref (ad 0), .int p1] u 1 6 R := by
  intro sz
  refine vx_ofW (cc := cX5_isClosed) (maxL := 2) (ret := (some .boolean)) (by decide) rfl ?_
  intro p e s m args below meth c s₁ B hml htab hv
  obtain ⟨rfl, ⟨hsz, hP, hK, hD0⟩, hT⟩ := hv
  have hx := B.exec
  have hb := B.bytes
  have hr := B.returns
  have hts := atoms_spec (ws := wsX5_isClosed) B.pre
  have hown : s.vm.findClass RX5 = some m.cls := findClass_of_methodNamed B.named
  have hlocks := B.notSynchronized
  subst hsz
  have hD := hD0.self (sz := s.heap.size)
  generalize hAe : va_A (sg_WX cA ad u) s.heap.size = A at hD hT ⊢
  have hA : ∀ q : Nat, s.heap.size ≤ q → A q := fun q h => by rw [← hAe]; exact Or.inr h
  have hS : va_S A s.heap s.heap [] := va_S.rf
  have hl := lv_entry ([.ref (ad 0), .int p1]) (n := 2) (Nat.le_of_ble_eq_true rfl)
  rw [lg_entry_eq]
  generalize (lg_sl ([.ref (ad 0), .int p1]) ++ List.replicate (2 - (lg_sl ([.ref (ad 0), .int p1])).length) Slot.unset).toArray = ls at hl ⊢
  replace hl : lv_has ls 2 [(0, .ref (ad 0)), (1, .int p1)] := hl
  have hinX4 : ∀ w ∈ u_ws RX4 TX4 5, w ∈ wsX5_isClosed := by decide +kernel
  have hinX5 : ∀ w ∈ u_ws RX5 TX5 6, w ∈ wsX5_isClosed := by decide +kernel
  unfold fX5_isClosed at hf
  refine lv_aload_n hx hb dX5_isClosed_0 rfl (lv_at hl 0 rfl) ?_
  refine lv_iload_n hx hb dX5_isClosed_1 rfl (lv_at hl 1 rfl) ?_
  obtain ⟨x4, hc1, hxx4, hf⟩ := sg_bt_s hf
  refine sg_xv (vx_runV (As := [.int p1]) (rest := []) ⟨hx, hb, hml, hown, hts⟩ (c_X5_needLine l hlt D cA ad N _ _ x4 hc1 _) (cwV 1 hts gX5_isClosed_X5_needLine rfl rfl rfl (by decide +kernel) ⟨Nat.le_of_ble_eq_true rfl, Nat.le_of_ble_eq_true rfl⟩) (sg_preT hK hP hD hT hS hA (ci := 7) (q0 := 0) rfl rfl) rfl rfl hl.1 rfl (lv_room (Nat.le_of_ble_eq_true rfl)) dX5_isClosed_2 ⟨Nat.le_of_ble_eq_true rfl, Nat.le_of_ble_eq_true rfl⟩) hD hS hA htab hlocks (by decide) (by decide) hxx4 (fun u3 H locs hrx4 hP hD hS => ?_)
  replace hf := hf _ _ hrx4
  refine lv_aload_n hx hb dX5_isClosed_5 rfl (lv_at hl 0 rfl) ?_
  refine va_get (D := D) (ci := 7) (C := RX5) (T := TX5) (N := 6) hx hb hts hinX5 hown hK.1 hP 0 rfl rfl 2 (by decide) (hts (.fieldLink RX5 30 "Switchgear" "switches" "LSwitchgear$Switches;") (by decide +kernel)) (fun _ h9 => h9) rfl dX5_isClosed_6 ?_
  refine va_getN (D := D) (ci := 6) (C := RX4) (T := TX4) (N := 5) (host := RX5) (ref := RX4) hx hb hts hinX4 hown hK.1 hP 3 rfl rfl 2 (by decide) (va_Nw.use rfl (hK.2 _ (List.mem_of_getElem? (i := 10) rfl))) (fun _ h9 => h9) rfl dX5_isClosed_9 ?_
  refine lv_iload_n hx hb dX5_isClosed_12 rfl (lv_at hl 1 rfl) ?_
  obtain ⟨r6, hc5, hf⟩ := sg_b_s hf
  refine sg_ci0 (va_runS (As := [.int (u3 4 0), .int p1]) (rest := []) ⟨hx, hb, hml, hown, hts⟩ (c_X5_has l D cA N _ _ _ hc5 _) (va_cwS 2 hts gX5_isClosed_X5_has rfl rfl rfl (by decide +kernel) ⟨Nat.le_of_ble_eq_true rfl, Nat.le_of_ble_eq_true rfl⟩) (sg_pre0 hK) rfl rfl hl.1 rfl (lv_room (Nat.le_of_ble_eq_true rfl)) dX5_isClosed_13 ⟨Nat.le_of_ble_eq_true rfl, Nat.le_of_ble_eq_true rfl⟩) hP hS hA (fun H locs hP hS => ?_)
  obtain ⟨hg8, hf⟩ := sg_g_s hf
  have hq := Option.some.inj hf
  exact sg_ti hx hb hr (sg_nz hg8) hP hD hS dX5_isClosed_16 hq hlocks (by decide) (by decide)
set_option maxRecDepth 100000 in
set_option maxHeartbeats 4000000 in
theorem c_X5_islandAt (l : Launch) (D : va_G) (cA : Nat → ClassId) (ad : Nat → Nat) (N : Nat) (u : sg_St) (p1 : Int32) (r : Int32) (hf : fX5_islandAt N u p1 = some r) : sg_CI l D cA (sg_WX cA ad) yX5_islandAt wsX5_islandAt ({ frames := 3, cells := 0, slots := 0, locals := 74 }) [.ref (ad 0), .int p1] u r u := by
  intro sz
  refine Met.ofW (cc := cX5_islandAt) (maxL := 2) (ret := (some .int)) (by decide) rfl ?_
  intro p e s m args below meth c s₁ B hml hv
  obtain ⟨rfl, hsz, hP, hK, hD0⟩ := hv
  have hx := B.exec
  have hb := B.bytes
  have hr := B.returns
  have hts := atoms_spec (ws := wsX5_islandAt) B.pre
  have hown : s.vm.findClass RX5 = some m.cls := findClass_of_methodNamed B.named
  have hlocks := B.notSynchronized
  subst hsz
  have hD := hD0.self (sz := s.heap.size)
  generalize hAe : va_A (sg_WX cA ad u) s.heap.size = A at hD ⊢
  have hA : ∀ q : Nat, s.heap.size ≤ q → A q := fun q h => by rw [← hAe]; exact Or.inr h
  have hS : va_S A s.heap s.heap [] := va_S.rf
  have hl := lv_entry ([.ref (ad 0), .int p1]) (n := 2) (Nat.le_of_ble_eq_true rfl)
  rw [lg_entry_eq]
  generalize (lg_sl ([.ref (ad 0), .int p1]) ++ List.replicate (2 - (lg_sl ([.ref (ad 0), .int p1])).length) Slot.unset).toArray = ls at hl ⊢
  replace hl : lv_has ls 2 [(0, .ref (ad 0)), (1, .int p1)] := hl
  have hinX4 : ∀ w ∈ u_ws RX4 TX4 5, w ∈ wsX5_islandAt := by decide +kernel
  have hinX5 : ∀ w ∈ u_ws RX5 TX5 6, w ∈ wsX5_islandAt := by decide +kernel
  unfold fX5_islandAt at hf
  refine lv_aload_n hx hb dX5_islandAt_0 rfl (lv_at hl 0 rfl) ?_
  refine va_get (D := D) (ci := 7) (C := RX5) (T := TX5) (N := 6) hx hb hts hinX5 hown hK.1 hP 0 rfl rfl 0 (by decide) (hts (.fieldLink RX5 10 "Switchgear" "grid" "LSwitchgear$Grid;") (by decide +kernel)) (fun _ h9 => h9) rfl dX5_islandAt_1 ?_
  refine lv_iload_n hx hb dX5_islandAt_4 rfl (lv_at hl 1 rfl) ?_
  refine lv_aload_n hx hb dX5_islandAt_5 rfl (lv_at hl 0 rfl) ?_
  refine va_get (D := D) (ci := 7) (C := RX5) (T := TX5) (N := 6) hx hb hts hinX5 hown hK.1 hP 0 rfl rfl 2 (by decide) (hts (.fieldLink RX5 30 "Switchgear" "switches" "LSwitchgear$Switches;") (by decide +kernel)) (fun _ h9 => h9) rfl dX5_islandAt_6 ?_
  refine va_getN (D := D) (ci := 6) (C := RX4) (T := TX4) (N := 5) (host := RX5) (ref := RX4) hx hb hts hinX4 hown hK.1 hP 3 rfl rfl 2 (by decide) (va_Nw.use rfl (hK.2 _ (List.mem_of_getElem? (i := 10) rfl))) (fun _ h9 => h9) rfl dX5_islandAt_9 ?_
  obtain ⟨r2, hc1, hf⟩ := sg_b_s hf
  refine sg_ci (va_runV (As := [.int p1, .int (u 4 0)]) (rest := []) ⟨hx, hb, hml, hown, hts⟩ (c_X1_islandAround l D cA ad N _ _ _ _ hc1 _) (cwV 2 hts gX5_islandAt_X1_islandAround rfl rfl rfl (by decide +kernel) ⟨Nat.le_of_ble_eq_true rfl, Nat.le_of_ble_eq_true rfl⟩) (sg_pre hK hP hD (ci := 3) (q0 := 1) rfl rfl) rfl rfl hl.1 rfl (lv_room (Nat.le_of_ble_eq_true rfl)) dX5_islandAt_12 ⟨Nat.zero_le _, Nat.zero_le _⟩) hD hS hA (fun H locs hP hD hS => ?_)
  have hq := Option.some.inj hf
  exact sg_iret hx hb hr hP hD hS dX5_islandAt_15 hq rfl hlocks
set_option maxRecDepth 100000 in
set_option maxHeartbeats 4000000 in
theorem c_X5_isLive (l : Launch) (hlt : l.stackTraces = false) (D : va_G) (cA : Nat → ClassId) (ad : Nat → Nat) (N : Nat) (u : sg_St) (p1 : Int32) (R : (Nat ⊕ Int32) × sg_St) (hf : fX5_isLive N u p1 = some R) : sg_TI l D cA (sg_WX cA ad) yX5_isLive wsX5_isLive ({ frames := 9, cells := 1, slots := 6, locals := 421 }) [.ref (ad 0), .int p1] u 1 6 R := by
  intro sz
  refine vx_ofW (cc := cX5_isLive) (maxL := 2) (ret := (some .boolean)) (by decide) rfl ?_
  intro p e s m args below meth c s₁ B hml htab hv
  obtain ⟨rfl, ⟨hsz, hP, hK, hD0⟩, hT⟩ := hv
  have hx := B.exec
  have hb := B.bytes
  have hr := B.returns
  have hts := atoms_spec (ws := wsX5_isLive) B.pre
  have hown : s.vm.findClass RX5 = some m.cls := findClass_of_methodNamed B.named
  have hlocks := B.notSynchronized
  subst hsz
  have hD := hD0.self (sz := s.heap.size)
  generalize hAe : va_A (sg_WX cA ad u) s.heap.size = A at hD hT ⊢
  have hA : ∀ q : Nat, s.heap.size ≤ q → A q := fun q h => by rw [← hAe]; exact Or.inr h
  have hS : va_S A s.heap s.heap [] := va_S.rf
  have hl := lv_entry ([.ref (ad 0), .int p1]) (n := 2) (Nat.le_of_ble_eq_true rfl)
  rw [lg_entry_eq]
  generalize (lg_sl ([.ref (ad 0), .int p1]) ++ List.replicate (2 - (lg_sl ([.ref (ad 0), .int p1])).length) Slot.unset).toArray = ls at hl ⊢
  replace hl : lv_has ls 2 [(0, .ref (ad 0)), (1, .int p1)] := hl
  have hinX5 : ∀ w ∈ u_ws RX5 TX5 6, w ∈ wsX5_isLive := by decide +kernel
  unfold fX5_isLive at hf
  refine lv_aload_n hx hb dX5_isLive_0 rfl (lv_at hl 0 rfl) ?_
  refine lv_iload_n hx hb dX5_isLive_1 rfl (lv_at hl 1 rfl) ?_
  obtain ⟨x4, hc1, hxx4, hf⟩ := sg_bt_s hf
  refine sg_xv (vx_runV (As := [.int p1]) (rest := []) ⟨hx, hb, hml, hown, hts⟩ (c_X5_needNode l hlt D cA ad N _ _ x4 hc1 _) (cwV 1 hts gX5_isLive_X5_needNode rfl rfl rfl (by decide +kernel) ⟨Nat.le_of_ble_eq_true rfl, Nat.le_of_ble_eq_true rfl⟩) (sg_preT hK hP hD hT hS hA (ci := 7) (q0 := 0) rfl rfl) rfl rfl hl.1 rfl (lv_room (Nat.le_of_ble_eq_true rfl)) dX5_isLive_2 ⟨Nat.le_of_ble_eq_true rfl, Nat.le_of_ble_eq_true rfl⟩) hD hS hA htab hlocks (by decide) (by decide) hxx4 (fun u3 H locs hrx4 hP hD hS => ?_)
  replace hf := hf _ _ hrx4
  refine lv_aload_n hx hb dX5_isLive_5 rfl (lv_at hl 0 rfl) ?_
  refine va_get (D := D) (ci := 7) (C := RX5) (T := TX5) (N := 6) hx hb hts hinX5 hown hK.1 hP 0 rfl rfl 0 (by decide) (hts (.fieldLink RX5 10 "Switchgear" "grid" "LSwitchgear$Grid;") (by decide +kernel)) (fun _ h9 => h9) rfl dX5_isLive_6 ?_
  refine lv_aload_n hx hb dX5_isLive_9 rfl (lv_at hl 0 rfl) ?_
  refine lv_iload_n hx hb dX5_isLive_10 rfl (lv_at hl 1 rfl) ?_
  obtain ⟨r6, hc5, hf⟩ := sg_b_s hf
  refine sg_ci (va_runV (As := [.int p1]) (rest := [.ref (ad 1)]) ⟨hx, hb, hml, hown, hts⟩ (c_X5_islandAt l D cA ad N _ _ _ hc5 _) (cwV 1 hts gX5_isLive_X5_islandAt rfl rfl rfl (by decide +kernel) ⟨Nat.le_of_ble_eq_true rfl, Nat.le_of_ble_eq_true rfl⟩) (sg_pre hK hP hD (ci := 7) (q0 := 0) rfl rfl) rfl rfl hl.1 rfl (lv_room (Nat.le_of_ble_eq_true rfl)) dX5_isLive_11 ⟨Nat.le_of_ble_eq_true rfl, Nat.le_of_ble_eq_true rfl⟩) hD hS hA (fun H locs hP hD hS => ?_)
  obtain ⟨r9, hc8, hf⟩ := sg_b_s hf
  refine sg_ci (va_runV (As := [.int r6]) (rest := []) ⟨hx, hb, hml, hown, hts⟩ (c_X1_sourceIn l D cA ad N _ _ _ hc8 _) (cwV 1 hts gX5_isLive_X1_sourceIn rfl rfl rfl (by decide +kernel) ⟨Nat.le_of_ble_eq_true rfl, Nat.le_of_ble_eq_true rfl⟩) (sg_pre hK hP hD (ci := 3) (q0 := 1) rfl rfl) rfl rfl hl.1 rfl (lv_room (Nat.le_of_ble_eq_true rfl)) dX5_isLive_14 ⟨Nat.le_of_ble_eq_true rfl, Nat.le_of_ble_eq_true rfl⟩) hD hS hA (fun H locs hP hD hS => ?_)
  refine lv_iconst (v := (-1)) hx hb dX5_isLive_17 (by decide) ?_
  refine lv_icmp_eq (tgt := 25) hx hb dX5_isLive_18 (by decide) (fun c11 => ?_) (fun c11 => ?_)
  · have hf := sg_ip c11 hf
    refine lv_iconst (v := 0) hx hb dX5_isLive_25 (by decide) ?_
    have hq := Option.some.inj hf
    exact sg_ti hx hb hr rfl hP hD hS dX5_isLive_26 hq hlocks (by decide) (by decide)
  · have hf := sg_in c11 hf
    refine lv_iconst (v := 1) hx hb dX5_isLive_21 (by decide) ?_
    refine lv_goto (tgt := 26) hx hb dX5_isLive_22 (by decide) ?_
    have hq := Option.some.inj hf
    exact sg_ti hx hb hr rfl hP hD hS dX5_isLive_26 hq hlocks (by decide) (by decide)
set_option maxRecDepth 100000 in
set_option maxHeartbeats 4000000 in
theorem c_X5_isLocked (l : Launch) (hlt : l.stackTraces = false) (D : va_G) (cA : Nat → ClassId) (ad : Nat → Nat) (N : Nat) (u : sg_St) (p1 : Int32) (R : (Nat ⊕ Int32) × sg_St) (hf : fX5_isLocked N u p1 = some R) : sg_TI l D cA (sg_WX cA ad) yX5_isLocked wsX5_isLocked ({ frames := 9, cells := 1, slots := 6, locals := 421 }) [.ref (ad 0), .int p1] u 1 6 R := by
  intro sz
  refine vx_ofW (cc := cX5_isLocked) (maxL := 2) (ret := (some .boolean)) (by decide) rfl ?_
  intro p e s m args below meth c s₁ B hml htab hv
  obtain ⟨rfl, ⟨hsz, hP, hK, hD0⟩, hT⟩ := hv
  have hx := B.exec
  have hb := B.bytes
  have hr := B.returns
  have hts := atoms_spec (ws := wsX5_isLocked) B.pre
  have hown : s.vm.findClass RX5 = some m.cls := findClass_of_methodNamed B.named
  have hlocks := B.notSynchronized
  subst hsz
  have hD := hD0.self (sz := s.heap.size)
  generalize hAe : va_A (sg_WX cA ad u) s.heap.size = A at hD hT ⊢
  have hA : ∀ q : Nat, s.heap.size ≤ q → A q := fun q h => by rw [← hAe]; exact Or.inr h
  have hS : va_S A s.heap s.heap [] := va_S.rf
  have hl := lv_entry ([.ref (ad 0), .int p1]) (n := 2) (Nat.le_of_ble_eq_true rfl)
  rw [lg_entry_eq]
  generalize (lg_sl ([.ref (ad 0), .int p1]) ++ List.replicate (2 - (lg_sl ([.ref (ad 0), .int p1])).length) Slot.unset).toArray = ls at hl ⊢
  replace hl : lv_has ls 2 [(0, .ref (ad 0)), (1, .int p1)] := hl
  have hinX4 : ∀ w ∈ u_ws RX4 TX4 5, w ∈ wsX5_isLocked := by decide +kernel
  have hinX5 : ∀ w ∈ u_ws RX5 TX5 6, w ∈ wsX5_isLocked := by decide +kernel
  unfold fX5_isLocked at hf
  refine lv_aload_n hx hb dX5_isLocked_0 rfl (lv_at hl 0 rfl) ?_
  refine lv_iload_n hx hb dX5_isLocked_1 rfl (lv_at hl 1 rfl) ?_
  obtain ⟨x4, hc1, hxx4, hf⟩ := sg_bt_s hf
  refine sg_xv (vx_runV (As := [.int p1]) (rest := []) ⟨hx, hb, hml, hown, hts⟩ (c_X5_needLine l hlt D cA ad N _ _ x4 hc1 _) (cwV 1 hts gX5_isLocked_X5_needLine rfl rfl rfl (by decide +kernel) ⟨Nat.le_of_ble_eq_true rfl, Nat.le_of_ble_eq_true rfl⟩) (sg_preT hK hP hD hT hS hA (ci := 7) (q0 := 0) rfl rfl) rfl rfl hl.1 rfl (lv_room (Nat.le_of_ble_eq_true rfl)) dX5_isLocked_2 ⟨Nat.le_of_ble_eq_true rfl, Nat.le_of_ble_eq_true rfl⟩) hD hS hA htab hlocks (by decide) (by decide) hxx4 (fun u3 H locs hrx4 hP hD hS => ?_)
  replace hf := hf _ _ hrx4
  refine lv_aload_n hx hb dX5_isLocked_5 rfl (lv_at hl 0 rfl) ?_
  refine va_get (D := D) (ci := 7) (C := RX5) (T := TX5) (N := 6) hx hb hts hinX5 hown hK.1 hP 0 rfl rfl 2 (by decide) (hts (.fieldLink RX5 30 "Switchgear" "switches" "LSwitchgear$Switches;") (by decide +kernel)) (fun _ h9 => h9) rfl dX5_isLocked_6 ?_
  refine va_getN (D := D) (ci := 6) (C := RX4) (T := TX4) (N := 5) (host := RX5) (ref := RX4) hx hb hts hinX4 hown hK.1 hP 3 rfl rfl 3 (by decide) (va_Nw.use rfl (hK.2 _ (List.mem_of_getElem? (i := 12) rfl))) (fun _ h9 => h9) rfl dX5_isLocked_9 ?_
  refine lv_iload_n hx hb dX5_isLocked_12 rfl (lv_at hl 1 rfl) ?_
  obtain ⟨r6, hc5, hf⟩ := sg_b_s hf
  refine sg_ci0 (va_runS (As := [.int (u3 5 0), .int p1]) (rest := []) ⟨hx, hb, hml, hown, hts⟩ (c_X5_has l D cA N _ _ _ hc5 _) (va_cwS 2 hts gX5_isLocked_X5_has rfl rfl rfl (by decide +kernel) ⟨Nat.le_of_ble_eq_true rfl, Nat.le_of_ble_eq_true rfl⟩) (sg_pre0 hK) rfl rfl hl.1 rfl (lv_room (Nat.le_of_ble_eq_true rfl)) dX5_isLocked_13 ⟨Nat.le_of_ble_eq_true rfl, Nat.le_of_ble_eq_true rfl⟩) hP hS hA (fun H locs hP hS => ?_)
  obtain ⟨hg8, hf⟩ := sg_g_s hf
  have hq := Option.some.inj hf
  exact sg_ti hx hb hr (sg_nz hg8) hP hD hS dX5_isLocked_16 hq hlocks (by decide) (by decide)
set_option maxRecDepth 100000 in
set_option maxHeartbeats 4000000 in
theorem c_X5_isSelective (l : Launch) (hlt : l.stackTraces = false) (D : va_G) (cA : Nat → ClassId) (ad : Nat → Nat) (N : Nat) (u : sg_St) (p1 : Int32) (R : (Nat ⊕ Int32) × sg_St) (hf : fX5_isSelective N u p1 = some R) : sg_TI l D cA (sg_WX cA ad) yX5_isSelective wsX5_isSelective ({ frames := 17, cells := 1, slots := 6, locals := 462 }) [.ref (ad 0), .int p1] u 1 6 R := by
  intro sz
  refine vx_ofW (cc := cX5_isSelective) (maxL := 2) (ret := (some .boolean)) (by decide) rfl ?_
  intro p e s m args below meth c s₁ B hml htab hv
  obtain ⟨rfl, ⟨hsz, hP, hK, hD0⟩, hT⟩ := hv
  have hx := B.exec
  have hb := B.bytes
  have hr := B.returns
  have hts := atoms_spec (ws := wsX5_isSelective) B.pre
  have hown : s.vm.findClass RX5 = some m.cls := findClass_of_methodNamed B.named
  have hlocks := B.notSynchronized
  subst hsz
  have hD := hD0.self (sz := s.heap.size)
  generalize hAe : va_A (sg_WX cA ad u) s.heap.size = A at hD hT ⊢
  have hA : ∀ q : Nat, s.heap.size ≤ q → A q := fun q h => by rw [← hAe]; exact Or.inr h
  have hS : va_S A s.heap s.heap [] := va_S.rf
  have hl := lv_entry ([.ref (ad 0), .int p1]) (n := 2) (Nat.le_of_ble_eq_true rfl)
  rw [lg_entry_eq]
  generalize (lg_sl ([.ref (ad 0), .int p1]) ++ List.replicate (2 - (lg_sl ([.ref (ad 0), .int p1])).length) Slot.unset).toArray = ls at hl ⊢
  replace hl : lv_has ls 2 [(0, .ref (ad 0)), (1, .int p1)] := hl
  have hinX4 : ∀ w ∈ u_ws RX4 TX4 5, w ∈ wsX5_isSelective := by decide +kernel
  have hinX5 : ∀ w ∈ u_ws RX5 TX5 6, w ∈ wsX5_isSelective := by decide +kernel
  unfold fX5_isSelective at hf
  refine lv_aload_n hx hb dX5_isSelective_0 rfl (lv_at hl 0 rfl) ?_
  refine lv_iload_n hx hb dX5_isSelective_1 rfl (lv_at hl 1 rfl) ?_
  obtain ⟨x4, hc1, hxx4, hf⟩ := sg_bt_s hf
  refine sg_xv (vx_runV (As := [.int p1]) (rest := []) ⟨hx, hb, hml, hown, hts⟩ (c_X5_needLine l hlt D cA ad N _ _ x4 hc1 _) (cwV 1 hts gX5_isSelective_X5_needLine rfl rfl rfl (by decide +kernel) ⟨Nat.le_of_ble_eq_true rfl, Nat.le_of_ble_eq_true rfl⟩) (sg_preT hK hP hD hT hS hA (ci := 7) (q0 := 0) rfl rfl) rfl rfl hl.1 rfl (lv_room (Nat.le_of_ble_eq_true rfl)) dX5_isSelective_2 ⟨Nat.le_of_ble_eq_true rfl, Nat.le_of_ble_eq_true rfl⟩) hD hS hA htab hlocks (by decide) (by decide) hxx4 (fun u3 H locs hrx4 hP hD hS => ?_)
  replace hf := hf _ _ hrx4
  refine lv_aload_n hx hb dX5_isSelective_5 rfl (lv_at hl 0 rfl) ?_
  refine va_get (D := D) (ci := 7) (C := RX5) (T := TX5) (N := 6) hx hb hts hinX5 hown hK.1 hP 0 rfl rfl 3 (by decide) (hts (.fieldLink RX5 37 "Switchgear" "protection" "LSwitchgear$Protection;") (by decide +kernel)) (fun _ h9 => h9) rfl dX5_isSelective_6 ?_
  refine lv_iload_n hx hb dX5_isSelective_9 rfl (lv_at hl 1 rfl) ?_
  refine lv_aload_n hx hb dX5_isSelective_10 rfl (lv_at hl 0 rfl) ?_
  refine va_get (D := D) (ci := 7) (C := RX5) (T := TX5) (N := 6) hx hb hts hinX5 hown hK.1 hP 0 rfl rfl 2 (by decide) (hts (.fieldLink RX5 30 "Switchgear" "switches" "LSwitchgear$Switches;") (by decide +kernel)) (fun _ h9 => h9) rfl dX5_isSelective_11 ?_
  refine va_getN (D := D) (ci := 6) (C := RX4) (T := TX4) (N := 5) (host := RX5) (ref := RX4) hx hb hts hinX4 hown hK.1 hP 3 rfl rfl 2 (by decide) (va_Nw.use rfl (hK.2 _ (List.mem_of_getElem? (i := 10) rfl))) (fun _ h9 => h9) rfl dX5_isSelective_14 ?_
  obtain ⟨r6, u7, hc5, hf⟩ := sg_b2_s hf
  refine sg_ci (va_runV (As := [.int p1, .int (u3 4 0)]) (rest := []) ⟨hx, hb, hml, hown, hts⟩ (c_X3_answerTo l D cA ad N _ _ _ _ _ hc5 _) (cwV 2 hts gX5_isSelective_X3_answerTo rfl rfl rfl (by decide +kernel) ⟨Nat.le_of_ble_eq_true rfl, Nat.le_of_ble_eq_true rfl⟩) (sg_pre hK hP hD (ci := 5) (q0 := 4) rfl rfl) rfl rfl hl.1 rfl (lv_room (Nat.le_of_ble_eq_true rfl)) dX5_isSelective_17 ⟨Nat.le_of_ble_eq_true rfl, Nat.le_of_ble_eq_true rfl⟩) hD hS hA (fun H locs hP hD hS => ?_)
  refine lv_iload_n hx hb dX5_isSelective_20 rfl (lv_at hl 1 rfl) ?_
  refine lv_icmp_ne (tgt := 28) hx hb dX5_isSelective_21 (by decide) (fun c8 => ?_) (fun c8 => ?_)
  · have hf := sg_in c8 hf
    refine lv_iconst (v := 0) hx hb dX5_isSelective_28 (by decide) ?_
    have hq := Option.some.inj hf
    exact sg_ti hx hb hr rfl hP hD hS dX5_isSelective_29 hq hlocks (by decide) (by decide)
  · have hf := sg_ip c8 hf
    refine lv_iconst (v := 1) hx hb dX5_isSelective_24 (by decide) ?_
    refine lv_goto (tgt := 29) hx hb dX5_isSelective_25 (by decide) ?_
    have hq := Option.some.inj hf
    exact sg_ti hx hb hr rfl hP hD hS dX5_isSelective_29 hq hlocks (by decide) (by decide)
set_option maxRecDepth 100000 in
set_option maxHeartbeats 4000000 in
theorem c_X5_isSource (l : Launch) (hlt : l.stackTraces = false) (D : va_G) (cA : Nat → ClassId) (ad : Nat → Nat) (N : Nat) (u : sg_St) (p1 : Int32) (R : (Nat ⊕ Int32) × sg_St) (hf : fX5_isSource N u p1 = some R) : sg_TI l D cA (sg_WX cA ad) yX5_isSource wsX5_isSource ({ frames := 9, cells := 1, slots := 6, locals := 421 }) [.ref (ad 0), .int p1] u 1 6 R := by
  intro sz
  refine vx_ofW (cc := cX5_isSource) (maxL := 2) (ret := (some .boolean)) (by decide) rfl ?_
  intro p e s m args below meth c s₁ B hml htab hv
  obtain ⟨rfl, ⟨hsz, hP, hK, hD0⟩, hT⟩ := hv
  have hx := B.exec
  have hb := B.bytes
  have hr := B.returns
  have hts := atoms_spec (ws := wsX5_isSource) B.pre
  have hown : s.vm.findClass RX5 = some m.cls := findClass_of_methodNamed B.named
  have hlocks := B.notSynchronized
  subst hsz
  have hD := hD0.self (sz := s.heap.size)
  generalize hAe : va_A (sg_WX cA ad u) s.heap.size = A at hD hT ⊢
  have hA : ∀ q : Nat, s.heap.size ≤ q → A q := fun q h => by rw [← hAe]; exact Or.inr h
  have hS : va_S A s.heap s.heap [] := va_S.rf
  have hl := lv_entry ([.ref (ad 0), .int p1]) (n := 2) (Nat.le_of_ble_eq_true rfl)
  rw [lg_entry_eq]
  generalize (lg_sl ([.ref (ad 0), .int p1]) ++ List.replicate (2 - (lg_sl ([.ref (ad 0), .int p1])).length) Slot.unset).toArray = ls at hl ⊢
  replace hl : lv_has ls 2 [(0, .ref (ad 0)), (1, .int p1)] := hl
  have hinX1 : ∀ w ∈ u_ws RX1 TX1 10, w ∈ wsX5_isSource := by decide +kernel
  have hinX5 : ∀ w ∈ u_ws RX5 TX5 6, w ∈ wsX5_isSource := by decide +kernel
  unfold fX5_isSource at hf
  refine lv_aload_n hx hb dX5_isSource_0 rfl (lv_at hl 0 rfl) ?_
  refine lv_iload_n hx hb dX5_isSource_1 rfl (lv_at hl 1 rfl) ?_
  obtain ⟨x4, hc1, hxx4, hf⟩ := sg_bt_s hf
  refine sg_xv (vx_runV (As := [.int p1]) (rest := []) ⟨hx, hb, hml, hown, hts⟩ (c_X5_needNode l hlt D cA ad N _ _ x4 hc1 _) (cwV 1 hts gX5_isSource_X5_needNode rfl rfl rfl (by decide +kernel) ⟨Nat.le_of_ble_eq_true rfl, Nat.le_of_ble_eq_true rfl⟩) (sg_preT hK hP hD hT hS hA (ci := 7) (q0 := 0) rfl rfl) rfl rfl hl.1 rfl (lv_room (Nat.le_of_ble_eq_true rfl)) dX5_isSource_2 ⟨Nat.le_of_ble_eq_true rfl, Nat.le_of_ble_eq_true rfl⟩) hD hS hA htab hlocks (by decide) (by decide) hxx4 (fun u3 H locs hrx4 hP hD hS => ?_)
  replace hf := hf _ _ hrx4
  refine lv_aload_n hx hb dX5_isSource_5 rfl (lv_at hl 0 rfl) ?_
  refine va_get (D := D) (ci := 7) (C := RX5) (T := TX5) (N := 6) hx hb hts hinX5 hown hK.1 hP 0 rfl rfl 0 (by decide) (hts (.fieldLink RX5 10 "Switchgear" "grid" "LSwitchgear$Grid;") (by decide +kernel)) (fun _ h9 => h9) rfl dX5_isSource_6 ?_
  refine va_getN (D := D) (ci := 3) (C := RX1) (T := TX1) (N := 10) (host := RX5) (ref := RX1) hx hb hts hinX1 hown hK.1 hP 1 rfl rfl 8 (by decide) (va_Nw.use rfl (hK.2 _ (List.mem_of_getElem? (i := 15) rfl))) (fun _ h9 => h9) rfl dX5_isSource_9 ?_
  refine lv_iload_n hx hb dX5_isSource_12 rfl (lv_at hl 1 rfl) ?_
  obtain ⟨r6, hc5, hf⟩ := sg_b_s hf
  refine sg_ci0 (va_runS (As := [.int (u3 2 0), .int p1]) (rest := []) ⟨hx, hb, hml, hown, hts⟩ (c_X5_has l D cA N _ _ _ hc5 _) (va_cwS 2 hts gX5_isSource_X5_has rfl rfl rfl (by decide +kernel) ⟨Nat.le_of_ble_eq_true rfl, Nat.le_of_ble_eq_true rfl⟩) (sg_pre0 hK) rfl rfl hl.1 rfl (lv_room (Nat.le_of_ble_eq_true rfl)) dX5_isSource_13 ⟨Nat.le_of_ble_eq_true rfl, Nat.le_of_ble_eq_true rfl⟩) hP hS hA (fun H locs hP hS => ?_)
  obtain ⟨hg8, hf⟩ := sg_g_s hf
  have hq := Option.some.inj hf
  exact sg_ti hx hb hr (sg_nz hg8) hP hD hS dX5_isSource_16 hq hlocks (by decide) (by decide)
