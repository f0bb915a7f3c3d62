set_option maxRecDepth 100000 in
set_option maxHeartbeats 4000000 in
theorem c_X5_islandByRounds (l : Launch) (hlt : l.stackTraces = false) (D : va_G) (cA : Nat → ClassId) (ad : Nat → Nat) (N : Nat) (u : sg_St) (p1 : Int32) (R : (Nat ⊕ Int32) × sg_St) (hf : fX5_islandByRounds N u p1 = some R) : sg_TI l D cA (sg_WX cA ad) yX5_islandByRounds wsX5_islandByRounds ({ frames := 9, cells := 1, slots := 6, locals := 421 }) [.ref (ad 0), .int p1] u 1 6 R := by
  intro sz
  refine vx_ofW (cc := cX5_islandByRounds) (maxL := 2) (ret := (some .int)) (by decide) rfl ?_
  intro p e s m args below meth c s₁ B hml htab hv
  obtain ⟨rfl, ⟨hsz, hP, hK, hD0⟩, hT⟩ := hv
  have hx := B.exec
  have hb := B.bytes
  have hr := B.returns
  have hts := atoms_spec (ws := wsX5_islandByRounds) B.pre
  have hown : s.vm.findClass RX5 = some m.cls := findClass_of_methodNamed B.named
  have hlocks := B.notSynchronized
  subst hsz
  have hD := hD0.self (sz := s.heap.size)
  generalize hAe : va_A (sg_WX cA ad u) s.heap.size = A at hD hT ⊢
  have hA : ∀ q : Nat, s.heap.size ≤ q → A q := fun q h => by rw [← hAe]; exact Or.inr h
  have hS : va_S A s.heap s.heap [] := va_S.rf
  have hl := lv_entry ([.ref (ad 0), .int p1]) (n := 2) (Nat.le_of_ble_eq_true rfl)
  rw [lg_entry_eq]
  generalize (lg_sl ([.ref (ad 0), .int p1]) ++ List.replicate (2 - (lg_sl ([.ref (ad 0), .int p1])).length) Slot.unset).toArray = ls at hl ⊢
  replace hl : lv_has ls 2 [(0, .ref (ad 0)), (1, .int p1)] := hl
  have hinX4 : ∀ w ∈ u_ws RX4 TX4 5, w ∈ wsX5_islandByRounds := by decide +kernel
  have hinX5 : ∀ w ∈ u_ws RX5 TX5 6, w ∈ wsX5_islandByRounds := by decide +kernel
  unfold fX5_islandByRounds at hf
  refine lv_aload_n hx hb dX5_islandByRounds_0 rfl (lv_at hl 0 rfl) ?_
  refine lv_iload_n hx hb dX5_islandByRounds_1 rfl (lv_at hl 1 rfl) ?_
  obtain ⟨x4, hc1, hxx4, hf⟩ := sg_bt_s hf
  refine sg_xv (vx_runV (As := [.int p1]) (rest := []) ⟨hx, hb, hml, hown, hts⟩ (c_X5_needNode l hlt D cA ad N _ _ x4 hc1 _) (cwV 1 hts gX5_islandByRounds_X5_needNode rfl rfl rfl (by decide +kernel) ⟨Nat.le_of_ble_eq_true rfl, Nat.le_of_ble_eq_true rfl⟩) (sg_preT hK hP hD hT hS hA (ci := 7) (q0 := 0) rfl rfl) rfl rfl hl.1 rfl (lv_room (Nat.le_of_ble_eq_true rfl)) dX5_islandByRounds_2 ⟨Nat.le_of_ble_eq_true rfl, Nat.le_of_ble_eq_true rfl⟩) hD hS hA htab hlocks (by decide) (by decide) hxx4 (fun u3 H locs hrx4 hP hD hS => ?_)
  replace hf := hf _ _ hrx4
  refine lv_aload_n hx hb dX5_islandByRounds_5 rfl (lv_at hl 0 rfl) ?_
  refine va_get (D := D) (ci := 7) (C := RX5) (T := TX5) (N := 6) hx hb hts hinX5 hown hK.1 hP 0 rfl rfl 0 (by decide) (hts (.fieldLink RX5 10 "Switchgear" "grid" "LSwitchgear$Grid;") (by decide +kernel)) (fun _ h9 => h9) rfl dX5_islandByRounds_6 ?_
  refine lv_iload_n hx hb dX5_islandByRounds_9 rfl (lv_at hl 1 rfl) ?_
  refine lv_aload_n hx hb dX5_islandByRounds_10 rfl (lv_at hl 0 rfl) ?_
  refine va_get (D := D) (ci := 7) (C := RX5) (T := TX5) (N := 6) hx hb hts hinX5 hown hK.1 hP 0 rfl rfl 2 (by decide) (hts (.fieldLink RX5 30 "Switchgear" "switches" "LSwitchgear$Switches;") (by decide +kernel)) (fun _ h9 => h9) rfl dX5_islandByRounds_11 ?_
  refine va_getN (D := D) (ci := 6) (C := RX4) (T := TX4) (N := 5) (host := RX5) (ref := RX4) hx hb hts hinX4 hown hK.1 hP 3 rfl rfl 2 (by decide) (va_Nw.use rfl (hK.2 _ (List.mem_of_getElem? (i := 10) rfl))) (fun _ h9 => h9) rfl dX5_islandByRounds_14 ?_
  obtain ⟨r6, hc5, hf⟩ := sg_b_s hf
  refine sg_ci (va_runV (As := [.int p1, .int (u3 4 0)]) (rest := []) ⟨hx, hb, hml, hown, hts⟩ (c_X1_islandGrownFrom l D cA ad N _ _ _ _ hc5 _) (cwV 2 hts gX5_islandByRounds_X1_islandGrownFrom rfl rfl rfl (by decide +kernel) ⟨Nat.le_of_ble_eq_true rfl, Nat.le_of_ble_eq_true rfl⟩) (sg_pre hK hP hD (ci := 3) (q0 := 1) rfl rfl) rfl rfl hl.1 rfl (lv_room (Nat.le_of_ble_eq_true rfl)) dX5_islandByRounds_17 ⟨Nat.le_of_ble_eq_true rfl, Nat.le_of_ble_eq_true rfl⟩) hD hS hA (fun H locs hP hD hS => ?_)
  obtain ⟨r9, hc8, hf⟩ := sg_b_s hf
  refine sg_ci0 (va_runS (As := [.int r6]) (rest := []) ⟨hx, hb, hml, hown, hts⟩ (c_X5_lowestIn l D cA N _ _ hc8 _) (va_cwS 1 hts gX5_islandByRounds_X5_lowestIn rfl rfl rfl (by decide +kernel) ⟨Nat.le_of_ble_eq_true rfl, Nat.le_of_ble_eq_true rfl⟩) (sg_pre0 hK) rfl rfl hl.1 rfl (lv_room (Nat.le_of_ble_eq_true rfl)) dX5_islandByRounds_20 ⟨Nat.le_of_ble_eq_true rfl, Nat.le_of_ble_eq_true rfl⟩) hP hS hA (fun H locs hP hS => ?_)
  have hq := Option.some.inj hf
  exact sg_ti hx hb hr rfl hP hD hS dX5_islandByRounds_23 hq hlocks (by decide) (by decide)
set_option maxRecDepth 100000 in
set_option maxHeartbeats 4000000 in
theorem c_X5_islandLoad (l : Launch) (hlt : l.stackTraces = false) (D : va_G) (cA : Nat → ClassId) (ad : Nat → Nat) (N : Nat) (u : sg_St) (p1 : Int32) (R : (Nat ⊕ Int32) × sg_St) (hf : fX5_islandLoad N u p1 = some R) : sg_TI l D cA (sg_WX cA ad) yX5_islandLoad wsX5_islandLoad ({ frames := 9, cells := 1, slots := 6, locals := 421 }) [.ref (ad 0), .int p1] u 1 6 R := by
  intro sz
  refine vx_ofW (cc := cX5_islandLoad) (maxL := 2) (ret := (some .int)) (by decide) rfl ?_
  intro p e s m args below meth c s₁ B hml htab hv
  obtain ⟨rfl, ⟨hsz, hP, hK, hD0⟩, hT⟩ := hv
  have hx := B.exec
  have hb := B.bytes
  have hr := B.returns
  have hts := atoms_spec (ws := wsX5_islandLoad) B.pre
  have hown : s.vm.findClass RX5 = some m.cls := findClass_of_methodNamed B.named
  have hlocks := B.notSynchronized
  subst hsz
  have hD := hD0.self (sz := s.heap.size)
  generalize hAe : va_A (sg_WX cA ad u) s.heap.size = A at hD hT ⊢
  have hA : ∀ q : Nat, s.heap.size ≤ q → A q := fun q h => by rw [← hAe]; exact Or.inr h
  have hS : va_S A s.heap s.heap [] := va_S.rf
  have hl := lv_entry ([.ref (ad 0), .int p1]) (n := 2) (Nat.le_of_ble_eq_true rfl)
  rw [lg_entry_eq]
  generalize (lg_sl ([.ref (ad 0), .int p1]) ++ List.replicate (2 - (lg_sl ([.ref (ad 0), .int p1])).length) Slot.unset).toArray = ls at hl ⊢
  replace hl : lv_has ls 2 [(0, .ref (ad 0)), (1, .int p1)] := hl
  have hinX5 : ∀ w ∈ u_ws RX5 TX5 6, w ∈ wsX5_islandLoad := by decide +kernel
  unfold fX5_islandLoad at hf
  refine lv_aload_n hx hb dX5_islandLoad_0 rfl (lv_at hl 0 rfl) ?_
  refine lv_iload_n hx hb dX5_islandLoad_1 rfl (lv_at hl 1 rfl) ?_
  obtain ⟨x4, hc1, hxx4, hf⟩ := sg_bt_s hf
  refine sg_xv (vx_runV (As := [.int p1]) (rest := []) ⟨hx, hb, hml, hown, hts⟩ (c_X5_needNode l hlt D cA ad N _ _ x4 hc1 _) (cwV 1 hts gX5_islandLoad_X5_needNode rfl rfl rfl (by decide +kernel) ⟨Nat.le_of_ble_eq_true rfl, Nat.le_of_ble_eq_true rfl⟩) (sg_preT hK hP hD hT hS hA (ci := 7) (q0 := 0) rfl rfl) rfl rfl hl.1 rfl (lv_room (Nat.le_of_ble_eq_true rfl)) dX5_islandLoad_2 ⟨Nat.le_of_ble_eq_true rfl, Nat.le_of_ble_eq_true rfl⟩) hD hS hA htab hlocks (by decide) (by decide) hxx4 (fun u3 H locs hrx4 hP hD hS => ?_)
  replace hf := hf _ _ hrx4
  refine lv_aload_n hx hb dX5_islandLoad_5 rfl (lv_at hl 0 rfl) ?_
  refine va_get (D := D) (ci := 7) (C := RX5) (T := TX5) (N := 6) hx hb hts hinX5 hown hK.1 hP 0 rfl rfl 0 (by decide) (hts (.fieldLink RX5 10 "Switchgear" "grid" "LSwitchgear$Grid;") (by decide +kernel)) (fun _ h9 => h9) rfl dX5_islandLoad_6 ?_
  refine lv_aload_n hx hb dX5_islandLoad_9 rfl (lv_at hl 0 rfl) ?_
  refine lv_iload_n hx hb dX5_islandLoad_10 rfl (lv_at hl 1 rfl) ?_
  obtain ⟨r6, hc5, hf⟩ := sg_b_s hf
  refine sg_ci (va_runV (As := [.int p1]) (rest := [.ref (ad 1)]) ⟨hx, hb, hml, hown, hts⟩ (c_X5_islandAt l D cA ad N _ _ _ hc5 _) (cwV 1 hts gX5_islandLoad_X5_islandAt rfl rfl rfl (by decide +kernel) ⟨Nat.le_of_ble_eq_true rfl, Nat.le_of_ble_eq_true rfl⟩) (sg_pre hK hP hD (ci := 7) (q0 := 0) rfl rfl) rfl rfl hl.1 rfl (lv_room (Nat.le_of_ble_eq_true rfl)) dX5_islandLoad_11 ⟨Nat.le_of_ble_eq_true rfl, Nat.le_of_ble_eq_true rfl⟩) hD hS hA (fun H locs hP hD hS => ?_)
  obtain ⟨r9, hc8, hf⟩ := sg_b_s hf
  refine sg_ci (va_runV (As := [.int r6]) (rest := []) ⟨hx, hb, hml, hown, hts⟩ (c_X1_loadIn l D cA ad N _ _ _ hc8 _) (cwV 1 hts gX5_islandLoad_X1_loadIn rfl rfl rfl (by decide +kernel) ⟨Nat.le_of_ble_eq_true rfl, Nat.le_of_ble_eq_true rfl⟩) (sg_pre hK hP hD (ci := 3) (q0 := 1) rfl rfl) rfl rfl hl.1 rfl (lv_room (Nat.le_of_ble_eq_true rfl)) dX5_islandLoad_14 ⟨Nat.le_of_ble_eq_true rfl, Nat.le_of_ble_eq_true rfl⟩) hD hS hA (fun H locs hP hD hS => ?_)
  have hq := Option.some.inj hf
  exact sg_ti hx hb hr rfl hP hD hS dX5_islandLoad_17 hq hlocks (by decide) (by decide)
set_option maxRecDepth 100000 in
set_option maxHeartbeats 4000000 in
theorem c_X5_islandOf (l : Launch) (hlt : l.stackTraces = false) (D : va_G) (cA : Nat → ClassId) (ad : Nat → Nat) (N : Nat) (u : sg_St) (p1 : Int32) (R : (Nat ⊕ Int32) × sg_St) (hf : fX5_islandOf N u p1 = some R) : sg_TI l D cA (sg_WX cA ad) yX5_islandOf wsX5_islandOf ({ frames := 9, cells := 1, slots := 6, locals := 421 }) [.ref (ad 0), .int p1] u 1 6 R := by
  intro sz
  refine vx_ofW (cc := cX5_islandOf) (maxL := 2) (ret := (some .int)) (by decide) rfl ?_
  intro p e s m args below meth c s₁ B hml htab hv
  obtain ⟨rfl, ⟨hsz, hP, hK, hD0⟩, hT⟩ := hv
  have hx := B.exec
  have hb := B.bytes
  have hr := B.returns
  have hts := atoms_spec (ws := wsX5_islandOf) B.pre
  have hown : s.vm.findClass RX5 = some m.cls := findClass_of_methodNamed B.named
  have hlocks := B.notSynchronized
  subst hsz
  have hD := hD0.self (sz := s.heap.size)
  generalize hAe : va_A (sg_WX cA ad u) s.heap.size = A at hD hT ⊢
  have hA : ∀ q : Nat, s.heap.size ≤ q → A q := fun q h => by rw [← hAe]; exact Or.inr h
  have hS : va_S A s.heap s.heap [] := va_S.rf
  have hl := lv_entry ([.ref (ad 0), .int p1]) (n := 2) (Nat.le_of_ble_eq_true rfl)
  rw [lg_entry_eq]
  generalize (lg_sl ([.ref (ad 0), .int p1]) ++ List.replicate (2 - (lg_sl ([.ref (ad 0), .int p1])).length) Slot.unset).toArray = ls at hl ⊢
  replace hl : lv_has ls 2 [(0, .ref (ad 0)), (1, .int p1)] := hl
  unfold fX5_islandOf at hf
  refine lv_aload_n hx hb dX5_islandOf_0 rfl (lv_at hl 0 rfl) ?_
  refine lv_iload_n hx hb dX5_islandOf_1 rfl (lv_at hl 1 rfl) ?_
  obtain ⟨x4, hc1, hxx4, hf⟩ := sg_bt_s hf
  refine sg_xv (vx_runV (As := [.int p1]) (rest := []) ⟨hx, hb, hml, hown, hts⟩ (c_X5_needNode l hlt D cA ad N _ _ x4 hc1 _) (cwV 1 hts gX5_islandOf_X5_needNode rfl rfl rfl (by decide +kernel) ⟨Nat.le_of_ble_eq_true rfl, Nat.le_of_ble_eq_true rfl⟩) (sg_preT hK hP hD hT hS hA (ci := 7) (q0 := 0) rfl rfl) rfl rfl hl.1 rfl (lv_room (Nat.le_of_ble_eq_true rfl)) dX5_islandOf_2 ⟨Nat.le_of_ble_eq_true rfl, Nat.le_of_ble_eq_true rfl⟩) hD hS hA htab hlocks (by decide) (by decide) hxx4 (fun u3 H locs hrx4 hP hD hS => ?_)
  replace hf := hf _ _ hrx4
  refine lv_aload_n hx hb dX5_islandOf_5 rfl (lv_at hl 0 rfl) ?_
  refine lv_iload_n hx hb dX5_islandOf_6 rfl (lv_at hl 1 rfl) ?_
  obtain ⟨r6, hc5, hf⟩ := sg_b_s hf
  refine sg_ci (va_runV (As := [.int p1]) (rest := []) ⟨hx, hb, hml, hown, hts⟩ (c_X5_islandAt l D cA ad N _ _ _ hc5 _) (cwV 1 hts gX5_islandOf_X5_islandAt rfl rfl rfl (by decide +kernel) ⟨Nat.le_of_ble_eq_true rfl, Nat.le_of_ble_eq_true rfl⟩) (sg_pre hK hP hD (ci := 7) (q0 := 0) rfl rfl) rfl rfl hl.1 rfl (lv_room (Nat.le_of_ble_eq_true rfl)) dX5_islandOf_7 ⟨Nat.le_of_ble_eq_true rfl, Nat.le_of_ble_eq_true rfl⟩) hD hS hA (fun H locs hP hD hS => ?_)
  obtain ⟨r9, hc8, hf⟩ := sg_b_s hf
  refine sg_ci0 (va_runS (As := [.int r6]) (rest := []) ⟨hx, hb, hml, hown, hts⟩ (c_X5_lowestIn l D cA N _ _ hc8 _) (va_cwS 1 hts gX5_islandOf_X5_lowestIn rfl rfl rfl (by decide +kernel) ⟨Nat.le_of_ble_eq_true rfl, Nat.le_of_ble_eq_true rfl⟩) (sg_pre0 hK) rfl rfl hl.1 rfl (lv_room (Nat.le_of_ble_eq_true rfl)) dX5_islandOf_10 ⟨Nat.le_of_ble_eq_true rfl, Nat.le_of_ble_eq_true rfl⟩) hP hS hA (fun H locs hP hS => ?_)
  have hq := Option.some.inj hf
  exact sg_ti hx hb hr rfl hP hD hS dX5_islandOf_13 hq hlocks (by decide) (by decide)
set_option maxRecDepth 100000 in
set_option maxHeartbeats 4000000 in
theorem c_X5_islands (l : Launch) (D : va_G) (cA : Nat → ClassId) (ad : Nat → Nat) (N : Nat) (u : sg_St) (r : Int32) (hf : fX5_islands N u = some r) : sg_CI l D cA (sg_WX cA ad) yX5_islands wsX5_islands ({ frames := 4, cells := 0, slots := 0, locals := 95 }) [.ref (ad 0)] u r u := by
  intro sz
  refine Met.ofW (cc := cX5_islands) (maxL := 3) (ret := (some .int)) (by decide) rfl ?_
  intro p e s m args below meth c s₁ B hml hv
  obtain ⟨rfl, hsz, hP, hK, hD0⟩ := hv
  have hx := B.exec
  have hb := B.bytes
  have hr := B.returns
  have hts := atoms_spec (ws := wsX5_islands) B.pre
  have hown : s.vm.findClass RX5 = some m.cls := findClass_of_methodNamed B.named
  have hlocks := B.notSynchronized
  subst hsz
  have hD := hD0.self (sz := s.heap.size)
  generalize hAe : va_A (sg_WX cA ad u) s.heap.size = A at hD ⊢
  have hA : ∀ q : Nat, s.heap.size ≤ q → A q := fun q h => by rw [← hAe]; exact Or.inr h
  have hS : va_S A s.heap s.heap [] := va_S.rf
  have hl := lv_entry ([.ref (ad 0)]) (n := 3) (Nat.le_of_ble_eq_true rfl)
  rw [lg_entry_eq]
  generalize (lg_sl ([.ref (ad 0)]) ++ List.replicate (3 - (lg_sl ([.ref (ad 0)])).length) Slot.unset).toArray = ls at hl ⊢
  replace hl : lv_has ls 3 [(0, .ref (ad 0))] := hl
  have hinX1 : ∀ w ∈ u_ws RX1 TX1 10, w ∈ wsX5_islands := by decide +kernel
  have hinX5 : ∀ w ∈ u_ws RX5 TX5 6, w ∈ wsX5_islands := by decide +kernel
  have hL4 : ∀ (n : Nat) (x : Int32 × Int32) (r9 : Int32), sg_it (fun x => fX5_islands_L4 N u x.1 x.2) n x = some r9 → ∀ (H : Heap) (locs : List Loc) (ls : Array Slot), va_P D vwCl (sg_WX cA ad u) H → va_D A (sg_WX cA ad u) → va_S A s.heap H locs → lv_has ls 3 [(0, .ref (ad 0)), (1, .int x.1), (2, .int x.2)] → (∀ (H : Heap) (locs : List Loc) (ls : Array Slot), va_P D vwCl (sg_WX cA ad u) H → va_D A (sg_WX cA ad u) → va_S A s.heap H locs → lv_has ls 3 [(0, .ref (ad 0)), (1, .int r9)] → W p l e (headSpec wsX5_islands ({ frames := 4, cells := 0, slots := 0, locals := 95 })).room s m ([.ref (ad 0)] : List Value).toArray below meth c H locs 0 0 (MQ below (va_Qi (fun x y => x = r ∧ y = u) (sg_BX D (sg_WX cA ad) A) A) ([.ref (ad 0)] : List Value).toArray s 0 0 A) (F0 m 36 ls [])) → W p l e (headSpec wsX5_islands ({ frames := 4, cells := 0, slots := 0, locals := 95 })).room s m ([.ref (ad 0)] : List Value).toArray below meth c H locs 0 0 (MQ below (va_Qi (fun x y => x = r ∧ y = u) (sg_BX D (sg_WX cA ad) A) A) ([.ref (ad 0)] : List Value).toArray s 0 0 A) (F0 m 4 ls []) := by
    refine sg_loop _ ?_
    intro x y r9 hf hI hy H locs ls hP hD hS hl hk
    replace hf : fX5_islands_L4 N u x.1 x.2 = some y := hf
    unfold fX5_islands_L4 at hf
    refine lv_iload_n hx hb dX5_islands_4 rfl (lv_at hl 2 rfl) ?_
    refine lv_aload_n hx hb dX5_islands_5 rfl (lv_at hl 0 rfl) ?_
    refine va_get (D := D) (ci := 7) (C := RX5) (T := TX5) (N := 6) hx hb hts hinX5 hown hK.1 hP 0 rfl rfl 0 (by decide) (hts (.fieldLink RX5 10 "Switchgear" "grid" "LSwitchgear$Grid;") (by decide +kernel)) (fun _ h9 => h9) rfl dX5_islands_6 ?_
    refine va_getN (D := D) (ci := 3) (C := RX1) (T := TX1) (N := 10) (host := RX5) (ref := RX1) hx hb hts hinX1 hown hK.1 hP 1 rfl rfl 6 (by decide) (va_Nw.use rfl (hK.2 _ (List.mem_of_getElem? (i := 13) rfl))) (fun _ h9 => h9) rfl dX5_islands_9 ?_
    refine lv_icmp_ge (tgt := 36) hx hb dX5_islands_12 (by decide) (fun c8 => ?_) (fun c8 => ?_)
    · have hf := sg_ip c8 hf
      have hq := hy _ (Option.some.inj hf).symm
      subst hq
      exact hk _ _ _ hP hD hS (lv_sub hl [0, 1] rfl)
    · have hf := sg_in c8 hf
      refine lv_aload_n hx hb dX5_islands_15 rfl (lv_at hl 0 rfl) ?_
      refine lv_iload_n hx hb dX5_islands_16 rfl (lv_at hl 2 rfl) ?_
      obtain ⟨r2, hc1, hf⟩ := sg_b_s hf
      refine sg_ci (va_runV (As := [.int x.2]) (rest := []) ⟨hx, hb, hml, hown, hts⟩ (c_X5_islandAt l D cA ad N _ _ _ hc1 _) (cwV 1 hts gX5_islands_X5_islandAt rfl rfl rfl (by decide +kernel) ⟨Nat.le_of_ble_eq_true rfl, Nat.le_of_ble_eq_true rfl⟩) (sg_pre hK hP hD (ci := 7) (q0 := 0) rfl rfl) rfl rfl hl.1 rfl (lv_room (Nat.le_of_ble_eq_true rfl)) dX5_islands_17 ⟨Nat.zero_le _, Nat.zero_le _⟩) hD hS hA (fun H locs hP hD hS => ?_)
      obtain ⟨r5, hc4, hf⟩ := sg_b_s hf
      refine sg_ci0 (va_runS (As := [.int r2]) (rest := []) ⟨hx, hb, hml, hown, hts⟩ (c_X5_lowestIn l D cA N _ _ hc4 _) (va_cwS 1 hts gX5_islands_X5_lowestIn rfl rfl rfl (by decide +kernel) ⟨Nat.le_of_ble_eq_true rfl, Nat.le_of_ble_eq_true rfl⟩) (sg_pre0 hK) rfl rfl hl.1 rfl (lv_room (Nat.le_of_ble_eq_true rfl)) dX5_islands_20 ⟨Nat.zero_le _, Nat.zero_le _⟩) hP hS hA (fun H locs hP hS => ?_)
      refine lv_iload_n hx hb dX5_islands_23 rfl (lv_at hl 2 rfl) ?_
      refine lv_icmp_ne (tgt := 30) hx hb dX5_islands_24 (by decide) (fun c7 => ?_) (fun c7 => ?_)
      · have hf := sg_in c7 hf
        refine lv_iinc (v := x.2 + 1) (lv' := [(2, .int (x.2 + 1)), (0, .ref (ad 0)), (1, .int x.1)]) hx hb dX5_islands_30 hl (k := 2) rfl rfl (by decide) rfl (fun ls hl => ?_)
        refine lv_goto (tgt := 4) hx hb dX5_islands_33 (by decide) ?_
        exact hI _ (Option.some.inj hf).symm _ _ _ hP hD hS (lv_sub hl [1, 2, 0] rfl) hk
      · have hf := sg_ip c7 hf
        refine lv_iinc (v := x.1 + 1) (lv' := [(1, .int (x.1 + 1)), (0, .ref (ad 0)), (2, .int x.2)]) hx hb dX5_islands_27 hl (k := 1) rfl rfl (by decide) rfl (fun ls hl => ?_)
        refine lv_iinc (v := x.2 + 1) (lv' := [(2, .int (x.2 + 1)), (1, .int (x.1 + 1)), (0, .ref (ad 0))]) hx hb dX5_islands_30 hl (k := 2) rfl rfl (by decide) rfl (fun ls hl => ?_)
        refine lv_goto (tgt := 4) hx hb dX5_islands_33 (by decide) ?_
        exact hI _ (Option.some.inj hf).symm _ _ _ hP hD hS (lv_sub hl [2, 1, 0] rfl) hk
  unfold fX5_islands at hf
  refine lv_iconst (v := 0) hx hb dX5_islands_0 (by decide) ?_
  refine lv_istore_n (lv' := [(1, .int 0), (0, .ref (ad 0))]) hx hb dX5_islands_1 rfl hl (by decide) rfl (fun ls hl => ?_)
  refine lv_iconst (v := 0) hx hb dX5_islands_2 (by decide) ?_
  refine lv_istore_n (lv' := [(2, .int 0), (1, .int 0), (0, .ref (ad 0))]) hx hb dX5_islands_3 rfl hl (by decide) rfl (fun ls hl => ?_)
  obtain ⟨e1, hc2, hf⟩ := sg_b_s hf
  refine hL4 _ _ e1 hc2 _ _ _ hP hD hS (lv_sub hl [2, 1, 0] rfl) (fun H locs ls hP hD hS hl => ?_)
  refine lv_iload_n hx hb dX5_islands_36 rfl (lv_at hl 1 rfl) ?_
  have hq := Option.some.inj hf
  exact sg_iret hx hb hr hP hD hS dX5_islands_37 hq rfl hlocks
set_option maxRecDepth 100000 in
set_option maxHeartbeats 4000000 in
theorem c_X5_lines (l : Launch) (D : va_G) (cA : Nat → ClassId) (ad : Nat → Nat) (N : Nat) (u : sg_St) (r : Int32) (hf : fX5_lines N u = some r) : sg_CI l D cA (sg_WX cA ad) yX5_lines wsX5_lines ({ frames := 0, cells := 0, slots := 0, locals := 0 }) [.ref (ad 0)] u r u := by
  intro sz
  refine Met.ofW (cc := cX5_lines) (maxL := 1) (ret := (some .int)) (by decide) rfl ?_
  intro p e s m args below meth c s₁ B hml hv
  obtain ⟨rfl, hsz, hP, hK, hD0⟩ := hv
  have hx := B.exec
  have hb := B.bytes
  have hr := B.returns
  have hts := atoms_spec (ws := wsX5_lines) B.pre
  have hown : s.vm.findClass RX5 = some m.cls := findClass_of_methodNamed B.named
  have hlocks := B.notSynchronized
  subst hsz
  have hD := hD0.self (sz := s.heap.size)
  generalize hAe : va_A (sg_WX cA ad u) s.heap.size = A at hD ⊢
  have hA : ∀ q : Nat, s.heap.size ≤ q → A q := fun q h => by rw [← hAe]; exact Or.inr h
  have hS : va_S A s.heap s.heap [] := va_S.rf
  have hl := lv_entry ([.ref (ad 0)]) (n := 1) (Nat.le_of_ble_eq_true rfl)
  rw [lg_entry_eq]
  generalize (lg_sl ([.ref (ad 0)]) ++ List.replicate (1 - (lg_sl ([.ref (ad 0)])).length) Slot.unset).toArray = ls at hl ⊢
  replace hl : lv_has ls 1 [(0, .ref (ad 0))] := hl
  have hinX1 : ∀ w ∈ u_ws RX1 TX1 10, w ∈ wsX5_lines := by decide +kernel
  have hinX5 : ∀ w ∈ u_ws RX5 TX5 6, w ∈ wsX5_lines := by decide +kernel
  unfold fX5_lines at hf
  refine lv_aload_n hx hb dX5_lines_0 rfl (lv_at hl 0 rfl) ?_
  refine va_get (D := D) (ci := 7) (C := RX5) (T := TX5) (N := 6) hx hb hts hinX5 hown hK.1 hP 0 rfl rfl 0 (by decide) (hts (.fieldLink RX5 10 "Switchgear" "grid" "LSwitchgear$Grid;") (by decide +kernel)) (fun _ h9 => h9) rfl dX5_lines_1 ?_
  refine va_getN (D := D) (ci := 3) (C := RX1) (T := TX1) (N := 10) (host := RX5) (ref := RX1) hx hb hts hinX1 hown hK.1 hP 1 rfl rfl 7 (by decide) (va_Nw.use rfl (hK.2 _ (List.mem_of_getElem? (i := 14) rfl))) (fun _ h9 => h9) rfl dX5_lines_4 ?_
  have hq := Option.some.inj hf
  exact sg_iret hx hb hr hP hD hS dX5_lines_7 hq rfl hlocks
set_option maxRecDepth 100000 in
set_option maxHeartbeats 4000000 in
theorem c_X5_liveShare (l : Launch) (hlt : l.stackTraces = false) (D : va_G) (cA : Nat → ClassId) (ad : Nat → Nat) (N : Nat) (u : sg_St) (R : (Nat ⊕ UInt32) × sg_St) (hf : fX5_liveShare N u = some R) : sg_TF l D cA (sg_WX cA ad) yX5_liveShare wsX5_liveShare ({ frames := 8, cells := 1, slots := 6, locals := 400 }) [.ref (ad 0)] u 1 6 R := by
  intro sz
  refine vx_ofW (cc := cX5_liveShare) (maxL := 2) (ret := (some .float)) (by decide) rfl ?_
  intro p e s m args below meth c s₁ B hml htab hv
  obtain ⟨rfl, ⟨hsz, hP, hK, hD0⟩, hT⟩ := hv
  have hx := B.exec
  have hb := B.bytes
  have hr := B.returns
  have hts := atoms_spec (ws := wsX5_liveShare) B.pre
  have hown : s.vm.findClass RX5 = some m.cls := findClass_of_methodNamed B.named
  have hlocks := B.notSynchronized
  subst hsz
  have hD := hD0.self (sz := s.heap.size)
  generalize hAe : va_A (sg_WX cA ad u) s.heap.size = A at hD hT ⊢
  have hA : ∀ q : Nat, s.heap.size ≤ q → A q := fun q h => by rw [← hAe]; exact Or.inr h
  have hS : va_S A s.heap s.heap [] := va_S.rf
  have hl := lv_entry ([.ref (ad 0)]) (n := 2) (Nat.le_of_ble_eq_true rfl)
  rw [lg_entry_eq]
  generalize (lg_sl ([.ref (ad 0)]) ++ List.replicate (2 - (lg_sl ([.ref (ad 0)])).length) Slot.unset).toArray = ls at hl ⊢
  replace hl : lv_has ls 2 [(0, .ref (ad 0))] := hl
  have hinX5 : ∀ w ∈ u_ws RX5 TX5 6, w ∈ wsX5_liveShare := by decide +kernel
  unfold fX5_liveShare at hf
  refine lv_aload_n hx hb dX5_liveShare_0 rfl (lv_at hl 0 rfl) ?_
  refine va_get (D := D) (ci := 7) (C := RX5) (T := TX5) (N := 6) hx hb hts hinX5 hown hK.1 hP 0 rfl rfl 0 (by decide) (hts (.fieldLink RX5 10 "Switchgear" "grid" "LSwitchgear$Grid;") (by decide +kernel)) (fun _ h9 => h9) rfl dX5_liveShare_1 ?_
  refine lv_aload_n hx hb dX5_liveShare_4 rfl (lv_at hl 0 rfl) ?_
  refine va_get (D := D) (ci := 7) (C := RX5) (T := TX5) (N := 6) hx hb hts hinX5 hown hK.1 hP 0 rfl rfl 0 (by decide) (hts (.fieldLink RX5 10 "Switchgear" "grid" "LSwitchgear$Grid;") (by decide +kernel)) (fun _ h9 => h9) rfl dX5_liveShare_5 ?_
  obtain ⟨r2, hc1, hf⟩ := sg_b_s hf
  refine sg_ci (va_runV (As := []) (rest := [.ref (ad 1)]) ⟨hx, hb, hml, hown, hts⟩ (c_X1_allNodes l D cA ad N _ _ hc1 _) (cwV 0 hts gX5_liveShare_X1_allNodes rfl rfl rfl (by decide +kernel) ⟨Nat.le_of_ble_eq_true rfl, Nat.le_of_ble_eq_true rfl⟩) (sg_pre hK hP hD (ci := 3) (q0 := 1) rfl rfl) rfl rfl hl.1 rfl (lv_room (Nat.le_of_ble_eq_true rfl)) dX5_liveShare_8 ⟨Nat.le_of_ble_eq_true rfl, Nat.le_of_ble_eq_true rfl⟩) hD hS hA (fun H locs hP hD hS => ?_)
  obtain ⟨r5, hc4, hf⟩ := sg_b_s hf
  refine sg_ci (va_runV (As := [.int r2]) (rest := []) ⟨hx, hb, hml, hown, hts⟩ (c_X1_loadIn l D cA ad N _ _ _ hc4 _) (cwV 1 hts gX5_liveShare_X1_loadIn rfl rfl rfl (by decide +kernel) ⟨Nat.le_of_ble_eq_true rfl, Nat.le_of_ble_eq_true rfl⟩) (sg_pre hK hP hD (ci := 3) (q0 := 1) rfl rfl) rfl rfl hl.1 rfl (lv_room (Nat.le_of_ble_eq_true rfl)) dX5_liveShare_11 ⟨Nat.le_of_ble_eq_true rfl, Nat.le_of_ble_eq_true rfl⟩) hD hS hA (fun H locs hP hD hS => ?_)
  refine lv_istore_n (lv' := [(1, .int r5), (0, .ref (ad 0))]) hx hb dX5_liveShare_14 rfl hl (by decide) rfl (fun ls hl => ?_)
  refine lv_iload_n hx hb dX5_liveShare_15 rfl (lv_at hl 0 rfl) ?_
  refine lv_if_ne (tgt := 30) hx hb dX5_liveShare_16 (by decide) (fun c14 => ?_) (fun c14 => ?_)
  · have hf := sg_in c14 hf
    refine lv_aload_n hx hb dX5_liveShare_30 rfl (lv_at hl 1 rfl) ?_
    refine va_get (D := D) (ci := 7) (C := RX5) (T := TX5) (N := 6) hx hb hts hinX5 hown hK.1 hP 0 rfl rfl 0 (by decide) (hts (.fieldLink RX5 10 "Switchgear" "grid" "LSwitchgear$Grid;") (by decide +kernel)) (fun _ h9 => h9) rfl dX5_liveShare_31 ?_
    refine lv_aload_n hx hb dX5_liveShare_34 rfl (lv_at hl 1 rfl) ?_
    obtain ⟨r8, hc7, hf⟩ := sg_b_s hf
    refine sg_ci (va_runV (As := []) (rest := [.ref (ad 1)]) ⟨hx, hb, hml, hown, hts⟩ (c_X5_liveNodes l D cA ad N _ _ hc7 _) (cwV 0 hts gX5_liveShare_X5_liveNodes rfl rfl rfl (by decide +kernel) ⟨Nat.le_of_ble_eq_true rfl, Nat.le_of_ble_eq_true rfl⟩) (sg_pre hK hP hD (ci := 7) (q0 := 0) rfl rfl) rfl rfl hl.1 rfl (lv_room (Nat.le_of_ble_eq_true rfl)) dX5_liveShare_35 ⟨Nat.le_of_ble_eq_true rfl, Nat.le_of_ble_eq_true rfl⟩) hD hS hA (fun H locs hP hD hS => ?_)
    obtain ⟨r11, hc10, hf⟩ := sg_b_s hf
    refine sg_ci (va_runV (As := [.int r8]) (rest := []) ⟨hx, hb, hml, hown, hts⟩ (c_X1_loadIn l D cA ad N _ _ _ hc10 _) (cwV 1 hts gX5_liveShare_X1_loadIn rfl rfl rfl (by decide +kernel) ⟨Nat.le_of_ble_eq_true rfl, Nat.le_of_ble_eq_true rfl⟩) (sg_pre hK hP hD (ci := 3) (q0 := 1) rfl rfl) rfl rfl hl.1 rfl (lv_room (Nat.le_of_ble_eq_true rfl)) dX5_liveShare_38 ⟨Nat.le_of_ble_eq_true rfl, Nat.le_of_ble_eq_true rfl⟩) hD hS hA (fun H locs hP hD hS => ?_)
    refine lv_i2f hx hb dX5_liveShare_41 ?_
    refine lv_iload_n hx hb dX5_liveShare_42 rfl (lv_at hl 0 rfl) ?_
    refine lv_i2f hx hb dX5_liveShare_43 ?_
    obtain ⟨hg13, hf⟩ := sg_g_s hf
    refine lv_fdiv hx hb dX5_liveShare_44 (sg_n32 hg13) ?_
    have hq := Option.some.inj hf
    exact sg_tf hx hb hr hP hD hS dX5_liveShare_45 hq hlocks (by decide) (by decide)
  · have hf := sg_ip c14 hf
    have hq := Option.some.inj hf
    exact sg_throwW (cls := "java/lang/ArithmeticException") (text := "the sum of all loads is 0") (k := 3) hx hb hlt hown hts hT hP hD hS (hl.1.trans hml.symm) htab hlocks (by decide +kernel) (by decide +kernel) (by decide +kernel) (by decide +kernel) (by decide +kernel) (by decide +kernel) (by decide +kernel) dX5_liveShare_19 dX5_liveShare_22 dX5_liveShare_23 dX5_liveShare_26 dX5_liveShare_29 ⟨Nat.le_of_ble_eq_true rfl, Nat.le_of_ble_eq_true rfl, Nat.le_of_ble_eq_true rfl, Nat.le_of_ble_eq_true rfl, by decide, by decide⟩ (by decide +kernel) hq
set_option maxRecDepth 100000 in
set_option maxHeartbeats 4000000 in
theorem c_X5_loadOf (l : Launch) (hlt : l.stackTraces = false) (D : va_G) (cA : Nat → ClassId) (ad : Nat → Nat) (N : Nat) (u : sg_St) (p1 : Int32) (R : (Nat ⊕ Int32) × sg_St) (hf : fX5_loadOf N u p1 = some R) : sg_TI l D cA (sg_WX cA ad) yX5_loadOf wsX5_loadOf ({ frames := 9, cells := 1, slots := 6, locals := 421 }) [.ref (ad 0), .int p1] u 1 6 R := by
  intro sz
  refine vx_ofW (cc := cX5_loadOf) (maxL := 2) (ret := (some .int)) (by decide) rfl ?_
  intro p e s m args below meth c s₁ B hml htab hv
  obtain ⟨rfl, ⟨hsz, hP, hK, hD0⟩, hT⟩ := hv
  have hx := B.exec
  have hb := B.bytes
  have hr := B.returns
  have hts := atoms_spec (ws := wsX5_loadOf) B.pre
  have hown : s.vm.findClass RX5 = some m.cls := findClass_of_methodNamed B.named
  have hlocks := B.notSynchronized
  subst hsz
  have hD := hD0.self (sz := s.heap.size)
  generalize hAe : va_A (sg_WX cA ad u) s.heap.size = A at hD hT ⊢
  have hA : ∀ q : Nat, s.heap.size ≤ q → A q := fun q h => by rw [← hAe]; exact Or.inr h
  have hS : va_S A s.heap s.heap [] := va_S.rf
  have hl := lv_entry ([.ref (ad 0), .int p1]) (n := 2) (Nat.le_of_ble_eq_true rfl)
  rw [lg_entry_eq]
  generalize (lg_sl ([.ref (ad 0), .int p1]) ++ List.replicate (2 - (lg_sl ([.ref (ad 0), .int p1])).length) Slot.unset).toArray = ls at hl ⊢
  replace hl : lv_has ls 2 [(0, .ref (ad 0)), (1, .int p1)] := hl
  have hinX5 : ∀ w ∈ u_ws RX5 TX5 6, w ∈ wsX5_loadOf := by decide +kernel
  unfold fX5_loadOf at hf
  refine lv_aload_n hx hb dX5_loadOf_0 rfl (lv_at hl 0 rfl) ?_
  refine lv_iload_n hx hb dX5_loadOf_1 rfl (lv_at hl 1 rfl) ?_
  obtain ⟨x4, hc1, hxx4, hf⟩ := sg_bt_s hf
  refine sg_xv (vx_runV (As := [.int p1]) (rest := []) ⟨hx, hb, hml, hown, hts⟩ (c_X5_needNode l hlt D cA ad N _ _ x4 hc1 _) (cwV 1 hts gX5_loadOf_X5_needNode rfl rfl rfl (by decide +kernel) ⟨Nat.le_of_ble_eq_true rfl, Nat.le_of_ble_eq_true rfl⟩) (sg_preT hK hP hD hT hS hA (ci := 7) (q0 := 0) rfl rfl) rfl rfl hl.1 rfl (lv_room (Nat.le_of_ble_eq_true rfl)) dX5_loadOf_2 ⟨Nat.le_of_ble_eq_true rfl, Nat.le_of_ble_eq_true rfl⟩) hD hS hA htab hlocks (by decide) (by decide) hxx4 (fun u3 H locs hrx4 hP hD hS => ?_)
  replace hf := hf _ _ hrx4
  refine lv_aload_n hx hb dX5_loadOf_5 rfl (lv_at hl 0 rfl) ?_
  refine va_get (D := D) (ci := 7) (C := RX5) (T := TX5) (N := 6) hx hb hts hinX5 hown hK.1 hP 0 rfl rfl 0 (by decide) (hts (.fieldLink RX5 10 "Switchgear" "grid" "LSwitchgear$Grid;") (by decide +kernel)) (fun _ h9 => h9) rfl dX5_loadOf_6 ?_
  refine lv_iload_n hx hb dX5_loadOf_9 rfl (lv_at hl 1 rfl) ?_
  obtain ⟨r6, hc5, hf⟩ := sg_b_s hf
  refine sg_ci (va_runV (As := [.int p1]) (rest := []) ⟨hx, hb, hml, hown, hts⟩ (c_X1_loadAt l D cA ad N _ _ _ hc5 _) (cwV 1 hts gX5_loadOf_X1_loadAt rfl rfl rfl (by decide +kernel) ⟨Nat.le_of_ble_eq_true rfl, Nat.le_of_ble_eq_true rfl⟩) (sg_pre hK hP hD (ci := 3) (q0 := 1) rfl rfl) rfl rfl hl.1 rfl (lv_room (Nat.le_of_ble_eq_true rfl)) dX5_loadOf_10 ⟨Nat.le_of_ble_eq_true rfl, Nat.le_of_ble_eq_true rfl⟩) hD hS hA (fun H locs hP hD hS => ?_)
  have hq := Option.some.inj hf
  exact sg_ti hx hb hr rfl hP hD hS dX5_loadOf_13 hq hlocks (by decide) (by decide)
set_option maxRecDepth 100000 in
set_option maxHeartbeats 4000000 in
theorem c_X5_margin (l : Launch) (hlt : l.stackTraces = false) (D : va_G) (cA : Nat → ClassId) (ad : Nat → Nat) (N : Nat) (u : sg_St) (p1 : Int32) (R : (Nat ⊕ Int32) × sg_St) (hf : fX5_margin N u p1 = some R) : sg_TI l D cA (sg_WX cA ad) yX5_margin wsX5_margin ({ frames := 17, cells := 2, slots := 12, locals := 463 }) [.ref (ad 0), .int p1] u 2 12 R := by
  intro sz
  refine vx_ofW (cc := cX5_margin) (maxL := 3) (ret := (some .int)) (by decide) rfl ?_
  intro p e s m args below meth c s₁ B hml htab hv
  obtain ⟨rfl, ⟨hsz, hP, hK, hD0⟩, hT⟩ := hv
  have hx := B.exec
  have hb := B.bytes
  have hr := B.returns
  have hts := atoms_spec (ws := wsX5_margin) B.pre
  have hown : s.vm.findClass RX5 = some m.cls := findClass_of_methodNamed B.named
  have hlocks := B.notSynchronized
  subst hsz
  have hD := hD0.self (sz := s.heap.size)
  generalize hAe : va_A (sg_WX cA ad u) s.heap.size = A at hD hT ⊢
  have hA : ∀ q : Nat, s.heap.size ≤ q → A q := fun q h => by rw [← hAe]; exact Or.inr h
  have hS : va_S A s.heap s.heap [] := va_S.rf
  have hl := lv_entry ([.ref (ad 0), .int p1]) (n := 3) (Nat.le_of_ble_eq_true rfl)
  rw [lg_entry_eq]
  generalize (lg_sl ([.ref (ad 0), .int p1]) ++ List.replicate (3 - (lg_sl ([.ref (ad 0), .int p1])).length) Slot.unset).toArray = ls at hl ⊢
  replace hl : lv_has ls 3 [(0, .ref (ad 0)), (1, .int p1)] := hl
  have hinX4 : ∀ w ∈ u_ws RX4 TX4 5, w ∈ wsX5_margin := by decide +kernel
  have hinX5 : ∀ w ∈ u_ws RX5 TX5 6, w ∈ wsX5_margin := by decide +kernel
  unfold fX5_margin at hf
  refine lv_aload_n hx hb dX5_margin_0 rfl (lv_at hl 0 rfl) ?_
  refine lv_iload_n hx hb dX5_margin_1 rfl (lv_at hl 1 rfl) ?_
  obtain ⟨x4, hc1, hxx4, hf⟩ := sg_bt_s hf
  refine sg_xv (vx_runV (As := [.int p1]) (rest := []) ⟨hx, hb, hml, hown, hts⟩ (c_X5_needLine l hlt D cA ad N _ _ x4 hc1 _) (cwV 1 hts gX5_margin_X5_needLine rfl rfl rfl (by decide +kernel) ⟨Nat.le_of_ble_eq_true rfl, Nat.le_of_ble_eq_true rfl⟩) (sg_preT hK hP hD hT hS hA (ci := 7) (q0 := 0) rfl rfl) rfl rfl hl.1 rfl (lv_room (Nat.le_of_ble_eq_true rfl)) dX5_margin_2 ⟨Nat.le_of_ble_eq_true rfl, Nat.le_of_ble_eq_true rfl⟩) hD hS hA htab hlocks (by decide) (by decide) hxx4 (fun u3 H locs hrx4 hP hD hS => ?_)
  replace hf := hf _ _ hrx4
  refine lv_aload_n hx hb dX5_margin_5 rfl (lv_at hl 0 rfl) ?_
  refine va_get (D := D) (ci := 7) (C := RX5) (T := TX5) (N := 6) hx hb hts hinX5 hown hK.1 hP 0 rfl rfl 3 (by decide) (hts (.fieldLink RX5 37 "Switchgear" "protection" "LSwitchgear$Protection;") (by decide +kernel)) (fun _ h9 => h9) rfl dX5_margin_6 ?_
  refine lv_iload_n hx hb dX5_margin_9 rfl (lv_at hl 1 rfl) ?_
  refine lv_aload_n hx hb dX5_margin_10 rfl (lv_at hl 0 rfl) ?_
  refine va_get (D := D) (ci := 7) (C := RX5) (T := TX5) (N := 6) hx hb hts hinX5 hown hK.1 hP 0 rfl rfl 2 (by decide) (hts (.fieldLink RX5 30 "Switchgear" "switches" "LSwitchgear$Switches;") (by decide +kernel)) (fun _ h9 => h9) rfl dX5_margin_11 ?_
  refine va_getN (D := D) (ci := 6) (C := RX4) (T := TX4) (N := 5) (host := RX5) (ref := RX4) hx hb hts hinX4 hown hK.1 hP 3 rfl rfl 2 (by decide) (va_Nw.use rfl (hK.2 _ (List.mem_of_getElem? (i := 10) rfl))) (fun _ h9 => h9) rfl dX5_margin_14 ?_
  obtain ⟨r6, u7, hc5, hf⟩ := sg_b2_s hf
  refine sg_ci (va_runV (As := [.int p1, .int (u3 4 0)]) (rest := []) ⟨hx, hb, hml, hown, hts⟩ (c_X3_answerTo l D cA ad N _ _ _ _ _ hc5 _) (cwV 2 hts gX5_margin_X3_answerTo rfl rfl rfl (by decide +kernel) ⟨Nat.le_of_ble_eq_true rfl, Nat.le_of_ble_eq_true rfl⟩) (sg_pre hK hP hD (ci := 5) (q0 := 4) rfl rfl) rfl rfl hl.1 rfl (lv_room (Nat.le_of_ble_eq_true rfl)) dX5_margin_17 ⟨Nat.le_of_ble_eq_true rfl, Nat.le_of_ble_eq_true rfl⟩) hD hS hA (fun H locs hP hD hS => ?_)
  refine lv_iload_n hx hb dX5_margin_20 rfl (lv_at hl 1 rfl) ?_
  refine lv_icmp_eq (tgt := 34) hx hb dX5_margin_21 (by decide) (fun c12 => ?_) (fun c12 => ?_)
  · have hf := sg_ip c12 hf
    refine lv_aload_n hx hb dX5_margin_34 rfl (lv_at hl 0 rfl) ?_
    refine va_get (D := D) (ci := 7) (C := RX5) (T := TX5) (N := 6) hx hb hts hinX5 hown hK.1 hP 0 rfl rfl 3 (by decide) (hts (.fieldLink RX5 37 "Switchgear" "protection" "LSwitchgear$Protection;") (by decide +kernel)) (fun _ h9 => h9) rfl dX5_margin_35 ?_
    refine lv_iload_n hx hb dX5_margin_38 rfl (lv_at hl 1 rfl) ?_
    refine lv_aload_n hx hb dX5_margin_39 rfl (lv_at hl 0 rfl) ?_
    refine va_get (D := D) (ci := 7) (C := RX5) (T := TX5) (N := 6) hx hb hts hinX5 hown hK.1 hP 0 rfl rfl 2 (by decide) (hts (.fieldLink RX5 30 "Switchgear" "switches" "LSwitchgear$Switches;") (by decide +kernel)) (fun _ h9 => h9) rfl dX5_margin_40 ?_
    refine va_getN (D := D) (ci := 6) (C := RX4) (T := TX4) (N := 5) (host := RX5) (ref := RX4) hx hb hts hinX4 hown hK.1 hP 3 rfl rfl 2 (by decide) (va_Nw.use rfl (hK.2 _ (List.mem_of_getElem? (i := 10) rfl))) (fun _ h9 => h9) rfl dX5_margin_43 ?_
    obtain ⟨r9, u10, hc8, hf⟩ := sg_b2_s hf
    refine sg_ci (va_runV (As := [.int p1, .int (u7 4 0)]) (rest := []) ⟨hx, hb, hml, hown, hts⟩ (c_X3_leadOf l D cA ad N _ _ _ _ _ hc8 _) (cwV 2 hts gX5_margin_X3_leadOf rfl rfl rfl (by decide +kernel) ⟨Nat.le_of_ble_eq_true rfl, Nat.le_of_ble_eq_true rfl⟩) (sg_pre hK hP hD (ci := 5) (q0 := 4) rfl rfl) rfl rfl hl.1 rfl (lv_room (Nat.le_of_ble_eq_true rfl)) dX5_margin_46 ⟨Nat.le_of_ble_eq_true rfl, Nat.le_of_ble_eq_true rfl⟩) hD hS hA (fun H locs hP hD hS => ?_)
    refine lv_istore_n (lv' := [(2, .int r9), (0, .ref (ad 0)), (1, .int p1)]) hx hb dX5_margin_49 rfl hl (by decide) rfl (fun ls hl => ?_)
    refine lv_iload_n hx hb dX5_margin_50 rfl (lv_at hl 0 rfl) ?_
    refine lv_iconst (v := (-1)) hx hb dX5_margin_51 (by decide) ?_
    refine lv_icmp_ne (tgt := 65) hx hb dX5_margin_52 (by decide) (fun c11 => ?_) (fun c11 => ?_)
    · have hf := sg_in c11 hf
      refine lv_iload_n hx hb dX5_margin_65 rfl (lv_at hl 0 rfl) ?_
      have hq := Option.some.inj hf
      exact sg_ti hx hb hr rfl hP hD hS dX5_margin_66 hq hlocks (by decide) (by decide)
    · have hf := sg_ip c11 hf
      have hq := Option.some.inj hf
      exact sg_throw (cls := "java/lang/UnsupportedOperationException") (text := "no other relay on the path trips") (k := 4) hx hb hlt hown hts hT hP hD hS (hl.1.trans hml.symm) htab hlocks (by decide +kernel) (by decide +kernel) (by decide +kernel) (by decide +kernel) (by decide +kernel) (by decide +kernel) (by decide +kernel) dX5_margin_55 dX5_margin_58 dX5_margin_59 dX5_margin_61 dX5_margin_64 ⟨Nat.le_of_ble_eq_true rfl, Nat.le_of_ble_eq_true rfl, Nat.le_of_ble_eq_true rfl, Nat.le_of_ble_eq_true rfl, by decide, by decide⟩ (by decide +kernel) hq
  · have hf := sg_in c12 hf
    have hq := Option.some.inj hf
    exact sg_throw (cls := "java/lang/IllegalStateException") (text := "the line is not protected selectively") (k := 0) hx hb hlt hown hts hT hP hD hS (hl.1.trans hml.symm) htab hlocks (by decide +kernel) (by decide +kernel) (by decide +kernel) (by decide +kernel) (by decide +kernel) (by decide +kernel) (by decide +kernel) dX5_margin_24 dX5_margin_27 dX5_margin_28 dX5_margin_30 dX5_margin_33 ⟨Nat.le_of_ble_eq_true rfl, Nat.le_of_ble_eq_true rfl, Nat.le_of_ble_eq_true rfl, Nat.le_of_ble_eq_true rfl, by decide, by decide⟩ (by decide +kernel) hq
set_option maxRecDepth 100000 in
set_option maxHeartbeats 4000000 in
theorem c_X5_needBreaker (l : Launch) (hlt : l.stackTraces = false) (D : va_G) (cA : Nat → ClassId) (ad : Nat → Nat) (N : Nat) (u : sg_St) (p1 : Int32) (R : (Nat ⊕ Unit) × sg_St) (hf : fX5_needBreaker N u p1 = some R) : sg_TV l D cA (sg_WX cA ad) yX5_needBreaker wsX5_needBreaker ({ frames := 8, cells := 1, slots := 6, locals := 400 }) [.ref (ad 0), .int p1] u 1 6 R := by
  intro sz
  refine vx_ofW (cc := cX5_needBreaker) (maxL := 2) (ret := none) (by decide) rfl ?_
  intro p e s m args below meth c s₁ B hml htab hv
  obtain ⟨rfl, ⟨hsz, hP, hK, hD0⟩, hT⟩ := hv
  have hx := B.exec
  have hb := B.bytes
  have hr := B.returns
  have hts := atoms_spec (ws := wsX5_needBreaker) B.pre
  have hown : s.vm.findClass RX5 = some m.cls := findClass_of_methodNamed B.named
  have hlocks := B.notSynchronized
  subst hsz
  have hD := hD0.self (sz := s.heap.size)
  generalize hAe : va_A (sg_WX cA ad u) s.heap.size = A at hD hT ⊢
  have hA : ∀ q : Nat, s.heap.size ≤ q → A q := fun q h => by rw [← hAe]; exact Or.inr h
  have hS : va_S A s.heap s.heap [] := va_S.rf
  have hl := lv_entry ([.ref (ad 0), .int p1]) (n := 2) (Nat.le_of_ble_eq_true rfl)
  rw [lg_entry_eq]
  generalize (lg_sl ([.ref (ad 0), .int p1]) ++ List.replicate (2 - (lg_sl ([.ref (ad 0), .int p1])).length) Slot.unset).toArray = ls at hl ⊢
  replace hl : lv_has ls 2 [(0, .ref (ad 0)), (1, .int p1)] := hl
  have hinX1 : ∀ w ∈ u_ws RX1 TX1 10, w ∈ wsX5_needBreaker := by decide +kernel
  have hinX5 : ∀ w ∈ u_ws RX5 TX5 6, w ∈ wsX5_needBreaker := by decide +kernel
  unfold fX5_needBreaker at hf
  refine lv_aload_n hx hb dX5_needBreaker_0 rfl (lv_at hl 0 rfl) ?_
  refine va_get (D := D) (ci := 7) (C := RX5) (T := TX5) (N := 6) hx hb hts hinX5 hown hK.1 hP 0 rfl rfl 0 (by decide) (hts (.fieldLink RX5 10 "Switchgear" "grid" "LSwitchgear$Grid;") (by decide +kernel)) (fun _ h9 => h9) rfl dX5_needBreaker_1 ?_
  refine va_getN (D := D) (ci := 3) (C := RX1) (T := TX1) (N := 10) (host := RX5) (ref := RX1) hx hb hts hinX1 hown hK.1 hP 1 rfl rfl 9 (by decide) (va_Nw.use rfl (hK.2 _ (List.mem_of_getElem? (i := 18) rfl))) (fun _ h9 => h9) rfl dX5_needBreaker_4 ?_
  refine lv_iload_n hx hb dX5_needBreaker_7 rfl (lv_at hl 1 rfl) ?_
  obtain ⟨r2, hc1, hf⟩ := sg_b_s hf
  refine sg_ci0 (va_runS (As := [.int (u 3 0), .int p1]) (rest := []) ⟨hx, hb, hml, hown, hts⟩ (c_X5_has l D cA N _ _ _ hc1 _) (va_cwS 2 hts gX5_needBreaker_X5_has rfl rfl rfl (by decide +kernel) ⟨Nat.le_of_ble_eq_true rfl, Nat.le_of_ble_eq_true rfl⟩) (sg_pre0 hK) rfl rfl hl.1 rfl (lv_room (Nat.le_of_ble_eq_true rfl)) dX5_needBreaker_8 ⟨Nat.le_of_ble_eq_true rfl, Nat.le_of_ble_eq_true rfl⟩) hP hS hA (fun H locs hP hS => ?_)
  refine lv_if_ne (tgt := 25) hx hb dX5_needBreaker_11 (by decide) (fun c4 => ?_) (fun c4 => ?_)
  · have hf := sg_in c4 hf
    have hq := Option.some.inj hf
    exact sg_tv hx hb hr hP hD hS dX5_needBreaker_25 hq hlocks (by decide) (by decide)
  · have hf := sg_ip c4 hf
    have hq := Option.some.inj hf
    exact sg_throwW (cls := "java/lang/UnsupportedOperationException") (text := "the line is not switched by a breaker") (k := 4) hx hb hlt hown hts hT hP hD hS (hl.1.trans hml.symm) htab hlocks (by decide +kernel) (by decide +kernel) (by decide +kernel) (by decide +kernel) (by decide +kernel) (by decide +kernel) (by decide +kernel) dX5_needBreaker_14 dX5_needBreaker_17 dX5_needBreaker_18 dX5_needBreaker_21 dX5_needBreaker_24 ⟨Nat.le_of_ble_eq_true rfl, Nat.le_of_ble_eq_true rfl, Nat.le_of_ble_eq_true rfl, Nat.le_of_ble_eq_true rfl, by decide, by decide⟩ (by decide +kernel) hq
set_option maxRecDepth 100000 in
set_option maxHeartbeats 4000000 in
theorem c_X5_needBus (l : Launch) (hlt : l.stackTraces = false) (D : va_G) (cA : Nat → ClassId) (ad : Nat → Nat) (N : Nat) (u : sg_St) (p1 : Int32) (R : (Nat ⊕ Unit) × sg_St) (hf : fX5_needBus N u p1 = some R) : sg_TV l D cA (sg_WX cA ad) yX5_needBus wsX5_needBus ({ frames := 8, cells := 1, slots := 6, locals := 400 }) [.ref (ad 0), .int p1] u 1 6 R := by
  intro sz
  refine vx_ofW (cc := cX5_needBus) (maxL := 2) (ret := none) (by decide) rfl ?_
  intro p e s m args below meth c s₁ B hml htab hv
  obtain ⟨rfl, ⟨hsz, hP, hK, hD0⟩, hT⟩ := hv
  have hx := B.exec
  have hb := B.bytes
  have hr := B.returns
  have hts := atoms_spec (ws := wsX5_needBus) B.pre
  have hown : s.vm.findClass RX5 = some m.cls := findClass_of_methodNamed B.named
  have hlocks := B.notSynchronized
  subst hsz
  have hD := hD0.self (sz := s.heap.size)
  generalize hAe : va_A (sg_WX cA ad u) s.heap.size = A at hD hT ⊢
  have hA : ∀ q : Nat, s.heap.size ≤ q → A q := fun q h => by rw [← hAe]; exact Or.inr h
  have hS : va_S A s.heap s.heap [] := va_S.rf
  have hl := lv_entry ([.ref (ad 0), .int p1]) (n := 2) (Nat.le_of_ble_eq_true rfl)
  rw [lg_entry_eq]
  generalize (lg_sl ([.ref (ad 0), .int p1]) ++ List.replicate (2 - (lg_sl ([.ref (ad 0), .int p1])).length) Slot.unset).toArray = ls at hl ⊢
  replace hl : lv_has ls 2 [(0, .ref (ad 0)), (1, .int p1)] := hl
  have hinX1 : ∀ w ∈ u_ws RX1 TX1 10, w ∈ wsX5_needBus := by decide +kernel
  have hinX5 : ∀ w ∈ u_ws RX5 TX5 6, w ∈ wsX5_needBus := by decide +kernel
  unfold fX5_needBus at hf
  refine lv_aload_n hx hb dX5_needBus_0 rfl (lv_at hl 0 rfl) ?_
  refine va_get (D := D) (ci := 7) (C := RX5) (T := TX5) (N := 6) hx hb hts hinX5 hown hK.1 hP 0 rfl rfl 0 (by decide) (hts (.fieldLink RX5 10 "Switchgear" "grid" "LSwitchgear$Grid;") (by decide +kernel)) (fun _ h9 => h9) rfl dX5_needBus_1 ?_
  refine va_getN (D := D) (ci := 3) (C := RX1) (T := TX1) (N := 10) (host := RX5) (ref := RX1) hx hb hts hinX1 hown hK.1 hP 1 rfl rfl 8 (by decide) (va_Nw.use rfl (hK.2 _ (List.mem_of_getElem? (i := 15) rfl))) (fun _ h9 => h9) rfl dX5_needBus_4 ?_
  refine lv_iload_n hx hb dX5_needBus_7 rfl (lv_at hl 1 rfl) ?_
  obtain ⟨r2, hc1, hf⟩ := sg_b_s hf
  refine sg_ci0 (va_runS (As := [.int (u 2 0), .int p1]) (rest := []) ⟨hx, hb, hml, hown, hts⟩ (c_X5_has l D cA N _ _ _ hc1 _) (va_cwS 2 hts gX5_needBus_X5_has rfl rfl rfl (by decide +kernel) ⟨Nat.le_of_ble_eq_true rfl, Nat.le_of_ble_eq_true rfl⟩) (sg_pre0 hK) rfl rfl hl.1 rfl (lv_room (Nat.le_of_ble_eq_true rfl)) dX5_needBus_8 ⟨Nat.le_of_ble_eq_true rfl, Nat.le_of_ble_eq_true rfl⟩) hP hS hA (fun H locs hP hS => ?_)
  refine lv_if_eq (tgt := 25) hx hb dX5_needBus_11 (by decide) (fun c4 => ?_) (fun c4 => ?_)
  · have hf := sg_ip c4 hf
    have hq := Option.some.inj hf
    exact sg_tv hx hb hr hP hD hS dX5_needBus_25 hq hlocks (by decide) (by decide)
  · have hf := sg_in c4 hf
    have hq := Option.some.inj hf
    exact sg_throwW (cls := "java/lang/UnsupportedOperationException") (text := "the node is a source") (k := 4) hx hb hlt hown hts hT hP hD hS (hl.1.trans hml.symm) htab hlocks (by decide +kernel) (by decide +kernel) (by decide +kernel) (by decide +kernel) (by decide +kernel) (by decide +kernel) (by decide +kernel) dX5_needBus_14 dX5_needBus_17 dX5_needBus_18 dX5_needBus_21 dX5_needBus_24 ⟨Nat.le_of_ble_eq_true rfl, Nat.le_of_ble_eq_true rfl, Nat.le_of_ble_eq_true rfl, Nat.le_of_ble_eq_true rfl, by decide, by decide⟩ (by decide +kernel) hq
set_option maxRecDepth 100000 in
set_option maxHeartbeats 4000000 in
theorem c_X5_needFewLinesToTry (l : Launch) (hlt : l.stackTraces = false) (D : va_G) (cA : Nat → ClassId) (ad : Nat → Nat) (N : Nat) (u : sg_St) (R : (Nat ⊕ Unit) × sg_St) (hf : fX5_needFewLinesToTry N u = some R) : sg_TV l D cA (sg_WX cA ad) yX5_needFewLinesToTry wsX5_needFewLinesToTry ({ frames := 8, cells := 1, slots := 6, locals := 400 }) [.ref (ad 0)] u 1 6 R := by
  intro sz
  refine vx_ofW (cc := cX5_needFewLinesToTry) (maxL := 1) (ret := none) (by decide) rfl ?_
  intro p e s m args below meth c s₁ B hml htab hv
  obtain ⟨rfl, ⟨hsz, hP, hK, hD0⟩, hT⟩ := hv
  have hx := B.exec
  have hb := B.bytes
  have hr := B.returns
  have hts := atoms_spec (ws := wsX5_needFewLinesToTry) B.pre
  have hown : s.vm.findClass RX5 = some m.cls := findClass_of_methodNamed B.named
  have hlocks := B.notSynchronized
  subst hsz
  have hD := hD0.self (sz := s.heap.size)
  generalize hAe : va_A (sg_WX cA ad u) s.heap.size = A at hD hT ⊢
  have hA : ∀ q : Nat, s.heap.size ≤ q → A q := fun q h => by rw [← hAe]; exact Or.inr h
  have hS : va_S A s.heap s.heap [] := va_S.rf
  have hl := lv_entry ([.ref (ad 0)]) (n := 1) (Nat.le_of_ble_eq_true rfl)
  rw [lg_entry_eq]
  generalize (lg_sl ([.ref (ad 0)]) ++ List.replicate (1 - (lg_sl ([.ref (ad 0)])).length) Slot.unset).toArray = ls at hl ⊢
  replace hl : lv_has ls 1 [(0, .ref (ad 0))] := hl
  have hinX5 : ∀ w ∈ u_ws RX5 TX5 6, w ∈ wsX5_needFewLinesToTry := by decide +kernel
  unfold fX5_needFewLinesToTry at hf
  refine lv_aload_n hx hb dX5_needFewLinesToTry_0 rfl (lv_at hl 0 rfl) ?_
  refine va_get (D := D) (ci := 7) (C := RX5) (T := TX5) (N := 6) hx hb hts hinX5 hown hK.1 hP 0 rfl rfl 2 (by decide) (hts (.fieldLink RX5 30 "Switchgear" "switches" "LSwitchgear$Switches;") (by decide +kernel)) (fun _ h9 => h9) rfl dX5_needFewLinesToTry_1 ?_
  obtain ⟨r2, hc1, hf⟩ := sg_b_s hf
  refine sg_ci (va_runV (As := []) (rest := []) ⟨hx, hb, hml, hown, hts⟩ (c_X4_ofPlans l D cA ad N _ _ hc1 _) (cwV 0 hts gX5_needFewLinesToTry_X4_ofPlans rfl rfl rfl (by decide +kernel) ⟨Nat.le_of_ble_eq_true rfl, Nat.le_of_ble_eq_true rfl⟩) (sg_pre hK hP hD (ci := 6) (q0 := 3) rfl rfl) rfl rfl hl.1 rfl (lv_room (Nat.le_of_ble_eq_true rfl)) dX5_needFewLinesToTry_4 ⟨Nat.le_of_ble_eq_true rfl, Nat.le_of_ble_eq_true rfl⟩) hD hS hA (fun H locs hP hD hS => ?_)
  obtain ⟨r5, hc4, hf⟩ := sg_b_s hf
  refine sg_ci0 (va_runS (As := [.int r2]) (rest := []) ⟨hx, hb, hml, hown, hts⟩ (c_J6_bitCount_0f7a4 l D cA N _ _ hc4 _) (va_cwS 1 hts gX5_needFewLinesToTry_J6_bitCount_0f7a4 rfl rfl rfl (by decide +kernel) ⟨Nat.le_of_ble_eq_true rfl, Nat.le_of_ble_eq_true rfl⟩) (sg_pre0 hK) rfl rfl hl.1 rfl (lv_room (Nat.le_of_ble_eq_true rfl)) dX5_needFewLinesToTry_7 ⟨Nat.le_of_ble_eq_true rfl, Nat.le_of_ble_eq_true rfl⟩) hP hS hA (fun H locs hP hS => ?_)
  refine lv_bipush (v := 9) hx hb dX5_needFewLinesToTry_10 (by decide) ?_
  refine lv_icmp_le (tgt := 26) hx hb dX5_needFewLinesToTry_12 (by decide) (fun c7 => ?_) (fun c7 => ?_)
  · have hf := sg_ip c7 hf
    have hq := Option.some.inj hf
    exact sg_tv hx hb hr hP hD hS dX5_needFewLinesToTry_26 hq hlocks (by decide) (by decide)
  · have hf := sg_in c7 hf
    have hq := Option.some.inj hf
    exact sg_throwW (cls := "java/lang/UnsupportedOperationException") (text := "plans can consist of more than 9 lines") (k := 4) hx hb hlt hown hts hT hP hD hS (hl.1.trans hml.symm) htab hlocks (by decide +kernel) (by decide +kernel) (by decide +kernel) (by decide +kernel) (by decide +kernel) (by decide +kernel) (by decide +kernel) dX5_needFewLinesToTry_15 dX5_needFewLinesToTry_18 dX5_needFewLinesToTry_19 dX5_needFewLinesToTry_22 dX5_needFewLinesToTry_25 ⟨Nat.le_of_ble_eq_true rfl, Nat.le_of_ble_eq_true rfl, Nat.le_of_ble_eq_true rfl, Nat.le_of_ble_eq_true rfl, by decide, by decide⟩ (by decide +kernel) hq
set_option maxRecDepth 100000 in
set_option maxHeartbeats 4000000 in
theorem c_X5_nodes (l : Launch) (D : va_G) (cA : Nat → ClassId) (ad : Nat → Nat) (N : Nat) (u : sg_St) (r : Int32) (hf : fX5_nodes N u = some r) : sg_CI l D cA (sg_WX cA ad) yX5_nodes wsX5_nodes ({ frames := 0, cells := 0, slots := 0, locals := 0 }) [.ref (ad 0)] u r u := by
  intro sz
  refine Met.ofW (cc := cX5_nodes) (maxL := 1) (ret := (some .int)) (by decide) rfl ?_
  intro p e s m args below meth c s₁ B hml hv
  obtain ⟨rfl, hsz, hP, hK, hD0⟩ := hv
  have hx := B.exec
  have hb := B.bytes
  have hr := B.returns
  have hts := atoms_spec (ws := wsX5_nodes) B.pre
  have hown : s.vm.findClass RX5 = some m.cls := findClass_of_methodNamed B.named
  have hlocks := B.notSynchronized
  subst hsz
  have hD := hD0.self (sz := s.heap.size)
  generalize hAe : va_A (sg_WX cA ad u) s.heap.size = A at hD ⊢
  have hA : ∀ q : Nat, s.heap.size ≤ q → A q := fun q h => by rw [← hAe]; exact Or.inr h
  have hS : va_S A s.heap s.heap [] := va_S.rf
  have hl := lv_entry ([.ref (ad 0)]) (n := 1) (Nat.le_of_ble_eq_true rfl)
  rw [lg_entry_eq]
  generalize (lg_sl ([.ref (ad 0)]) ++ List.replicate (1 - (lg_sl ([.ref (ad 0)])).length) Slot.unset).toArray = ls at hl ⊢
  replace hl : lv_has ls 1 [(0, .ref (ad 0))] := hl
  have hinX1 : ∀ w ∈ u_ws RX1 TX1 10, w ∈ wsX5_nodes := by decide +kernel
  have hinX5 : ∀ w ∈ u_ws RX5 TX5 6, w ∈ wsX5_nodes := by decide +kernel
  unfold fX5_nodes at hf
  refine lv_aload_n hx hb dX5_nodes_0 rfl (lv_at hl 0 rfl) ?_
  refine va_get (D := D) (ci := 7) (C := RX5) (T := TX5) (N := 6) hx hb hts hinX5 hown hK.1 hP 0 rfl rfl 0 (by decide) (hts (.fieldLink RX5 10 "Switchgear" "grid" "LSwitchgear$Grid;") (by decide +kernel)) (fun _ h9 => h9) rfl dX5_nodes_1 ?_
  refine va_getN (D := D) (ci := 3) (C := RX1) (T := TX1) (N := 10) (host := RX5) (ref := RX1) hx hb hts hinX1 hown hK.1 hP 1 rfl rfl 6 (by decide) (va_Nw.use rfl (hK.2 _ (List.mem_of_getElem? (i := 13) rfl))) (fun _ h9 => h9) rfl dX5_nodes_4 ?_
  have hq := Option.some.inj hf
  exact sg_iret hx hb hr hP hD hS dX5_nodes_7 hq rfl hlocks
set_option maxRecDepth 100000 in
set_option maxHeartbeats 4000000 in
theorem c_X5_open (l : Launch) (hlt : l.stackTraces = false) (D : va_G) (cA : Nat → ClassId) (ad : Nat → Nat) (N : Nat) (u : sg_St) (p1 : Int32) (R : (Nat ⊕ Int32) × sg_St) (hf : fX5_open N u p1 = some R) : sg_TI l D cA (sg_WX cA ad) yX5_open wsX5_open ({ frames := 18, cells := 1, slots := 6, locals := 465 }) [.ref (ad 0), .int p1] u 1 6 R := by
  intro sz
  refine vx_ofW (cc := cX5_open) (maxL := 3) (ret := (some .char)) (by decide) rfl ?_
  intro p e s m args below meth c s₁ B hml htab hv
  obtain ⟨rfl, ⟨hsz, hP, hK, hD0⟩, hT⟩ := hv
  have hx := B.exec
  have hb := B.bytes
  have hr := B.returns
  have hts := atoms_spec (ws := wsX5_open) B.pre
  have hown : s.vm.findClass RX5 = some m.cls := findClass_of_methodNamed B.named
  have hlocks := B.notSynchronized
  subst hsz
  have hD := hD0.self (sz := s.heap.size)
  generalize hAe : va_A (sg_WX cA ad u) s.heap.size = A at hD hT ⊢
  have hA : ∀ q : Nat, s.heap.size ≤ q → A q := fun q h => by rw [← hAe]; exact Or.inr h
  have hS : va_S A s.heap s.heap [] := va_S.rf
  have hl := lv_entry ([.ref (ad 0), .int p1]) (n := 3) (Nat.le_of_ble_eq_true rfl)
  rw [lg_entry_eq]
  generalize (lg_sl ([.ref (ad 0), .int p1]) ++ List.replicate (3 - (lg_sl ([.ref (ad 0), .int p1])).length) Slot.unset).toArray = ls at hl ⊢
  replace hl : lv_has ls 3 [(0, .ref (ad 0)), (1, .int p1)] := hl
  have hinX5 : ∀ w ∈ u_ws RX5 TX5 6, w ∈ wsX5_open := by decide +kernel
  unfold fX5_open at hf
  refine lv_aload_n hx hb dX5_open_0 rfl (lv_at hl 0 rfl) ?_
  refine lv_iload_n hx hb dX5_open_1 rfl (lv_at hl 1 rfl) ?_
  obtain ⟨x4, hc1, hxx4, hf⟩ := sg_bt_s hf
  refine sg_xv (vx_runV (As := [.int p1]) (rest := []) ⟨hx, hb, hml, hown, hts⟩ (c_X5_needLine l hlt D cA ad N _ _ x4 hc1 _) (cwV 1 hts gX5_open_X5_needLine rfl rfl rfl (by decide +kernel) ⟨Nat.le_of_ble_eq_true rfl, Nat.le_of_ble_eq_true rfl⟩) (sg_preT hK hP hD hT hS hA (ci := 7) (q0 := 0) rfl rfl) rfl rfl hl.1 rfl (lv_room (Nat.le_of_ble_eq_true rfl)) dX5_open_2 ⟨Nat.le_of_ble_eq_true rfl, Nat.le_of_ble_eq_true rfl⟩) hD hS hA htab hlocks (by decide) (by decide) hxx4 (fun u3 H locs hrx4 hP hD hS => ?_)
  replace hf := hf _ _ hrx4
  refine lv_aload_n hx hb dX5_open_5 rfl (lv_at hl 0 rfl) ?_
  refine va_get (D := D) (ci := 7) (C := RX5) (T := TX5) (N := 6) hx hb hts hinX5 hown hK.1 hP 0 rfl rfl 2 (by decide) (hts (.fieldLink RX5 30 "Switchgear" "switches" "LSwitchgear$Switches;") (by decide +kernel)) (fun _ h9 => h9) rfl dX5_open_6 ?_
  refine lv_iload_n hx hb dX5_open_9 rfl (lv_at hl 1 rfl) ?_
  obtain ⟨r6, u7, hc5, hf⟩ := sg_b2_s hf
  refine sg_ci (va_runV (As := [.int p1]) (rest := []) ⟨hx, hb, hml, hown, hts⟩ (c_X4_openReason l D cA ad N _ _ _ _ hc5 _) (cwV 1 hts gX5_open_X4_openReason rfl rfl rfl (by decide +kernel) ⟨Nat.le_of_ble_eq_true rfl, Nat.le_of_ble_eq_true rfl⟩) (sg_pre hK hP hD (ci := 6) (q0 := 3) rfl rfl) rfl rfl hl.1 rfl (lv_room (Nat.le_of_ble_eq_true rfl)) dX5_open_10 ⟨Nat.le_of_ble_eq_true rfl, Nat.le_of_ble_eq_true rfl⟩) hD hS hA (fun H locs hP hD hS => ?_)
  refine lv_istore_n (lv' := [(2, .int r6), (0, .ref (ad 0)), (1, .int p1)]) hx hb dX5_open_13 rfl hl (by decide) rfl (fun ls hl => ?_)
  refine lv_iload_n hx hb dX5_open_14 rfl (lv_at hl 0 rfl) ?_
  refine lv_bipush (v := 110) hx hb dX5_open_15 (by decide) ?_
  refine lv_icmp_ne (tgt := 31) hx hb dX5_open_17 (by decide) (fun c16 => ?_) (fun c16 => ?_)
  · have hf := sg_in c16 hf
    refine lv_iload_n hx hb dX5_open_31 rfl (lv_at hl 0 rfl) ?_
    obtain ⟨hg8, hf⟩ := sg_g_s hf
    have hq := Option.some.inj hf
    exact sg_ti hx hb hr (sg_nc hg8) hP hD hS dX5_open_32 hq hlocks (by decide) (by decide)
  · have hf := sg_ip c16 hf
    refine lv_aload_n hx hb dX5_open_20 rfl (lv_at hl 1 rfl) ?_
    refine va_get (D := D) (ci := 7) (C := RX5) (T := TX5) (N := 6) hx hb hts hinX5 hown hK.1 hP 0 rfl rfl 2 (by decide) (hts (.fieldLink RX5 30 "Switchgear" "switches" "LSwitchgear$Switches;") (by decide +kernel)) (fun _ h9 => h9) rfl dX5_open_21 ?_
    refine lv_iload_n hx hb dX5_open_24 rfl (lv_at hl 2 rfl) ?_
    obtain ⟨r10, hc9, hf⟩ := sg_b_s hf
    refine sg_ci0 (va_runS (As := [.int p1]) (rest := [.ref (ad 3)]) ⟨hx, hb, hml, hown, hts⟩ (c_X5_bit l D cA N _ _ hc9 _) (va_cwS 1 hts gX5_open_X5_bit rfl rfl rfl (by decide +kernel) ⟨Nat.le_of_ble_eq_true rfl, Nat.le_of_ble_eq_true rfl⟩) (sg_pre0 hK) rfl rfl hl.1 rfl (lv_room (Nat.le_of_ble_eq_true rfl)) dX5_open_25 ⟨Nat.le_of_ble_eq_true rfl, Nat.le_of_ble_eq_true rfl⟩) hP hS hA (fun H locs hP hS => ?_)
    obtain ⟨u14, hc12, hf⟩ := sg_b_s hf
    refine sg_cv (va_runV (As := [.int r10]) (rest := []) ⟨hx, hb, hml, hown, hts⟩ (c_X4_openAll l D cA ad N _ _ _ hc12 _) (cwV 1 hts gX5_open_X4_openAll rfl rfl rfl (by decide +kernel) ⟨Nat.le_of_ble_eq_true rfl, Nat.le_of_ble_eq_true rfl⟩) (sg_pre hK hP hD (ci := 6) (q0 := 3) rfl rfl) rfl rfl hl.1 rfl (lv_room (Nat.le_of_ble_eq_true rfl)) dX5_open_28 ⟨Nat.le_of_ble_eq_true rfl, Nat.le_of_ble_eq_true rfl⟩) hD hS hA (fun H locs hP hD hS => ?_)
    refine lv_iload_n hx hb dX5_open_31 rfl (lv_at hl 0 rfl) ?_
    obtain ⟨hg15, hf⟩ := sg_g_s hf
    have hq := Option.some.inj hf
    exact sg_ti hx hb hr (sg_nc hg15) hP hD hS dX5_open_32 hq hlocks (by decide) (by decide)
set_option maxRecDepth 100000 in
set_option maxHeartbeats 4000000 in
theorem c_X5_pathAt (l : Launch) (hlt : l.stackTraces = false) (D : va_G) (cA : Nat → ClassId) (ad : Nat → Nat) (N : Nat) (u : sg_St) (p1 p2 : Int32) (R : (Nat ⊕ Int32) × sg_St) (hf : fX5_pathAt N u p1 p2 = some R) : sg_TI l D cA (sg_WX cA ad) yX5_pathAt wsX5_pathAt ({ frames := 17, cells := 3, slots := 18, locals := 460 }) [.ref (ad 0), .int p1, .int p2] u 3 18 R := by
  intro sz
  refine vx_ofW (cc := cX5_pathAt) (maxL := 4) (ret := (some .int)) (by decide) rfl ?_
  intro p e s m args below meth c s₁ B hml htab hv
  obtain ⟨rfl, ⟨hsz, hP, hK, hD0⟩, hT⟩ := hv
  have hx := B.exec
  have hb := B.bytes
  have hr := B.returns
  have hts := atoms_spec (ws := wsX5_pathAt) B.pre
  have hown : s.vm.findClass RX5 = some m.cls := findClass_of_methodNamed B.named
  have hlocks := B.notSynchronized
  subst hsz
  have hD := hD0.self (sz := s.heap.size)
  generalize hAe : va_A (sg_WX cA ad u) s.heap.size = A at hD hT ⊢
  have hA : ∀ q : Nat, s.heap.size ≤ q → A q := fun q h => by rw [← hAe]; exact Or.inr h
  have hS : va_S A s.heap s.heap [] := va_S.rf
  have hl := lv_entry ([.ref (ad 0), .int p1, .int p2]) (n := 4) (Nat.le_of_ble_eq_true rfl)
  rw [lg_entry_eq]
  generalize (lg_sl ([.ref (ad 0), .int p1, .int p2]) ++ List.replicate (4 - (lg_sl ([.ref (ad 0), .int p1, .int p2])).length) Slot.unset).toArray = ls at hl ⊢
  replace hl : lv_has ls 4 [(0, .ref (ad 0)), (1, .int p1), (2, .int p2)] := hl
  have hinX5 : ∀ w ∈ u_ws RX5 TX5 6, w ∈ wsX5_pathAt := by decide +kernel
  have hJ20 : ∀ (u : sg_St) (H : Heap) (locs : List Loc) (ls : Array Slot), fX5_pathAt_j20 N u  = some R → va_P D vwCl (sg_WX cA ad u) H → va_D A (sg_WX cA ad u) → va_S A s.heap H locs → lv_has ls 4 [(0, .ref (ad 0))] → W p l e (headSpec wsX5_pathAt ({ frames := 17, cells := 3, slots := 18, locals := 460 })).room s m ([.ref (ad 0), .int p1, .int p2] : List Value).toArray below meth c H locs 2 12 (vx_MQ below (sg_QI D (sg_WX cA ad) A R) (sg_XC D (sg_WX cA ad) A R) ([.ref (ad 0), .int p1, .int p2] : List Value).toArray s 3 18 A) (F0 m 20 ls []) := by
    intro u H locs ls hf hP hD hS hl
    unfold fX5_pathAt_j20 at hf
    have hq := Option.some.inj hf
    exact sg_throw (cls := "java/lang/IndexOutOfBoundsException") (text := "the path has no line with this index") (k := 2) hx hb hlt hown hts hT hP hD hS (hl.1.trans hml.symm) htab hlocks (by decide +kernel) (by decide +kernel) (by decide +kernel) (by decide +kernel) (by decide +kernel) (by decide +kernel) (by decide +kernel) dX5_pathAt_20 dX5_pathAt_23 dX5_pathAt_24 dX5_pathAt_26 dX5_pathAt_29 ⟨Nat.le_of_ble_eq_true rfl, Nat.le_of_ble_eq_true rfl, Nat.le_of_ble_eq_true rfl, Nat.le_of_ble_eq_true rfl, by decide, by decide⟩ (by decide +kernel) hq
  unfold fX5_pathAt at hf
  refine lv_aload_n hx hb dX5_pathAt_0 rfl (lv_at hl 0 rfl) ?_
  refine lv_iload_n hx hb dX5_pathAt_1 rfl (lv_at hl 1 rfl) ?_
  obtain ⟨x4, hc1, hxx4, hf⟩ := sg_bt_s hf
  refine sg_xv (vx_runV (As := [.int p1]) (rest := []) ⟨hx, hb, hml, hown, hts⟩ (c_X5_needLine l hlt D cA ad N _ _ x4 hc1 _) (cwV 1 hts gX5_pathAt_X5_needLine rfl rfl rfl (by decide +kernel) ⟨Nat.le_of_ble_eq_true rfl, Nat.le_of_ble_eq_true rfl⟩) (sg_preT hK hP hD hT hS hA (ci := 7) (q0 := 0) rfl rfl) rfl rfl hl.1 rfl (lv_room (Nat.le_of_ble_eq_true rfl)) dX5_pathAt_2 ⟨Nat.le_of_ble_eq_true rfl, Nat.le_of_ble_eq_true rfl⟩) hD hS hA htab hlocks (by decide) (by decide) hxx4 (fun u3 H locs hrx4 hP hD hS => ?_)
  replace hf := hf _ _ hrx4
  refine lv_aload_n hx hb dX5_pathAt_5 rfl (lv_at hl 0 rfl) ?_
  refine lv_iload_n hx hb dX5_pathAt_6 rfl (lv_at hl 1 rfl) ?_
  obtain ⟨x8, hc5, hxx8, hf⟩ := sg_bt_s hf
  refine sg_xi (vx_runV (As := [.int p1]) (rest := []) ⟨hx, hb, hml, hown, hts⟩ (c_X5_lengthOfPathTo l hlt D cA ad N _ _ x8 hc5 _) (cwV 1 hts gX5_pathAt_X5_lengthOfPathTo rfl rfl rfl (by decide +kernel) ⟨Nat.le_of_ble_eq_true rfl, Nat.le_of_ble_eq_true rfl⟩) (sg_preT hK hP hD hT hS hA (ci := 7) (q0 := 0) rfl rfl) rfl rfl hl.1 rfl (lv_room (Nat.le_of_ble_eq_true rfl)) dX5_pathAt_7 ⟨Nat.le_of_ble_eq_true rfl, Nat.le_of_ble_eq_true rfl⟩) hD hS hA htab hlocks (by decide) (by decide) hxx8 (fun r6 u7 H locs hrx8 hP hD hS => ?_)
  replace hf := hf _ _ hrx8
  refine lv_istore_n (lv' := [(3, .int r6), (0, .ref (ad 0)), (1, .int p1), (2, .int p2)]) hx hb dX5_pathAt_10 rfl hl (by decide) rfl (fun ls hl => ?_)
  refine lv_iload_n hx hb dX5_pathAt_11 rfl (lv_at hl 3 rfl) ?_
  refine lv_if_lt (tgt := 20) hx hb dX5_pathAt_12 (by decide) (fun c13 => ?_) (fun c13 => ?_)
  · have hf := sg_ip c13 hf
    refine W.widen (k := 2) (n := 12) (by decide) (by decide) ?_
    exact hJ20 _ _ _ _ hf hP hD hS (lv_sub hl [1] rfl)
  · have hf := sg_in c13 hf
    refine lv_iload_n hx hb dX5_pathAt_15 rfl (lv_at hl 3 rfl) ?_
    refine lv_iload_n hx hb dX5_pathAt_16 rfl (lv_at hl 0 rfl) ?_
    refine lv_icmp_lt (tgt := 30) hx hb dX5_pathAt_17 (by decide) (fun c12 => ?_) (fun c12 => ?_)
    · have hf := sg_ip c12 hf
      refine lv_aload_n hx hb dX5_pathAt_30 rfl (lv_at hl 1 rfl) ?_
      refine va_get (D := D) (ci := 7) (C := RX5) (T := TX5) (N := 6) hx hb hts hinX5 hown hK.1 hP 0 rfl rfl 1 (by decide) (hts (.fieldLink RX5 21 "Switchgear" "feeder" "LSwitchgear$Feeder;") (by decide +kernel)) (fun _ h9 => h9) rfl dX5_pathAt_31 ?_
      refine lv_iload_n hx hb dX5_pathAt_34 rfl (lv_at hl 3 rfl) ?_
      obtain ⟨r10, hc9, hf⟩ := sg_b_s hf
      refine sg_ci (va_runV (As := [.int p2]) (rest := []) ⟨hx, hb, hml, hown, hts⟩ (c_X0_lineOnPath l D cA ad N _ _ _ hc9 _) (cwV 1 hts gX5_pathAt_X0_lineOnPath rfl rfl rfl (by decide +kernel) ⟨Nat.le_of_ble_eq_true rfl, Nat.le_of_ble_eq_true rfl⟩) (sg_pre hK hP hD (ci := 2) (q0 := 2) rfl rfl) rfl rfl hl.1 rfl (lv_room (Nat.le_of_ble_eq_true rfl)) dX5_pathAt_35 ⟨Nat.le_of_ble_eq_true rfl, Nat.le_of_ble_eq_true rfl⟩) hD hS hA (fun H locs hP hD hS => ?_)
      have hq := Option.some.inj hf
      exact sg_ti hx hb hr rfl hP hD hS dX5_pathAt_38 hq hlocks (by decide) (by decide)
    · have hf := sg_in c12 hf
      refine W.widen (k := 2) (n := 12) (by decide) (by decide) ?_
      exact hJ20 _ _ _ _ hf hP hD hS (lv_sub hl [1] rfl)
set_option maxRecDepth 100000 in
set_option maxHeartbeats 4000000 in
theorem c_X5_repair (l : Launch) (hlt : l.stackTraces = false) (D : va_G) (cA : Nat → ClassId) (ad : Nat → Nat) (N : Nat) (u : sg_St) (p1 : Int32) (R : (Nat ⊕ Int32) × sg_St) (hf : fX5_repair N u p1 = some R) : sg_TI l D cA (sg_WX cA ad) yX5_repair wsX5_repair ({ frames := 9, cells := 2, slots := 12, locals := 421 }) [.ref (ad 0), .int p1] u 2 12 R := by
  intro sz
  refine vx_ofW (cc := cX5_repair) (maxL := 2) (ret := (some .boolean)) (by decide) rfl ?_
  intro p e s m args below meth c s₁ B hml htab hv
  obtain ⟨rfl, ⟨hsz, hP, hK, hD0⟩, hT⟩ := hv
  have hx := B.exec
  have hb := B.bytes
  have hr := B.returns
  have hts := atoms_spec (ws := wsX5_repair) B.pre
  have hown : s.vm.findClass RX5 = some m.cls := findClass_of_methodNamed B.named
  have hlocks := B.notSynchronized
  subst hsz
  have hD := hD0.self (sz := s.heap.size)
  generalize hAe : va_A (sg_WX cA ad u) s.heap.size = A at hD hT ⊢
  have hA : ∀ q : Nat, s.heap.size ≤ q → A q := fun q h => by rw [← hAe]; exact Or.inr h
  have hS : va_S A s.heap s.heap [] := va_S.rf
  have hl := lv_entry ([.ref (ad 0), .int p1]) (n := 2) (Nat.le_of_ble_eq_true rfl)
  rw [lg_entry_eq]
  generalize (lg_sl ([.ref (ad 0), .int p1]) ++ List.replicate (2 - (lg_sl ([.ref (ad 0), .int p1])).length) Slot.unset).toArray = ls at hl ⊢
  replace hl : lv_has ls 2 [(0, .ref (ad 0)), (1, .int p1)] := hl
  have hinX4 : ∀ w ∈ u_ws RX4 TX4 5, w ∈ wsX5_repair := by decide +kernel
  have hinX5 : ∀ w ∈ u_ws RX5 TX5 6, w ∈ wsX5_repair := by decide +kernel
  unfold fX5_repair at hf
  refine lv_aload_n hx hb dX5_repair_0 rfl (lv_at hl 0 rfl) ?_
  refine lv_iload_n hx hb dX5_repair_1 rfl (lv_at hl 1 rfl) ?_
  obtain ⟨x4, hc1, hxx4, hf⟩ := sg_bt_s hf
  refine sg_xv (vx_runV (As := [.int p1]) (rest := []) ⟨hx, hb, hml, hown, hts⟩ (c_X5_needLine l hlt D cA ad N _ _ x4 hc1 _) (cwV 1 hts gX5_repair_X5_needLine rfl rfl rfl (by decide +kernel) ⟨Nat.le_of_ble_eq_true rfl, Nat.le_of_ble_eq_true rfl⟩) (sg_preT hK hP hD hT hS hA (ci := 7) (q0 := 0) rfl rfl) rfl rfl hl.1 rfl (lv_room (Nat.le_of_ble_eq_true rfl)) dX5_repair_2 ⟨Nat.le_of_ble_eq_true rfl, Nat.le_of_ble_eq_true rfl⟩) hD hS hA htab hlocks (by decide) (by decide) hxx4 (fun u3 H locs hrx4 hP hD hS => ?_)
  replace hf := hf _ _ hrx4
  refine lv_aload_n hx hb dX5_repair_5 rfl (lv_at hl 0 rfl) ?_
  refine va_get (D := D) (ci := 7) (C := RX5) (T := TX5) (N := 6) hx hb hts hinX5 hown hK.1 hP 0 rfl rfl 2 (by decide) (hts (.fieldLink RX5 30 "Switchgear" "switches" "LSwitchgear$Switches;") (by decide +kernel)) (fun _ h9 => h9) rfl dX5_repair_6 ?_
  refine va_getN (D := D) (ci := 6) (C := RX4) (T := TX4) (N := 5) (host := RX5) (ref := RX4) hx hb hts hinX4 hown hK.1 hP 3 rfl rfl 4 (by decide) (va_Nw.use rfl (hK.2 _ (List.mem_of_getElem? (i := 11) rfl))) (fun _ h9 => h9) rfl dX5_repair_9 ?_
  refine lv_iload_n hx hb dX5_repair_12 rfl (lv_at hl 1 rfl) ?_
  obtain ⟨r6, hc5, hf⟩ := sg_b_s hf
  refine sg_ci0 (va_runS (As := [.int (u3 6 0), .int p1]) (rest := []) ⟨hx, hb, hml, hown, hts⟩ (c_X5_has l D cA N _ _ _ hc5 _) (va_cwS 2 hts gX5_repair_X5_has rfl rfl rfl (by decide +kernel) ⟨Nat.le_of_ble_eq_true rfl, Nat.le_of_ble_eq_true rfl⟩) (sg_pre0 hK) rfl rfl hl.1 rfl (lv_room (Nat.le_of_ble_eq_true rfl)) dX5_repair_13 ⟨Nat.le_of_ble_eq_true rfl, Nat.le_of_ble_eq_true rfl⟩) hP hS hA (fun H locs hP hS => ?_)
  refine lv_if_ne (tgt := 29) hx hb dX5_repair_16 (by decide) (fun c15 => ?_) (fun c15 => ?_)
  · have hf := sg_in c15 hf
    refine lv_aload_n hx hb dX5_repair_29 rfl (lv_at hl 0 rfl) ?_
    refine va_get (D := D) (ci := 7) (C := RX5) (T := TX5) (N := 6) hx hb hts hinX5 hown hK.1 hP 0 rfl rfl 2 (by decide) (hts (.fieldLink RX5 30 "Switchgear" "switches" "LSwitchgear$Switches;") (by decide +kernel)) (fun _ h9 => h9) rfl dX5_repair_30 ?_
    refine lv_dup hx hb dX5_repair_33 rfl ?_
    refine va_getN (D := D) (ci := 6) (C := RX4) (T := TX4) (N := 5) (host := RX5) (ref := RX4) hx hb hts hinX4 hown hK.1 hP 3 rfl rfl 4 (by decide) (va_Nw.use rfl (hK.2 _ (List.mem_of_getElem? (i := 11) rfl))) (fun _ h9 => h9) rfl dX5_repair_34 ?_
    refine lv_iload_n hx hb dX5_repair_37 rfl (lv_at hl 1 rfl) ?_
    obtain ⟨r9, hc8, hf⟩ := sg_b_s hf
    refine sg_ci0 (va_runS (As := [.int p1]) (rest := [.int (u3 6 0), .ref (ad 3)]) ⟨hx, hb, hml, hown, hts⟩ (c_X5_bit l D cA N _ _ hc8 _) (va_cwS 1 hts gX5_repair_X5_bit rfl rfl rfl (by decide +kernel) ⟨Nat.le_of_ble_eq_true rfl, Nat.le_of_ble_eq_true rfl⟩) (sg_pre0 hK) rfl rfl hl.1 rfl (lv_room (Nat.le_of_ble_eq_true rfl)) dX5_repair_38 ⟨Nat.le_of_ble_eq_true rfl, Nat.le_of_ble_eq_true rfl⟩) hP hS hA (fun H locs hP hS => ?_)
    refine lv_iconst (v := (-1)) hx hb dX5_repair_41 (by decide) ?_
    refine lv_ixor hx hb dX5_repair_42 ?_
    refine lv_iand hx hb dX5_repair_43 ?_
    refine va_putN (D := D) (ci := 6) (v := .int ((u3 6 0) &&& (r9 ^^^ ((-1))))) (ty := .int) (C := RX4) (T := TX4) (N := 5) (host := RX5) (ref := RX4) hx hb hts hinX4 tyX4 tyX4_ok nmX4 hown hK.1 hP hD hS 3 rfl rfl 4 (by decide) (va_Nw.use rfl (hK.2 _ (List.mem_of_getElem? (i := 11) rfl))) (fun _ h9 => h9) rfl (by decide +kernel) rfl rfl (Nat.le_of_ble_eq_true rfl) dX5_repair_44 (fun H locs hP hD hS => ?_)
    replace hP : va_P D vwCl (sg_WX cA ad (sg_set u3 6 0 ((u3 6 0) &&& (r9 ^^^ ((-1)))))) H := by rw [← sg_WX_6]; exact hP
    replace hD : va_D A (sg_WX cA ad (sg_set u3 6 0 ((u3 6 0) &&& (r9 ^^^ ((-1)))))) := by rw [← sg_WX_6]; exact hD
    refine lv_aload_n hx hb dX5_repair_47 rfl (lv_at hl 0 rfl) ?_
    refine va_get (D := D) (ci := 7) (C := RX5) (T := TX5) (N := 6) hx hb hts hinX5 hown hK.1 hP 0 rfl rfl 2 (by decide) (hts (.fieldLink RX5 30 "Switchgear" "switches" "LSwitchgear$Switches;") (by decide +kernel)) (fun _ h9 => h9) rfl dX5_repair_48 ?_
    refine va_getN (D := D) (ci := 6) (C := RX4) (T := TX4) (N := 5) (host := RX5) (ref := RX4) hx hb hts hinX4 hown hK.1 hP 3 rfl rfl 3 (by decide) (va_Nw.use rfl (hK.2 _ (List.mem_of_getElem? (i := 12) rfl))) (fun _ h9 => h9) rfl dX5_repair_51 ?_
    refine lv_iload_n hx hb dX5_repair_54 rfl (lv_at hl 1 rfl) ?_
    obtain ⟨r12, hc11, hf⟩ := sg_b_s hf
    refine sg_ci0 (va_runS (As := [.int ((sg_set u3 6 0 ((u3 6 0) &&& (r9 ^^^ ((-1))))) 5 0), .int p1]) (rest := []) ⟨hx, hb, hml, hown, hts⟩ (c_X5_has l D cA N _ _ _ hc11 _) (va_cwS 2 hts gX5_repair_X5_has rfl rfl rfl (by decide +kernel) ⟨Nat.le_of_ble_eq_true rfl, Nat.le_of_ble_eq_true rfl⟩) (sg_pre0 hK) rfl rfl hl.1 rfl (lv_room (Nat.le_of_ble_eq_true rfl)) dX5_repair_55 ⟨Nat.le_of_ble_eq_true rfl, Nat.le_of_ble_eq_true rfl⟩) hP hS hA (fun H locs hP hS => ?_)
    obtain ⟨hg14, hf⟩ := sg_g_s hf
    have hq := Option.some.inj hf
    exact sg_ti hx hb hr (sg_nz hg14) hP hD hS dX5_repair_58 hq hlocks (by decide) (by decide)
  · have hf := sg_ip c15 hf
    have hq := Option.some.inj hf
    exact sg_throw (cls := "java/lang/IllegalStateException") (text := "the line has no fault") (k := 0) hx hb hlt hown hts hT hP hD hS (hl.1.trans hml.symm) htab hlocks (by decide +kernel) (by decide +kernel) (by decide +kernel) (by decide +kernel) (by decide +kernel) (by decide +kernel) (by decide +kernel) dX5_repair_19 dX5_repair_22 dX5_repair_23 dX5_repair_25 dX5_repair_28 ⟨Nat.le_of_ble_eq_true rfl, Nat.le_of_ble_eq_true rfl, Nat.le_of_ble_eq_true rfl, Nat.le_of_ble_eq_true rfl, by decide, by decide⟩ (by decide +kernel) hq
set_option maxRecDepth 100000 in
set_option maxHeartbeats 4000000 in
theorem c_X5_reset (l : Launch) (hlt : l.stackTraces = false) (D : va_G) (cA : Nat → ClassId) (ad : Nat → Nat) (N : Nat) (u : sg_St) (p1 : Int32) (R : (Nat ⊕ Int32) × sg_St) (hf : fX5_reset N u p1 = some R) : sg_TI l D cA (sg_WX cA ad) yX5_reset wsX5_reset ({ frames := 9, cells := 2, slots := 12, locals := 421 }) [.ref (ad 0), .int p1] u 2 12 R := by
  intro sz
  refine vx_ofW (cc := cX5_reset) (maxL := 2) (ret := (some .int)) (by decide) rfl ?_
  intro p e s m args below meth c s₁ B hml htab hv
  obtain ⟨rfl, ⟨hsz, hP, hK, hD0⟩, hT⟩ := hv
  have hx := B.exec
  have hb := B.bytes
  have hr := B.returns
  have hts := atoms_spec (ws := wsX5_reset) B.pre
  have hown : s.vm.findClass RX5 = some m.cls := findClass_of_methodNamed B.named
  have hlocks := B.notSynchronized
  subst hsz
  have hD := hD0.self (sz := s.heap.size)
  generalize hAe : va_A (sg_WX cA ad u) s.heap.size = A at hD hT ⊢
  have hA : ∀ q : Nat, s.heap.size ≤ q → A q := fun q h => by rw [← hAe]; exact Or.inr h
  have hS : va_S A s.heap s.heap [] := va_S.rf
  have hl := lv_entry ([.ref (ad 0), .int p1]) (n := 2) (Nat.le_of_ble_eq_true rfl)
  rw [lg_entry_eq]
  generalize (lg_sl ([.ref (ad 0), .int p1]) ++ List.replicate (2 - (lg_sl ([.ref (ad 0), .int p1])).length) Slot.unset).toArray = ls at hl ⊢
  replace hl : lv_has ls 2 [(0, .ref (ad 0)), (1, .int p1)] := hl
  have hinX4 : ∀ w ∈ u_ws RX4 TX4 5, w ∈ wsX5_reset := by decide +kernel
  have hinX5 : ∀ w ∈ u_ws RX5 TX5 6, w ∈ wsX5_reset := by decide +kernel
  unfold fX5_reset at hf
  refine lv_aload_n hx hb dX5_reset_0 rfl (lv_at hl 0 rfl) ?_
  refine lv_iload_n hx hb dX5_reset_1 rfl (lv_at hl 1 rfl) ?_
  obtain ⟨x4, hc1, hxx4, hf⟩ := sg_bt_s hf
  refine sg_xv (vx_runV (As := [.int p1]) (rest := []) ⟨hx, hb, hml, hown, hts⟩ (c_X5_needLine l hlt D cA ad N _ _ x4 hc1 _) (cwV 1 hts gX5_reset_X5_needLine rfl rfl rfl (by decide +kernel) ⟨Nat.le_of_ble_eq_true rfl, Nat.le_of_ble_eq_true rfl⟩) (sg_preT hK hP hD hT hS hA (ci := 7) (q0 := 0) rfl rfl) rfl rfl hl.1 rfl (lv_room (Nat.le_of_ble_eq_true rfl)) dX5_reset_2 ⟨Nat.le_of_ble_eq_true rfl, Nat.le_of_ble_eq_true rfl⟩) hD hS hA htab hlocks (by decide) (by decide) hxx4 (fun u3 H locs hrx4 hP hD hS => ?_)
  replace hf := hf _ _ hrx4
  refine lv_aload_n hx hb dX5_reset_5 rfl (lv_at hl 0 rfl) ?_
  refine va_get (D := D) (ci := 7) (C := RX5) (T := TX5) (N := 6) hx hb hts hinX5 hown hK.1 hP 0 rfl rfl 2 (by decide) (hts (.fieldLink RX5 30 "Switchgear" "switches" "LSwitchgear$Switches;") (by decide +kernel)) (fun _ h9 => h9) rfl dX5_reset_6 ?_
  refine va_getN (D := D) (ci := 6) (C := RX4) (T := TX4) (N := 5) (host := RX5) (ref := RX4) hx hb hts hinX4 hown hK.1 hP 3 rfl rfl 4 (by decide) (va_Nw.use rfl (hK.2 _ (List.mem_of_getElem? (i := 11) rfl))) (fun _ h9 => h9) rfl dX5_reset_9 ?_
  refine lv_iload_n hx hb dX5_reset_12 rfl (lv_at hl 1 rfl) ?_
  obtain ⟨r6, hc5, hf⟩ := sg_b_s hf
  refine sg_ci0 (va_runS (As := [.int (u3 6 0), .int p1]) (rest := []) ⟨hx, hb, hml, hown, hts⟩ (c_X5_has l D cA N _ _ _ hc5 _) (va_cwS 2 hts gX5_reset_X5_has rfl rfl rfl (by decide +kernel) ⟨Nat.le_of_ble_eq_true rfl, Nat.le_of_ble_eq_true rfl⟩) (sg_pre0 hK) rfl rfl hl.1 rfl (lv_room (Nat.le_of_ble_eq_true rfl)) dX5_reset_13 ⟨Nat.le_of_ble_eq_true rfl, Nat.le_of_ble_eq_true rfl⟩) hP hS hA (fun H locs hP hS => ?_)
  refine lv_if_eq (tgt := 29) hx hb dX5_reset_16 (by decide) (fun c18 => ?_) (fun c18 => ?_)
  · have hf := sg_ip c18 hf
    refine lv_aload_n hx hb dX5_reset_29 rfl (lv_at hl 0 rfl) ?_
    refine va_get (D := D) (ci := 7) (C := RX5) (T := TX5) (N := 6) hx hb hts hinX5 hown hK.1 hP 0 rfl rfl 2 (by decide) (hts (.fieldLink RX5 30 "Switchgear" "switches" "LSwitchgear$Switches;") (by decide +kernel)) (fun _ h9 => h9) rfl dX5_reset_30 ?_
    refine va_getN (D := D) (ci := 6) (C := RX4) (T := TX4) (N := 5) (host := RX5) (ref := RX4) hx hb hts hinX4 hown hK.1 hP 3 rfl rfl 3 (by decide) (va_Nw.use rfl (hK.2 _ (List.mem_of_getElem? (i := 12) rfl))) (fun _ h9 => h9) rfl dX5_reset_33 ?_
    refine lv_iload_n hx hb dX5_reset_36 rfl (lv_at hl 1 rfl) ?_
    obtain ⟨r9, hc8, hf⟩ := sg_b_s hf
    refine sg_ci0 (va_runS (As := [.int (u3 5 0), .int p1]) (rest := []) ⟨hx, hb, hml, hown, hts⟩ (c_X5_has l D cA N _ _ _ hc8 _) (va_cwS 2 hts gX5_reset_X5_has rfl rfl rfl (by decide +kernel) ⟨Nat.le_of_ble_eq_true rfl, Nat.le_of_ble_eq_true rfl⟩) (sg_pre0 hK) rfl rfl hl.1 rfl (lv_room (Nat.le_of_ble_eq_true rfl)) dX5_reset_37 ⟨Nat.le_of_ble_eq_true rfl, Nat.le_of_ble_eq_true rfl⟩) hP hS hA (fun H locs hP hS => ?_)
    refine lv_if_ne (tgt := 53) hx hb dX5_reset_40 (by decide) (fun c17 => ?_) (fun c17 => ?_)
    · have hf := sg_in c17 hf
      refine lv_aload_n hx hb dX5_reset_53 rfl (lv_at hl 0 rfl) ?_
      refine va_get (D := D) (ci := 7) (C := RX5) (T := TX5) (N := 6) hx hb hts hinX5 hown hK.1 hP 0 rfl rfl 2 (by decide) (hts (.fieldLink RX5 30 "Switchgear" "switches" "LSwitchgear$Switches;") (by decide +kernel)) (fun _ h9 => h9) rfl dX5_reset_54 ?_
      refine lv_dup hx hb dX5_reset_57 rfl ?_
      refine va_getN (D := D) (ci := 6) (C := RX4) (T := TX4) (N := 5) (host := RX5) (ref := RX4) hx hb hts hinX4 hown hK.1 hP 3 rfl rfl 3 (by decide) (va_Nw.use rfl (hK.2 _ (List.mem_of_getElem? (i := 12) rfl))) (fun _ h9 => h9) rfl dX5_reset_58 ?_
      refine lv_iload_n hx hb dX5_reset_61 rfl (lv_at hl 1 rfl) ?_
      obtain ⟨r12, hc11, hf⟩ := sg_b_s hf
      refine sg_ci0 (va_runS (As := [.int p1]) (rest := [.int (u3 5 0), .ref (ad 3)]) ⟨hx, hb, hml, hown, hts⟩ (c_X5_bit l D cA N _ _ hc11 _) (va_cwS 1 hts gX5_reset_X5_bit rfl rfl rfl (by decide +kernel) ⟨Nat.le_of_ble_eq_true rfl, Nat.le_of_ble_eq_true rfl⟩) (sg_pre0 hK) rfl rfl hl.1 rfl (lv_room (Nat.le_of_ble_eq_true rfl)) dX5_reset_62 ⟨Nat.le_of_ble_eq_true rfl, Nat.le_of_ble_eq_true rfl⟩) hP hS hA (fun H locs hP hS => ?_)
      refine lv_iconst (v := (-1)) hx hb dX5_reset_65 (by decide) ?_
      refine lv_ixor hx hb dX5_reset_66 ?_
      refine lv_iand hx hb dX5_reset_67 ?_
      refine va_putN (D := D) (ci := 6) (v := .int ((u3 5 0) &&& (r12 ^^^ ((-1))))) (ty := .int) (C := RX4) (T := TX4) (N := 5) (host := RX5) (ref := RX4) hx hb hts hinX4 tyX4 tyX4_ok nmX4 hown hK.1 hP hD hS 3 rfl rfl 3 (by decide) (va_Nw.use rfl (hK.2 _ (List.mem_of_getElem? (i := 12) rfl))) (fun _ h9 => h9) rfl (by decide +kernel) rfl rfl (Nat.le_of_ble_eq_true rfl) dX5_reset_68 (fun H locs hP hD hS => ?_)
      replace hP : va_P D vwCl (sg_WX cA ad (sg_set u3 5 0 ((u3 5 0) &&& (r12 ^^^ ((-1)))))) H := by rw [← sg_WX_5]; exact hP
      replace hD : va_D A (sg_WX cA ad (sg_set u3 5 0 ((u3 5 0) &&& (r12 ^^^ ((-1)))))) := by rw [← sg_WX_5]; exact hD
      refine lv_aload_n hx hb dX5_reset_71 rfl (lv_at hl 0 rfl) ?_
      refine va_get (D := D) (ci := 7) (C := RX5) (T := TX5) (N := 6) hx hb hts hinX5 hown hK.1 hP 0 rfl rfl 2 (by decide) (hts (.fieldLink RX5 30 "Switchgear" "switches" "LSwitchgear$Switches;") (by decide +kernel)) (fun _ h9 => h9) rfl dX5_reset_72 ?_
      refine va_getN (D := D) (ci := 6) (C := RX4) (T := TX4) (N := 5) (host := RX5) (ref := RX4) hx hb hts hinX4 hown hK.1 hP 3 rfl rfl 3 (by decide) (va_Nw.use rfl (hK.2 _ (List.mem_of_getElem? (i := 12) rfl))) (fun _ h9 => h9) rfl dX5_reset_75 ?_
      obtain ⟨r15, hc14, hf⟩ := sg_b_s hf
      refine sg_ci0 (va_runS (As := [.int ((sg_set u3 5 0 ((u3 5 0) &&& (r12 ^^^ ((-1))))) 5 0)]) (rest := []) ⟨hx, hb, hml, hown, hts⟩ (c_J6_bitCount_0f7a4 l D cA N _ _ hc14 _) (va_cwS 1 hts gX5_reset_J6_bitCount_0f7a4 rfl rfl rfl (by decide +kernel) ⟨Nat.le_of_ble_eq_true rfl, Nat.le_of_ble_eq_true rfl⟩) (sg_pre0 hK) rfl rfl hl.1 rfl (lv_room (Nat.le_of_ble_eq_true rfl)) dX5_reset_78 ⟨Nat.le_of_ble_eq_true rfl, Nat.le_of_ble_eq_true rfl⟩) hP hS hA (fun H locs hP hS => ?_)
      have hq := Option.some.inj hf
      exact sg_ti hx hb hr rfl hP hD hS dX5_reset_81 hq hlocks (by decide) (by decide)
    · have hf := sg_ip c17 hf
      have hq := Option.some.inj hf
      exact sg_throw (cls := "java/lang/IllegalStateException") (text := "the line is not locked out") (k := 0) hx hb hlt hown hts hT hP hD hS (hl.1.trans hml.symm) htab hlocks (by decide +kernel) (by decide +kernel) (by decide +kernel) (by decide +kernel) (by decide +kernel) (by decide +kernel) (by decide +kernel) dX5_reset_43 dX5_reset_46 dX5_reset_47 dX5_reset_49 dX5_reset_52 ⟨Nat.le_of_ble_eq_true rfl, Nat.le_of_ble_eq_true rfl, Nat.le_of_ble_eq_true rfl, Nat.le_of_ble_eq_true rfl, by decide, by decide⟩ (by decide +kernel) hq
  · have hf := sg_in c18 hf
    have hq := Option.some.inj hf
    exact sg_throw (cls := "java/lang/UnsupportedOperationException") (text := "the line has a fault") (k := 4) hx hb hlt hown hts hT hP hD hS (hl.1.trans hml.symm) htab hlocks (by decide +kernel) (by decide +kernel) (by decide +kernel) (by decide +kernel) (by decide +kernel) (by decide +kernel) (by decide +kernel) dX5_reset_19 dX5_reset_22 dX5_reset_23 dX5_reset_25 dX5_reset_28 ⟨Nat.le_of_ble_eq_true rfl, Nat.le_of_ble_eq_true rfl, Nat.le_of_ble_eq_true rfl, Nat.le_of_ble_eq_true rfl, by decide, by decide⟩ (by decide +kernel) hq
set_option maxRecDepth 100000 in
set_option maxHeartbeats 4000000 in
theorem c_X5_restore (l : Launch) (D : va_G) (cA : Nat → ClassId) (ad : Nat → Nat) (N : Nat) (u : sg_St) (r : Int32) (u' : sg_St) (hf : fX5_restore N u = some (r, u')) : sg_CI l D cA (sg_WX cA ad) yX5_restore wsX5_restore ({ frames := 35, cells := 0, slots := 0, locals := 892 }) [.ref (ad 0)] u r u' := by
  intro sz
  refine Met.ofW (cc := cX5_restore) (maxL := 1) (ret := (some .int)) (by decide) rfl ?_
  intro p e s m args below meth c s₁ B hml hv
  obtain ⟨rfl, hsz, hP, hK, hD0⟩ := hv
  have hx := B.exec
  have hb := B.bytes
  have hr := B.returns
  have hts := atoms_spec (ws := wsX5_restore) B.pre
  have hown : s.vm.findClass RX5 = some m.cls := findClass_of_methodNamed B.named
  have hlocks := B.notSynchronized
  subst hsz
  have hD := hD0.self (sz := s.heap.size)
  generalize hAe : va_A (sg_WX cA ad u) s.heap.size = A at hD ⊢
  have hA : ∀ q : Nat, s.heap.size ≤ q → A q := fun q h => by rw [← hAe]; exact Or.inr h
  have hS : va_S A s.heap s.heap [] := va_S.rf
  have hl := lv_entry ([.ref (ad 0)]) (n := 1) (Nat.le_of_ble_eq_true rfl)
  rw [lg_entry_eq]
  generalize (lg_sl ([.ref (ad 0)]) ++ List.replicate (1 - (lg_sl ([.ref (ad 0)])).length) Slot.unset).toArray = ls at hl ⊢
  replace hl : lv_has ls 1 [(0, .ref (ad 0))] := hl
  have hinX2 : ∀ w ∈ u_ws RX2 TX2 5, w ∈ wsX5_restore := by decide +kernel
  have hinX5 : ∀ w ∈ u_ws RX5 TX5 6, w ∈ wsX5_restore := by decide +kernel
  unfold fX5_restore at hf
  refine lv_aload_n hx hb dX5_restore_0 rfl (lv_at hl 0 rfl) ?_
  refine va_get (D := D) (ci := 7) (C := RX5) (T := TX5) (N := 6) hx hb hts hinX5 hown hK.1 hP 0 rfl rfl 4 (by decide) (hts (.fieldLink RX5 46 "Switchgear" "planner" "LSwitchgear$Planner;") (by decide +kernel)) (fun _ h9 => h9) rfl dX5_restore_1 ?_
  obtain ⟨u3, hc1, hf⟩ := sg_b_s hf
  refine sg_cv (va_runV (As := []) (rest := []) ⟨hx, hb, hml, hown, hts⟩ (c_X2_findBest l D cA ad N _ _ hc1 _) (cwV 0 hts gX5_restore_X2_findBest rfl rfl rfl (by decide +kernel) ⟨Nat.le_of_ble_eq_true rfl, Nat.le_of_ble_eq_true rfl⟩) (sg_pre hK hP hD (ci := 4) (q0 := 5) rfl rfl) rfl rfl hl.1 rfl (lv_room (Nat.le_of_ble_eq_true rfl)) dX5_restore_4 ⟨Nat.zero_le _, Nat.zero_le _⟩) hD hS hA (fun H locs hP hD hS => ?_)
  refine lv_aload_n hx hb dX5_restore_7 rfl (lv_at hl 0 rfl) ?_
  refine va_get (D := D) (ci := 7) (C := RX5) (T := TX5) (N := 6) hx hb hts hinX5 hown hK.1 hP 0 rfl rfl 2 (by decide) (hts (.fieldLink RX5 30 "Switchgear" "switches" "LSwitchgear$Switches;") (by decide +kernel)) (fun _ h9 => h9) rfl dX5_restore_8 ?_
  refine lv_aload_n hx hb dX5_restore_11 rfl (lv_at hl 0 rfl) ?_
  refine va_get (D := D) (ci := 7) (C := RX5) (T := TX5) (N := 6) hx hb hts hinX5 hown hK.1 hP 0 rfl rfl 4 (by decide) (hts (.fieldLink RX5 46 "Switchgear" "planner" "LSwitchgear$Planner;") (by decide +kernel)) (fun _ h9 => h9) rfl dX5_restore_12 ?_
  refine va_getN (D := D) (ci := 4) (C := RX2) (T := TX2) (N := 5) (host := RX5) (ref := RX2) hx hb hts hinX2 hown hK.1 hP 5 rfl rfl 3 (by decide) (va_Nw.use rfl (hK.2 _ (List.mem_of_getElem? (i := 17) rfl))) (fun _ h9 => h9) rfl dX5_restore_15 ?_
  obtain ⟨u6, hc4, hf⟩ := sg_b_s hf
  refine sg_cv (va_runV (As := [.int (u3 8 0)]) (rest := []) ⟨hx, hb, hml, hown, hts⟩ (c_X4_closeAll l D cA ad N _ _ _ hc4 _) (cwV 1 hts gX5_restore_X4_closeAll rfl rfl rfl (by decide +kernel) ⟨Nat.le_of_ble_eq_true rfl, Nat.le_of_ble_eq_true rfl⟩) (sg_pre hK hP hD (ci := 6) (q0 := 3) rfl rfl) rfl rfl hl.1 rfl (lv_room (Nat.le_of_ble_eq_true rfl)) dX5_restore_18 ⟨Nat.zero_le _, Nat.zero_le _⟩) hD hS hA (fun H locs hP hD hS => ?_)
  refine lv_aload_n hx hb dX5_restore_21 rfl (lv_at hl 0 rfl) ?_
  refine va_get (D := D) (ci := 7) (C := RX5) (T := TX5) (N := 6) hx hb hts hinX5 hown hK.1 hP 0 rfl rfl 4 (by decide) (hts (.fieldLink RX5 46 "Switchgear" "planner" "LSwitchgear$Planner;") (by decide +kernel)) (fun _ h9 => h9) rfl dX5_restore_22 ?_
  refine va_getN (D := D) (ci := 4) (C := RX2) (T := TX2) (N := 5) (host := RX5) (ref := RX2) hx hb hts hinX2 hown hK.1 hP 5 rfl rfl 3 (by decide) (va_Nw.use rfl (hK.2 _ (List.mem_of_getElem? (i := 17) rfl))) (fun _ h9 => h9) rfl dX5_restore_25 ?_
  obtain ⟨r8, hc7, hf⟩ := sg_b_s hf
  refine sg_ci0 (va_runS (As := [.int (u6 8 0)]) (rest := []) ⟨hx, hb, hml, hown, hts⟩ (c_J6_bitCount_0f7a4 l D cA N _ _ hc7 _) (va_cwS 1 hts gX5_restore_J6_bitCount_0f7a4 rfl rfl rfl (by decide +kernel) ⟨Nat.le_of_ble_eq_true rfl, Nat.le_of_ble_eq_true rfl⟩) (sg_pre0 hK) rfl rfl hl.1 rfl (lv_room (Nat.le_of_ble_eq_true rfl)) dX5_restore_28 ⟨Nat.zero_le _, Nat.zero_le _⟩) hP hS hA (fun H locs hP hS => ?_)
  have hq := Option.some.inj hf
  exact sg_iret hx hb hr hP hD hS dX5_restore_31 (congrArg Prod.fst hq) (congrArg Prod.snd hq) hlocks
set_option maxRecDepth 100000 in
set_option maxHeartbeats 4000000 in
theorem c_X5_setLoad (l : Launch) (hlt : l.stackTraces = false) (D : va_G) (cA : Nat → ClassId) (ad : Nat → Nat) (N : Nat) (u : sg_St) (p1 p2 : Int32) (R : (Nat ⊕ Int32) × sg_St) (hf : fX5_setLoad N u p1 p2 = some R) : sg_TI l D cA (sg_WX cA ad) yX5_setLoad wsX5_setLoad ({ frames := 18, cells := 4, slots := 24, locals := 465 }) [.ref (ad 0), .int p1, .int p2] u 4 24 R := by
  intro sz
  refine vx_ofW (cc := cX5_setLoad) (maxL := 4) (ret := (some .int)) (by decide) rfl ?_
  intro p e s m args below meth c s₁ B hml htab hv
  obtain ⟨rfl, ⟨hsz, hP, hK, hD0⟩, hT⟩ := hv
  have hx := B.exec
  have hb := B.bytes
  have hr := B.returns
  have hts := atoms_spec (ws := wsX5_setLoad) B.pre
  have hown : s.vm.findClass RX5 = some m.cls := findClass_of_methodNamed B.named
  have hlocks := B.notSynchronized
  subst hsz
  have hD := hD0.self (sz := s.heap.size)
  generalize hAe : va_A (sg_WX cA ad u) s.heap.size = A at hD hT ⊢
  have hA : ∀ q : Nat, s.heap.size ≤ q → A q := fun q h => by rw [← hAe]; exact Or.inr h
  have hS : va_S A s.heap s.heap [] := va_S.rf
  have hl := lv_entry ([.ref (ad 0), .int p1, .int p2]) (n := 4) (Nat.le_of_ble_eq_true rfl)
  rw [lg_entry_eq]
  generalize (lg_sl ([.ref (ad 0), .int p1, .int p2]) ++ List.replicate (4 - (lg_sl ([.ref (ad 0), .int p1, .int p2])).length) Slot.unset).toArray = ls at hl ⊢
  replace hl : lv_has ls 4 [(0, .ref (ad 0)), (1, .int p1), (2, .int p2)] := hl
  have hinX5 : ∀ w ∈ u_ws RX5 TX5 6, w ∈ wsX5_setLoad := by decide +kernel
  unfold fX5_setLoad at hf
  refine lv_aload_n hx hb dX5_setLoad_0 rfl (lv_at hl 0 rfl) ?_
  refine lv_iload_n hx hb dX5_setLoad_1 rfl (lv_at hl 1 rfl) ?_
  obtain ⟨x4, hc1, hxx4, hf⟩ := sg_bt_s hf
  refine sg_xv (vx_runV (As := [.int p1]) (rest := []) ⟨hx, hb, hml, hown, hts⟩ (c_X5_needNode l hlt D cA ad N _ _ x4 hc1 _) (cwV 1 hts gX5_setLoad_X5_needNode rfl rfl rfl (by decide +kernel) ⟨Nat.le_of_ble_eq_true rfl, Nat.le_of_ble_eq_true rfl⟩) (sg_preT hK hP hD hT hS hA (ci := 7) (q0 := 0) rfl rfl) rfl rfl hl.1 rfl (lv_room (Nat.le_of_ble_eq_true rfl)) dX5_setLoad_2 ⟨Nat.le_of_ble_eq_true rfl, Nat.le_of_ble_eq_true rfl⟩) hD hS hA htab hlocks (by decide) (by decide) hxx4 (fun u3 H locs hrx4 hP hD hS => ?_)
  replace hf := hf _ _ hrx4
  refine lv_iload_n hx hb dX5_setLoad_5 rfl (lv_at hl 2 rfl) ?_
  obtain ⟨x8, hc5, hxx8, hf⟩ := sg_bt0_s hf
  refine sg_xv0 (vx_runS (As := [.int p2]) (rest := []) ⟨hx, hb, hml, hown, hts⟩ (c_X5_needLoad l hlt D cA N _ x8 hc5 _) (va_cwS 1 hts gX5_setLoad_X5_needLoad rfl rfl rfl (by decide +kernel) ⟨Nat.le_of_ble_eq_true rfl, Nat.le_of_ble_eq_true rfl⟩) (sg_preT0 hK hT hS hA) rfl rfl hl.1 rfl (lv_room (Nat.le_of_ble_eq_true rfl)) dX5_setLoad_6 ⟨Nat.le_of_ble_eq_true rfl, Nat.le_of_ble_eq_true rfl⟩) hP hD hS hA htab hlocks (by decide) (by decide) hxx8 (fun u9 H locs hrx8 hP hS => ?_)
  replace hf := hf _ _ hrx8
  refine lv_aload_n hx hb dX5_setLoad_9 rfl (lv_at hl 0 rfl) ?_
  refine lv_iload_n hx hb dX5_setLoad_10 rfl (lv_at hl 1 rfl) ?_
  obtain ⟨x13, hc10, hxx13, hf⟩ := sg_bt_s hf
  refine sg_xv (vx_runV (As := [.int p1]) (rest := []) ⟨hx, hb, hml, hown, hts⟩ (c_X5_needBus l hlt D cA ad N _ _ x13 hc10 _) (cwV 1 hts gX5_setLoad_X5_needBus rfl rfl rfl (by decide +kernel) ⟨Nat.le_of_ble_eq_true rfl, Nat.le_of_ble_eq_true rfl⟩) (sg_preT hK hP hD hT hS hA (ci := 7) (q0 := 0) rfl rfl) rfl rfl hl.1 rfl (lv_room (Nat.le_of_ble_eq_true rfl)) dX5_setLoad_11 ⟨Nat.le_of_ble_eq_true rfl, Nat.le_of_ble_eq_true rfl⟩) hD hS hA htab hlocks (by decide) (by decide) hxx13 (fun u12 H locs hrx13 hP hD hS => ?_)
  replace hf := hf _ _ hrx13
  refine lv_aload_n hx hb dX5_setLoad_14 rfl (lv_at hl 0 rfl) ?_
  refine va_get (D := D) (ci := 7) (C := RX5) (T := TX5) (N := 6) hx hb hts hinX5 hown hK.1 hP 0 rfl rfl 0 (by decide) (hts (.fieldLink RX5 10 "Switchgear" "grid" "LSwitchgear$Grid;") (by decide +kernel)) (fun _ h9 => h9) rfl dX5_setLoad_15 ?_
  refine lv_iload_n hx hb dX5_setLoad_18 rfl (lv_at hl 1 rfl) ?_
  obtain ⟨r15, hc14, hf⟩ := sg_b_s hf
  refine sg_ci (va_runV (As := [.int p1]) (rest := []) ⟨hx, hb, hml, hown, hts⟩ (c_X1_loadAt l D cA ad N _ _ _ hc14 _) (cwV 1 hts gX5_setLoad_X1_loadAt rfl rfl rfl (by decide +kernel) ⟨Nat.le_of_ble_eq_true rfl, Nat.le_of_ble_eq_true rfl⟩) (sg_pre hK hP hD (ci := 3) (q0 := 1) rfl rfl) rfl rfl hl.1 rfl (lv_room (Nat.le_of_ble_eq_true rfl)) dX5_setLoad_19 ⟨Nat.le_of_ble_eq_true rfl, Nat.le_of_ble_eq_true rfl⟩) hD hS hA (fun H locs hP hD hS => ?_)
  refine lv_istore_n (lv' := [(3, .int r15), (0, .ref (ad 0)), (1, .int p1), (2, .int p2)]) hx hb dX5_setLoad_22 rfl hl (by decide) rfl (fun ls hl => ?_)
  refine lv_aload_n hx hb dX5_setLoad_23 rfl (lv_at hl 1 rfl) ?_
  refine va_get (D := D) (ci := 7) (C := RX5) (T := TX5) (N := 6) hx hb hts hinX5 hown hK.1 hP 0 rfl rfl 0 (by decide) (hts (.fieldLink RX5 10 "Switchgear" "grid" "LSwitchgear$Grid;") (by decide +kernel)) (fun _ h9 => h9) rfl dX5_setLoad_24 ?_
  refine lv_iload_n hx hb dX5_setLoad_27 rfl (lv_at hl 2 rfl) ?_
  refine lv_iload_n hx hb dX5_setLoad_28 rfl (lv_at hl 3 rfl) ?_
  obtain ⟨u19, hc17, hf⟩ := sg_b_s hf
  refine sg_cv (va_runV (As := [.int p1, .int p2]) (rest := []) ⟨hx, hb, hml, hown, hts⟩ (c_X1_putLoad l D cA ad N _ _ _ _ hc17 _) (cwV 2 hts gX5_setLoad_X1_putLoad rfl rfl rfl (by decide +kernel) ⟨Nat.le_of_ble_eq_true rfl, Nat.le_of_ble_eq_true rfl⟩) (sg_pre hK hP hD (ci := 3) (q0 := 1) rfl rfl) rfl rfl hl.1 rfl (lv_room (Nat.le_of_ble_eq_true rfl)) dX5_setLoad_29 ⟨Nat.le_of_ble_eq_true rfl, Nat.le_of_ble_eq_true rfl⟩) hD hS hA (fun H locs hP hD hS => ?_)
  refine lv_aload_n hx hb dX5_setLoad_32 rfl (lv_at hl 1 rfl) ?_
  refine va_get (D := D) (ci := 7) (C := RX5) (T := TX5) (N := 6) hx hb hts hinX5 hown hK.1 hP 0 rfl rfl 2 (by decide) (hts (.fieldLink RX5 30 "Switchgear" "switches" "LSwitchgear$Switches;") (by decide +kernel)) (fun _ h9 => h9) rfl dX5_setLoad_33 ?_
  obtain ⟨r21, u22, hc20, hf⟩ := sg_b2_s hf
  refine sg_ci (va_runV (As := []) (rest := []) ⟨hx, hb, hml, hown, hts⟩ (c_X4_keepLimits l D cA ad N _ _ _ hc20 _) (cwV 0 hts gX5_setLoad_X4_keepLimits rfl rfl rfl (by decide +kernel) ⟨Nat.le_of_ble_eq_true rfl, Nat.le_of_ble_eq_true rfl⟩) (sg_pre hK hP hD (ci := 6) (q0 := 3) rfl rfl) rfl rfl hl.1 rfl (lv_room (Nat.le_of_ble_eq_true rfl)) dX5_setLoad_36 ⟨Nat.le_of_ble_eq_true rfl, Nat.le_of_ble_eq_true rfl⟩) hD hS hA (fun H locs hP hD hS => ?_)
  refine lv_if_ne (tgt := 61) hx hb dX5_setLoad_39 (by decide) (fun c26 => ?_) (fun c26 => ?_)
  · have hf := sg_in c26 hf
    refine lv_iload_n hx hb dX5_setLoad_61 rfl (lv_at hl 0 rfl) ?_
    have hq := Option.some.inj hf
    exact sg_ti hx hb hr rfl hP hD hS dX5_setLoad_62 hq hlocks (by decide) (by decide)
  · have hf := sg_ip c26 hf
    refine lv_aload_n hx hb dX5_setLoad_42 rfl (lv_at hl 1 rfl) ?_
    refine va_get (D := D) (ci := 7) (C := RX5) (T := TX5) (N := 6) hx hb hts hinX5 hown hK.1 hP 0 rfl rfl 0 (by decide) (hts (.fieldLink RX5 10 "Switchgear" "grid" "LSwitchgear$Grid;") (by decide +kernel)) (fun _ h9 => h9) rfl dX5_setLoad_43 ?_
    refine lv_iload_n hx hb dX5_setLoad_46 rfl (lv_at hl 2 rfl) ?_
    refine lv_iload_n hx hb dX5_setLoad_47 rfl (lv_at hl 0 rfl) ?_
    obtain ⟨u25, hc23, hf⟩ := sg_b_s hf
    refine sg_cv (va_runV (As := [.int p1, .int r15]) (rest := []) ⟨hx, hb, hml, hown, hts⟩ (c_X1_putLoad l D cA ad N _ _ _ _ hc23 _) (cwV 2 hts gX5_setLoad_X1_putLoad rfl rfl rfl (by decide +kernel) ⟨Nat.le_of_ble_eq_true rfl, Nat.le_of_ble_eq_true rfl⟩) (sg_pre hK hP hD (ci := 3) (q0 := 1) rfl rfl) rfl rfl hl.1 rfl (lv_room (Nat.le_of_ble_eq_true rfl)) dX5_setLoad_48 ⟨Nat.le_of_ble_eq_true rfl, Nat.le_of_ble_eq_true rfl⟩) hD hS hA (fun H locs hP hD hS => ?_)
    have hq := Option.some.inj hf
    exact sg_throw (cls := "java/lang/IllegalStateException") (text := "the source or a line cannot carry this load") (k := 0) hx hb hlt hown hts hT hP hD hS (hl.1.trans hml.symm) htab hlocks (by decide +kernel) (by decide +kernel) (by decide +kernel) (by decide +kernel) (by decide +kernel) (by decide +kernel) (by decide +kernel) dX5_setLoad_51 dX5_setLoad_54 dX5_setLoad_55 dX5_setLoad_57 dX5_setLoad_60 ⟨Nat.le_of_ble_eq_true rfl, Nat.le_of_ble_eq_true rfl, Nat.le_of_ble_eq_true rfl, Nat.le_of_ble_eq_true rfl, by decide, by decide⟩ (by decide +kernel) hq
set_option maxRecDepth 100000 in
set_option maxHeartbeats 4000000 in
theorem c_X5_setRelay (l : Launch) (hlt : l.stackTraces = false) (D : va_G) (cA : Nat → ClassId) (ad : Nat → Nat) (N : Nat) (u : sg_St) (p1 p2 p3 p4 : Int32) (R : (Nat ⊕ Int32) × sg_St) (hf : fX5_setRelay N u p1 p2 p3 p4 = some R) : sg_TI l D cA (sg_WX cA ad) yX5_setRelay wsX5_setRelay ({ frames := 9, cells := 3, slots := 18, locals := 421 }) [.ref (ad 0), .int p1, .int p2, .int p3, .int p4] u 3 18 R := by
  intro sz
  refine vx_ofW (cc := cX5_setRelay) (maxL := 6) (ret := (some .int)) (by decide) rfl ?_
  intro p e s m args below meth c s₁ B hml htab hv
  obtain ⟨rfl, ⟨hsz, hP, hK, hD0⟩, hT⟩ := hv
  have hx := B.exec
  have hb := B.bytes
  have hr := B.returns
  have hts := atoms_spec (ws := wsX5_setRelay) B.pre
  have hown : s.vm.findClass RX5 = some m.cls := findClass_of_methodNamed B.named
  have hlocks := B.notSynchronized
  subst hsz
  have hD := hD0.self (sz := s.heap.size)
  generalize hAe : va_A (sg_WX cA ad u) s.heap.size = A at hD hT ⊢
  have hA : ∀ q : Nat, s.heap.size ≤ q → A q := fun q h => by rw [← hAe]; exact Or.inr h
  have hS : va_S A s.heap s.heap [] := va_S.rf
  have hl := lv_entry ([.ref (ad 0), .int p1, .int p2, .int p3, .int p4]) (n := 6) (Nat.le_of_ble_eq_true rfl)
  rw [lg_entry_eq]
  generalize (lg_sl ([.ref (ad 0), .int p1, .int p2, .int p3, .int p4]) ++ List.replicate (6 - (lg_sl ([.ref (ad 0), .int p1, .int p2, .int p3, .int p4])).length) Slot.unset).toArray = ls at hl ⊢
  replace hl : lv_has ls 6 [(0, .ref (ad 0)), (1, .int p1), (2, .int p2), (3, .int p3), (4, .int p4)] := hl
  have hinX5 : ∀ w ∈ u_ws RX5 TX5 6, w ∈ wsX5_setRelay := by decide +kernel
  have hJ69 : ∀ (u : sg_St) (v1 v2 v3 v4 : Int32) (H : Heap) (locs : List Loc) (ls : Array Slot), fX5_setRelay_j69 N u v1 v2 v3 v4 = some R → va_P D vwCl (sg_WX cA ad u) H → va_D A (sg_WX cA ad u) → va_S A s.heap H locs → lv_has ls 6 [(0, .ref (ad 0)), (1, .int v1), (2, .int v2), (3, .int v3), (4, .int v4)] → W p l e (headSpec wsX5_setRelay ({ frames := 9, cells := 3, slots := 18, locals := 421 })).room s m ([.ref (ad 0), .int p1, .int p2, .int p3, .int p4] : List Value).toArray below meth c H locs 1 6 (vx_MQ below (sg_QI D (sg_WX cA ad) A R) (sg_XC D (sg_WX cA ad) A R) ([.ref (ad 0), .int p1, .int p2, .int p3, .int p4] : List Value).toArray s 3 18 A) (F0 m 69 ls []) := by
    intro u v1 v2 v3 v4 H locs ls hf hP hD hS hl
    unfold fX5_setRelay_j69 at hf
    refine lv_aload_n hx hb dX5_setRelay_69 rfl (lv_at hl 0 rfl) ?_
    refine lv_iload_n hx hb dX5_setRelay_70 rfl (lv_at hl 1 rfl) ?_
    obtain ⟨x4, hc1, hxx4, hf⟩ := sg_bt_s hf
    refine sg_xv (vx_runV (As := [.int v1]) (rest := []) ⟨hx, hb, hml, hown, hts⟩ (c_X5_needBreaker l hlt D cA ad N _ _ x4 hc1 _) (cwV 1 hts gX5_setRelay_X5_needBreaker rfl rfl rfl (by decide +kernel) ⟨Nat.le_of_ble_eq_true rfl, Nat.le_of_ble_eq_true rfl⟩) (sg_preT hK hP hD hT hS hA (ci := 7) (q0 := 0) rfl rfl) rfl rfl hl.1 rfl (lv_room (Nat.le_of_ble_eq_true rfl)) dX5_setRelay_71 ⟨Nat.le_of_ble_eq_true rfl, Nat.le_of_ble_eq_true rfl⟩) hD hS hA htab hlocks (by decide) (by decide) hxx4 (fun u3 H locs hrx4 hP hD hS => ?_)
    replace hf := hf _ _ hrx4
    refine lv_aload_n hx hb dX5_setRelay_74 rfl (lv_at hl 0 rfl) ?_
    refine va_get (D := D) (ci := 7) (C := RX5) (T := TX5) (N := 6) hx hb hts hinX5 hown hK.1 hP 0 rfl rfl 3 (by decide) (hts (.fieldLink RX5 37 "Switchgear" "protection" "LSwitchgear$Protection;") (by decide +kernel)) (fun _ h9 => h9) rfl dX5_setRelay_75 ?_
    refine lv_iload_n hx hb dX5_setRelay_78 rfl (lv_at hl 1 rfl) ?_
    obtain ⟨r6, hc5, hf⟩ := sg_b_s hf
    refine sg_ci (va_runV (As := [.int v1]) (rest := []) ⟨hx, hb, hml, hown, hts⟩ (c_X3_pickupAt l D cA ad N _ _ _ hc5 _) (cwV 1 hts gX5_setRelay_X3_pickupAt rfl rfl rfl (by decide +kernel) ⟨Nat.le_of_ble_eq_true rfl, Nat.le_of_ble_eq_true rfl⟩) (sg_pre hK hP hD (ci := 5) (q0 := 4) rfl rfl) rfl rfl hl.1 rfl (lv_room (Nat.le_of_ble_eq_true rfl)) dX5_setRelay_79 ⟨Nat.le_of_ble_eq_true rfl, Nat.le_of_ble_eq_true rfl⟩) hD hS hA (fun H locs hP hD hS => ?_)
    refine lv_istore (lv' := [(5, .int r6), (0, .ref (ad 0)), (1, .int v1), (2, .int v2), (3, .int v3), (4, .int v4)]) hx hb dX5_setRelay_82 hl (by decide) rfl (fun ls hl => ?_)
    refine lv_aload_n hx hb dX5_setRelay_84 rfl (lv_at hl 1 rfl) ?_
    refine va_get (D := D) (ci := 7) (C := RX5) (T := TX5) (N := 6) hx hb hts hinX5 hown hK.1 hP 0 rfl rfl 3 (by decide) (hts (.fieldLink RX5 37 "Switchgear" "protection" "LSwitchgear$Protection;") (by decide +kernel)) (fun _ h9 => h9) rfl dX5_setRelay_85 ?_
    refine lv_iload_n hx hb dX5_setRelay_88 rfl (lv_at hl 2 rfl) ?_
    refine lv_iload_n hx hb dX5_setRelay_89 rfl (lv_at hl 3 rfl) ?_
    refine lv_iload_n hx hb dX5_setRelay_90 rfl (lv_at hl 4 rfl) ?_
    refine lv_iload hx hb dX5_setRelay_91 (lv_at hl 5 rfl) ?_
    obtain ⟨u10, hc8, hf⟩ := sg_b_s hf
    refine sg_cv (va_runV (As := [.int v1, .int v2, .int v3, .int v4]) (rest := []) ⟨hx, hb, hml, hown, hts⟩ (c_X3_setUp l D cA ad N _ _ _ _ _ _ hc8 _) (cwV 4 hts gX5_setRelay_X3_setUp rfl rfl rfl (by decide +kernel) ⟨Nat.le_of_ble_eq_true rfl, Nat.le_of_ble_eq_true rfl⟩) (sg_pre hK hP hD (ci := 5) (q0 := 4) rfl rfl) rfl rfl hl.1 rfl (lv_room (Nat.le_of_ble_eq_true rfl)) dX5_setRelay_93 ⟨Nat.le_of_ble_eq_true rfl, Nat.le_of_ble_eq_true rfl⟩) hD hS hA (fun H locs hP hD hS => ?_)
    refine lv_iload hx hb dX5_setRelay_96 (lv_at hl 0 rfl) ?_
    have hq := Option.some.inj hf
    exact sg_ti hx hb hr rfl hP hD hS dX5_setRelay_98 hq hlocks (by decide) (by decide)
  have hJ38 : ∀ (u : sg_St) (H : Heap) (locs : List Loc) (ls : Array Slot), fX5_setRelay_j38 N u  = some R → va_P D vwCl (sg_WX cA ad u) H → va_D A (sg_WX cA ad u) → va_S A s.heap H locs → lv_has ls 6 [(0, .ref (ad 0))] → W p l e (headSpec wsX5_setRelay ({ frames := 9, cells := 3, slots := 18, locals := 421 })).room s m ([.ref (ad 0), .int p1, .int p2, .int p3, .int p4] : List Value).toArray below meth c H locs 1 6 (vx_MQ below (sg_QI D (sg_WX cA ad) A R) (sg_XC D (sg_WX cA ad) A R) ([.ref (ad 0), .int p1, .int p2, .int p3, .int p4] : List Value).toArray s 3 18 A) (F0 m 38 ls []) := by
    intro u H locs ls hf hP hD hS hl
    unfold fX5_setRelay_j38 at hf
    have hq := Option.some.inj hf
    exact sg_throw (cls := "java/lang/IllegalArgumentException") (text := "a multiplier is from 1 to 10") (k := 1) hx hb hlt hown hts hT hP hD hS (hl.1.trans hml.symm) htab hlocks (by decide +kernel) (by decide +kernel) (by decide +kernel) (by decide +kernel) (by decide +kernel) (by decide +kernel) (by decide +kernel) dX5_setRelay_38 dX5_setRelay_41 dX5_setRelay_42 dX5_setRelay_44 dX5_setRelay_47 ⟨Nat.le_of_ble_eq_true rfl, Nat.le_of_ble_eq_true rfl, Nat.le_of_ble_eq_true rfl, Nat.le_of_ble_eq_true rfl, by decide, by decide⟩ (by decide +kernel) hq
  have hJ17 : ∀ (u : sg_St) (H : Heap) (locs : List Loc) (ls : Array Slot), fX5_setRelay_j17 N u  = some R → va_P D vwCl (sg_WX cA ad u) H → va_D A (sg_WX cA ad u) → va_S A s.heap H locs → lv_has ls 6 [(0, .ref (ad 0))] → W p l e (headSpec wsX5_setRelay ({ frames := 9, cells := 3, slots := 18, locals := 421 })).room s m ([.ref (ad 0), .int p1, .int p2, .int p3, .int p4] : List Value).toArray below meth c H locs 1 6 (vx_MQ below (sg_QI D (sg_WX cA ad) A R) (sg_XC D (sg_WX cA ad) A R) ([.ref (ad 0), .int p1, .int p2, .int p3, .int p4] : List Value).toArray s 3 18 A) (F0 m 17 ls []) := by
    intro u H locs ls hf hP hD hS hl
    unfold fX5_setRelay_j17 at hf
    have hq := Option.some.inj hf
    exact sg_throw (cls := "java/lang/IllegalArgumentException") (text := "a pickup is from 1 to 999") (k := 1) hx hb hlt hown hts hT hP hD hS (hl.1.trans hml.symm) htab hlocks (by decide +kernel) (by decide +kernel) (by decide +kernel) (by decide +kernel) (by decide +kernel) (by decide +kernel) (by decide +kernel) dX5_setRelay_17 dX5_setRelay_20 dX5_setRelay_21 dX5_setRelay_23 dX5_setRelay_26 ⟨Nat.le_of_ble_eq_true rfl, Nat.le_of_ble_eq_true rfl, Nat.le_of_ble_eq_true rfl, Nat.le_of_ble_eq_true rfl, by decide, by decide⟩ (by decide +kernel) hq
  unfold fX5_setRelay at hf
  refine lv_aload_n hx hb dX5_setRelay_0 rfl (lv_at hl 0 rfl) ?_
  refine lv_iload_n hx hb dX5_setRelay_1 rfl (lv_at hl 1 rfl) ?_
  obtain ⟨x4, hc1, hxx4, hf⟩ := sg_bt_s hf
  refine sg_xv (vx_runV (As := [.int p1]) (rest := []) ⟨hx, hb, hml, hown, hts⟩ (c_X5_needLine l hlt D cA ad N _ _ x4 hc1 _) (cwV 1 hts gX5_setRelay_X5_needLine rfl rfl rfl (by decide +kernel) ⟨Nat.le_of_ble_eq_true rfl, Nat.le_of_ble_eq_true rfl⟩) (sg_preT hK hP hD hT hS hA (ci := 7) (q0 := 0) rfl rfl) rfl rfl hl.1 rfl (lv_room (Nat.le_of_ble_eq_true rfl)) dX5_setRelay_2 ⟨Nat.le_of_ble_eq_true rfl, Nat.le_of_ble_eq_true rfl⟩) hD hS hA htab hlocks (by decide) (by decide) hxx4 (fun u3 H locs hrx4 hP hD hS => ?_)
  replace hf := hf _ _ hrx4
  refine lv_iload_n hx hb dX5_setRelay_5 rfl (lv_at hl 2 rfl) ?_
  refine lv_iconst (v := 1) hx hb dX5_setRelay_6 (by decide) ?_
  refine lv_icmp_lt (tgt := 17) hx hb dX5_setRelay_7 (by decide) (fun c10 => ?_) (fun c10 => ?_)
  · have hf := sg_ip c10 hf
    refine W.widen (k := 1) (n := 6) (by decide) (by decide) ?_
    exact hJ17 _ _ _ _ hf hP hD hS (lv_sub hl [0] rfl)
  · have hf := sg_in c10 hf
    refine lv_iload_n hx hb dX5_setRelay_10 rfl (lv_at hl 2 rfl) ?_
    refine lv_sipush (v := 999) hx hb dX5_setRelay_11 (by decide) ?_
    refine lv_icmp_le (tgt := 27) hx hb dX5_setRelay_14 (by decide) (fun c9 => ?_) (fun c9 => ?_)
    · have hf := sg_ip c9 hf
      refine lv_iload_n hx hb dX5_setRelay_27 rfl (lv_at hl 3 rfl) ?_
      refine lv_iconst (v := 1) hx hb dX5_setRelay_28 (by decide) ?_
      refine lv_icmp_lt (tgt := 38) hx hb dX5_setRelay_29 (by decide) (fun c8 => ?_) (fun c8 => ?_)
      · have hf := sg_ip c8 hf
        refine W.widen (k := 1) (n := 6) (by decide) (by decide) ?_
        exact hJ38 _ _ _ _ hf hP hD hS (lv_sub hl [0] rfl)
      · have hf := sg_in c8 hf
        refine lv_iload_n hx hb dX5_setRelay_32 rfl (lv_at hl 3 rfl) ?_
        refine lv_bipush (v := 10) hx hb dX5_setRelay_33 (by decide) ?_
        refine lv_icmp_le (tgt := 48) hx hb dX5_setRelay_35 (by decide) (fun c7 => ?_) (fun c7 => ?_)
        · have hf := sg_ip c7 hf
          refine lv_iload hx hb dX5_setRelay_48 (lv_at hl 4 rfl) ?_
          refine lv_if_eq (tgt := 69) hx hb dX5_setRelay_50 (by decide) (fun c6 => ?_) (fun c6 => ?_)
          · have hf := sg_ip c6 hf
            refine W.widen (k := 1) (n := 6) (by decide) (by decide) ?_
            exact hJ69 _ _ _ _ _ _ _ _ hf hP hD hS (lv_sub hl [0, 1, 2, 3, 4] rfl)
          · have hf := sg_in c6 hf
            refine lv_iload hx hb dX5_setRelay_53 (lv_at hl 4 rfl) ?_
            refine lv_iload_n hx hb dX5_setRelay_55 rfl (lv_at hl 2 rfl) ?_
            refine lv_icmp_gt (tgt := 69) hx hb dX5_setRelay_56 (by decide) (fun c5 => ?_) (fun c5 => ?_)
            · have hf := sg_ip c5 hf
              refine W.widen (k := 1) (n := 6) (by decide) (by decide) ?_
              exact hJ69 _ _ _ _ _ _ _ _ hf hP hD hS (lv_sub hl [0, 1, 2, 3, 4] rfl)
            · have hf := sg_in c5 hf
              have hq := Option.some.inj hf
              exact sg_throw (cls := "java/lang/IllegalArgumentException") (text := "an instant step is 0 or greater than the pickup") (k := 1) hx hb hlt hown hts hT hP hD hS (hl.1.trans hml.symm) htab hlocks (by decide +kernel) (by decide +kernel) (by decide +kernel) (by decide +kernel) (by decide +kernel) (by decide +kernel) (by decide +kernel) dX5_setRelay_59 dX5_setRelay_62 dX5_setRelay_63 dX5_setRelay_65 dX5_setRelay_68 ⟨Nat.le_of_ble_eq_true rfl, Nat.le_of_ble_eq_true rfl, Nat.le_of_ble_eq_true rfl, Nat.le_of_ble_eq_true rfl, by decide, by decide⟩ (by decide +kernel) hq
        · have hf := sg_in c7 hf
          refine W.widen (k := 1) (n := 6) (by decide) (by decide) ?_
          exact hJ38 _ _ _ _ hf hP hD hS (lv_sub hl [0] rfl)
    · have hf := sg_in c9 hf
      refine W.widen (k := 1) (n := 6) (by decide) (by decide) ?_
      exact hJ17 _ _ _ _ hf hP hD hS (lv_sub hl [0] rfl)
set_option maxRecDepth 100000 in
set_option maxHeartbeats 4000000 in
theorem c_X5_sizeByTrying (l : Launch) (hlt : l.stackTraces = false) (D : va_G) (cA : Nat → ClassId) (ad : Nat → Nat) (N : Nat) (u : sg_St) (R : (Nat ⊕ Int32) × sg_St) (hf : fX5_sizeByTrying N u = some R) : sg_TI l D cA (sg_WX cA ad) yX5_sizeByTrying wsX5_sizeByTrying ({ frames := 20, cells := 1, slots := 6, locals := 516 }) [.ref (ad 0)] u 1 6 R := by
  intro sz
  refine vx_ofW (cc := cX5_sizeByTrying) (maxL := 1) (ret := (some .int)) (by decide) rfl ?_
  intro p e s m args below meth c s₁ B hml htab hv
  obtain ⟨rfl, ⟨hsz, hP, hK, hD0⟩, hT⟩ := hv
  have hx := B.exec
  have hb := B.bytes
  have hr := B.returns
  have hts := atoms_spec (ws := wsX5_sizeByTrying) B.pre
  have hown : s.vm.findClass RX5 = some m.cls := findClass_of_methodNamed B.named
  have hlocks := B.notSynchronized
  subst hsz
  have hD := hD0.self (sz := s.heap.size)
  generalize hAe : va_A (sg_WX cA ad u) s.heap.size = A at hD hT ⊢
  have hA : ∀ q : Nat, s.heap.size ≤ q → A q := fun q h => by rw [← hAe]; exact Or.inr h
  have hS : va_S A s.heap s.heap [] := va_S.rf
  have hl := lv_entry ([.ref (ad 0)]) (n := 1) (Nat.le_of_ble_eq_true rfl)
  rw [lg_entry_eq]
  generalize (lg_sl ([.ref (ad 0)]) ++ List.replicate (1 - (lg_sl ([.ref (ad 0)])).length) Slot.unset).toArray = ls at hl ⊢
  replace hl : lv_has ls 1 [(0, .ref (ad 0))] := hl
  have hinX2 : ∀ w ∈ u_ws RX2 TX2 5, w ∈ wsX5_sizeByTrying := by decide +kernel
  have hinX5 : ∀ w ∈ u_ws RX5 TX5 6, w ∈ wsX5_sizeByTrying := by decide +kernel
  unfold fX5_sizeByTrying at hf
  refine lv_aload_n hx hb dX5_sizeByTrying_0 rfl (lv_at hl 0 rfl) ?_
  obtain ⟨x4, hc1, hxx4, hf⟩ := sg_bt_s hf
  refine sg_xv (vx_runV (As := []) (rest := []) ⟨hx, hb, hml, hown, hts⟩ (c_X5_needFewLinesToTry l hlt D cA ad N _ x4 hc1 _) (cwV 0 hts gX5_sizeByTrying_X5_needFewLinesToTry rfl rfl rfl (by decide +kernel) ⟨Nat.le_of_ble_eq_true rfl, Nat.le_of_ble_eq_true rfl⟩) (sg_preT hK hP hD hT hS hA (ci := 7) (q0 := 0) rfl rfl) rfl rfl hl.1 rfl (lv_room (Nat.le_of_ble_eq_true rfl)) dX5_sizeByTrying_1 ⟨Nat.le_of_ble_eq_true rfl, Nat.le_of_ble_eq_true rfl⟩) hD hS hA htab hlocks (by decide) (by decide) hxx4 (fun u3 H locs hrx4 hP hD hS => ?_)
  replace hf := hf _ _ hrx4
  refine lv_aload_n hx hb dX5_sizeByTrying_4 rfl (lv_at hl 0 rfl) ?_
  refine va_get (D := D) (ci := 7) (C := RX5) (T := TX5) (N := 6) hx hb hts hinX5 hown hK.1 hP 0 rfl rfl 4 (by decide) (hts (.fieldLink RX5 46 "Switchgear" "planner" "LSwitchgear$Planner;") (by decide +kernel)) (fun _ h9 => h9) rfl dX5_sizeByTrying_5 ?_
  obtain ⟨u7, hc5, hf⟩ := sg_b_s hf
  refine sg_cv (va_runV (As := []) (rest := []) ⟨hx, hb, hml, hown, hts⟩ (c_X2_tryAllSets l D cA ad N _ _ hc5 _) (cwV 0 hts gX5_sizeByTrying_X2_tryAllSets rfl rfl rfl (by decide +kernel) ⟨Nat.le_of_ble_eq_true rfl, Nat.le_of_ble_eq_true rfl⟩) (sg_pre hK hP hD (ci := 4) (q0 := 5) rfl rfl) rfl rfl hl.1 rfl (lv_room (Nat.le_of_ble_eq_true rfl)) dX5_sizeByTrying_8 ⟨Nat.le_of_ble_eq_true rfl, Nat.le_of_ble_eq_true rfl⟩) hD hS hA (fun H locs hP hD hS => ?_)
  refine lv_aload_n hx hb dX5_sizeByTrying_11 rfl (lv_at hl 0 rfl) ?_
  refine va_get (D := D) (ci := 7) (C := RX5) (T := TX5) (N := 6) hx hb hts hinX5 hown hK.1 hP 0 rfl rfl 4 (by decide) (hts (.fieldLink RX5 46 "Switchgear" "planner" "LSwitchgear$Planner;") (by decide +kernel)) (fun _ h9 => h9) rfl dX5_sizeByTrying_12 ?_
  refine va_getN (D := D) (ci := 4) (C := RX2) (T := TX2) (N := 5) (host := RX5) (ref := RX2) hx hb hts hinX2 hown hK.1 hP 5 rfl rfl 3 (by decide) (va_Nw.use rfl (hK.2 _ (List.mem_of_getElem? (i := 17) rfl))) (fun _ h9 => h9) rfl dX5_sizeByTrying_15 ?_
  obtain ⟨r9, hc8, hf⟩ := sg_b_s hf
  refine sg_ci0 (va_runS (As := [.int (u7 8 0)]) (rest := []) ⟨hx, hb, hml, hown, hts⟩ (c_J6_bitCount_0f7a4 l D cA N _ _ hc8 _) (va_cwS 1 hts gX5_sizeByTrying_J6_bitCount_0f7a4 rfl rfl rfl (by decide +kernel) ⟨Nat.le_of_ble_eq_true rfl, Nat.le_of_ble_eq_true rfl⟩) (sg_pre0 hK) rfl rfl hl.1 rfl (lv_room (Nat.le_of_ble_eq_true rfl)) dX5_sizeByTrying_18 ⟨Nat.le_of_ble_eq_true rfl, Nat.le_of_ble_eq_true rfl⟩) hP hS hA (fun H locs hP hS => ?_)
  have hq := Option.some.inj hf
  exact sg_ti hx hb hr rfl hP hD hS dX5_sizeByTrying_21 hq hlocks (by decide) (by decide)
set_option maxRecDepth 100000 in
set_option maxHeartbeats 4000000 in
theorem c_X5_sourceOf (l : Launch) (hlt : l.stackTraces = false) (D : va_G) (cA : Nat → ClassId) (ad : Nat → Nat) (N : Nat) (u : sg_St) (p1 : Int32) (R : (Nat ⊕ Int32) × sg_St) (hf : fX5_sourceOf N u p1 = some R) : sg_TI l D cA (sg_WX cA ad) yX5_sourceOf wsX5_sourceOf ({ frames := 9, cells := 2, slots := 12, locals := 421 }) [.ref (ad 0), .int p1] u 2 12 R := by
  intro sz
  refine vx_ofW (cc := cX5_sourceOf) (maxL := 3) (ret := (some .int)) (by decide) rfl ?_
  intro p e s m args below meth c s₁ B hml htab hv
  obtain ⟨rfl, ⟨hsz, hP, hK, hD0⟩, hT⟩ := hv
  have hx := B.exec
  have hb := B.bytes
  have hr := B.returns
  have hts := atoms_spec (ws := wsX5_sourceOf) B.pre
  have hown : s.vm.findClass RX5 = some m.cls := findClass_of_methodNamed B.named
  have hlocks := B.notSynchronized
  subst hsz
  have hD := hD0.self (sz := s.heap.size)
  generalize hAe : va_A (sg_WX cA ad u) s.heap.size = A at hD hT ⊢
  have hA : ∀ q : Nat, s.heap.size ≤ q → A q := fun q h => by rw [← hAe]; exact Or.inr h
  have hS : va_S A s.heap s.heap [] := va_S.rf
  have hl := lv_entry ([.ref (ad 0), .int p1]) (n := 3) (Nat.le_of_ble_eq_true rfl)
  rw [lg_entry_eq]
  generalize (lg_sl ([.ref (ad 0), .int p1]) ++ List.replicate (3 - (lg_sl ([.ref (ad 0), .int p1])).length) Slot.unset).toArray = ls at hl ⊢
  replace hl : lv_has ls 3 [(0, .ref (ad 0)), (1, .int p1)] := hl
  have hinX5 : ∀ w ∈ u_ws RX5 TX5 6, w ∈ wsX5_sourceOf := by decide +kernel
  unfold fX5_sourceOf at hf
  refine lv_aload_n hx hb dX5_sourceOf_0 rfl (lv_at hl 0 rfl) ?_
  refine lv_iload_n hx hb dX5_sourceOf_1 rfl (lv_at hl 1 rfl) ?_
  obtain ⟨x4, hc1, hxx4, hf⟩ := sg_bt_s hf
  refine sg_xv (vx_runV (As := [.int p1]) (rest := []) ⟨hx, hb, hml, hown, hts⟩ (c_X5_needNode l hlt D cA ad N _ _ x4 hc1 _) (cwV 1 hts gX5_sourceOf_X5_needNode rfl rfl rfl (by decide +kernel) ⟨Nat.le_of_ble_eq_true rfl, Nat.le_of_ble_eq_true rfl⟩) (sg_preT hK hP hD hT hS hA (ci := 7) (q0 := 0) rfl rfl) rfl rfl hl.1 rfl (lv_room (Nat.le_of_ble_eq_true rfl)) dX5_sourceOf_2 ⟨Nat.le_of_ble_eq_true rfl, Nat.le_of_ble_eq_true rfl⟩) hD hS hA htab hlocks (by decide) (by decide) hxx4 (fun u3 H locs hrx4 hP hD hS => ?_)
  replace hf := hf _ _ hrx4
  refine lv_aload_n hx hb dX5_sourceOf_5 rfl (lv_at hl 0 rfl) ?_
  refine va_get (D := D) (ci := 7) (C := RX5) (T := TX5) (N := 6) hx hb hts hinX5 hown hK.1 hP 0 rfl rfl 0 (by decide) (hts (.fieldLink RX5 10 "Switchgear" "grid" "LSwitchgear$Grid;") (by decide +kernel)) (fun _ h9 => h9) rfl dX5_sourceOf_6 ?_
  refine lv_aload_n hx hb dX5_sourceOf_9 rfl (lv_at hl 0 rfl) ?_
  refine lv_iload_n hx hb dX5_sourceOf_10 rfl (lv_at hl 1 rfl) ?_
  obtain ⟨r6, hc5, hf⟩ := sg_b_s hf
  refine sg_ci (va_runV (As := [.int p1]) (rest := [.ref (ad 1)]) ⟨hx, hb, hml, hown, hts⟩ (c_X5_islandAt l D cA ad N _ _ _ hc5 _) (cwV 1 hts gX5_sourceOf_X5_islandAt rfl rfl rfl (by decide +kernel) ⟨Nat.le_of_ble_eq_true rfl, Nat.le_of_ble_eq_true rfl⟩) (sg_pre hK hP hD (ci := 7) (q0 := 0) rfl rfl) rfl rfl hl.1 rfl (lv_room (Nat.le_of_ble_eq_true rfl)) dX5_sourceOf_11 ⟨Nat.le_of_ble_eq_true rfl, Nat.le_of_ble_eq_true rfl⟩) hD hS hA (fun H locs hP hD hS => ?_)
  obtain ⟨r9, hc8, hf⟩ := sg_b_s hf
  refine sg_ci (va_runV (As := [.int r6]) (rest := []) ⟨hx, hb, hml, hown, hts⟩ (c_X1_sourceIn l D cA ad N _ _ _ hc8 _) (cwV 1 hts gX5_sourceOf_X1_sourceIn rfl rfl rfl (by decide +kernel) ⟨Nat.le_of_ble_eq_true rfl, Nat.le_of_ble_eq_true rfl⟩) (sg_pre hK hP hD (ci := 3) (q0 := 1) rfl rfl) rfl rfl hl.1 rfl (lv_room (Nat.le_of_ble_eq_true rfl)) dX5_sourceOf_14 ⟨Nat.le_of_ble_eq_true rfl, Nat.le_of_ble_eq_true rfl⟩) hD hS hA (fun H locs hP hD hS => ?_)
  refine lv_istore_n (lv' := [(2, .int r9), (0, .ref (ad 0)), (1, .int p1)]) hx hb dX5_sourceOf_17 rfl hl (by decide) rfl (fun ls hl => ?_)
  refine lv_iload_n hx hb dX5_sourceOf_18 rfl (lv_at hl 0 rfl) ?_
  refine lv_iconst (v := (-1)) hx hb dX5_sourceOf_19 (by decide) ?_
  refine lv_icmp_ne (tgt := 33) hx hb dX5_sourceOf_20 (by decide) (fun c11 => ?_) (fun c11 => ?_)
  · have hf := sg_in c11 hf
    refine lv_iload_n hx hb dX5_sourceOf_33 rfl (lv_at hl 0 rfl) ?_
    have hq := Option.some.inj hf
    exact sg_ti hx hb hr rfl hP hD hS dX5_sourceOf_34 hq hlocks (by decide) (by decide)
  · have hf := sg_ip c11 hf
    have hq := Option.some.inj hf
    exact sg_throw (cls := "java/lang/IllegalStateException") (text := "the island is dark") (k := 0) hx hb hlt hown hts hT hP hD hS (hl.1.trans hml.symm) htab hlocks (by decide +kernel) (by decide +kernel) (by decide +kernel) (by decide +kernel) (by decide +kernel) (by decide +kernel) (by decide +kernel) dX5_sourceOf_23 dX5_sourceOf_26 dX5_sourceOf_27 dX5_sourceOf_29 dX5_sourceOf_32 ⟨Nat.le_of_ble_eq_true rfl, Nat.le_of_ble_eq_true rfl, Nat.le_of_ble_eq_true rfl, Nat.le_of_ble_eq_true rfl, by decide, by decide⟩ (by decide +kernel) hq
set_option maxRecDepth 100000 in
set_option maxHeartbeats 4000000 in
theorem c_X5_tripTime (l : Launch) (hlt : l.stackTraces = false) (D : va_G) (cA : Nat → ClassId) (ad : Nat → Nat) (N : Nat) (u : sg_St) (p1 p2 : Int32) (R : (Nat ⊕ Int32) × sg_St) (hf : fX5_tripTime N u p1 p2 = some R) : sg_TI l D cA (sg_WX cA ad) yX5_tripTime wsX5_tripTime ({ frames := 9, cells := 3, slots := 18, locals := 421 }) [.ref (ad 0), .int p1, .int p2] u 3 18 R := by
  intro sz
  refine vx_ofW (cc := cX5_tripTime) (maxL := 3) (ret := (some .int)) (by decide) rfl ?_
  intro p e s m args below meth c s₁ B hml htab hv
  obtain ⟨rfl, ⟨hsz, hP, hK, hD0⟩, hT⟩ := hv
  have hx := B.exec
  have hb := B.bytes
  have hr := B.returns
  have hts := atoms_spec (ws := wsX5_tripTime) B.pre
  have hown : s.vm.findClass RX5 = some m.cls := findClass_of_methodNamed B.named
  have hlocks := B.notSynchronized
  subst hsz
  have hD := hD0.self (sz := s.heap.size)
  generalize hAe : va_A (sg_WX cA ad u) s.heap.size = A at hD hT ⊢
  have hA : ∀ q : Nat, s.heap.size ≤ q → A q := fun q h => by rw [← hAe]; exact Or.inr h
  have hS : va_S A s.heap s.heap [] := va_S.rf
  have hl := lv_entry ([.ref (ad 0), .int p1, .int p2]) (n := 3) (Nat.le_of_ble_eq_true rfl)
  rw [lg_entry_eq]
  generalize (lg_sl ([.ref (ad 0), .int p1, .int p2]) ++ List.replicate (3 - (lg_sl ([.ref (ad 0), .int p1, .int p2])).length) Slot.unset).toArray = ls at hl ⊢
  replace hl : lv_has ls 3 [(0, .ref (ad 0)), (1, .int p1), (2, .int p2)] := hl
  have hinX5 : ∀ w ∈ u_ws RX5 TX5 6, w ∈ wsX5_tripTime := by decide +kernel
  have hJ16 : ∀ (u : sg_St) (H : Heap) (locs : List Loc) (ls : Array Slot), fX5_tripTime_j16 N u  = some R → va_P D vwCl (sg_WX cA ad u) H → va_D A (sg_WX cA ad u) → va_S A s.heap H locs → lv_has ls 3 [(0, .ref (ad 0))] → W p l e (headSpec wsX5_tripTime ({ frames := 9, cells := 3, slots := 18, locals := 421 })).room s m ([.ref (ad 0), .int p1, .int p2] : List Value).toArray below meth c H locs 1 6 (vx_MQ below (sg_QI D (sg_WX cA ad) A R) (sg_XC D (sg_WX cA ad) A R) ([.ref (ad 0), .int p1, .int p2] : List Value).toArray s 3 18 A) (F0 m 16 ls []) := by
    intro u H locs ls hf hP hD hS hl
    unfold fX5_tripTime_j16 at hf
    have hq := Option.some.inj hf
    exact sg_throw (cls := "java/lang/IllegalArgumentException") (text := "a current is from 1 to 99999") (k := 1) hx hb hlt hown hts hT hP hD hS (hl.1.trans hml.symm) htab hlocks (by decide +kernel) (by decide +kernel) (by decide +kernel) (by decide +kernel) (by decide +kernel) (by decide +kernel) (by decide +kernel) dX5_tripTime_16 dX5_tripTime_19 dX5_tripTime_20 dX5_tripTime_22 dX5_tripTime_25 ⟨Nat.le_of_ble_eq_true rfl, Nat.le_of_ble_eq_true rfl, Nat.le_of_ble_eq_true rfl, Nat.le_of_ble_eq_true rfl, by decide, by decide⟩ (by decide +kernel) hq
  unfold fX5_tripTime at hf
  refine lv_aload_n hx hb dX5_tripTime_0 rfl (lv_at hl 0 rfl) ?_
  refine lv_iload_n hx hb dX5_tripTime_1 rfl (lv_at hl 1 rfl) ?_
  obtain ⟨x4, hc1, hxx4, hf⟩ := sg_bt_s hf
  refine sg_xv (vx_runV (As := [.int p1]) (rest := []) ⟨hx, hb, hml, hown, hts⟩ (c_X5_needLine l hlt D cA ad N _ _ x4 hc1 _) (cwV 1 hts gX5_tripTime_X5_needLine rfl rfl rfl (by decide +kernel) ⟨Nat.le_of_ble_eq_true rfl, Nat.le_of_ble_eq_true rfl⟩) (sg_preT hK hP hD hT hS hA (ci := 7) (q0 := 0) rfl rfl) rfl rfl hl.1 rfl (lv_room (Nat.le_of_ble_eq_true rfl)) dX5_tripTime_2 ⟨Nat.le_of_ble_eq_true rfl, Nat.le_of_ble_eq_true rfl⟩) hD hS hA htab hlocks (by decide) (by decide) hxx4 (fun u3 H locs hrx4 hP hD hS => ?_)
  replace hf := hf _ _ hrx4
  refine lv_iload_n hx hb dX5_tripTime_5 rfl (lv_at hl 2 rfl) ?_
  refine lv_iconst (v := 1) hx hb dX5_tripTime_6 (by decide) ?_
  refine lv_icmp_lt (tgt := 16) hx hb dX5_tripTime_7 (by decide) (fun c13 => ?_) (fun c13 => ?_)
  · have hf := sg_ip c13 hf
    refine W.widen (k := 1) (n := 6) (by decide) (by decide) ?_
    exact hJ16 _ _ _ _ hf hP hD hS (lv_sub hl [0] rfl)
  · have hf := sg_in c13 hf
    refine lv_iload_n hx hb dX5_tripTime_10 rfl (lv_at hl 2 rfl) ?_
    refine lv_ldc (v := 99999) hx hb hown (hts (.constant RX5 235 (99999)) (by decide +kernel)) dX5_tripTime_11 ?_
    refine lv_icmp_le (tgt := 26) hx hb dX5_tripTime_13 (by decide) (fun c12 => ?_) (fun c12 => ?_)
    · have hf := sg_ip c12 hf
      refine lv_aload_n hx hb dX5_tripTime_26 rfl (lv_at hl 0 rfl) ?_
      refine lv_iload_n hx hb dX5_tripTime_27 rfl (lv_at hl 1 rfl) ?_
      obtain ⟨x8, hc5, hxx8, hf⟩ := sg_bt_s hf
      refine sg_xv (vx_runV (As := [.int p1]) (rest := []) ⟨hx, hb, hml, hown, hts⟩ (c_X5_needBreaker l hlt D cA ad N _ _ x8 hc5 _) (cwV 1 hts gX5_tripTime_X5_needBreaker rfl rfl rfl (by decide +kernel) ⟨Nat.le_of_ble_eq_true rfl, Nat.le_of_ble_eq_true rfl⟩) (sg_preT hK hP hD hT hS hA (ci := 7) (q0 := 0) rfl rfl) rfl rfl hl.1 rfl (lv_room (Nat.le_of_ble_eq_true rfl)) dX5_tripTime_28 ⟨Nat.le_of_ble_eq_true rfl, Nat.le_of_ble_eq_true rfl⟩) hD hS hA htab hlocks (by decide) (by decide) hxx8 (fun u7 H locs hrx8 hP hD hS => ?_)
      replace hf := hf _ _ hrx8
      refine lv_aload_n hx hb dX5_tripTime_31 rfl (lv_at hl 0 rfl) ?_
      refine va_get (D := D) (ci := 7) (C := RX5) (T := TX5) (N := 6) hx hb hts hinX5 hown hK.1 hP 0 rfl rfl 3 (by decide) (hts (.fieldLink RX5 37 "Switchgear" "protection" "LSwitchgear$Protection;") (by decide +kernel)) (fun _ h9 => h9) rfl dX5_tripTime_32 ?_
      refine lv_iload_n hx hb dX5_tripTime_35 rfl (lv_at hl 1 rfl) ?_
      refine lv_iload_n hx hb dX5_tripTime_36 rfl (lv_at hl 2 rfl) ?_
      obtain ⟨r10, hc9, hf⟩ := sg_b_s hf
      refine sg_ci (va_runV (As := [.int p1, .int p2]) (rest := []) ⟨hx, hb, hml, hown, hts⟩ (c_X3_timeFor l D cA ad N _ _ _ _ hc9 _) (cwV 2 hts gX5_tripTime_X3_timeFor rfl rfl rfl (by decide +kernel) ⟨Nat.le_of_ble_eq_true rfl, Nat.le_of_ble_eq_true rfl⟩) (sg_pre hK hP hD (ci := 5) (q0 := 4) rfl rfl) rfl rfl hl.1 rfl (lv_room (Nat.le_of_ble_eq_true rfl)) dX5_tripTime_37 ⟨Nat.le_of_ble_eq_true rfl, Nat.le_of_ble_eq_true rfl⟩) hD hS hA (fun H locs hP hD hS => ?_)
      have hq := Option.some.inj hf
      exact sg_ti hx hb hr rfl hP hD hS dX5_tripTime_40 hq hlocks (by decide) (by decide)
    · have hf := sg_in c12 hf
      refine W.widen (k := 1) (n := 6) (by decide) (by decide) ?_
      exact hJ16 _ _ _ _ hf hP hD hS (lv_sub hl [0] rfl)
set_option maxRecDepth 100000 in
set_option maxHeartbeats 4000000 in
theorem c_X5_trips (l : Launch) (D : va_G) (cA : Nat → ClassId) (ad : Nat → Nat) (N : Nat) (u : sg_St) (r : Int32) (hf : fX5_trips N u = some r) : sg_CI l D cA (sg_WX cA ad) yX5_trips wsX5_trips ({ frames := 0, cells := 0, slots := 0, locals := 0 }) [.ref (ad 0)] u r u := by
  intro sz
  refine Met.ofW (cc := cX5_trips) (maxL := 1) (ret := (some .int)) (by decide) rfl ?_
  intro p e s m args below meth c s₁ B hml hv
  obtain ⟨rfl, hsz, hP, hK, hD0⟩ := hv
  have hx := B.exec
  have hb := B.bytes
  have hr := B.returns
  have hts := atoms_spec (ws := wsX5_trips) B.pre
  have hown : s.vm.findClass RX5 = some m.cls := findClass_of_methodNamed B.named
  have hlocks := B.notSynchronized
  subst hsz
  have hD := hD0.self (sz := s.heap.size)
  generalize hAe : va_A (sg_WX cA ad u) s.heap.size = A at hD ⊢
  have hA : ∀ q : Nat, s.heap.size ≤ q → A q := fun q h => by rw [← hAe]; exact Or.inr h
  have hS : va_S A s.heap s.heap [] := va_S.rf
  have hl := lv_entry ([.ref (ad 0)]) (n := 1) (Nat.le_of_ble_eq_true rfl)
  rw [lg_entry_eq]
  generalize (lg_sl ([.ref (ad 0)]) ++ List.replicate (1 - (lg_sl ([.ref (ad 0)])).length) Slot.unset).toArray = ls at hl ⊢
  replace hl : lv_has ls 1 [(0, .ref (ad 0))] := hl
  have hinX5 : ∀ w ∈ u_ws RX5 TX5 6, w ∈ wsX5_trips := by decide +kernel
  unfold fX5_trips at hf
  refine lv_aload_n hx hb dX5_trips_0 rfl (lv_at hl 0 rfl) ?_
  refine va_get (D := D) (ci := 7) (C := RX5) (T := TX5) (N := 6) hx hb hts hinX5 hown hK.1 hP 0 rfl rfl 5 (by decide) (hts (.fieldLink RX5 168 "Switchgear" "tripCount" "I") (by decide +kernel)) (fun _ h9 => h9) rfl dX5_trips_1 ?_
  have hq := Option.some.inj hf
  exact sg_iret hx hb hr hP hD hS dX5_trips_4 hq rfl hlocks
set_option maxRecDepth 100000 in
set_option maxHeartbeats 4000000 in
theorem c_X5_valueByTrying (l : Launch) (hlt : l.stackTraces = false) (D : va_G) (cA : Nat → ClassId) (ad : Nat → Nat) (N : Nat) (u : sg_St) (R : (Nat ⊕ Int32) × sg_St) (hf : fX5_valueByTrying N u = some R) : sg_TI l D cA (sg_WX cA ad) yX5_valueByTrying wsX5_valueByTrying ({ frames := 20, cells := 1, slots := 6, locals := 516 }) [.ref (ad 0)] u 1 6 R := by
  intro sz
  refine vx_ofW (cc := cX5_valueByTrying) (maxL := 1) (ret := (some .int)) (by decide) rfl ?_
  intro p e s m args below meth c s₁ B hml htab hv
  obtain ⟨rfl, ⟨hsz, hP, hK, hD0⟩, hT⟩ := hv
  have hx := B.exec
  have hb := B.bytes
  have hr := B.returns
  have hts := atoms_spec (ws := wsX5_valueByTrying) B.pre
  have hown : s.vm.findClass RX5 = some m.cls := findClass_of_methodNamed B.named
  have hlocks := B.notSynchronized
  subst hsz
  have hD := hD0.self (sz := s.heap.size)
  generalize hAe : va_A (sg_WX cA ad u) s.heap.size = A at hD hT ⊢
  have hA : ∀ q : Nat, s.heap.size ≤ q → A q := fun q h => by rw [← hAe]; exact Or.inr h
  have hS : va_S A s.heap s.heap [] := va_S.rf
  have hl := lv_entry ([.ref (ad 0)]) (n := 1) (Nat.le_of_ble_eq_true rfl)
  rw [lg_entry_eq]
  generalize (lg_sl ([.ref (ad 0)]) ++ List.replicate (1 - (lg_sl ([.ref (ad 0)])).length) Slot.unset).toArray = ls at hl ⊢
  replace hl : lv_has ls 1 [(0, .ref (ad 0))] := hl
  have hinX2 : ∀ w ∈ u_ws RX2 TX2 5, w ∈ wsX5_valueByTrying := by decide +kernel
  have hinX5 : ∀ w ∈ u_ws RX5 TX5 6, w ∈ wsX5_valueByTrying := by decide +kernel
  unfold fX5_valueByTrying at hf
  refine lv_aload_n hx hb dX5_valueByTrying_0 rfl (lv_at hl 0 rfl) ?_
  obtain ⟨x4, hc1, hxx4, hf⟩ := sg_bt_s hf
  refine sg_xv (vx_runV (As := []) (rest := []) ⟨hx, hb, hml, hown, hts⟩ (c_X5_needFewLinesToTry l hlt D cA ad N _ x4 hc1 _) (cwV 0 hts gX5_valueByTrying_X5_needFewLinesToTry rfl rfl rfl (by decide +kernel) ⟨Nat.le_of_ble_eq_true rfl, Nat.le_of_ble_eq_true rfl⟩) (sg_preT hK hP hD hT hS hA (ci := 7) (q0 := 0) rfl rfl) rfl rfl hl.1 rfl (lv_room (Nat.le_of_ble_eq_true rfl)) dX5_valueByTrying_1 ⟨Nat.le_of_ble_eq_true rfl, Nat.le_of_ble_eq_true rfl⟩) hD hS hA htab hlocks (by decide) (by decide) hxx4 (fun u3 H locs hrx4 hP hD hS => ?_)
  replace hf := hf _ _ hrx4
  refine lv_aload_n hx hb dX5_valueByTrying_4 rfl (lv_at hl 0 rfl) ?_
  refine va_get (D := D) (ci := 7) (C := RX5) (T := TX5) (N := 6) hx hb hts hinX5 hown hK.1 hP 0 rfl rfl 4 (by decide) (hts (.fieldLink RX5 46 "Switchgear" "planner" "LSwitchgear$Planner;") (by decide +kernel)) (fun _ h9 => h9) rfl dX5_valueByTrying_5 ?_
  obtain ⟨u7, hc5, hf⟩ := sg_b_s hf
  refine sg_cv (va_runV (As := []) (rest := []) ⟨hx, hb, hml, hown, hts⟩ (c_X2_tryAllSets l D cA ad N _ _ hc5 _) (cwV 0 hts gX5_valueByTrying_X2_tryAllSets rfl rfl rfl (by decide +kernel) ⟨Nat.le_of_ble_eq_true rfl, Nat.le_of_ble_eq_true rfl⟩) (sg_pre hK hP hD (ci := 4) (q0 := 5) rfl rfl) rfl rfl hl.1 rfl (lv_room (Nat.le_of_ble_eq_true rfl)) dX5_valueByTrying_8 ⟨Nat.le_of_ble_eq_true rfl, Nat.le_of_ble_eq_true rfl⟩) hD hS hA (fun H locs hP hD hS => ?_)
  refine lv_aload_n hx hb dX5_valueByTrying_11 rfl (lv_at hl 0 rfl) ?_
  refine va_get (D := D) (ci := 7) (C := RX5) (T := TX5) (N := 6) hx hb hts hinX5 hown hK.1 hP 0 rfl rfl 4 (by decide) (hts (.fieldLink RX5 46 "Switchgear" "planner" "LSwitchgear$Planner;") (by decide +kernel)) (fun _ h9 => h9) rfl dX5_valueByTrying_12 ?_
  refine va_getN (D := D) (ci := 4) (C := RX2) (T := TX2) (N := 5) (host := RX5) (ref := RX2) hx hb hts hinX2 hown hK.1 hP 5 rfl rfl 4 (by decide) (va_Nw.use rfl (hK.2 _ (List.mem_of_getElem? (i := 16) rfl))) (fun _ h9 => h9) rfl dX5_valueByTrying_15 ?_
  have hq := Option.some.inj hf
  exact sg_ti hx hb hr rfl hP hD hS dX5_valueByTrying_18 hq hlocks (by decide) (by decide)
set_option maxRecDepth 100000 in
set_option maxHeartbeats 4000000 in
theorem c_X5_weight (l : Launch) (hlt : l.stackTraces = false) (D : va_G) (cA : Nat → ClassId) (ad : Nat → Nat) (N : Nat) (u : sg_St) (p1 : Int32) (R : (Nat ⊕ Int32) × sg_St) (hf : fX5_weight N u p1 = some R) : sg_TI l D cA (sg_WX cA ad) yX5_weight wsX5_weight ({ frames := 9, cells := 2, slots := 12, locals := 421 }) [.ref (ad 0), .int p1] u 2 12 R := by
  intro sz
  refine vx_ofW (cc := cX5_weight) (maxL := 2) (ret := (some .int)) (by decide) rfl ?_
  intro p e s m args below meth c s₁ B hml htab hv
  obtain ⟨rfl, ⟨hsz, hP, hK, hD0⟩, hT⟩ := hv
  have hx := B.exec
  have hb := B.bytes
  have hr := B.returns
  have hts := atoms_spec (ws := wsX5_weight) B.pre
  have hown : s.vm.findClass RX5 = some m.cls := findClass_of_methodNamed B.named
  have hlocks := B.notSynchronized
  subst hsz
  have hD := hD0.self (sz := s.heap.size)
  generalize hAe : va_A (sg_WX cA ad u) s.heap.size = A at hD hT ⊢
  have hA : ∀ q : Nat, s.heap.size ≤ q → A q := fun q h => by rw [← hAe]; exact Or.inr h
  have hS : va_S A s.heap s.heap [] := va_S.rf
  have hl := lv_entry ([.ref (ad 0), .int p1]) (n := 2) (Nat.le_of_ble_eq_true rfl)
  rw [lg_entry_eq]
  generalize (lg_sl ([.ref (ad 0), .int p1]) ++ List.replicate (2 - (lg_sl ([.ref (ad 0), .int p1])).length) Slot.unset).toArray = ls at hl ⊢
  replace hl : lv_has ls 2 [(0, .ref (ad 0)), (1, .int p1)] := hl
  have hinX5 : ∀ w ∈ u_ws RX5 TX5 6, w ∈ wsX5_weight := by decide +kernel
  unfold fX5_weight at hf
  refine lv_aload_n hx hb dX5_weight_0 rfl (lv_at hl 0 rfl) ?_
  refine lv_iload_n hx hb dX5_weight_1 rfl (lv_at hl 1 rfl) ?_
  obtain ⟨x4, hc1, hxx4, hf⟩ := sg_bt_s hf
  refine sg_xv (vx_runV (As := [.int p1]) (rest := []) ⟨hx, hb, hml, hown, hts⟩ (c_X5_needNode l hlt D cA ad N _ _ x4 hc1 _) (cwV 1 hts gX5_weight_X5_needNode rfl rfl rfl (by decide +kernel) ⟨Nat.le_of_ble_eq_true rfl, Nat.le_of_ble_eq_true rfl⟩) (sg_preT hK hP hD hT hS hA (ci := 7) (q0 := 0) rfl rfl) rfl rfl hl.1 rfl (lv_room (Nat.le_of_ble_eq_true rfl)) dX5_weight_2 ⟨Nat.le_of_ble_eq_true rfl, Nat.le_of_ble_eq_true rfl⟩) hD hS hA htab hlocks (by decide) (by decide) hxx4 (fun u3 H locs hrx4 hP hD hS => ?_)
  replace hf := hf _ _ hrx4
  refine lv_aload_n hx hb dX5_weight_5 rfl (lv_at hl 0 rfl) ?_
  refine lv_iload_n hx hb dX5_weight_6 rfl (lv_at hl 1 rfl) ?_
  obtain ⟨x8, hc5, hxx8, hf⟩ := sg_bt_s hf
  refine sg_xv (vx_runV (As := [.int p1]) (rest := []) ⟨hx, hb, hml, hown, hts⟩ (c_X5_needBus l hlt D cA ad N _ _ x8 hc5 _) (cwV 1 hts gX5_weight_X5_needBus rfl rfl rfl (by decide +kernel) ⟨Nat.le_of_ble_eq_true rfl, Nat.le_of_ble_eq_true rfl⟩) (sg_preT hK hP hD hT hS hA (ci := 7) (q0 := 0) rfl rfl) rfl rfl hl.1 rfl (lv_room (Nat.le_of_ble_eq_true rfl)) dX5_weight_7 ⟨Nat.le_of_ble_eq_true rfl, Nat.le_of_ble_eq_true rfl⟩) hD hS hA htab hlocks (by decide) (by decide) hxx8 (fun u7 H locs hrx8 hP hD hS => ?_)
  replace hf := hf _ _ hrx8
  refine lv_aload_n hx hb dX5_weight_10 rfl (lv_at hl 0 rfl) ?_
  refine va_get (D := D) (ci := 7) (C := RX5) (T := TX5) (N := 6) hx hb hts hinX5 hown hK.1 hP 0 rfl rfl 0 (by decide) (hts (.fieldLink RX5 10 "Switchgear" "grid" "LSwitchgear$Grid;") (by decide +kernel)) (fun _ h9 => h9) rfl dX5_weight_11 ?_
  refine lv_iload_n hx hb dX5_weight_14 rfl (lv_at hl 1 rfl) ?_
  obtain ⟨r10, hc9, hf⟩ := sg_b_s hf
  refine sg_ci0 (va_runS (As := [.int p1]) (rest := [.ref (ad 1)]) ⟨hx, hb, hml, hown, hts⟩ (c_X5_bit l D cA N _ _ hc9 _) (va_cwS 1 hts gX5_weight_X5_bit rfl rfl rfl (by decide +kernel) ⟨Nat.le_of_ble_eq_true rfl, Nat.le_of_ble_eq_true rfl⟩) (sg_pre0 hK) rfl rfl hl.1 rfl (lv_room (Nat.le_of_ble_eq_true rfl)) dX5_weight_15 ⟨Nat.le_of_ble_eq_true rfl, Nat.le_of_ble_eq_true rfl⟩) hP hS hA (fun H locs hP hS => ?_)
  obtain ⟨r13, hc12, hf⟩ := sg_b_s hf
  refine sg_ci (va_runV (As := [.int r10]) (rest := []) ⟨hx, hb, hml, hown, hts⟩ (c_X1_weightIn l D cA ad N _ _ _ hc12 _) (cwV 1 hts gX5_weight_X1_weightIn rfl rfl rfl (by decide +kernel) ⟨Nat.le_of_ble_eq_true rfl, Nat.le_of_ble_eq_true rfl⟩) (sg_pre hK hP hD (ci := 3) (q0 := 1) rfl rfl) rfl rfl hl.1 rfl (lv_room (Nat.le_of_ble_eq_true rfl)) dX5_weight_18 ⟨Nat.le_of_ble_eq_true rfl, Nat.le_of_ble_eq_true rfl⟩) hD hS hA (fun H locs hP hD hS => ?_)
  have hq := Option.some.inj hf
  exact sg_ti hx hb hr rfl hP hD hS dX5_weight_21 hq hlocks (by decide) (by decide)
set_option maxRecDepth 100000 in
set_option maxHeartbeats 4000000 in
theorem c_X5_wouldTrip (l : Launch) (hlt : l.stackTraces = false) (D : va_G) (cA : Nat → ClassId) (ad : Nat → Nat) (N : Nat) (u : sg_St) (p1 : Int32) (R : (Nat ⊕ Int32) × sg_St) (hf : fX5_wouldTrip N u p1 = some R) : sg_TI l D cA (sg_WX cA ad) yX5_wouldTrip wsX5_wouldTrip ({ frames := 17, cells := 1, slots := 6, locals := 462 }) [.ref (ad 0), .int p1] u 1 6 R := by
  intro sz
  refine vx_ofW (cc := cX5_wouldTrip) (maxL := 2) (ret := (some .int)) (by decide) rfl ?_
  intro p e s m args below meth c s₁ B hml htab hv
  obtain ⟨rfl, ⟨hsz, hP, hK, hD0⟩, hT⟩ := hv
  have hx := B.exec
  have hb := B.bytes
  have hr := B.returns
  have hts := atoms_spec (ws := wsX5_wouldTrip) B.pre
  have hown : s.vm.findClass RX5 = some m.cls := findClass_of_methodNamed B.named
  have hlocks := B.notSynchronized
  subst hsz
  have hD := hD0.self (sz := s.heap.size)
  generalize hAe : va_A (sg_WX cA ad u) s.heap.size = A at hD hT ⊢
  have hA : ∀ q : Nat, s.heap.size ≤ q → A q := fun q h => by rw [← hAe]; exact Or.inr h
  have hS : va_S A s.heap s.heap [] := va_S.rf
  have hl := lv_entry ([.ref (ad 0), .int p1]) (n := 2) (Nat.le_of_ble_eq_true rfl)
  rw [lg_entry_eq]
  generalize (lg_sl ([.ref (ad 0), .int p1]) ++ List.replicate (2 - (lg_sl ([.ref (ad 0), .int p1])).length) Slot.unset).toArray = ls at hl ⊢
  replace hl : lv_has ls 2 [(0, .ref (ad 0)), (1, .int p1)] := hl
  have hinX4 : ∀ w ∈ u_ws RX4 TX4 5, w ∈ wsX5_wouldTrip := by decide +kernel
  have hinX5 : ∀ w ∈ u_ws RX5 TX5 6, w ∈ wsX5_wouldTrip := by decide +kernel
  unfold fX5_wouldTrip at hf
  refine lv_aload_n hx hb dX5_wouldTrip_0 rfl (lv_at hl 0 rfl) ?_
  refine lv_iload_n hx hb dX5_wouldTrip_1 rfl (lv_at hl 1 rfl) ?_
  obtain ⟨x4, hc1, hxx4, hf⟩ := sg_bt_s hf
  refine sg_xv (vx_runV (As := [.int p1]) (rest := []) ⟨hx, hb, hml, hown, hts⟩ (c_X5_needLine l hlt D cA ad N _ _ x4 hc1 _) (cwV 1 hts gX5_wouldTrip_X5_needLine rfl rfl rfl (by decide +kernel) ⟨Nat.le_of_ble_eq_true rfl, Nat.le_of_ble_eq_true rfl⟩) (sg_preT hK hP hD hT hS hA (ci := 7) (q0 := 0) rfl rfl) rfl rfl hl.1 rfl (lv_room (Nat.le_of_ble_eq_true rfl)) dX5_wouldTrip_2 ⟨Nat.le_of_ble_eq_true rfl, Nat.le_of_ble_eq_true rfl⟩) hD hS hA htab hlocks (by decide) (by decide) hxx4 (fun u3 H locs hrx4 hP hD hS => ?_)
  replace hf := hf _ _ hrx4
  refine lv_aload_n hx hb dX5_wouldTrip_5 rfl (lv_at hl 0 rfl) ?_
  refine va_get (D := D) (ci := 7) (C := RX5) (T := TX5) (N := 6) hx hb hts hinX5 hown hK.1 hP 0 rfl rfl 3 (by decide) (hts (.fieldLink RX5 37 "Switchgear" "protection" "LSwitchgear$Protection;") (by decide +kernel)) (fun _ h9 => h9) rfl dX5_wouldTrip_6 ?_
  refine lv_iload_n hx hb dX5_wouldTrip_9 rfl (lv_at hl 1 rfl) ?_
  refine lv_aload_n hx hb dX5_wouldTrip_10 rfl (lv_at hl 0 rfl) ?_
  refine va_get (D := D) (ci := 7) (C := RX5) (T := TX5) (N := 6) hx hb hts hinX5 hown hK.1 hP 0 rfl rfl 2 (by decide) (hts (.fieldLink RX5 30 "Switchgear" "switches" "LSwitchgear$Switches;") (by decide +kernel)) (fun _ h9 => h9) rfl dX5_wouldTrip_11 ?_
  refine va_getN (D := D) (ci := 6) (C := RX4) (T := TX4) (N := 5) (host := RX5) (ref := RX4) hx hb hts hinX4 hown hK.1 hP 3 rfl rfl 2 (by decide) (va_Nw.use rfl (hK.2 _ (List.mem_of_getElem? (i := 10) rfl))) (fun _ h9 => h9) rfl dX5_wouldTrip_14 ?_
  obtain ⟨r6, u7, hc5, hf⟩ := sg_b2_s hf
  refine sg_ci (va_runV (As := [.int p1, .int (u3 4 0)]) (rest := []) ⟨hx, hb, hml, hown, hts⟩ (c_X3_answerTo l D cA ad N _ _ _ _ _ hc5 _) (cwV 2 hts gX5_wouldTrip_X3_answerTo rfl rfl rfl (by decide +kernel) ⟨Nat.le_of_ble_eq_true rfl, Nat.le_of_ble_eq_true rfl⟩) (sg_pre hK hP hD (ci := 5) (q0 := 4) rfl rfl) rfl rfl hl.1 rfl (lv_room (Nat.le_of_ble_eq_true rfl)) dX5_wouldTrip_17 ⟨Nat.le_of_ble_eq_true rfl, Nat.le_of_ble_eq_true rfl⟩) hD hS hA (fun H locs hP hD hS => ?_)
  have hq := Option.some.inj hf
  exact sg_ti hx hb hr rfl hP hD hS dX5_wouldTrip_20 hq hlocks (by decide) (by decide)
