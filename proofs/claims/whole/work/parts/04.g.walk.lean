set_option maxRecDepth 100000 in
set_option maxHeartbeats 4000000 in
theorem c_X6_isSource (l : Launch) (D : va_G) (cA : Nat → ClassId) (ad : Nat → Nat) (N : Nat) (u : sg_St) (p1 : Int32) (r : Int32) (u' : sg_St) (hf : fX6_isSource N u p1 = some (r, u')) : sg_CI l D cA (sg_WM cA ad) yX6_isSource wsX6_isSource ({ frames := 2, cells := 0, slots := 0, locals := 43 }) [.ref (ad 0), .int p1] u r u' := by
  intro sz
  refine Met.ofW (cc := cX6_isSource) (maxL := 2) (ret := (some .boolean)) (by decide) rfl ?_
  intro p e s m args below meth c s₁ B hml hv
  obtain ⟨rfl, hsz, hP, hK, hD0⟩ := hv
  have hx := B.exec
  have hb := B.bytes
  have hr := B.returns
  have hts := atoms_spec (ws := wsX6_isSource) B.pre
  have hown : s.vm.findClass RX6 = some m.cls := findClass_of_methodNamed B.named
  have hlocks := B.notSynchronized
  subst hsz
  have hD := hD0.self (sz := s.heap.size)
  generalize hAe : va_A (sg_WM cA ad u) s.heap.size = A at hD ⊢
  have hA : ∀ q : Nat, s.heap.size ≤ q → A q := fun q h => by rw [← hAe]; exact Or.inr h
  have hS : va_S A s.heap s.heap [] := va_S.rf
  have hl := lv_entry ([.ref (ad 0), .int p1]) (n := 2) (Nat.le_of_ble_eq_true rfl)
  rw [lg_entry_eq]
  generalize (lg_sl ([.ref (ad 0), .int p1]) ++ List.replicate (2 - (lg_sl ([.ref (ad 0), .int p1])).length) Slot.unset).toArray = ls at hl ⊢
  replace hl : lv_has ls 2 [(0, .ref (ad 0)), (1, .int p1)] := hl
  have hinX6 : ∀ w ∈ u_ws RX6 TX6 27, w ∈ wsX6_isSource := by decide +kernel
  have hJ25 : ∀ (u : sg_St) (H : Heap) (locs : List Loc) (ls : Array Slot), fX6_isSource_j25 N u  = some (r, u') → va_P D vwCl (sg_WM cA ad u) H → va_D A (sg_WM cA ad u) → va_S A s.heap H locs → lv_has ls 2 [(0, .ref (ad 0))] → W p l e (headSpec wsX6_isSource ({ frames := 2, cells := 0, slots := 0, locals := 43 })).room s m ([.ref (ad 0), .int p1] : List Value).toArray below meth c H locs 0 0 (MQ below (va_Qi (fun x y => x = r ∧ y = u') (sg_BX D (sg_WM cA ad) A) A) ([.ref (ad 0), .int p1] : List Value).toArray s 0 0 A) (F0 m 25 ls []) := by
    intro u H locs ls hf hP hD hS hl
    unfold fX6_isSource_j25 at hf
    refine lv_iconst (v := 0) hx hb dX6_isSource_25 (by decide) ?_
    have hq := Option.some.inj hf
    exact sg_zret hx hb hr rfl hP hD hS dX6_isSource_26 (congrArg Prod.fst hq) (congrArg Prod.snd hq) hlocks
  unfold fX6_isSource at hf
  refine lv_aload_n hx hb dX6_isSource_0 rfl (lv_at hl 0 rfl) ?_
  refine lv_aload_n hx hb dX6_isSource_1 rfl (lv_at hl 0 rfl) ?_
  refine lv_iload_n hx hb dX6_isSource_2 rfl (lv_at hl 1 rfl) ?_
  obtain ⟨r2, hc1, hf⟩ := sg_b_s hf
  refine sg_ci (va_runV (As := [.int p1]) (rest := [.ref (ad 0)]) ⟨hx, hb, hml, hown, hts⟩ (c_X6_isNode l D cA ad N _ _ _ hc1 _) (cwV 1 hts gX6_isSource_X6_isNode rfl rfl rfl (by decide +kernel) ⟨Nat.le_of_ble_eq_true rfl, Nat.le_of_ble_eq_true rfl⟩) (sg_pre hK hP hD (ci := 8) (q0 := 0) rfl rfl) rfl rfl hl.1 rfl (lv_room (Nat.le_of_ble_eq_true rfl)) dX6_isSource_3 ⟨Nat.zero_le _, Nat.zero_le _⟩) hD hS hA (fun H locs hP hD hS => ?_)
  obtain ⟨r5, u6, hc4, hf⟩ := sg_b2_s hf
  refine sg_ci (va_runV (As := [.int r2]) (rest := []) ⟨hx, hb, hml, hown, hts⟩ (c_X6_isThere l D cA ad N _ _ _ _ hc4 _) (cwV 1 hts gX6_isSource_X6_isThere rfl rfl rfl (by decide +kernel) ⟨Nat.le_of_ble_eq_true rfl, Nat.le_of_ble_eq_true rfl⟩) (sg_pre hK hP hD (ci := 8) (q0 := 0) rfl rfl) rfl rfl hl.1 rfl (lv_room (Nat.le_of_ble_eq_true rfl)) dX6_isSource_6 ⟨Nat.zero_le _, Nat.zero_le _⟩) hD hS hA (fun H locs hP hD hS => ?_)
  refine lv_if_eq (tgt := 25) hx hb dX6_isSource_9 (by decide) (fun c9 => ?_) (fun c9 => ?_)
  · have hf := sg_ip c9 hf
    exact hJ25 _ _ _ _ hf hP hD hS (lv_sub hl [0] rfl)
  · have hf := sg_in c9 hf
    refine lv_aload_n hx hb dX6_isSource_12 rfl (lv_at hl 0 rfl) ?_
    refine va_get (D := D) (ci := 8) (C := RX6) (T := TX6) (N := 27) hx hb hts hinX6 hown hK.1 hP 0 rfl rfl 4 (by decide) (hts (.fieldLink RX6 7 "SwitchgearModel" "isSource" "[Z") (by decide +kernel)) (fun _ h9 => h9) rfl dX6_isSource_13 ?_
    refine lv_iload_n hx hb dX6_isSource_16 rfl (lv_at hl 1 rfl) ?_
    obtain ⟨hg7, hf⟩ := sg_g_s hf
    refine va_zald hx hb hK.1 hP 1 1 rfl rfl (sg_inb_s hg7) dX6_isSource_17 ?_
    refine lv_if_eq (tgt := 25) hx hb dX6_isSource_18 (by decide) (fun c8 => ?_) (fun c8 => ?_)
    · have hf := sg_ip c8 hf
      exact hJ25 _ _ _ _ hf hP hD hS (lv_sub hl [0] rfl)
    · have hf := sg_in c8 hf
      refine lv_iconst (v := 1) hx hb dX6_isSource_21 (by decide) ?_
      refine lv_goto (tgt := 26) hx hb dX6_isSource_22 (by decide) ?_
      have hq := Option.some.inj hf
      exact sg_zret hx hb hr rfl hP hD hS dX6_isSource_26 (congrArg Prod.fst hq) (congrArg Prod.snd hq) hlocks
set_option maxRecDepth 100000 in
set_option maxHeartbeats 4000000 in
theorem c_X6_islandOf (l : Launch) (D : va_G) (cA : Nat → ClassId) (ad : Nat → Nat) (N : Nat) (u : sg_St) (p1 : Int32) (r : Int32) (u' : sg_St) (hf : fX6_islandOf N u p1 = some (r, u')) : sg_CI l D cA (sg_WM cA ad) yX6_islandOf wsX6_islandOf ({ frames := 3, cells := 0, slots := 0, locals := 64 }) [.ref (ad 0), .int p1] u r u' := by
  intro sz
  refine Met.ofW (cc := cX6_islandOf) (maxL := 2) (ret := (some .int)) (by decide) rfl ?_
  intro p e s m args below meth c s₁ B hml hv
  obtain ⟨rfl, hsz, hP, hK, hD0⟩ := hv
  have hx := B.exec
  have hb := B.bytes
  have hr := B.returns
  have hts := atoms_spec (ws := wsX6_islandOf) B.pre
  have hown : s.vm.findClass RX6 = some m.cls := findClass_of_methodNamed B.named
  have hlocks := B.notSynchronized
  subst hsz
  have hD := hD0.self (sz := s.heap.size)
  generalize hAe : va_A (sg_WM cA ad u) s.heap.size = A at hD ⊢
  have hA : ∀ q : Nat, s.heap.size ≤ q → A q := fun q h => by rw [← hAe]; exact Or.inr h
  have hS : va_S A s.heap s.heap [] := va_S.rf
  have hl := lv_entry ([.ref (ad 0), .int p1]) (n := 2) (Nat.le_of_ble_eq_true rfl)
  rw [lg_entry_eq]
  generalize (lg_sl ([.ref (ad 0), .int p1]) ++ List.replicate (2 - (lg_sl ([.ref (ad 0), .int p1])).length) Slot.unset).toArray = ls at hl ⊢
  replace hl : lv_has ls 2 [(0, .ref (ad 0)), (1, .int p1)] := hl
  have hinX6 : ∀ w ∈ u_ws RX6 TX6 27, w ∈ wsX6_islandOf := by decide +kernel
  unfold fX6_islandOf at hf
  refine lv_aload_n hx hb dX6_islandOf_0 rfl (lv_at hl 0 rfl) ?_
  refine lv_iload_n hx hb dX6_islandOf_1 rfl (lv_at hl 1 rfl) ?_
  obtain ⟨r2, u3, hc1, hf⟩ := sg_b2_s hf
  refine sg_ci (va_runV (As := [.int p1]) (rest := []) ⟨hx, hb, hml, hown, hts⟩ (c_X6_isPainted l D cA ad N _ _ _ _ hc1 _) (cwV 1 hts gX6_islandOf_X6_isPainted rfl rfl rfl (by decide +kernel) ⟨Nat.le_of_ble_eq_true rfl, Nat.le_of_ble_eq_true rfl⟩) (sg_pre hK hP hD (ci := 8) (q0 := 0) rfl rfl) rfl rfl hl.1 rfl (lv_room (Nat.le_of_ble_eq_true rfl)) dX6_islandOf_2 ⟨Nat.zero_le _, Nat.zero_le _⟩) hD hS hA (fun H locs hP hD hS => ?_)
  refine lv_if_eq (tgt := 17) hx hb dX6_islandOf_5 (by decide) (fun c5 => ?_) (fun c5 => ?_)
  · have hf := sg_ip c5 hf
    refine lv_iconst (v := 0) hx hb dX6_islandOf_17 (by decide) ?_
    have hq := Option.some.inj hf
    exact sg_iret hx hb hr hP hD hS dX6_islandOf_18 (congrArg Prod.fst hq) (congrArg Prod.snd hq) hlocks
  · have hf := sg_in c5 hf
    refine lv_aload_n hx hb dX6_islandOf_8 rfl (lv_at hl 0 rfl) ?_
    refine va_get (D := D) (ci := 8) (C := RX6) (T := TX6) (N := 27) hx hb hts hinX6 hown hK.1 hP 0 rfl rfl 18 (by decide) (hts (.fieldLink RX6 53 "SwitchgearModel" "island" "[I") (by decide +kernel)) (fun _ h9 => h9) rfl dX6_islandOf_9 ?_
    refine lv_iload_n hx hb dX6_islandOf_12 rfl (lv_at hl 1 rfl) ?_
    obtain ⟨hg4, hf⟩ := sg_g_s hf
    refine va_iald hx hb hK.1 hP 15 0 rfl rfl (sg_inb_s hg4) dX6_islandOf_13 ?_
    refine lv_goto (tgt := 18) hx hb dX6_islandOf_14 (by decide) ?_
    have hq := Option.some.inj hf
    exact sg_iret hx hb hr hP hD hS dX6_islandOf_18 (congrArg Prod.fst hq) (congrArg Prod.snd hq) hlocks
set_option maxRecDepth 100000 in
set_option maxHeartbeats 4000000 in
theorem c_X6_islandByRounds (l : Launch) (D : va_G) (cA : Nat → ClassId) (ad : Nat → Nat) (N : Nat) (u : sg_St) (p1 : Int32) (r : Int32) (u' : sg_St) (hf : fX6_islandByRounds N u p1 = some (r, u')) : sg_CI l D cA (sg_WM cA ad) yX6_islandByRounds wsX6_islandByRounds ({ frames := 4, cells := 0, slots := 0, locals := 85 }) [.ref (ad 0), .int p1] u r u' := by
  intro sz
  refine Met.ofW (cc := cX6_islandByRounds) (maxL := 2) (ret := (some .int)) (by decide) rfl ?_
  intro p e s m args below meth c s₁ B hml hv
  obtain ⟨rfl, hsz, hP, hK, hD0⟩ := hv
  have hx := B.exec
  have hb := B.bytes
  have hr := B.returns
  have hts := atoms_spec (ws := wsX6_islandByRounds) B.pre
  have hown : s.vm.findClass RX6 = some m.cls := findClass_of_methodNamed B.named
  have hlocks := B.notSynchronized
  subst hsz
  have hD := hD0.self (sz := s.heap.size)
  generalize hAe : va_A (sg_WM cA ad u) s.heap.size = A at hD ⊢
  have hA : ∀ q : Nat, s.heap.size ≤ q → A q := fun q h => by rw [← hAe]; exact Or.inr h
  have hS : va_S A s.heap s.heap [] := va_S.rf
  have hl := lv_entry ([.ref (ad 0), .int p1]) (n := 2) (Nat.le_of_ble_eq_true rfl)
  rw [lg_entry_eq]
  generalize (lg_sl ([.ref (ad 0), .int p1]) ++ List.replicate (2 - (lg_sl ([.ref (ad 0), .int p1])).length) Slot.unset).toArray = ls at hl ⊢
  replace hl : lv_has ls 2 [(0, .ref (ad 0)), (1, .int p1)] := hl
  unfold fX6_islandByRounds at hf
  refine lv_aload_n hx hb dX6_islandByRounds_0 rfl (lv_at hl 0 rfl) ?_
  refine lv_iload_n hx hb dX6_islandByRounds_1 rfl (lv_at hl 1 rfl) ?_
  obtain ⟨r2, u3, hc1, hf⟩ := sg_b2_s hf
  refine sg_ci (va_runV (As := [.int p1]) (rest := []) ⟨hx, hb, hml, hown, hts⟩ (c_X6_islandOf l D cA ad N _ _ _ _ hc1 _) (cwV 1 hts gX6_islandByRounds_X6_islandOf rfl rfl rfl (by decide +kernel) ⟨Nat.le_of_ble_eq_true rfl, Nat.le_of_ble_eq_true rfl⟩) (sg_pre hK hP hD (ci := 8) (q0 := 0) rfl rfl) rfl rfl hl.1 rfl (lv_room (Nat.le_of_ble_eq_true rfl)) dX6_islandByRounds_2 ⟨Nat.zero_le _, Nat.zero_le _⟩) hD hS hA (fun H locs hP hD hS => ?_)
  have hq := Option.some.inj hf
  exact sg_iret hx hb hr hP hD hS dX6_islandByRounds_5 (congrArg Prod.fst hq) (congrArg Prod.snd hq) hlocks
set_option maxRecDepth 100000 in
set_option maxHeartbeats 4000000 in
theorem c_X6_islandLoad (l : Launch) (D : va_G) (cA : Nat → ClassId) (ad : Nat → Nat) (N : Nat) (u : sg_St) (p1 : Int32) (r : Int32) (u' : sg_St) (hf : fX6_islandLoad N u p1 = some (r, u')) : sg_CI l D cA (sg_WM cA ad) yX6_islandLoad wsX6_islandLoad ({ frames := 3, cells := 0, slots := 0, locals := 64 }) [.ref (ad 0), .int p1] u r u' := by
  intro sz
  refine Met.ofW (cc := cX6_islandLoad) (maxL := 2) (ret := (some .int)) (by decide) rfl ?_
  intro p e s m args below meth c s₁ B hml hv
  obtain ⟨rfl, hsz, hP, hK, hD0⟩ := hv
  have hx := B.exec
  have hb := B.bytes
  have hr := B.returns
  have hts := atoms_spec (ws := wsX6_islandLoad) B.pre
  have hown : s.vm.findClass RX6 = some m.cls := findClass_of_methodNamed B.named
  have hlocks := B.notSynchronized
  subst hsz
  have hD := hD0.self (sz := s.heap.size)
  generalize hAe : va_A (sg_WM cA ad u) s.heap.size = A at hD ⊢
  have hA : ∀ q : Nat, s.heap.size ≤ q → A q := fun q h => by rw [← hAe]; exact Or.inr h
  have hS : va_S A s.heap s.heap [] := va_S.rf
  have hl := lv_entry ([.ref (ad 0), .int p1]) (n := 2) (Nat.le_of_ble_eq_true rfl)
  rw [lg_entry_eq]
  generalize (lg_sl ([.ref (ad 0), .int p1]) ++ List.replicate (2 - (lg_sl ([.ref (ad 0), .int p1])).length) Slot.unset).toArray = ls at hl ⊢
  replace hl : lv_has ls 2 [(0, .ref (ad 0)), (1, .int p1)] := hl
  have hinX6 : ∀ w ∈ u_ws RX6 TX6 27, w ∈ wsX6_islandLoad := by decide +kernel
  unfold fX6_islandLoad at hf
  refine lv_aload_n hx hb dX6_islandLoad_0 rfl (lv_at hl 0 rfl) ?_
  refine lv_iload_n hx hb dX6_islandLoad_1 rfl (lv_at hl 1 rfl) ?_
  obtain ⟨r2, u3, hc1, hf⟩ := sg_b2_s hf
  refine sg_ci (va_runV (As := [.int p1]) (rest := []) ⟨hx, hb, hml, hown, hts⟩ (c_X6_isPainted l D cA ad N _ _ _ _ hc1 _) (cwV 1 hts gX6_islandLoad_X6_isPainted rfl rfl rfl (by decide +kernel) ⟨Nat.le_of_ble_eq_true rfl, Nat.le_of_ble_eq_true rfl⟩) (sg_pre hK hP hD (ci := 8) (q0 := 0) rfl rfl) rfl rfl hl.1 rfl (lv_room (Nat.le_of_ble_eq_true rfl)) dX6_islandLoad_2 ⟨Nat.zero_le _, Nat.zero_le _⟩) hD hS hA (fun H locs hP hD hS => ?_)
  refine lv_if_eq (tgt := 21) hx hb dX6_islandLoad_5 (by decide) (fun c8 => ?_) (fun c8 => ?_)
  · have hf := sg_ip c8 hf
    refine lv_iconst (v := 0) hx hb dX6_islandLoad_21 (by decide) ?_
    have hq := Option.some.inj hf
    exact sg_iret hx hb hr hP hD hS dX6_islandLoad_22 (congrArg Prod.fst hq) (congrArg Prod.snd hq) hlocks
  · have hf := sg_in c8 hf
    refine lv_aload_n hx hb dX6_islandLoad_8 rfl (lv_at hl 0 rfl) ?_
    refine lv_aload_n hx hb dX6_islandLoad_9 rfl (lv_at hl 0 rfl) ?_
    refine va_get (D := D) (ci := 8) (C := RX6) (T := TX6) (N := 27) hx hb hts hinX6 hown hK.1 hP 0 rfl rfl 18 (by decide) (hts (.fieldLink RX6 53 "SwitchgearModel" "island" "[I") (by decide +kernel)) (fun _ h9 => h9) rfl dX6_islandLoad_10 ?_
    refine lv_iload_n hx hb dX6_islandLoad_13 rfl (lv_at hl 1 rfl) ?_
    obtain ⟨hg4, hf⟩ := sg_g_s hf
    refine va_iald hx hb hK.1 hP 15 0 rfl rfl (sg_inb_s hg4) dX6_islandLoad_14 ?_
    obtain ⟨r6, hc5, hf⟩ := sg_b_s hf
    refine sg_ci (va_runV (As := [.int (u3 22 (p1).toNatClampNeg)]) (rest := []) ⟨hx, hb, hml, hown, hts⟩ (c_X6_sum l D cA ad N _ _ _ hc5 _) (cwV 1 hts gX6_islandLoad_X6_sum rfl rfl rfl (by decide +kernel) ⟨Nat.le_of_ble_eq_true rfl, Nat.le_of_ble_eq_true rfl⟩) (sg_pre hK hP hD (ci := 8) (q0 := 0) rfl rfl) rfl rfl hl.1 rfl (lv_room (Nat.le_of_ble_eq_true rfl)) dX6_islandLoad_15 ⟨Nat.zero_le _, Nat.zero_le _⟩) hD hS hA (fun H locs hP hD hS => ?_)
    refine lv_goto (tgt := 22) hx hb dX6_islandLoad_18 (by decide) ?_
    have hq := Option.some.inj hf
    exact sg_iret hx hb hr hP hD hS dX6_islandLoad_22 (congrArg Prod.fst hq) (congrArg Prod.snd hq) hlocks
set_option maxRecDepth 100000 in
set_option maxHeartbeats 4000000 in
theorem c_X6_islands (l : Launch) (D : va_G) (cA : Nat → ClassId) (ad : Nat → Nat) (N : Nat) (u : sg_St) (r : Int32) (u' : sg_St) (hf : fX6_islands N u = some (r, u')) : sg_CI l D cA (sg_WM cA ad) yX6_islands wsX6_islands ({ frames := 1, cells := 0, slots := 0, locals := 25 }) [.ref (ad 0)] u r u' := by
  intro sz
  refine Met.ofW (cc := cX6_islands) (maxL := 3) (ret := (some .int)) (by decide) rfl ?_
  intro p e s m args below meth c s₁ B hml hv
  obtain ⟨rfl, hsz, hP, hK, hD0⟩ := hv
  have hx := B.exec
  have hb := B.bytes
  have hr := B.returns
  have hts := atoms_spec (ws := wsX6_islands) B.pre
  have hown : s.vm.findClass RX6 = some m.cls := findClass_of_methodNamed B.named
  have hlocks := B.notSynchronized
  subst hsz
  have hD := hD0.self (sz := s.heap.size)
  generalize hAe : va_A (sg_WM cA ad u) s.heap.size = A at hD ⊢
  have hA : ∀ q : Nat, s.heap.size ≤ q → A q := fun q h => by rw [← hAe]; exact Or.inr h
  have hS : va_S A s.heap s.heap [] := va_S.rf
  have hl := lv_entry ([.ref (ad 0)]) (n := 3) (Nat.le_of_ble_eq_true rfl)
  rw [lg_entry_eq]
  generalize (lg_sl ([.ref (ad 0)]) ++ List.replicate (3 - (lg_sl ([.ref (ad 0)])).length) Slot.unset).toArray = ls at hl ⊢
  replace hl : lv_has ls 3 [(0, .ref (ad 0))] := hl
  have hinX6 : ∀ w ∈ u_ws RX6 TX6 27, w ∈ wsX6_islands := by decide +kernel
  have hL15 : ∀ (u : sg_St) (n : Nat) (x : Int32 × Int32) (r9 : Int32), sg_it (fun x => fX6_islands_L15 N u x.1 x.2) n x = some r9 → ∀ (H : Heap) (locs : List Loc) (ls : Array Slot), va_P D vwCl (sg_WM cA ad u) H → va_D A (sg_WM cA ad u) → va_S A s.heap H locs → lv_has ls 3 [(0, .ref (ad 0)), (1, .int x.1), (2, .int x.2)] → (∀ (H : Heap) (locs : List Loc) (ls : Array Slot), va_P D vwCl (sg_WM cA ad u) H → va_D A (sg_WM cA ad u) → va_S A s.heap H locs → lv_has ls 3 [(0, .ref (ad 0)), (1, .int r9)] → W p l e (headSpec wsX6_islands ({ frames := 1, cells := 0, slots := 0, locals := 25 })).room s m ([.ref (ad 0)] : List Value).toArray below meth c H locs 0 0 (MQ below (va_Qi (fun x y => x = r ∧ y = u') (sg_BX D (sg_WM cA ad) A) A) ([.ref (ad 0)] : List Value).toArray s 0 0 A) (F0 m 47 ls [])) → W p l e (headSpec wsX6_islands ({ frames := 1, cells := 0, slots := 0, locals := 25 })).room s m ([.ref (ad 0)] : List Value).toArray below meth c H locs 0 0 (MQ below (va_Qi (fun x y => x = r ∧ y = u') (sg_BX D (sg_WM cA ad) A) A) ([.ref (ad 0)] : List Value).toArray s 0 0 A) (F0 m 15 ls []) := by
    intro u
    refine sg_loop _ ?_
    intro x y r9 hf hI hy H locs ls hP hD hS hl hk
    replace hf : fX6_islands_L15 N u x.1 x.2 = some y := hf
    have hJ39 : ∀ (v2 k0 k1 : Int32) (H : Heap) (locs : List Loc) (ls : Array Slot), fX6_islands_j39 N u v2 k0 k1 = some y → va_P D vwCl (sg_WM cA ad u) H → va_D A (sg_WM cA ad u) → va_S A s.heap H locs → lv_has ls 3 [(0, .ref (ad 0)), (2, .int v2)] → W p l e (headSpec wsX6_islands ({ frames := 1, cells := 0, slots := 0, locals := 25 })).room s m ([.ref (ad 0)] : List Value).toArray below meth c H locs 0 0 (MQ below (va_Qi (fun x y => x = r ∧ y = u') (sg_BX D (sg_WM cA ad) A) A) ([.ref (ad 0)] : List Value).toArray s 0 0 A) (F0 m 39 ls [.int k1, .int k0]) := by
      intro v2 k0 k1 H locs ls hf hP hD hS hl
      unfold fX6_islands_j39 at hf
      refine lv_iadd hx hb dX6_islands_39 ?_
      refine lv_istore_n (lv' := [(1, .int (k0 + k1)), (0, .ref (ad 0)), (2, .int v2)]) hx hb dX6_islands_40 rfl hl (by decide) rfl (fun ls hl => ?_)
      refine lv_iinc (v := v2 + 1) (lv' := [(2, .int (v2 + 1)), (1, .int (k0 + k1)), (0, .ref (ad 0))]) hx hb dX6_islands_41 hl (k := 2) rfl rfl (by decide) rfl (fun ls hl => ?_)
      refine lv_goto (tgt := 15) hx hb dX6_islands_44 (by decide) ?_
      exact hI _ (Option.some.inj hf).symm _ _ _ hP hD hS (lv_sub hl [2, 1, 0] rfl) hk
    unfold fX6_islands_L15 at hf
    refine lv_iload_n hx hb dX6_islands_15 rfl (lv_at hl 2 rfl) ?_
    refine lv_aload_n hx hb dX6_islands_16 rfl (lv_at hl 0 rfl) ?_
    refine va_get (D := D) (ci := 8) (C := RX6) (T := TX6) (N := 27) hx hb hts hinX6 hown hK.1 hP 0 rfl rfl 1 (by decide) (hts (.fieldLink RX6 72 "SwitchgearModel" "nodes" "I") (by decide +kernel)) (fun _ h9 => h9) rfl dX6_islands_17 ?_
    refine lv_icmp_ge (tgt := 47) hx hb dX6_islands_20 (by decide) (fun c3 => ?_) (fun c3 => ?_)
    · have hf := sg_ip c3 hf
      have hq := hy _ (Option.some.inj hf).symm
      subst hq
      exact hk _ _ _ hP hD hS (lv_sub hl [0, 1] rfl)
    · have hf := sg_in c3 hf
      refine lv_iload_n hx hb dX6_islands_23 rfl (lv_at hl 1 rfl) ?_
      refine lv_aload_n hx hb dX6_islands_24 rfl (lv_at hl 0 rfl) ?_
      refine va_get (D := D) (ci := 8) (C := RX6) (T := TX6) (N := 27) hx hb hts hinX6 hown hK.1 hP 0 rfl rfl 18 (by decide) (hts (.fieldLink RX6 53 "SwitchgearModel" "island" "[I") (by decide +kernel)) (fun _ h9 => h9) rfl dX6_islands_25 ?_
      refine lv_iload_n hx hb dX6_islands_28 rfl (lv_at hl 2 rfl) ?_
      obtain ⟨hg1, hf⟩ := sg_g_s hf
      refine va_iald hx hb hK.1 hP 15 0 rfl rfl (sg_inb_s hg1) dX6_islands_29 ?_
      refine lv_iload_n hx hb dX6_islands_30 rfl (lv_at hl 2 rfl) ?_
      refine lv_icmp_ne (tgt := 38) hx hb dX6_islands_31 (by decide) (fun c2 => ?_) (fun c2 => ?_)
      · have hf := sg_in c2 hf
        refine lv_iconst (v := 0) hx hb dX6_islands_38 (by decide) ?_
        exact hJ39 _ _ _ _ _ _ hf hP hD hS (lv_sub hl [0, 2] rfl)
      · have hf := sg_ip c2 hf
        refine lv_iconst (v := 1) hx hb dX6_islands_34 (by decide) ?_
        refine lv_goto (tgt := 39) hx hb dX6_islands_35 (by decide) ?_
        exact hJ39 _ _ _ _ _ _ hf hP hD hS (lv_sub hl [0, 2] rfl)
  unfold fX6_islands at hf
  refine lv_aload_n hx hb dX6_islands_0 rfl (lv_at hl 0 rfl) ?_
  refine lv_iconst (v := (-1)) hx hb dX6_islands_1 (by decide) ?_
  refine lv_iconst (v := (-1)) hx hb dX6_islands_2 (by decide) ?_
  obtain ⟨u3, hc1, hf⟩ := sg_b_s hf
  refine sg_cv (va_runV (As := [.int ((-1)), .int ((-1))]) (rest := []) ⟨hx, hb, hml, hown, hts⟩ (c_X6_paints l D cA ad N _ _ _ _ hc1 _) (cwV 2 hts gX6_islands_X6_paints rfl rfl rfl (by decide +kernel) ⟨Nat.le_of_ble_eq_true rfl, Nat.le_of_ble_eq_true rfl⟩) (sg_pre hK hP hD (ci := 8) (q0 := 0) rfl rfl) rfl rfl hl.1 rfl (lv_room (Nat.le_of_ble_eq_true rfl)) dX6_islands_3 ⟨Nat.zero_le _, Nat.zero_le _⟩) hD hS hA (fun H locs hP hD hS => ?_)
  refine lv_aload_n hx hb dX6_islands_6 rfl (lv_at hl 0 rfl) ?_
  refine lv_iconst (v := 0) hx hb dX6_islands_7 (by decide) ?_
  refine va_put (D := D) (ci := 8) (v := .int 0) (ty := .int) (C := RX6) (T := TX6) (N := 27) hx hb hts hinX6 tyX6 tyX6_ok nmX6 hown hK.1 hP hD hS 0 rfl rfl 0 (by decide) (hts (.fieldLink RX6 68 "SwitchgearModel" "thrown" "I") (by decide +kernel)) (fun _ h9 => h9) rfl (by decide +kernel) rfl rfl (Nat.le_of_ble_eq_true rfl) dX6_islands_8 (fun H locs hP hD hS => ?_)
  replace hP : va_P D vwCl (sg_WM cA ad (sg_set u3 0 0 0)) H := by rw [← sg_WM_0]; exact hP
  replace hD : va_D A (sg_WM cA ad (sg_set u3 0 0 0)) := by rw [← sg_WM_0]; exact hD
  refine lv_iconst (v := 0) hx hb dX6_islands_11 (by decide) ?_
  refine lv_istore_n (lv' := [(1, .int 0), (0, .ref (ad 0))]) hx hb dX6_islands_12 rfl hl (by decide) rfl (fun ls hl => ?_)
  refine lv_iconst (v := 0) hx hb dX6_islands_13 (by decide) ?_
  refine lv_istore_n (lv' := [(2, .int 0), (1, .int 0), (0, .ref (ad 0))]) hx hb dX6_islands_14 rfl hl (by decide) rfl (fun ls hl => ?_)
  obtain ⟨e4, hc5, hf⟩ := sg_b_s hf
  refine hL15 _ _ _ e4 hc5 _ _ _ hP hD hS (lv_sub hl [2, 1, 0] rfl) (fun H locs ls hP hD hS hl => ?_)
  refine lv_iload_n hx hb dX6_islands_47 rfl (lv_at hl 1 rfl) ?_
  have hq := Option.some.inj hf
  exact sg_iret hx hb hr hP hD hS dX6_islands_48 (congrArg Prod.fst hq) (congrArg Prod.snd hq) hlocks
set_option maxRecDepth 100000 in
set_option maxHeartbeats 4000000 in
theorem c_X6_lines (l : Launch) (D : va_G) (cA : Nat → ClassId) (ad : Nat → Nat) (N : Nat) (u : sg_St) (r : Int32) (u' : sg_St) (hf : fX6_lines N u = some (r, u')) : sg_CI l D cA (sg_WM cA ad) yX6_lines wsX6_lines ({ frames := 0, cells := 0, slots := 0, locals := 0 }) [.ref (ad 0)] u r u' := by
  intro sz
  refine Met.ofW (cc := cX6_lines) (maxL := 1) (ret := (some .int)) (by decide) rfl ?_
  intro p e s m args below meth c s₁ B hml hv
  obtain ⟨rfl, hsz, hP, hK, hD0⟩ := hv
  have hx := B.exec
  have hb := B.bytes
  have hr := B.returns
  have hts := atoms_spec (ws := wsX6_lines) B.pre
  have hown : s.vm.findClass RX6 = some m.cls := findClass_of_methodNamed B.named
  have hlocks := B.notSynchronized
  subst hsz
  have hD := hD0.self (sz := s.heap.size)
  generalize hAe : va_A (sg_WM cA ad u) s.heap.size = A at hD ⊢
  have hA : ∀ q : Nat, s.heap.size ≤ q → A q := fun q h => by rw [← hAe]; exact Or.inr h
  have hS : va_S A s.heap s.heap [] := va_S.rf
  have hl := lv_entry ([.ref (ad 0)]) (n := 1) (Nat.le_of_ble_eq_true rfl)
  rw [lg_entry_eq]
  generalize (lg_sl ([.ref (ad 0)]) ++ List.replicate (1 - (lg_sl ([.ref (ad 0)])).length) Slot.unset).toArray = ls at hl ⊢
  replace hl : lv_has ls 1 [(0, .ref (ad 0))] := hl
  have hinX6 : ∀ w ∈ u_ws RX6 TX6 27, w ∈ wsX6_lines := by decide +kernel
  unfold fX6_lines at hf
  refine lv_aload_n hx hb dX6_lines_0 rfl (lv_at hl 0 rfl) ?_
  refine lv_iconst (v := 0) hx hb dX6_lines_1 (by decide) ?_
  refine va_put (D := D) (ci := 8) (v := .int 0) (ty := .int) (C := RX6) (T := TX6) (N := 27) hx hb hts hinX6 tyX6 tyX6_ok nmX6 hown hK.1 hP hD hS 0 rfl rfl 0 (by decide) (hts (.fieldLink RX6 68 "SwitchgearModel" "thrown" "I") (by decide +kernel)) (fun _ h9 => h9) rfl (by decide +kernel) rfl rfl (Nat.le_of_ble_eq_true rfl) dX6_lines_2 (fun H locs hP hD hS => ?_)
  replace hP : va_P D vwCl (sg_WM cA ad (sg_set u 0 0 0)) H := by rw [← sg_WM_0]; exact hP
  replace hD : va_D A (sg_WM cA ad (sg_set u 0 0 0)) := by rw [← sg_WM_0]; exact hD
  refine lv_aload_n hx hb dX6_lines_5 rfl (lv_at hl 0 rfl) ?_
  refine va_get (D := D) (ci := 8) (C := RX6) (T := TX6) (N := 27) hx hb hts hinX6 hown hK.1 hP 0 rfl rfl 2 (by decide) (hts (.fieldLink RX6 79 "SwitchgearModel" "lines" "I") (by decide +kernel)) (fun _ h9 => h9) rfl dX6_lines_6 ?_
  have hq := Option.some.inj hf
  exact sg_iret hx hb hr hP hD hS dX6_lines_9 (congrArg Prod.fst hq) (congrArg Prod.snd hq) hlocks
set_option maxRecDepth 100000 in
set_option maxHeartbeats 4000000 in
theorem c_X6_liveShare (l : Launch) (D : va_G) (cA : Nat → ClassId) (ad : Nat → Nat) (N : Nat) (u : sg_St) (r : UInt32) (u' : sg_St) (hf : fX6_liveShare N u = some (r, u')) : sg_CF l D cA (sg_WM cA ad) yX6_liveShare wsX6_liveShare ({ frames := 2, cells := 0, slots := 0, locals := 48 }) [.ref (ad 0)] u r u' := by
  intro sz
  refine Met.ofW (cc := cX6_liveShare) (maxL := 3) (ret := (some .float)) (by decide) rfl ?_
  intro p e s m args below meth c s₁ B hml hv
  obtain ⟨rfl, hsz, hP, hK, hD0⟩ := hv
  have hx := B.exec
  have hb := B.bytes
  have hr := B.returns
  have hts := atoms_spec (ws := wsX6_liveShare) B.pre
  have hown : s.vm.findClass RX6 = some m.cls := findClass_of_methodNamed B.named
  have hlocks := B.notSynchronized
  subst hsz
  have hD := hD0.self (sz := s.heap.size)
  generalize hAe : va_A (sg_WM cA ad u) s.heap.size = A at hD ⊢
  have hA : ∀ q : Nat, s.heap.size ≤ q → A q := fun q h => by rw [← hAe]; exact Or.inr h
  have hS : va_S A s.heap s.heap [] := va_S.rf
  have hl := lv_entry ([.ref (ad 0)]) (n := 3) (Nat.le_of_ble_eq_true rfl)
  rw [lg_entry_eq]
  generalize (lg_sl ([.ref (ad 0)]) ++ List.replicate (3 - (lg_sl ([.ref (ad 0)])).length) Slot.unset).toArray = ls at hl ⊢
  replace hl : lv_has ls 3 [(0, .ref (ad 0))] := hl
  have hinX6 : ∀ w ∈ u_ws RX6 TX6 27, w ∈ wsX6_liveShare := by decide +kernel
  have hJ22 : ∀ (u : sg_St) (v1 v2 k0 : Int32) (H : Heap) (locs : List Loc) (ls : Array Slot), fX6_liveShare_j22 N u v1 v2 k0 = some (r, u') → va_P D vwCl (sg_WM cA ad u) H → va_D A (sg_WM cA ad u) → va_S A s.heap H locs → lv_has ls 3 [(0, .ref (ad 0)), (1, .int v1), (2, .int v2)] → W p l e (headSpec wsX6_liveShare ({ frames := 2, cells := 0, slots := 0, locals := 48 })).room s m ([.ref (ad 0)] : List Value).toArray below meth c H locs 0 0 (MQ below (va_Qf (fun x y => x = r ∧ y = u') (sg_BX D (sg_WM cA ad) A) A) ([.ref (ad 0)] : List Value).toArray s 0 0 A) (F0 m 22 ls [.int k0, .ref (ad 0)]) := by
    intro u v1 v2 k0 H locs ls hf hP hD hS hl
    unfold fX6_liveShare_j22 at hf
    refine va_put (D := D) (ci := 8) (v := .int k0) (ty := .int) (C := RX6) (T := TX6) (N := 27) hx hb hts hinX6 tyX6 tyX6_ok nmX6 hown hK.1 hP hD hS 0 rfl rfl 0 (by decide) (hts (.fieldLink RX6 68 "SwitchgearModel" "thrown" "I") (by decide +kernel)) (fun _ h9 => h9) rfl (by decide +kernel) rfl rfl (Nat.le_of_ble_eq_true rfl) dX6_liveShare_22 (fun H locs hP hD hS => ?_)
    replace hP : va_P D vwCl (sg_WM cA ad (sg_set u 0 0 k0)) H := by rw [← sg_WM_0]; exact hP
    replace hD : va_D A (sg_WM cA ad (sg_set u 0 0 k0)) := by rw [← sg_WM_0]; exact hD
    refine lv_iload_n hx hb dX6_liveShare_25 rfl (lv_at hl 1 rfl) ?_
    refine lv_if_ne (tgt := 33) hx hb dX6_liveShare_26 (by decide) (fun c2 => ?_) (fun c2 => ?_)
    · have hf := sg_in c2 hf
      refine lv_iload_n hx hb dX6_liveShare_33 rfl (lv_at hl 1 rfl) ?_
      refine lv_iload_n hx hb dX6_liveShare_34 rfl (lv_at hl 2 rfl) ?_
      refine lv_isub hx hb dX6_liveShare_35 ?_
      refine lv_i2f hx hb dX6_liveShare_36 ?_
      refine lv_iload_n hx hb dX6_liveShare_37 rfl (lv_at hl 1 rfl) ?_
      refine lv_i2f hx hb dX6_liveShare_38 ?_
      obtain ⟨hg1, hf⟩ := sg_g_s hf
      refine lv_fdiv hx hb dX6_liveShare_39 (sg_n32 hg1) ?_
      have hq := Option.some.inj hf
      exact sg_fret hx hb hr hP hD hS dX6_liveShare_40 (congrArg Prod.fst hq) (congrArg Prod.snd hq) hlocks
    · have hf := sg_ip c2 hf
      refine lv_fconst0 hx hb dX6_liveShare_29 ?_
      refine lv_goto (tgt := 40) hx hb dX6_liveShare_30 (by decide) ?_
      have hq := Option.some.inj hf
      exact sg_fret hx hb hr hP hD hS dX6_liveShare_40 (congrArg Prod.fst hq) (congrArg Prod.snd hq) hlocks
  unfold fX6_liveShare at hf
  refine lv_aload_n hx hb dX6_liveShare_0 rfl (lv_at hl 0 rfl) ?_
  refine lv_iconst (v := 0) hx hb dX6_liveShare_1 (by decide) ?_
  obtain ⟨r2, u3, hc1, hf⟩ := sg_b2_s hf
  refine sg_ci (va_runV (As := [.int 0]) (rest := []) ⟨hx, hb, hml, hown, hts⟩ (c_X6_loads l D cA ad N _ _ _ _ hc1 _) (cwV 1 hts gX6_liveShare_X6_loads rfl rfl rfl (by decide +kernel) ⟨Nat.le_of_ble_eq_true rfl, Nat.le_of_ble_eq_true rfl⟩) (sg_pre hK hP hD (ci := 8) (q0 := 0) rfl rfl) rfl rfl hl.1 rfl (lv_room (Nat.le_of_ble_eq_true rfl)) dX6_liveShare_2 ⟨Nat.zero_le _, Nat.zero_le _⟩) hD hS hA (fun H locs hP hD hS => ?_)
  refine lv_istore_n (lv' := [(1, .int r2), (0, .ref (ad 0))]) hx hb dX6_liveShare_5 rfl hl (by decide) rfl (fun ls hl => ?_)
  refine lv_aload_n hx hb dX6_liveShare_6 rfl (lv_at hl 1 rfl) ?_
  refine lv_iconst (v := 1) hx hb dX6_liveShare_7 (by decide) ?_
  obtain ⟨r5, u6, hc4, hf⟩ := sg_b2_s hf
  refine sg_ci (va_runV (As := [.int 1]) (rest := []) ⟨hx, hb, hml, hown, hts⟩ (c_X6_loads l D cA ad N _ _ _ _ hc4 _) (cwV 1 hts gX6_liveShare_X6_loads rfl rfl rfl (by decide +kernel) ⟨Nat.le_of_ble_eq_true rfl, Nat.le_of_ble_eq_true rfl⟩) (sg_pre hK hP hD (ci := 8) (q0 := 0) rfl rfl) rfl rfl hl.1 rfl (lv_room (Nat.le_of_ble_eq_true rfl)) dX6_liveShare_8 ⟨Nat.zero_le _, Nat.zero_le _⟩) hD hS hA (fun H locs hP hD hS => ?_)
  refine lv_istore_n (lv' := [(2, .int r5), (1, .int r2), (0, .ref (ad 0))]) hx hb dX6_liveShare_11 rfl hl (by decide) rfl (fun ls hl => ?_)
  refine lv_aload_n hx hb dX6_liveShare_12 rfl (lv_at hl 2 rfl) ?_
  refine lv_iload_n hx hb dX6_liveShare_13 rfl (lv_at hl 1 rfl) ?_
  refine lv_if_ne (tgt := 21) hx hb dX6_liveShare_14 (by decide) (fun c7 => ?_) (fun c7 => ?_)
  · have hf := sg_in c7 hf
    refine lv_iconst (v := 0) hx hb dX6_liveShare_21 (by decide) ?_
    exact hJ22 _ _ _ _ _ _ _ hf hP hD hS (lv_sub hl [2, 1, 0] rfl)
  · have hf := sg_ip c7 hf
    refine lv_iconst (v := 1) hx hb dX6_liveShare_17 (by decide) ?_
    refine lv_goto (tgt := 22) hx hb dX6_liveShare_18 (by decide) ?_
    exact hJ22 _ _ _ _ _ _ _ hf hP hD hS (lv_sub hl [2, 1, 0] rfl)
set_option maxRecDepth 100000 in
set_option maxHeartbeats 4000000 in
theorem c_X6_loadOf (l : Launch) (D : va_G) (cA : Nat → ClassId) (ad : Nat → Nat) (N : Nat) (u : sg_St) (p1 : Int32) (r : Int32) (u' : sg_St) (hf : fX6_loadOf N u p1 = some (r, u')) : sg_CI l D cA (sg_WM cA ad) yX6_loadOf wsX6_loadOf ({ frames := 2, cells := 0, slots := 0, locals := 43 }) [.ref (ad 0), .int p1] u r u' := by
  intro sz
  refine Met.ofW (cc := cX6_loadOf) (maxL := 2) (ret := (some .int)) (by decide) rfl ?_
  intro p e s m args below meth c s₁ B hml hv
  obtain ⟨rfl, hsz, hP, hK, hD0⟩ := hv
  have hx := B.exec
  have hb := B.bytes
  have hr := B.returns
  have hts := atoms_spec (ws := wsX6_loadOf) B.pre
  have hown : s.vm.findClass RX6 = some m.cls := findClass_of_methodNamed B.named
  have hlocks := B.notSynchronized
  subst hsz
  have hD := hD0.self (sz := s.heap.size)
  generalize hAe : va_A (sg_WM cA ad u) s.heap.size = A at hD ⊢
  have hA : ∀ q : Nat, s.heap.size ≤ q → A q := fun q h => by rw [← hAe]; exact Or.inr h
  have hS : va_S A s.heap s.heap [] := va_S.rf
  have hl := lv_entry ([.ref (ad 0), .int p1]) (n := 2) (Nat.le_of_ble_eq_true rfl)
  rw [lg_entry_eq]
  generalize (lg_sl ([.ref (ad 0), .int p1]) ++ List.replicate (2 - (lg_sl ([.ref (ad 0), .int p1])).length) Slot.unset).toArray = ls at hl ⊢
  replace hl : lv_has ls 2 [(0, .ref (ad 0)), (1, .int p1)] := hl
  have hinX6 : ∀ w ∈ u_ws RX6 TX6 27, w ∈ wsX6_loadOf := by decide +kernel
  unfold fX6_loadOf at hf
  refine lv_aload_n hx hb dX6_loadOf_0 rfl (lv_at hl 0 rfl) ?_
  refine lv_aload_n hx hb dX6_loadOf_1 rfl (lv_at hl 0 rfl) ?_
  refine lv_iload_n hx hb dX6_loadOf_2 rfl (lv_at hl 1 rfl) ?_
  obtain ⟨r2, hc1, hf⟩ := sg_b_s hf
  refine sg_ci (va_runV (As := [.int p1]) (rest := [.ref (ad 0)]) ⟨hx, hb, hml, hown, hts⟩ (c_X6_isNode l D cA ad N _ _ _ hc1 _) (cwV 1 hts gX6_loadOf_X6_isNode rfl rfl rfl (by decide +kernel) ⟨Nat.le_of_ble_eq_true rfl, Nat.le_of_ble_eq_true rfl⟩) (sg_pre hK hP hD (ci := 8) (q0 := 0) rfl rfl) rfl rfl hl.1 rfl (lv_room (Nat.le_of_ble_eq_true rfl)) dX6_loadOf_3 ⟨Nat.zero_le _, Nat.zero_le _⟩) hD hS hA (fun H locs hP hD hS => ?_)
  obtain ⟨r5, u6, hc4, hf⟩ := sg_b2_s hf
  refine sg_ci (va_runV (As := [.int r2]) (rest := []) ⟨hx, hb, hml, hown, hts⟩ (c_X6_isThere l D cA ad N _ _ _ _ hc4 _) (cwV 1 hts gX6_loadOf_X6_isThere rfl rfl rfl (by decide +kernel) ⟨Nat.le_of_ble_eq_true rfl, Nat.le_of_ble_eq_true rfl⟩) (sg_pre hK hP hD (ci := 8) (q0 := 0) rfl rfl) rfl rfl hl.1 rfl (lv_room (Nat.le_of_ble_eq_true rfl)) dX6_loadOf_6 ⟨Nat.zero_le _, Nat.zero_le _⟩) hD hS hA (fun H locs hP hD hS => ?_)
  refine lv_if_eq (tgt := 21) hx hb dX6_loadOf_9 (by decide) (fun c8 => ?_) (fun c8 => ?_)
  · have hf := sg_ip c8 hf
    refine lv_iconst (v := 0) hx hb dX6_loadOf_21 (by decide) ?_
    have hq := Option.some.inj hf
    exact sg_iret hx hb hr hP hD hS dX6_loadOf_22 (congrArg Prod.fst hq) (congrArg Prod.snd hq) hlocks
  · have hf := sg_in c8 hf
    refine lv_aload_n hx hb dX6_loadOf_12 rfl (lv_at hl 0 rfl) ?_
    refine va_get (D := D) (ci := 8) (C := RX6) (T := TX6) (N := 27) hx hb hts hinX6 hown hK.1 hP 0 rfl rfl 6 (by decide) (hts (.fieldLink RX6 17 "SwitchgearModel" "load" "[I") (by decide +kernel)) (fun _ h9 => h9) rfl dX6_loadOf_13 ?_
    refine lv_iload_n hx hb dX6_loadOf_16 rfl (lv_at hl 1 rfl) ?_
    obtain ⟨hg7, hf⟩ := sg_g_s hf
    refine va_iald hx hb hK.1 hP 3 0 rfl rfl (sg_inb_s hg7) dX6_loadOf_17 ?_
    refine lv_goto (tgt := 22) hx hb dX6_loadOf_18 (by decide) ?_
    have hq := Option.some.inj hf
    exact sg_iret hx hb hr hP hD hS dX6_loadOf_22 (congrArg Prod.fst hq) (congrArg Prod.snd hq) hlocks
set_option maxRecDepth 100000 in
set_option maxHeartbeats 4000000 in
theorem c_X6_margin (l : Launch) (D : va_G) (cA : Nat → ClassId) (ad : Nat → Nat) (N : Nat) (u : sg_St) (p1 : Int32) (r : Int32) (u' : sg_St) (hf : fX6_margin N u p1 = some (r, u')) : sg_CI l D cA (sg_WM cA ad) yX6_margin wsX6_margin ({ frames := 4, cells := 0, slots := 0, locals := 97 }) [.ref (ad 0), .int p1] u r u' := by
  intro sz
  refine Met.ofW (cc := cX6_margin) (maxL := 6) (ret := (some .int)) (by decide) rfl ?_
  intro p e s m args below meth c s₁ B hml hv
  obtain ⟨rfl, hsz, hP, hK, hD0⟩ := hv
  have hx := B.exec
  have hb := B.bytes
  have hr := B.returns
  have hts := atoms_spec (ws := wsX6_margin) B.pre
  have hown : s.vm.findClass RX6 = some m.cls := findClass_of_methodNamed B.named
  have hlocks := B.notSynchronized
  subst hsz
  have hD := hD0.self (sz := s.heap.size)
  generalize hAe : va_A (sg_WM cA ad u) s.heap.size = A at hD ⊢
  have hA : ∀ q : Nat, s.heap.size ≤ q → A q := fun q h => by rw [← hAe]; exact Or.inr h
  have hS : va_S A s.heap s.heap [] := va_S.rf
  have hl := lv_entry ([.ref (ad 0), .int p1]) (n := 6) (Nat.le_of_ble_eq_true rfl)
  rw [lg_entry_eq]
  generalize (lg_sl ([.ref (ad 0), .int p1]) ++ List.replicate (6 - (lg_sl ([.ref (ad 0), .int p1])).length) Slot.unset).toArray = ls at hl ⊢
  replace hl : lv_has ls 6 [(0, .ref (ad 0)), (1, .int p1)] := hl
  have hinX6 : ∀ w ∈ u_ws RX6 TX6 27, w ∈ wsX6_margin := by decide +kernel
  have hL32 : ∀ (u : sg_St) (v1 : Int32) (n : Nat) (x : Int32 × Int32) (r9 : Int32), sg_it (fun x => fX6_margin_L32 N u v1 x.1 x.2) n x = some r9 → ∀ (H : Heap) (locs : List Loc) (ls : Array Slot), va_P D vwCl (sg_WM cA ad u) H → va_D A (sg_WM cA ad u) → va_S A s.heap H locs → lv_has ls 6 [(0, .ref (ad 0)), (1, .int v1), (2, .int x.1), (3, .int x.2)] → (∀ (H : Heap) (locs : List Loc) (ls : Array Slot), va_P D vwCl (sg_WM cA ad u) H → va_D A (sg_WM cA ad u) → va_S A s.heap H locs → lv_has ls 6 [(0, .ref (ad 0)), (1, .int v1), (2, .int r9)] → W p l e (headSpec wsX6_margin ({ frames := 4, cells := 0, slots := 0, locals := 97 })).room s m ([.ref (ad 0), .int p1] : List Value).toArray below meth c H locs 0 0 (MQ below (va_Qi (fun x y => x = r ∧ y = u') (sg_BX D (sg_WM cA ad) A) A) ([.ref (ad 0), .int p1] : List Value).toArray s 0 0 A) (F0 m 106 ls [])) → W p l e (headSpec wsX6_margin ({ frames := 4, cells := 0, slots := 0, locals := 97 })).room s m ([.ref (ad 0), .int p1] : List Value).toArray below meth c H locs 0 0 (MQ below (va_Qi (fun x y => x = r ∧ y = u') (sg_BX D (sg_WM cA ad) A) A) ([.ref (ad 0), .int p1] : List Value).toArray s 0 0 A) (F0 m 32 ls []) := by
    intro u v1
    refine sg_loop _ ?_
    intro x y r9 hf hI hy H locs ls hP hD hS hl hk
    replace hf : fX6_margin_L32 N u v1 x.1 x.2 = some y := hf
    have hJ97 : ∀ (v3 v5 : Int32) (H : Heap) (locs : List Loc) (ls : Array Slot), fX6_margin_j97 N u v1 v3 v5 = some y → va_P D vwCl (sg_WM cA ad u) H → va_D A (sg_WM cA ad u) → va_S A s.heap H locs → lv_has ls 6 [(0, .ref (ad 0)), (1, .int v1), (3, .int v3), (5, .int v5)] → W p l e (headSpec wsX6_margin ({ frames := 4, cells := 0, slots := 0, locals := 97 })).room s m ([.ref (ad 0), .int p1] : List Value).toArray below meth c H locs 0 0 (MQ below (va_Qi (fun x y => x = r ∧ y = u') (sg_BX D (sg_WM cA ad) A) A) ([.ref (ad 0), .int p1] : List Value).toArray s 0 0 A) (F0 m 97 ls []) := by
      intro v3 v5 H locs ls hf hP hD hS hl
      unfold fX6_margin_j97 at hf
      refine lv_iload hx hb dX6_margin_97 (lv_at hl 3 rfl) ?_
      refine lv_istore_n (lv' := [(2, .int v5), (0, .ref (ad 0)), (1, .int v1), (3, .int v3), (5, .int v5)]) hx hb dX6_margin_99 rfl hl (by decide) rfl (fun ls hl => ?_)
      refine lv_iinc (v := v3 + 1) (lv' := [(3, .int (v3 + 1)), (2, .int v5), (0, .ref (ad 0)), (1, .int v1), (5, .int v5)]) hx hb dX6_margin_100 hl (k := 3) rfl rfl (by decide) rfl (fun ls hl => ?_)
      refine lv_goto (tgt := 32) hx hb dX6_margin_103 (by decide) ?_
      exact hI _ (Option.some.inj hf).symm _ _ _ hP hD hS (lv_sub hl [2, 3, 1, 0] rfl) hk
    have hJ78 : ∀ (v2 v3 k0 : Int32) (H : Heap) (locs : List Loc) (ls : Array Slot), fX6_margin_j78 N u v1 v2 v3 k0 = some y → va_P D vwCl (sg_WM cA ad u) H → va_D A (sg_WM cA ad u) → va_S A s.heap H locs → lv_has ls 6 [(0, .ref (ad 0)), (1, .int v1), (2, .int v2), (3, .int v3)] → W p l e (headSpec wsX6_margin ({ frames := 4, cells := 0, slots := 0, locals := 97 })).room s m ([.ref (ad 0), .int p1] : List Value).toArray below meth c H locs 0 0 (MQ below (va_Qi (fun x y => x = r ∧ y = u') (sg_BX D (sg_WM cA ad) A) A) ([.ref (ad 0), .int p1] : List Value).toArray s 0 0 A) (F0 m 78 ls [.int k0]) := by
      intro v2 v3 k0 H locs ls hf hP hD hS hl
      unfold fX6_margin_j78 at hf
      refine lv_istore (lv' := [(5, .int k0), (0, .ref (ad 0)), (1, .int v1), (2, .int v2), (3, .int v3)]) hx hb dX6_margin_78 hl (by decide) rfl (fun ls hl => ?_)
      refine lv_iload hx hb dX6_margin_80 (lv_at hl 0 rfl) ?_
      refine lv_iconst (v := (-1)) hx hb dX6_margin_82 (by decide) ?_
      refine lv_icmp_eq (tgt := 100) hx hb dX6_margin_83 (by decide) (fun c3 => ?_) (fun c3 => ?_)
      · have hf := sg_ip c3 hf
        refine lv_iinc (v := v3 + 1) (lv' := [(3, .int (v3 + 1)), (5, .int k0), (0, .ref (ad 0)), (1, .int v1), (2, .int v2)]) hx hb dX6_margin_100 hl (k := 4) rfl rfl (by decide) rfl (fun ls hl => ?_)
        refine lv_goto (tgt := 32) hx hb dX6_margin_103 (by decide) ?_
        exact hI _ (Option.some.inj hf).symm _ _ _ hP hD hS (lv_sub hl [2, 3, 4, 0] rfl) hk
      · have hf := sg_in c3 hf
        refine lv_iload_n hx hb dX6_margin_86 rfl (lv_at hl 3 rfl) ?_
        refine lv_iconst (v := (-1)) hx hb dX6_margin_87 (by decide) ?_
        refine lv_icmp_eq (tgt := 97) hx hb dX6_margin_88 (by decide) (fun c2 => ?_) (fun c2 => ?_)
        · have hf := sg_ip c2 hf
          exact hJ97 _ _ _ _ _ hf hP hD hS (lv_sub hl [1, 2, 4, 0] rfl)
        · have hf := sg_in c2 hf
          refine lv_iload hx hb dX6_margin_91 (lv_at hl 0 rfl) ?_
          refine lv_iload_n hx hb dX6_margin_93 rfl (lv_at hl 3 rfl) ?_
          refine lv_icmp_ge (tgt := 100) hx hb dX6_margin_94 (by decide) (fun c1 => ?_) (fun c1 => ?_)
          · have hf := sg_ip c1 hf
            refine lv_iinc (v := v3 + 1) (lv' := [(3, .int (v3 + 1)), (5, .int k0), (0, .ref (ad 0)), (1, .int v1), (2, .int v2)]) hx hb dX6_margin_100 hl (k := 4) rfl rfl (by decide) rfl (fun ls hl => ?_)
            refine lv_goto (tgt := 32) hx hb dX6_margin_103 (by decide) ?_
            exact hI _ (Option.some.inj hf).symm _ _ _ hP hD hS (lv_sub hl [2, 3, 4, 0] rfl) hk
          · have hf := sg_in c1 hf
            exact hJ97 _ _ _ _ _ hf hP hD hS (lv_sub hl [1, 2, 4, 0] rfl)
    have hJ77 : ∀ (v2 v3 : Int32) (H : Heap) (locs : List Loc) (ls : Array Slot), fX6_margin_j77 N u v1 v2 v3 = some y → va_P D vwCl (sg_WM cA ad u) H → va_D A (sg_WM cA ad u) → va_S A s.heap H locs → lv_has ls 6 [(0, .ref (ad 0)), (1, .int v1), (2, .int v2), (3, .int v3)] → W p l e (headSpec wsX6_margin ({ frames := 4, cells := 0, slots := 0, locals := 97 })).room s m ([.ref (ad 0), .int p1] : List Value).toArray below meth c H locs 0 0 (MQ below (va_Qi (fun x y => x = r ∧ y = u') (sg_BX D (sg_WM cA ad) A) A) ([.ref (ad 0), .int p1] : List Value).toArray s 0 0 A) (F0 m 77 ls []) := by
      intro v2 v3 H locs ls hf hP hD hS hl
      unfold fX6_margin_j77 at hf
      refine lv_iconst (v := (-1)) hx hb dX6_margin_77 (by decide) ?_
      exact hJ78 _ _ _ _ _ _ hf hP hD hS (lv_sub hl [0, 1, 2, 3] rfl)
    unfold fX6_margin_L32 at hf
    refine lv_iload_n hx hb dX6_margin_32 rfl (lv_at hl 3 rfl) ?_
    refine lv_aload_n hx hb dX6_margin_33 rfl (lv_at hl 0 rfl) ?_
    refine va_get (D := D) (ci := 8) (C := RX6) (T := TX6) (N := 27) hx hb hts hinX6 hown hK.1 hP 0 rfl rfl 21 (by decide) (hts (.fieldLink RX6 127 "SwitchgearModel" "far" "I") (by decide +kernel)) (fun _ h9 => h9) rfl dX6_margin_34 ?_
    refine lv_icmp_ge (tgt := 106) hx hb dX6_margin_37 (by decide) (fun c11 => ?_) (fun c11 => ?_)
    · have hf := sg_ip c11 hf
      have hq := hy _ (Option.some.inj hf).symm
      subst hq
      exact hk _ _ _ hP hD hS (lv_sub hl [0, 1, 2] rfl)
    · have hf := sg_in c11 hf
      refine lv_aload_n hx hb dX6_margin_40 rfl (lv_at hl 0 rfl) ?_
      refine va_get (D := D) (ci := 8) (C := RX6) (T := TX6) (N := 27) hx hb hts hinX6 hown hK.1 hP 0 rfl rfl 19 (by decide) (hts (.fieldLink RX6 56 "SwitchgearModel" "path" "[I") (by decide +kernel)) (fun _ h9 => h9) rfl dX6_margin_41 ?_
      refine lv_iload_n hx hb dX6_margin_44 rfl (lv_at hl 3 rfl) ?_
      obtain ⟨hg1, hf⟩ := sg_g_s hf
      refine va_iald hx hb hK.1 hP 16 0 rfl rfl (sg_inb_s hg1) dX6_margin_45 ?_
      refine lv_istore (lv' := [(4, .int (u 23 (x.2).toNatClampNeg)), (0, .ref (ad 0)), (1, .int v1), (2, .int x.1), (3, .int x.2)]) hx hb dX6_margin_46 hl (by decide) rfl (fun ls hl => ?_)
      refine lv_iload hx hb dX6_margin_48 (lv_at hl 0 rfl) ?_
      refine lv_iload_n hx hb dX6_margin_50 rfl (lv_at hl 2 rfl) ?_
      refine lv_icmp_eq (tgt := 77) hx hb dX6_margin_51 (by decide) (fun c10 => ?_) (fun c10 => ?_)
      · have hf := sg_ip c10 hf
        exact hJ77 _ _ _ _ _ hf hP hD hS (lv_sub hl [1, 2, 3, 4] rfl)
      · have hf := sg_in c10 hf
        refine lv_aload_n hx hb dX6_margin_54 rfl (lv_at hl 1 rfl) ?_
        refine va_get (D := D) (ci := 8) (C := RX6) (T := TX6) (N := 27) hx hb hts hinX6 hown hK.1 hP 0 rfl rfl 14 (by decide) (hts (.fieldLink RX6 41 "SwitchgearModel" "isBreaker" "[Z") (by decide +kernel)) (fun _ h9 => h9) rfl dX6_margin_55 ?_
        refine lv_iload hx hb dX6_margin_58 (lv_at hl 0 rfl) ?_
        obtain ⟨hg2, hf⟩ := sg_g_s hf
        refine va_zald hx hb hK.1 hP 11 1 rfl rfl (sg_inb_s hg2) dX6_margin_60 ?_
        refine lv_if_eq (tgt := 77) hx hb dX6_margin_61 (by decide) (fun c9 => ?_) (fun c9 => ?_)
        · have hf := sg_ip c9 hf
          exact hJ77 _ _ _ _ _ hf hP hD hS (lv_sub hl [1, 2, 3, 4] rfl)
        · have hf := sg_in c9 hf
          refine lv_aload_n hx hb dX6_margin_64 rfl (lv_at hl 1 rfl) ?_
          refine lv_iload hx hb dX6_margin_65 (lv_at hl 0 rfl) ?_
          refine lv_aload_n hx hb dX6_margin_67 rfl (lv_at hl 1 rfl) ?_
          obtain ⟨r4, hc3, hf⟩ := sg_b_s hf
          refine sg_ci (va_runV (As := []) (rest := [.int (u 23 (x.2).toNatClampNeg), .ref (ad 0)]) ⟨hx, hb, hml, hown, hts⟩ (c_X6_drawn l D cA ad N _ _ hc3 _) (cwV 0 hts gX6_margin_X6_drawn rfl rfl rfl (by decide +kernel) ⟨Nat.le_of_ble_eq_true rfl, Nat.le_of_ble_eq_true rfl⟩) (sg_pre hK hP hD (ci := 8) (q0 := 0) rfl rfl) rfl rfl hl.1 rfl (lv_room (Nat.le_of_ble_eq_true rfl)) dX6_margin_68 ⟨Nat.zero_le _, Nat.zero_le _⟩) hD hS hA (fun H locs hP hD hS => ?_)
          obtain ⟨r7, hc6, hf⟩ := sg_b_s hf
          refine sg_ci (va_runV (As := [.int (u 23 (x.2).toNatClampNeg), .int r4]) (rest := []) ⟨hx, hb, hml, hown, hts⟩ (c_X6_time l D cA ad N _ _ _ _ hc6 _) (cwV 2 hts gX6_margin_X6_time rfl rfl rfl (by decide +kernel) ⟨Nat.le_of_ble_eq_true rfl, Nat.le_of_ble_eq_true rfl⟩) (sg_pre hK hP hD (ci := 8) (q0 := 0) rfl rfl) rfl rfl hl.1 rfl (lv_room (Nat.le_of_ble_eq_true rfl)) dX6_margin_71 ⟨Nat.zero_le _, Nat.zero_le _⟩) hD hS hA (fun H locs hP hD hS => ?_)
          refine lv_goto (tgt := 78) hx hb dX6_margin_74 (by decide) ?_
          exact hJ78 _ _ _ _ _ _ hf hP hD hS (lv_sub hl [1, 2, 3, 4] rfl)
  unfold fX6_margin at hf
  refine lv_aload_n hx hb dX6_margin_0 rfl (lv_at hl 0 rfl) ?_
  refine lv_aload_n hx hb dX6_margin_1 rfl (lv_at hl 0 rfl) ?_
  refine lv_iload_n hx hb dX6_margin_2 rfl (lv_at hl 1 rfl) ?_
  obtain ⟨r2, hc1, hf⟩ := sg_b_s hf
  refine sg_ci (va_runV (As := [.int p1]) (rest := [.ref (ad 0)]) ⟨hx, hb, hml, hown, hts⟩ (c_X6_isLine l D cA ad N _ _ _ hc1 _) (cwV 1 hts gX6_margin_X6_isLine rfl rfl rfl (by decide +kernel) ⟨Nat.le_of_ble_eq_true rfl, Nat.le_of_ble_eq_true rfl⟩) (sg_pre hK hP hD (ci := 8) (q0 := 0) rfl rfl) rfl rfl hl.1 rfl (lv_room (Nat.le_of_ble_eq_true rfl)) dX6_margin_3 ⟨Nat.zero_le _, Nat.zero_le _⟩) hD hS hA (fun H locs hP hD hS => ?_)
  obtain ⟨r5, u6, hc4, hf⟩ := sg_b2_s hf
  refine sg_ci (va_runV (As := [.int r2]) (rest := []) ⟨hx, hb, hml, hown, hts⟩ (c_X6_isThere l D cA ad N _ _ _ _ hc4 _) (cwV 1 hts gX6_margin_X6_isThere rfl rfl rfl (by decide +kernel) ⟨Nat.le_of_ble_eq_true rfl, Nat.le_of_ble_eq_true rfl⟩) (sg_pre hK hP hD (ci := 8) (q0 := 0) rfl rfl) rfl rfl hl.1 rfl (lv_room (Nat.le_of_ble_eq_true rfl)) dX6_margin_6 ⟨Nat.zero_le _, Nat.zero_le _⟩) hD hS hA (fun H locs hP hD hS => ?_)
  refine lv_if_ne (tgt := 14) hx hb dX6_margin_9 (by decide) (fun c26 => ?_) (fun c26 => ?_)
  · have hf := sg_in c26 hf
    refine lv_aload_n hx hb dX6_margin_14 rfl (lv_at hl 0 rfl) ?_
    refine lv_iload_n hx hb dX6_margin_15 rfl (lv_at hl 1 rfl) ?_
    obtain ⟨r8, u9, hc7, hf⟩ := sg_b2_s hf
    refine sg_ci (va_runV (As := [.int p1]) (rest := []) ⟨hx, hb, hml, hown, hts⟩ (c_X6_tripsItself l D cA ad N _ _ _ _ hc7 _) (cwV 1 hts gX6_margin_X6_tripsItself rfl rfl rfl (by decide +kernel) ⟨Nat.le_of_ble_eq_true rfl, Nat.le_of_ble_eq_true rfl⟩) (sg_pre hK hP hD (ci := 8) (q0 := 0) rfl rfl) rfl rfl hl.1 rfl (lv_room (Nat.le_of_ble_eq_true rfl)) dX6_margin_16 ⟨Nat.zero_le _, Nat.zero_le _⟩) hD hS hA (fun H locs hP hD hS => ?_)
    refine lv_if_ne (tgt := 28) hx hb dX6_margin_19 (by decide) (fun c25 => ?_) (fun c25 => ?_)
    · have hf := sg_in c25 hf
      refine lv_iconst (v := (-1)) hx hb dX6_margin_28 (by decide) ?_
      refine lv_istore_n (lv' := [(2, .int ((-1))), (0, .ref (ad 0)), (1, .int p1)]) hx hb dX6_margin_29 rfl hl (by decide) rfl (fun ls hl => ?_)
      refine lv_iconst (v := 0) hx hb dX6_margin_30 (by decide) ?_
      refine lv_istore_n (lv' := [(3, .int 0), (2, .int ((-1))), (0, .ref (ad 0)), (1, .int p1)]) hx hb dX6_margin_31 rfl hl (by decide) rfl (fun ls hl => ?_)
      obtain ⟨e10, hc11, hf⟩ := sg_b_s hf
      refine hL32 _ _ _ _ e10 hc11 _ _ _ hP hD hS (lv_sub hl [2, 3, 1, 0] rfl) (fun H locs ls hP hD hS hl => ?_)
      refine lv_iload_n hx hb dX6_margin_106 rfl (lv_at hl 2 rfl) ?_
      refine lv_iconst (v := (-1)) hx hb dX6_margin_107 (by decide) ?_
      refine lv_icmp_ne (tgt := 119) hx hb dX6_margin_108 (by decide) (fun c21 => ?_) (fun c21 => ?_)
      · have hf := sg_in c21 hf
        refine lv_iload_n hx hb dX6_margin_119 rfl (lv_at hl 2 rfl) ?_
        refine lv_aload_n hx hb dX6_margin_120 rfl (lv_at hl 0 rfl) ?_
        refine lv_iload_n hx hb dX6_margin_121 rfl (lv_at hl 1 rfl) ?_
        refine lv_aload_n hx hb dX6_margin_122 rfl (lv_at hl 0 rfl) ?_
        obtain ⟨r13, hc12, hf⟩ := sg_b_s hf
        refine sg_ci (va_runV (As := []) (rest := [.int p1, .ref (ad 0), .int e10]) ⟨hx, hb, hml, hown, hts⟩ (c_X6_drawn l D cA ad N _ _ hc12 _) (cwV 0 hts gX6_margin_X6_drawn rfl rfl rfl (by decide +kernel) ⟨Nat.le_of_ble_eq_true rfl, Nat.le_of_ble_eq_true rfl⟩) (sg_pre hK hP hD (ci := 8) (q0 := 0) rfl rfl) rfl rfl hl.1 rfl (lv_room (Nat.le_of_ble_eq_true rfl)) dX6_margin_123 ⟨Nat.zero_le _, Nat.zero_le _⟩) hD hS hA (fun H locs hP hD hS => ?_)
        obtain ⟨r16, hc15, hf⟩ := sg_b_s hf
        refine sg_ci (va_runV (As := [.int p1, .int r13]) (rest := [.int e10]) ⟨hx, hb, hml, hown, hts⟩ (c_X6_time l D cA ad N _ _ _ _ hc15 _) (cwV 2 hts gX6_margin_X6_time rfl rfl rfl (by decide +kernel) ⟨Nat.le_of_ble_eq_true rfl, Nat.le_of_ble_eq_true rfl⟩) (sg_pre hK hP hD (ci := 8) (q0 := 0) rfl rfl) rfl rfl hl.1 rfl (lv_room (Nat.le_of_ble_eq_true rfl)) dX6_margin_126 ⟨Nat.zero_le _, Nat.zero_le _⟩) hD hS hA (fun H locs hP hD hS => ?_)
        refine lv_isub hx hb dX6_margin_129 ?_
        have hq := Option.some.inj hf
        exact sg_iret hx hb hr hP hD hS dX6_margin_130 (congrArg Prod.fst hq) (congrArg Prod.snd hq) hlocks
      · have hf := sg_ip c21 hf
        refine lv_aload_n hx hb dX6_margin_111 rfl (lv_at hl 0 rfl) ?_
        refine lv_iconst (v := 3) hx hb dX6_margin_112 (by decide) ?_
        obtain ⟨r19, u20, hc18, hf⟩ := sg_b2_s hf
        refine sg_ci (va_runV (As := [.int 3]) (rest := []) ⟨hx, hb, hml, hown, hts⟩ (c_X6_fails l D cA ad N _ _ _ _ hc18 _) (cwV 1 hts gX6_margin_X6_fails rfl rfl rfl (by decide +kernel) ⟨Nat.le_of_ble_eq_true rfl, Nat.le_of_ble_eq_true rfl⟩) (sg_pre hK hP hD (ci := 8) (q0 := 0) rfl rfl) rfl rfl hl.1 rfl (lv_room (Nat.le_of_ble_eq_true rfl)) dX6_margin_113 ⟨Nat.zero_le _, Nat.zero_le _⟩) hD hS hA (fun H locs hP hD hS => ?_)
        refine lv_goto (tgt := 130) hx hb dX6_margin_116 (by decide) ?_
        have hq := Option.some.inj hf
        exact sg_iret hx hb hr hP hD hS dX6_margin_130 (congrArg Prod.fst hq) (congrArg Prod.snd hq) hlocks
    · have hf := sg_ip c25 hf
      refine lv_aload_n hx hb dX6_margin_22 rfl (lv_at hl 0 rfl) ?_
      refine lv_iconst (v := 2) hx hb dX6_margin_23 (by decide) ?_
      obtain ⟨r23, u24, hc22, hf⟩ := sg_b2_s hf
      refine sg_ci (va_runV (As := [.int 2]) (rest := []) ⟨hx, hb, hml, hown, hts⟩ (c_X6_fails l D cA ad N _ _ _ _ hc22 _) (cwV 1 hts gX6_margin_X6_fails rfl rfl rfl (by decide +kernel) ⟨Nat.le_of_ble_eq_true rfl, Nat.le_of_ble_eq_true rfl⟩) (sg_pre hK hP hD (ci := 8) (q0 := 0) rfl rfl) rfl rfl hl.1 rfl (lv_room (Nat.le_of_ble_eq_true rfl)) dX6_margin_24 ⟨Nat.zero_le _, Nat.zero_le _⟩) hD hS hA (fun H locs hP hD hS => ?_)
      have hq := Option.some.inj hf
      exact sg_iret hx hb hr hP hD hS dX6_margin_27 (congrArg Prod.fst hq) (congrArg Prod.snd hq) hlocks
  · have hf := sg_ip c26 hf
    refine lv_iconst (v := 0) hx hb dX6_margin_12 (by decide) ?_
    have hq := Option.some.inj hf
    exact sg_iret hx hb hr hP hD hS dX6_margin_13 (congrArg Prod.fst hq) (congrArg Prod.snd hq) hlocks
set_option maxRecDepth 100000 in
set_option maxHeartbeats 4000000 in
theorem c_X6_meanCurrent (l : Launch) (D : va_G) (cA : Nat → ClassId) (ad : Nat → Nat) (N : Nat) (u : sg_St) (r : UInt64) (u' : sg_St) (hf : fX6_meanCurrent N u = some (r, u')) : sg_CD l D cA (sg_WM cA ad) yX6_meanCurrent wsX6_meanCurrent ({ frames := 3, cells := 0, slots := 0, locals := 68 }) [.ref (ad 0)] u r u' := by
  intro sz
  refine Met.ofW (cc := cX6_meanCurrent) (maxL := 5) (ret := (some .double)) (by decide) rfl ?_
  intro p e s m args below meth c s₁ B hml hv
  obtain ⟨rfl, hsz, hP, hK, hD0⟩ := hv
  have hx := B.exec
  have hb := B.bytes
  have hr := B.returns
  have hts := atoms_spec (ws := wsX6_meanCurrent) B.pre
  have hown : s.vm.findClass RX6 = some m.cls := findClass_of_methodNamed B.named
  have hlocks := B.notSynchronized
  subst hsz
  have hD := hD0.self (sz := s.heap.size)
  generalize hAe : va_A (sg_WM cA ad u) s.heap.size = A at hD ⊢
  have hA : ∀ q : Nat, s.heap.size ≤ q → A q := fun q h => by rw [← hAe]; exact Or.inr h
  have hS : va_S A s.heap s.heap [] := va_S.rf
  have hl := lv_entry ([.ref (ad 0)]) (n := 5) (Nat.le_of_ble_eq_true rfl)
  rw [lg_entry_eq]
  generalize (lg_sl ([.ref (ad 0)]) ++ List.replicate (5 - (lg_sl ([.ref (ad 0)])).length) Slot.unset).toArray = ls at hl ⊢
  replace hl : lv_has ls 5 [(0, .ref (ad 0))] := hl
  have hinX6 : ∀ w ∈ u_ws RX6 TX6 27, w ∈ wsX6_meanCurrent := by decide +kernel
  have hL6 : ∀ (n : Nat) (x : sg_St × Int32 × Int32 × Int32) (r9 : sg_St × Int32 × Int32), sg_it (fun x => fX6_meanCurrent_L6 N x.1 x.2.1 x.2.2.1 x.2.2.2) n x = some r9 → ∀ (H : Heap) (locs : List Loc) (ls : Array Slot), va_P D vwCl (sg_WM cA ad x.1) H → va_D A (sg_WM cA ad x.1) → va_S A s.heap H locs → lv_has ls 5 [(0, .ref (ad 0)), (1, .int x.2.1), (2, .int x.2.2.1), (3, .int x.2.2.2)] → (∀ (H : Heap) (locs : List Loc) (ls : Array Slot), va_P D vwCl (sg_WM cA ad r9.1) H → va_D A (sg_WM cA ad r9.1) → va_S A s.heap H locs → lv_has ls 5 [(0, .ref (ad 0)), (1, .int r9.2.1), (2, .int r9.2.2)] → W p l e (headSpec wsX6_meanCurrent ({ frames := 3, cells := 0, slots := 0, locals := 68 })).room s m ([.ref (ad 0)] : List Value).toArray below meth c H locs 0 0 (MQ below (va_Qd (fun x y => x = r ∧ y = u') (sg_BX D (sg_WM cA ad) A) A) ([.ref (ad 0)] : List Value).toArray s 0 0 A) (F0 m 57 ls [])) → W p l e (headSpec wsX6_meanCurrent ({ frames := 3, cells := 0, slots := 0, locals := 68 })).room s m ([.ref (ad 0)] : List Value).toArray below meth c H locs 0 0 (MQ below (va_Qd (fun x y => x = r ∧ y = u') (sg_BX D (sg_WM cA ad) A) A) ([.ref (ad 0)] : List Value).toArray s 0 0 A) (F0 m 6 ls []) := by
    refine sg_loop _ ?_
    intro x y r9 hf hI hy H locs ls hP hD hS hl hk
    replace hf : fX6_meanCurrent_L6 N x.1 x.2.1 x.2.2.1 x.2.2.2 = some y := hf
    have hJ49 : ∀ (u : sg_St) (v1 v3 k0 k1 : Int32) (H : Heap) (locs : List Loc) (ls : Array Slot), fX6_meanCurrent_j49 N u v1 v3 k0 k1 = some y → va_P D vwCl (sg_WM cA ad u) H → va_D A (sg_WM cA ad u) → va_S A s.heap H locs → lv_has ls 5 [(0, .ref (ad 0)), (1, .int v1), (3, .int v3)] → W p l e (headSpec wsX6_meanCurrent ({ frames := 3, cells := 0, slots := 0, locals := 68 })).room s m ([.ref (ad 0)] : List Value).toArray below meth c H locs 0 0 (MQ below (va_Qd (fun x y => x = r ∧ y = u') (sg_BX D (sg_WM cA ad) A) A) ([.ref (ad 0)] : List Value).toArray s 0 0 A) (F0 m 49 ls [.int k1, .int k0]) := by
      intro u v1 v3 k0 k1 H locs ls hf hP hD hS hl
      unfold fX6_meanCurrent_j49 at hf
      refine lv_iadd hx hb dX6_meanCurrent_49 ?_
      refine lv_istore_n (lv' := [(2, .int (k0 + k1)), (0, .ref (ad 0)), (1, .int v1), (3, .int v3)]) hx hb dX6_meanCurrent_50 rfl hl (by decide) rfl (fun ls hl => ?_)
      refine lv_iinc (v := v3 + 1) (lv' := [(3, .int (v3 + 1)), (2, .int (k0 + k1)), (0, .ref (ad 0)), (1, .int v1)]) hx hb dX6_meanCurrent_51 hl (k := 3) rfl rfl (by decide) rfl (fun ls hl => ?_)
      refine lv_goto (tgt := 6) hx hb dX6_meanCurrent_54 (by decide) ?_
      exact hI _ (Option.some.inj hf).symm _ _ _ hP hD hS (lv_sub hl [2, 3, 1, 0] rfl) hk
    have hJ32 : ∀ (u : sg_St) (v2 v3 v4 k0 k1 : Int32) (H : Heap) (locs : List Loc) (ls : Array Slot), fX6_meanCurrent_j32 N u v2 v3 v4 k0 k1 = some y → va_P D vwCl (sg_WM cA ad u) H → va_D A (sg_WM cA ad u) → va_S A s.heap H locs → lv_has ls 5 [(0, .ref (ad 0)), (2, .int v2), (3, .int v3), (4, .int v4)] → W p l e (headSpec wsX6_meanCurrent ({ frames := 3, cells := 0, slots := 0, locals := 68 })).room s m ([.ref (ad 0)] : List Value).toArray below meth c H locs 0 0 (MQ below (va_Qd (fun x y => x = r ∧ y = u') (sg_BX D (sg_WM cA ad) A) A) ([.ref (ad 0)] : List Value).toArray s 0 0 A) (F0 m 32 ls [.int k1, .int k0]) := by
      intro u v2 v3 v4 k0 k1 H locs ls hf hP hD hS hl
      unfold fX6_meanCurrent_j32 at hf
      refine lv_iadd hx hb dX6_meanCurrent_32 ?_
      refine lv_istore_n (lv' := [(1, .int (k0 + k1)), (0, .ref (ad 0)), (2, .int v2), (3, .int v3), (4, .int v4)]) hx hb dX6_meanCurrent_33 rfl hl (by decide) rfl (fun ls hl => ?_)
      refine lv_iload_n hx hb dX6_meanCurrent_34 rfl (lv_at hl 2 rfl) ?_
      refine lv_iload hx hb dX6_meanCurrent_35 (lv_at hl 4 rfl) ?_
      refine lv_if_eq (tgt := 48) hx hb dX6_meanCurrent_37 (by decide) (fun c4 => ?_) (fun c4 => ?_)
      · have hf := sg_ip c4 hf
        refine lv_iconst (v := 0) hx hb dX6_meanCurrent_48 (by decide) ?_
        exact hJ49 _ _ _ _ _ _ _ _ hf hP hD hS (lv_sub hl [1, 0, 3] rfl)
      · have hf := sg_in c4 hf
        refine lv_aload_n hx hb dX6_meanCurrent_40 rfl (lv_at hl 1 rfl) ?_
        refine lv_iload_n hx hb dX6_meanCurrent_41 rfl (lv_at hl 3 rfl) ?_
        obtain ⟨r2, u3, hc1, hf⟩ := sg_b2_s hf
        refine sg_ci (va_runV (As := [.int v3]) (rest := [.int v2]) ⟨hx, hb, hml, hown, hts⟩ (c_X6_flowOf l D cA ad N _ _ _ _ hc1 _) (cwV 1 hts gX6_meanCurrent_X6_flowOf rfl rfl rfl (by decide +kernel) ⟨Nat.le_of_ble_eq_true rfl, Nat.le_of_ble_eq_true rfl⟩) (sg_pre hK hP hD (ci := 8) (q0 := 0) rfl rfl) rfl rfl hl.1 rfl (lv_room (Nat.le_of_ble_eq_true rfl)) dX6_meanCurrent_42 ⟨Nat.zero_le _, Nat.zero_le _⟩) hD hS hA (fun H locs hP hD hS => ?_)
        refine lv_goto (tgt := 49) hx hb dX6_meanCurrent_45 (by decide) ?_
        exact hJ49 _ _ _ _ _ _ _ _ hf hP hD hS (lv_sub hl [1, 0, 3] rfl)
    unfold fX6_meanCurrent_L6 at hf
    refine lv_iload_n hx hb dX6_meanCurrent_6 rfl (lv_at hl 3 rfl) ?_
    refine lv_aload_n hx hb dX6_meanCurrent_7 rfl (lv_at hl 0 rfl) ?_
    refine va_get (D := D) (ci := 8) (C := RX6) (T := TX6) (N := 27) hx hb hts hinX6 hown hK.1 hP 0 rfl rfl 2 (by decide) (hts (.fieldLink RX6 79 "SwitchgearModel" "lines" "I") (by decide +kernel)) (fun _ h9 => h9) rfl dX6_meanCurrent_8 ?_
    refine lv_icmp_ge (tgt := 57) hx hb dX6_meanCurrent_11 (by decide) (fun c5 => ?_) (fun c5 => ?_)
    · have hf := sg_ip c5 hf
      have hq := hy _ (Option.some.inj hf).symm
      subst hq
      exact hk _ _ _ hP hD hS (lv_sub hl [0, 1, 2] rfl)
    · have hf := sg_in c5 hf
      refine lv_aload_n hx hb dX6_meanCurrent_14 rfl (lv_at hl 0 rfl) ?_
      refine lv_iload_n hx hb dX6_meanCurrent_15 rfl (lv_at hl 3 rfl) ?_
      obtain ⟨r2, u3, hc1, hf⟩ := sg_b2_s hf
      refine sg_ci (va_runV (As := [.int x.2.2.2]) (rest := []) ⟨hx, hb, hml, hown, hts⟩ (c_X6_finds l D cA ad N _ _ _ _ hc1 _) (cwV 1 hts gX6_meanCurrent_X6_finds rfl rfl rfl (by decide +kernel) ⟨Nat.le_of_ble_eq_true rfl, Nat.le_of_ble_eq_true rfl⟩) (sg_pre hK hP hD (ci := 8) (q0 := 0) rfl rfl) rfl rfl hl.1 rfl (lv_room (Nat.le_of_ble_eq_true rfl)) dX6_meanCurrent_16 ⟨Nat.zero_le _, Nat.zero_le _⟩) hD hS hA (fun H locs hP hD hS => ?_)
      refine lv_istore (lv' := [(4, .int r2), (0, .ref (ad 0)), (1, .int x.2.1), (2, .int x.2.2.1), (3, .int x.2.2.2)]) hx hb dX6_meanCurrent_19 hl (by decide) rfl (fun ls hl => ?_)
      refine lv_iload_n hx hb dX6_meanCurrent_21 rfl (lv_at hl 2 rfl) ?_
      refine lv_iload hx hb dX6_meanCurrent_22 (lv_at hl 0 rfl) ?_
      refine lv_if_eq (tgt := 31) hx hb dX6_meanCurrent_24 (by decide) (fun c4 => ?_) (fun c4 => ?_)
      · have hf := sg_ip c4 hf
        refine lv_iconst (v := 0) hx hb dX6_meanCurrent_31 (by decide) ?_
        exact hJ32 _ _ _ _ _ _ _ _ _ hf hP hD hS (lv_sub hl [1, 3, 4, 0] rfl)
      · have hf := sg_in c4 hf
        refine lv_iconst (v := 1) hx hb dX6_meanCurrent_27 (by decide) ?_
        refine lv_goto (tgt := 32) hx hb dX6_meanCurrent_28 (by decide) ?_
        exact hJ32 _ _ _ _ _ _ _ _ _ hf hP hD hS (lv_sub hl [1, 3, 4, 0] rfl)
  have hJ67 : ∀ (u : sg_St) (v1 v2 k0 : Int32) (H : Heap) (locs : List Loc) (ls : Array Slot), fX6_meanCurrent_j67 N u v1 v2 k0 = some (r, u') → va_P D vwCl (sg_WM cA ad u) H → va_D A (sg_WM cA ad u) → va_S A s.heap H locs → lv_has ls 5 [(0, .ref (ad 0)), (1, .int v1), (2, .int v2)] → W p l e (headSpec wsX6_meanCurrent ({ frames := 3, cells := 0, slots := 0, locals := 68 })).room s m ([.ref (ad 0)] : List Value).toArray below meth c H locs 0 0 (MQ below (va_Qd (fun x y => x = r ∧ y = u') (sg_BX D (sg_WM cA ad) A) A) ([.ref (ad 0)] : List Value).toArray s 0 0 A) (F0 m 67 ls [.int k0, .ref (ad 0)]) := by
    intro u v1 v2 k0 H locs ls hf hP hD hS hl
    unfold fX6_meanCurrent_j67 at hf
    refine va_put (D := D) (ci := 8) (v := .int k0) (ty := .int) (C := RX6) (T := TX6) (N := 27) hx hb hts hinX6 tyX6 tyX6_ok nmX6 hown hK.1 hP hD hS 0 rfl rfl 0 (by decide) (hts (.fieldLink RX6 68 "SwitchgearModel" "thrown" "I") (by decide +kernel)) (fun _ h9 => h9) rfl (by decide +kernel) rfl rfl (Nat.le_of_ble_eq_true rfl) dX6_meanCurrent_67 (fun H locs hP hD hS => ?_)
    replace hP : va_P D vwCl (sg_WM cA ad (sg_set u 0 0 k0)) H := by rw [← sg_WM_0]; exact hP
    replace hD : va_D A (sg_WM cA ad (sg_set u 0 0 k0)) := by rw [← sg_WM_0]; exact hD
    refine lv_iload_n hx hb dX6_meanCurrent_70 rfl (lv_at hl 1 rfl) ?_
    refine lv_if_ne (tgt := 78) hx hb dX6_meanCurrent_71 (by decide) (fun c2 => ?_) (fun c2 => ?_)
    · have hf := sg_in c2 hf
      refine lv_iload_n hx hb dX6_meanCurrent_78 rfl (lv_at hl 2 rfl) ?_
      refine lv_i2d hx hb dX6_meanCurrent_79 ?_
      refine lv_iload_n hx hb dX6_meanCurrent_80 rfl (lv_at hl 1 rfl) ?_
      refine lv_i2d hx hb dX6_meanCurrent_81 ?_
      obtain ⟨hg1, hf⟩ := sg_g_s hf
      refine lv_ddiv hx hb dX6_meanCurrent_82 (sg_n64 hg1) ?_
      have hq := Option.some.inj hf
      exact sg_dret hx hb hr hP hD hS dX6_meanCurrent_83 (congrArg Prod.fst hq) (congrArg Prod.snd hq) hlocks
    · have hf := sg_ip c2 hf
      refine lv_dconst0 hx hb dX6_meanCurrent_74 ?_
      refine lv_goto (tgt := 83) hx hb dX6_meanCurrent_75 (by decide) ?_
      have hq := Option.some.inj hf
      exact sg_dret hx hb hr hP hD hS dX6_meanCurrent_83 (congrArg Prod.fst hq) (congrArg Prod.snd hq) hlocks
  unfold fX6_meanCurrent at hf
  refine lv_iconst (v := 0) hx hb dX6_meanCurrent_0 (by decide) ?_
  refine lv_istore_n (lv' := [(1, .int 0), (0, .ref (ad 0))]) hx hb dX6_meanCurrent_1 rfl hl (by decide) rfl (fun ls hl => ?_)
  refine lv_iconst (v := 0) hx hb dX6_meanCurrent_2 (by decide) ?_
  refine lv_istore_n (lv' := [(2, .int 0), (1, .int 0), (0, .ref (ad 0))]) hx hb dX6_meanCurrent_3 rfl hl (by decide) rfl (fun ls hl => ?_)
  refine lv_iconst (v := 0) hx hb dX6_meanCurrent_4 (by decide) ?_
  refine lv_istore_n (lv' := [(3, .int 0), (2, .int 0), (1, .int 0), (0, .ref (ad 0))]) hx hb dX6_meanCurrent_5 rfl hl (by decide) rfl (fun ls hl => ?_)
  obtain ⟨e1, hc2, hf⟩ := sg_b_s hf
  refine hL6 _ _ e1 hc2 _ _ _ hP hD hS (lv_sub hl [3, 2, 1, 0] rfl) (fun H locs ls hP hD hS hl => ?_)
  refine lv_aload_n hx hb dX6_meanCurrent_57 rfl (lv_at hl 0 rfl) ?_
  refine lv_iload_n hx hb dX6_meanCurrent_58 rfl (lv_at hl 1 rfl) ?_
  refine lv_if_ne (tgt := 66) hx hb dX6_meanCurrent_59 (by decide) (fun c3 => ?_) (fun c3 => ?_)
  · have hf := sg_in c3 hf
    refine lv_iconst (v := 0) hx hb dX6_meanCurrent_66 (by decide) ?_
    exact hJ67 _ _ _ _ _ _ _ hf hP hD hS (lv_sub hl [0, 1, 2] rfl)
  · have hf := sg_ip c3 hf
    refine lv_iconst (v := 1) hx hb dX6_meanCurrent_62 (by decide) ?_
    refine lv_goto (tgt := 67) hx hb dX6_meanCurrent_63 (by decide) ?_
    exact hJ67 _ _ _ _ _ _ _ hf hP hD hS (lv_sub hl [0, 1, 2] rfl)
set_option maxRecDepth 100000 in
set_option maxHeartbeats 4000000 in
theorem c_X6_nodes (l : Launch) (D : va_G) (cA : Nat → ClassId) (ad : Nat → Nat) (N : Nat) (u : sg_St) (r : Int32) (u' : sg_St) (hf : fX6_nodes N u = some (r, u')) : sg_CI l D cA (sg_WM cA ad) yX6_nodes wsX6_nodes ({ frames := 0, cells := 0, slots := 0, locals := 0 }) [.ref (ad 0)] u r u' := by
  intro sz
  refine Met.ofW (cc := cX6_nodes) (maxL := 1) (ret := (some .int)) (by decide) rfl ?_
  intro p e s m args below meth c s₁ B hml hv
  obtain ⟨rfl, hsz, hP, hK, hD0⟩ := hv
  have hx := B.exec
  have hb := B.bytes
  have hr := B.returns
  have hts := atoms_spec (ws := wsX6_nodes) B.pre
  have hown : s.vm.findClass RX6 = some m.cls := findClass_of_methodNamed B.named
  have hlocks := B.notSynchronized
  subst hsz
  have hD := hD0.self (sz := s.heap.size)
  generalize hAe : va_A (sg_WM cA ad u) s.heap.size = A at hD ⊢
  have hA : ∀ q : Nat, s.heap.size ≤ q → A q := fun q h => by rw [← hAe]; exact Or.inr h
  have hS : va_S A s.heap s.heap [] := va_S.rf
  have hl := lv_entry ([.ref (ad 0)]) (n := 1) (Nat.le_of_ble_eq_true rfl)
  rw [lg_entry_eq]
  generalize (lg_sl ([.ref (ad 0)]) ++ List.replicate (1 - (lg_sl ([.ref (ad 0)])).length) Slot.unset).toArray = ls at hl ⊢
  replace hl : lv_has ls 1 [(0, .ref (ad 0))] := hl
  have hinX6 : ∀ w ∈ u_ws RX6 TX6 27, w ∈ wsX6_nodes := by decide +kernel
  unfold fX6_nodes at hf
  refine lv_aload_n hx hb dX6_nodes_0 rfl (lv_at hl 0 rfl) ?_
  refine lv_iconst (v := 0) hx hb dX6_nodes_1 (by decide) ?_
  refine va_put (D := D) (ci := 8) (v := .int 0) (ty := .int) (C := RX6) (T := TX6) (N := 27) hx hb hts hinX6 tyX6 tyX6_ok nmX6 hown hK.1 hP hD hS 0 rfl rfl 0 (by decide) (hts (.fieldLink RX6 68 "SwitchgearModel" "thrown" "I") (by decide +kernel)) (fun _ h9 => h9) rfl (by decide +kernel) rfl rfl (Nat.le_of_ble_eq_true rfl) dX6_nodes_2 (fun H locs hP hD hS => ?_)
  replace hP : va_P D vwCl (sg_WM cA ad (sg_set u 0 0 0)) H := by rw [← sg_WM_0]; exact hP
  replace hD : va_D A (sg_WM cA ad (sg_set u 0 0 0)) := by rw [← sg_WM_0]; exact hD
  refine lv_aload_n hx hb dX6_nodes_5 rfl (lv_at hl 0 rfl) ?_
  refine va_get (D := D) (ci := 8) (C := RX6) (T := TX6) (N := 27) hx hb hts hinX6 hown hK.1 hP 0 rfl rfl 1 (by decide) (hts (.fieldLink RX6 72 "SwitchgearModel" "nodes" "I") (by decide +kernel)) (fun _ h9 => h9) rfl dX6_nodes_6 ?_
  have hq := Option.some.inj hf
  exact sg_iret hx hb hr hP hD hS dX6_nodes_9 (congrArg Prod.fst hq) (congrArg Prod.snd hq) hlocks
set_option maxRecDepth 100000 in
set_option maxHeartbeats 4000000 in
theorem c_X6_open (l : Launch) (D : va_G) (cA : Nat → ClassId) (ad : Nat → Nat) (N : Nat) (u : sg_St) (p1 : Int32) (r : Int32) (u' : sg_St) (hf : fX6_open N u p1 = some (r, u')) : sg_CI l D cA (sg_WM cA ad) yX6_open wsX6_open ({ frames := 4, cells := 0, slots := 0, locals := 89 }) [.ref (ad 0), .int p1] u r u' := by
  intro sz
  refine Met.ofW (cc := cX6_open) (maxL := 3) (ret := (some .char)) (by decide) rfl ?_
  intro p e s m args below meth c s₁ B hml hv
  obtain ⟨rfl, hsz, hP, hK, hD0⟩ := hv
  have hx := B.exec
  have hb := B.bytes
  have hr := B.returns
  have hts := atoms_spec (ws := wsX6_open) B.pre
  have hown : s.vm.findClass RX6 = some m.cls := findClass_of_methodNamed B.named
  have hlocks := B.notSynchronized
  subst hsz
  have hD := hD0.self (sz := s.heap.size)
  generalize hAe : va_A (sg_WM cA ad u) s.heap.size = A at hD ⊢
  have hA : ∀ q : Nat, s.heap.size ≤ q → A q := fun q h => by rw [← hAe]; exact Or.inr h
  have hS : va_S A s.heap s.heap [] := va_S.rf
  have hl := lv_entry ([.ref (ad 0), .int p1]) (n := 3) (Nat.le_of_ble_eq_true rfl)
  rw [lg_entry_eq]
  generalize (lg_sl ([.ref (ad 0), .int p1]) ++ List.replicate (3 - (lg_sl ([.ref (ad 0), .int p1])).length) Slot.unset).toArray = ls at hl ⊢
  replace hl : lv_has ls 3 [(0, .ref (ad 0)), (1, .int p1)] := hl
  have hinX6 : ∀ w ∈ u_ws RX6 TX6 27, w ∈ wsX6_open := by decide +kernel
  unfold fX6_open at hf
  refine lv_aload_n hx hb dX6_open_0 rfl (lv_at hl 0 rfl) ?_
  refine lv_aload_n hx hb dX6_open_1 rfl (lv_at hl 0 rfl) ?_
  refine lv_iload_n hx hb dX6_open_2 rfl (lv_at hl 1 rfl) ?_
  obtain ⟨r2, hc1, hf⟩ := sg_b_s hf
  refine sg_ci (va_runV (As := [.int p1]) (rest := [.ref (ad 0)]) ⟨hx, hb, hml, hown, hts⟩ (c_X6_isLine l D cA ad N _ _ _ hc1 _) (cwV 1 hts gX6_open_X6_isLine rfl rfl rfl (by decide +kernel) ⟨Nat.le_of_ble_eq_true rfl, Nat.le_of_ble_eq_true rfl⟩) (sg_pre hK hP hD (ci := 8) (q0 := 0) rfl rfl) rfl rfl hl.1 rfl (lv_room (Nat.le_of_ble_eq_true rfl)) dX6_open_3 ⟨Nat.zero_le _, Nat.zero_le _⟩) hD hS hA (fun H locs hP hD hS => ?_)
  obtain ⟨r5, u6, hc4, hf⟩ := sg_b2_s hf
  refine sg_ci (va_runV (As := [.int r2]) (rest := []) ⟨hx, hb, hml, hown, hts⟩ (c_X6_isThere l D cA ad N _ _ _ _ hc4 _) (cwV 1 hts gX6_open_X6_isThere rfl rfl rfl (by decide +kernel) ⟨Nat.le_of_ble_eq_true rfl, Nat.le_of_ble_eq_true rfl⟩) (sg_pre hK hP hD (ci := 8) (q0 := 0) rfl rfl) rfl rfl hl.1 rfl (lv_room (Nat.le_of_ble_eq_true rfl)) dX6_open_6 ⟨Nat.zero_le _, Nat.zero_le _⟩) hD hS hA (fun H locs hP hD hS => ?_)
  refine lv_if_ne (tgt := 14) hx hb dX6_open_9 (by decide) (fun c14 => ?_) (fun c14 => ?_)
  · have hf := sg_in c14 hf
    refine lv_aload_n hx hb dX6_open_14 rfl (lv_at hl 0 rfl) ?_
    refine lv_iload_n hx hb dX6_open_15 rfl (lv_at hl 1 rfl) ?_
    obtain ⟨r8, u9, hc7, hf⟩ := sg_b2_s hf
    refine sg_ci (va_runV (As := [.int p1]) (rest := []) ⟨hx, hb, hml, hown, hts⟩ (c_X6_reasonToOpen l D cA ad N _ _ _ _ hc7 _) (cwV 1 hts gX6_open_X6_reasonToOpen rfl rfl rfl (by decide +kernel) ⟨Nat.le_of_ble_eq_true rfl, Nat.le_of_ble_eq_true rfl⟩) (sg_pre hK hP hD (ci := 8) (q0 := 0) rfl rfl) rfl rfl hl.1 rfl (lv_room (Nat.le_of_ble_eq_true rfl)) dX6_open_16 ⟨Nat.zero_le _, Nat.zero_le _⟩) hD hS hA (fun H locs hP hD hS => ?_)
    refine lv_istore_n (lv' := [(2, .int r8), (0, .ref (ad 0)), (1, .int p1)]) hx hb dX6_open_19 rfl hl (by decide) rfl (fun ls hl => ?_)
    refine lv_iload_n hx hb dX6_open_20 rfl (lv_at hl 0 rfl) ?_
    refine lv_bipush (v := 110) hx hb dX6_open_21 (by decide) ?_
    refine lv_icmp_ne (tgt := 33) hx hb dX6_open_23 (by decide) (fun c13 => ?_) (fun c13 => ?_)
    · have hf := sg_in c13 hf
      refine lv_iload_n hx hb dX6_open_33 rfl (lv_at hl 0 rfl) ?_
      obtain ⟨hg10, hf⟩ := sg_g_s hf
      have hq := Option.some.inj hf
      exact sg_zret hx hb hr (sg_nc hg10) hP hD hS dX6_open_34 (congrArg Prod.fst hq) (congrArg Prod.snd hq) hlocks
    · have hf := sg_ip c13 hf
      refine lv_aload_n hx hb dX6_open_26 rfl (lv_at hl 1 rfl) ?_
      refine va_get (D := D) (ci := 8) (C := RX6) (T := TX6) (N := 27) hx hb hts hinX6 hown hK.1 hP 0 rfl rfl 15 (by decide) (hts (.fieldLink RX6 44 "SwitchgearModel" "isClosed" "[Z") (by decide +kernel)) (fun _ h9 => h9) rfl dX6_open_27 ?_
      refine lv_iload_n hx hb dX6_open_30 rfl (lv_at hl 2 rfl) ?_
      refine lv_iconst (v := 0) hx hb dX6_open_31 (by decide) ?_
      obtain ⟨hg11, hf⟩ := sg_g_s hf
      refine va_zast hx hb hK.1 hP hD hS 12 1 rfl rfl (sg_inb_s hg11) dX6_open_32 (fun H locs hP hD hS => ?_)
      replace hP : va_P D vwCl (sg_WM cA ad (sg_set u9 19 (p1).toNatClampNeg (vp_nar .boolean 0))) H := by rw [← sg_WM_19]; exact hP
      replace hD : va_D A (sg_WM cA ad (sg_set u9 19 (p1).toNatClampNeg (vp_nar .boolean 0))) := by rw [← sg_WM_19]; exact hD
      refine lv_iload_n hx hb dX6_open_33 rfl (lv_at hl 0 rfl) ?_
      obtain ⟨hg12, hf⟩ := sg_g_s hf
      have hq := Option.some.inj hf
      exact sg_zret hx hb hr (sg_nc hg12) hP hD hS dX6_open_34 (congrArg Prod.fst hq) (congrArg Prod.snd hq) hlocks
  · have hf := sg_ip c14 hf
    refine lv_iconst (v := 0) hx hb dX6_open_12 (by decide) ?_
    have hq := Option.some.inj hf
    exact sg_zret hx hb hr rfl hP hD hS dX6_open_13 (congrArg Prod.fst hq) (congrArg Prod.snd hq) hlocks
set_option maxRecDepth 100000 in
set_option maxHeartbeats 4000000 in
theorem c_X6_overloaded (l : Launch) (D : va_G) (cA : Nat → ClassId) (ad : Nat → Nat) (N : Nat) (u : sg_St) (p1 : Int32) (r : Int32) (u' : sg_St) (hf : fX6_overloaded N u p1 = some (r, u')) : sg_CI l D cA (sg_WM cA ad) yX6_overloaded wsX6_overloaded ({ frames := 4, cells := 0, slots := 0, locals := 96 }) [.ref (ad 0), .int p1] u r u' := by
  intro sz
  refine Met.ofW (cc := cX6_overloaded) (maxL := 2) (ret := (some .int)) (by decide) rfl ?_
  intro p e s m args below meth c s₁ B hml hv
  obtain ⟨rfl, hsz, hP, hK, hD0⟩ := hv
  have hx := B.exec
  have hb := B.bytes
  have hr := B.returns
  have hts := atoms_spec (ws := wsX6_overloaded) B.pre
  have hown : s.vm.findClass RX6 = some m.cls := findClass_of_methodNamed B.named
  have hlocks := B.notSynchronized
  subst hsz
  have hD := hD0.self (sz := s.heap.size)
  generalize hAe : va_A (sg_WM cA ad u) s.heap.size = A at hD ⊢
  have hA : ∀ q : Nat, s.heap.size ≤ q → A q := fun q h => by rw [← hAe]; exact Or.inr h
  have hS : va_S A s.heap s.heap [] := va_S.rf
  have hl := lv_entry ([.ref (ad 0), .int p1]) (n := 2) (Nat.le_of_ble_eq_true rfl)
  rw [lg_entry_eq]
  generalize (lg_sl ([.ref (ad 0), .int p1]) ++ List.replicate (2 - (lg_sl ([.ref (ad 0), .int p1])).length) Slot.unset).toArray = ls at hl ⊢
  replace hl : lv_has ls 2 [(0, .ref (ad 0)), (1, .int p1)] := hl
  unfold fX6_overloaded at hf
  refine lv_aload_n hx hb dX6_overloaded_0 rfl (lv_at hl 0 rfl) ?_
  refine lv_aload_n hx hb dX6_overloaded_1 rfl (lv_at hl 0 rfl) ?_
  refine lv_iload_n hx hb dX6_overloaded_2 rfl (lv_at hl 1 rfl) ?_
  obtain ⟨r2, hc1, hf⟩ := sg_b_s hf
  refine sg_ci (va_runV (As := [.int p1]) (rest := [.ref (ad 0)]) ⟨hx, hb, hml, hown, hts⟩ (c_X6_isLine l D cA ad N _ _ _ hc1 _) (cwV 1 hts gX6_overloaded_X6_isLine rfl rfl rfl (by decide +kernel) ⟨Nat.le_of_ble_eq_true rfl, Nat.le_of_ble_eq_true rfl⟩) (sg_pre hK hP hD (ci := 8) (q0 := 0) rfl rfl) rfl rfl hl.1 rfl (lv_room (Nat.le_of_ble_eq_true rfl)) dX6_overloaded_3 ⟨Nat.zero_le _, Nat.zero_le _⟩) hD hS hA (fun H locs hP hD hS => ?_)
  obtain ⟨r5, u6, hc4, hf⟩ := sg_b2_s hf
  refine sg_ci (va_runV (As := [.int r2]) (rest := []) ⟨hx, hb, hml, hown, hts⟩ (c_X6_isThere l D cA ad N _ _ _ _ hc4 _) (cwV 1 hts gX6_overloaded_X6_isThere rfl rfl rfl (by decide +kernel) ⟨Nat.le_of_ble_eq_true rfl, Nat.le_of_ble_eq_true rfl⟩) (sg_pre hK hP hD (ci := 8) (q0 := 0) rfl rfl) rfl rfl hl.1 rfl (lv_room (Nat.le_of_ble_eq_true rfl)) dX6_overloaded_6 ⟨Nat.zero_le _, Nat.zero_le _⟩) hD hS hA (fun H locs hP hD hS => ?_)
  refine lv_if_ne (tgt := 14) hx hb dX6_overloaded_9 (by decide) (fun c17 => ?_) (fun c17 => ?_)
  · have hf := sg_in c17 hf
    refine lv_aload_n hx hb dX6_overloaded_14 rfl (lv_at hl 0 rfl) ?_
    refine lv_iload_n hx hb dX6_overloaded_15 rfl (lv_at hl 1 rfl) ?_
    obtain ⟨r8, u9, hc7, hf⟩ := sg_b2_s hf
    refine sg_ci (va_runV (As := [.int p1]) (rest := []) ⟨hx, hb, hml, hown, hts⟩ (c_X6_reason l D cA ad N _ _ _ _ hc7 _) (cwV 1 hts gX6_overloaded_X6_reason rfl rfl rfl (by decide +kernel) ⟨Nat.le_of_ble_eq_true rfl, Nat.le_of_ble_eq_true rfl⟩) (sg_pre hK hP hD (ci := 8) (q0 := 0) rfl rfl) rfl rfl hl.1 rfl (lv_room (Nat.le_of_ble_eq_true rfl)) dX6_overloaded_16 ⟨Nat.zero_le _, Nat.zero_le _⟩) hD hS hA (fun H locs hP hD hS => ?_)
    refine lv_bipush (v := 108) hx hb dX6_overloaded_19 (by decide) ?_
    refine lv_icmp_ne (tgt := 32) hx hb dX6_overloaded_21 (by decide) (fun c16 => ?_) (fun c16 => ?_)
    · have hf := sg_in c16 hf
      refine lv_aload_n hx hb dX6_overloaded_32 rfl (lv_at hl 0 rfl) ?_
      refine lv_iconst (v := 2) hx hb dX6_overloaded_33 (by decide) ?_
      obtain ⟨r11, u12, hc10, hf⟩ := sg_b2_s hf
      refine sg_ci (va_runV (As := [.int 2]) (rest := []) ⟨hx, hb, hml, hown, hts⟩ (c_X6_fails l D cA ad N _ _ _ _ hc10 _) (cwV 1 hts gX6_overloaded_X6_fails rfl rfl rfl (by decide +kernel) ⟨Nat.le_of_ble_eq_true rfl, Nat.le_of_ble_eq_true rfl⟩) (sg_pre hK hP hD (ci := 8) (q0 := 0) rfl rfl) rfl rfl hl.1 rfl (lv_room (Nat.le_of_ble_eq_true rfl)) dX6_overloaded_34 ⟨Nat.zero_le _, Nat.zero_le _⟩) hD hS hA (fun H locs hP hD hS => ?_)
      have hq := Option.some.inj hf
      exact sg_iret hx hb hr hP hD hS dX6_overloaded_37 (congrArg Prod.fst hq) (congrArg Prod.snd hq) hlocks
    · have hf := sg_ip c16 hf
      refine lv_aload_n hx hb dX6_overloaded_24 rfl (lv_at hl 0 rfl) ?_
      refine lv_iload_n hx hb dX6_overloaded_25 rfl (lv_at hl 1 rfl) ?_
      obtain ⟨r14, u15, hc13, hf⟩ := sg_b2_s hf
      refine sg_ci (va_runV (As := [.int p1]) (rest := []) ⟨hx, hb, hml, hown, hts⟩ (c_X6_tooMuch l D cA ad N _ _ _ _ hc13 _) (cwV 1 hts gX6_overloaded_X6_tooMuch rfl rfl rfl (by decide +kernel) ⟨Nat.le_of_ble_eq_true rfl, Nat.le_of_ble_eq_true rfl⟩) (sg_pre hK hP hD (ci := 8) (q0 := 0) rfl rfl) rfl rfl hl.1 rfl (lv_room (Nat.le_of_ble_eq_true rfl)) dX6_overloaded_26 ⟨Nat.zero_le _, Nat.zero_le _⟩) hD hS hA (fun H locs hP hD hS => ?_)
      refine lv_goto (tgt := 37) hx hb dX6_overloaded_29 (by decide) ?_
      have hq := Option.some.inj hf
      exact sg_iret hx hb hr hP hD hS dX6_overloaded_37 (congrArg Prod.fst hq) (congrArg Prod.snd hq) hlocks
  · have hf := sg_ip c17 hf
    refine lv_iconst (v := 0) hx hb dX6_overloaded_12 (by decide) ?_
    have hq := Option.some.inj hf
    exact sg_iret hx hb hr hP hD hS dX6_overloaded_13 (congrArg Prod.fst hq) (congrArg Prod.snd hq) hlocks
set_option maxRecDepth 100000 in
set_option maxHeartbeats 4000000 in
theorem c_X6_pathAt (l : Launch) (D : va_G) (cA : Nat → ClassId) (ad : Nat → Nat) (N : Nat) (u : sg_St) (p1 p2 : Int32) (r : Int32) (u' : sg_St) (hf : fX6_pathAt N u p1 p2 = some (r, u')) : sg_CI l D cA (sg_WM cA ad) yX6_pathAt wsX6_pathAt ({ frames := 3, cells := 0, slots := 0, locals := 72 }) [.ref (ad 0), .int p1, .int p2] u r u' := by
  intro sz
  refine Met.ofW (cc := cX6_pathAt) (maxL := 3) (ret := (some .int)) (by decide) rfl ?_
  intro p e s m args below meth c s₁ B hml hv
  obtain ⟨rfl, hsz, hP, hK, hD0⟩ := hv
  have hx := B.exec
  have hb := B.bytes
  have hr := B.returns
  have hts := atoms_spec (ws := wsX6_pathAt) B.pre
  have hown : s.vm.findClass RX6 = some m.cls := findClass_of_methodNamed B.named
  have hlocks := B.notSynchronized
  subst hsz
  have hD := hD0.self (sz := s.heap.size)
  generalize hAe : va_A (sg_WM cA ad u) s.heap.size = A at hD ⊢
  have hA : ∀ q : Nat, s.heap.size ≤ q → A q := fun q h => by rw [← hAe]; exact Or.inr h
  have hS : va_S A s.heap s.heap [] := va_S.rf
  have hl := lv_entry ([.ref (ad 0), .int p1, .int p2]) (n := 3) (Nat.le_of_ble_eq_true rfl)
  rw [lg_entry_eq]
  generalize (lg_sl ([.ref (ad 0), .int p1, .int p2]) ++ List.replicate (3 - (lg_sl ([.ref (ad 0), .int p1, .int p2])).length) Slot.unset).toArray = ls at hl ⊢
  replace hl : lv_has ls 3 [(0, .ref (ad 0)), (1, .int p1), (2, .int p2)] := hl
  have hinX6 : ∀ w ∈ u_ws RX6 TX6 27, w ∈ wsX6_pathAt := by decide +kernel
  unfold fX6_pathAt at hf
  refine lv_aload_n hx hb dX6_pathAt_0 rfl (lv_at hl 0 rfl) ?_
  refine lv_iload_n hx hb dX6_pathAt_1 rfl (lv_at hl 1 rfl) ?_
  obtain ⟨r2, u3, hc1, hf⟩ := sg_b2_s hf
  refine sg_ci (va_runV (As := [.int p1]) (rest := []) ⟨hx, hb, hml, hown, hts⟩ (c_X6_isFound l D cA ad N _ _ _ _ hc1 _) (cwV 1 hts gX6_pathAt_X6_isFound rfl rfl rfl (by decide +kernel) ⟨Nat.le_of_ble_eq_true rfl, Nat.le_of_ble_eq_true rfl⟩) (sg_pre hK hP hD (ci := 8) (q0 := 0) rfl rfl) rfl rfl hl.1 rfl (lv_room (Nat.le_of_ble_eq_true rfl)) dX6_pathAt_2 ⟨Nat.zero_le _, Nat.zero_le _⟩) hD hS hA (fun H locs hP hD hS => ?_)
  refine lv_if_ne (tgt := 10) hx hb dX6_pathAt_5 (by decide) (fun c12 => ?_) (fun c12 => ?_)
  · have hf := sg_in c12 hf
    refine lv_iload_n hx hb dX6_pathAt_10 rfl (lv_at hl 2 rfl) ?_
    refine lv_iconst (v := 0) hx hb dX6_pathAt_11 (by decide) ?_
    refine lv_aload_n hx hb dX6_pathAt_12 rfl (lv_at hl 0 rfl) ?_
    refine va_get (D := D) (ci := 8) (C := RX6) (T := TX6) (N := 27) hx hb hts hinX6 hown hK.1 hP 0 rfl rfl 21 (by decide) (hts (.fieldLink RX6 127 "SwitchgearModel" "far" "I") (by decide +kernel)) (fun _ h9 => h9) rfl dX6_pathAt_13 ?_
    refine lv_iconst (v := 1) hx hb dX6_pathAt_16 (by decide) ?_
    refine lv_isub hx hb dX6_pathAt_17 ?_
    obtain ⟨r5, hc4, hf⟩ := sg_b_s hf
    refine sg_ci0 (va_runS (As := [.int p2, .int 0, .int ((u3 4 0) - 1)]) (rest := []) ⟨hx, hb, hml, hown, hts⟩ (c_X6_in l D cA N _ _ _ _ hc4 _) (va_cwS 3 hts gX6_pathAt_X6_in rfl rfl rfl (by decide +kernel) ⟨Nat.le_of_ble_eq_true rfl, Nat.le_of_ble_eq_true rfl⟩) (sg_pre0 hK) rfl rfl hl.1 rfl (lv_room (Nat.le_of_ble_eq_true rfl)) dX6_pathAt_18 ⟨Nat.zero_le _, Nat.zero_le _⟩) hP hS hA (fun H locs hP hS => ?_)
    refine lv_if_eq (tgt := 33) hx hb dX6_pathAt_21 (by decide) (fun c11 => ?_) (fun c11 => ?_)
    · have hf := sg_ip c11 hf
      refine lv_aload_n hx hb dX6_pathAt_33 rfl (lv_at hl 0 rfl) ?_
      refine lv_iconst (v := 3) hx hb dX6_pathAt_34 (by decide) ?_
      obtain ⟨r8, u9, hc7, hf⟩ := sg_b2_s hf
      refine sg_ci (va_runV (As := [.int 3]) (rest := []) ⟨hx, hb, hml, hown, hts⟩ (c_X6_fails l D cA ad N _ _ _ _ hc7 _) (cwV 1 hts gX6_pathAt_X6_fails rfl rfl rfl (by decide +kernel) ⟨Nat.le_of_ble_eq_true rfl, Nat.le_of_ble_eq_true rfl⟩) (sg_pre hK hP hD (ci := 8) (q0 := 0) rfl rfl) rfl rfl hl.1 rfl (lv_room (Nat.le_of_ble_eq_true rfl)) dX6_pathAt_35 ⟨Nat.zero_le _, Nat.zero_le _⟩) hD hS hA (fun H locs hP hD hS => ?_)
      have hq := Option.some.inj hf
      exact sg_iret hx hb hr hP hD hS dX6_pathAt_38 (congrArg Prod.fst hq) (congrArg Prod.snd hq) hlocks
    · have hf := sg_in c11 hf
      refine lv_aload_n hx hb dX6_pathAt_24 rfl (lv_at hl 0 rfl) ?_
      refine va_get (D := D) (ci := 8) (C := RX6) (T := TX6) (N := 27) hx hb hts hinX6 hown hK.1 hP 0 rfl rfl 19 (by decide) (hts (.fieldLink RX6 56 "SwitchgearModel" "path" "[I") (by decide +kernel)) (fun _ h9 => h9) rfl dX6_pathAt_25 ?_
      refine lv_iload_n hx hb dX6_pathAt_28 rfl (lv_at hl 2 rfl) ?_
      obtain ⟨hg10, hf⟩ := sg_g_s hf
      refine va_iald hx hb hK.1 hP 16 0 rfl rfl (sg_inb_s hg10) dX6_pathAt_29 ?_
      refine lv_goto (tgt := 38) hx hb dX6_pathAt_30 (by decide) ?_
      have hq := Option.some.inj hf
      exact sg_iret hx hb hr hP hD hS dX6_pathAt_38 (congrArg Prod.fst hq) (congrArg Prod.snd hq) hlocks
  · have hf := sg_ip c12 hf
    refine lv_iconst (v := 0) hx hb dX6_pathAt_8 (by decide) ?_
    have hq := Option.some.inj hf
    exact sg_iret hx hb hr hP hD hS dX6_pathAt_9 (congrArg Prod.fst hq) (congrArg Prod.snd hq) hlocks
set_option maxRecDepth 100000 in
set_option maxHeartbeats 4000000 in
theorem c_X6_repair (l : Launch) (D : va_G) (cA : Nat → ClassId) (ad : Nat → Nat) (N : Nat) (u : sg_St) (p1 : Int32) (r : Int32) (u' : sg_St) (hf : fX6_repair N u p1 = some (r, u')) : sg_CI l D cA (sg_WM cA ad) yX6_repair wsX6_repair ({ frames := 2, cells := 0, slots := 0, locals := 43 }) [.ref (ad 0), .int p1] u r u' := by
  intro sz
  refine Met.ofW (cc := cX6_repair) (maxL := 2) (ret := (some .boolean)) (by decide) rfl ?_
  intro p e s m args below meth c s₁ B hml hv
  obtain ⟨rfl, hsz, hP, hK, hD0⟩ := hv
  have hx := B.exec
  have hb := B.bytes
  have hr := B.returns
  have hts := atoms_spec (ws := wsX6_repair) B.pre
  have hown : s.vm.findClass RX6 = some m.cls := findClass_of_methodNamed B.named
  have hlocks := B.notSynchronized
  subst hsz
  have hD := hD0.self (sz := s.heap.size)
  generalize hAe : va_A (sg_WM cA ad u) s.heap.size = A at hD ⊢
  have hA : ∀ q : Nat, s.heap.size ≤ q → A q := fun q h => by rw [← hAe]; exact Or.inr h
  have hS : va_S A s.heap s.heap [] := va_S.rf
  have hl := lv_entry ([.ref (ad 0), .int p1]) (n := 2) (Nat.le_of_ble_eq_true rfl)
  rw [lg_entry_eq]
  generalize (lg_sl ([.ref (ad 0), .int p1]) ++ List.replicate (2 - (lg_sl ([.ref (ad 0), .int p1])).length) Slot.unset).toArray = ls at hl ⊢
  replace hl : lv_has ls 2 [(0, .ref (ad 0)), (1, .int p1)] := hl
  have hinX6 : ∀ w ∈ u_ws RX6 TX6 27, w ∈ wsX6_repair := by decide +kernel
  have hJ59 : ∀ (u : sg_St) (H : Heap) (locs : List Loc) (ls : Array Slot), fX6_repair_j59 N u  = some (r, u') → va_P D vwCl (sg_WM cA ad u) H → va_D A (sg_WM cA ad u) → va_S A s.heap H locs → lv_has ls 2 [(0, .ref (ad 0))] → W p l e (headSpec wsX6_repair ({ frames := 2, cells := 0, slots := 0, locals := 43 })).room s m ([.ref (ad 0), .int p1] : List Value).toArray below meth c H locs 0 0 (MQ below (va_Qi (fun x y => x = r ∧ y = u') (sg_BX D (sg_WM cA ad) A) A) ([.ref (ad 0), .int p1] : List Value).toArray s 0 0 A) (F0 m 59 ls []) := by
    intro u H locs ls hf hP hD hS hl
    unfold fX6_repair_j59 at hf
    refine lv_iconst (v := 0) hx hb dX6_repair_59 (by decide) ?_
    have hq := Option.some.inj hf
    exact sg_zret hx hb hr rfl hP hD hS dX6_repair_60 (congrArg Prod.fst hq) (congrArg Prod.snd hq) hlocks
  have hJ29 : ∀ (u : sg_St) (v1 k0 : Int32) (H : Heap) (locs : List Loc) (ls : Array Slot), fX6_repair_j29 N u v1 k0 = some (r, u') → va_P D vwCl (sg_WM cA ad u) H → va_D A (sg_WM cA ad u) → va_S A s.heap H locs → lv_has ls 2 [(0, .ref (ad 0)), (1, .int v1)] → W p l e (headSpec wsX6_repair ({ frames := 2, cells := 0, slots := 0, locals := 43 })).room s m ([.ref (ad 0), .int p1] : List Value).toArray below meth c H locs 0 0 (MQ below (va_Qi (fun x y => x = r ∧ y = u') (sg_BX D (sg_WM cA ad) A) A) ([.ref (ad 0), .int p1] : List Value).toArray s 0 0 A) (F0 m 29 ls [.int k0, .ref (ad 0)]) := by
    intro u v1 k0 H locs ls hf hP hD hS hl
    unfold fX6_repair_j29 at hf
    refine va_put (D := D) (ci := 8) (v := .int k0) (ty := .int) (C := RX6) (T := TX6) (N := 27) hx hb hts hinX6 tyX6 tyX6_ok nmX6 hown hK.1 hP hD hS 0 rfl rfl 0 (by decide) (hts (.fieldLink RX6 68 "SwitchgearModel" "thrown" "I") (by decide +kernel)) (fun _ h9 => h9) rfl (by decide +kernel) rfl rfl (Nat.le_of_ble_eq_true rfl) dX6_repair_29 (fun H locs hP hD hS => ?_)
    replace hP : va_P D vwCl (sg_WM cA ad (sg_set u 0 0 k0)) H := by rw [← sg_WM_0]; exact hP
    replace hD : va_D A (sg_WM cA ad (sg_set u 0 0 k0)) := by rw [← sg_WM_0]; exact hD
    refine lv_aload_n hx hb dX6_repair_32 rfl (lv_at hl 0 rfl) ?_
    refine va_get (D := D) (ci := 8) (C := RX6) (T := TX6) (N := 27) hx hb hts hinX6 hown hK.1 hP 0 rfl rfl 17 (by decide) (hts (.fieldLink RX6 50 "SwitchgearModel" "isFaulty" "[Z") (by decide +kernel)) (fun _ h9 => h9) rfl dX6_repair_33 ?_
    refine lv_iload_n hx hb dX6_repair_36 rfl (lv_at hl 1 rfl) ?_
    refine lv_iconst (v := 0) hx hb dX6_repair_37 (by decide) ?_
    obtain ⟨hg1, hf⟩ := sg_g_s hf
    refine va_zast hx hb hK.1 hP hD hS 14 1 rfl rfl (sg_inb_s hg1) dX6_repair_38 (fun H locs hP hD hS => ?_)
    replace hP : va_P D vwCl (sg_WM cA ad (sg_set (sg_set u 0 0 k0) 21 (v1).toNatClampNeg (vp_nar .boolean 0))) H := by rw [← sg_WM_21]; exact hP
    replace hD : va_D A (sg_WM cA ad (sg_set (sg_set u 0 0 k0) 21 (v1).toNatClampNeg (vp_nar .boolean 0))) := by rw [← sg_WM_21]; exact hD
    refine lv_aload_n hx hb dX6_repair_39 rfl (lv_at hl 0 rfl) ?_
    refine va_get (D := D) (ci := 8) (C := RX6) (T := TX6) (N := 27) hx hb hts hinX6 hown hK.1 hP 0 rfl rfl 0 (by decide) (hts (.fieldLink RX6 68 "SwitchgearModel" "thrown" "I") (by decide +kernel)) (fun _ h9 => h9) rfl dX6_repair_40 ?_
    refine lv_if_ne (tgt := 59) hx hb dX6_repair_43 (by decide) (fun c4 => ?_) (fun c4 => ?_)
    · have hf := sg_in c4 hf
      exact hJ59 _ _ _ _ hf hP hD hS (lv_sub hl [0] rfl)
    · have hf := sg_ip c4 hf
      refine lv_aload_n hx hb dX6_repair_46 rfl (lv_at hl 0 rfl) ?_
      refine va_get (D := D) (ci := 8) (C := RX6) (T := TX6) (N := 27) hx hb hts hinX6 hown hK.1 hP 0 rfl rfl 16 (by decide) (hts (.fieldLink RX6 47 "SwitchgearModel" "isLocked" "[Z") (by decide +kernel)) (fun _ h9 => h9) rfl dX6_repair_47 ?_
      refine lv_iload_n hx hb dX6_repair_50 rfl (lv_at hl 1 rfl) ?_
      obtain ⟨hg2, hf⟩ := sg_g_s hf
      refine va_zald hx hb hK.1 hP 13 1 rfl rfl (sg_inb_s hg2) dX6_repair_51 ?_
      refine lv_if_eq (tgt := 59) hx hb dX6_repair_52 (by decide) (fun c3 => ?_) (fun c3 => ?_)
      · have hf := sg_ip c3 hf
        exact hJ59 _ _ _ _ hf hP hD hS (lv_sub hl [0] rfl)
      · have hf := sg_in c3 hf
        refine lv_iconst (v := 1) hx hb dX6_repair_55 (by decide) ?_
        refine lv_goto (tgt := 60) hx hb dX6_repair_56 (by decide) ?_
        have hq := Option.some.inj hf
        exact sg_zret hx hb hr rfl hP hD hS dX6_repair_60 (congrArg Prod.fst hq) (congrArg Prod.snd hq) hlocks
  unfold fX6_repair at hf
  refine lv_aload_n hx hb dX6_repair_0 rfl (lv_at hl 0 rfl) ?_
  refine lv_aload_n hx hb dX6_repair_1 rfl (lv_at hl 0 rfl) ?_
  refine lv_iload_n hx hb dX6_repair_2 rfl (lv_at hl 1 rfl) ?_
  obtain ⟨r2, hc1, hf⟩ := sg_b_s hf
  refine sg_ci (va_runV (As := [.int p1]) (rest := [.ref (ad 0)]) ⟨hx, hb, hml, hown, hts⟩ (c_X6_isLine l D cA ad N _ _ _ hc1 _) (cwV 1 hts gX6_repair_X6_isLine rfl rfl rfl (by decide +kernel) ⟨Nat.le_of_ble_eq_true rfl, Nat.le_of_ble_eq_true rfl⟩) (sg_pre hK hP hD (ci := 8) (q0 := 0) rfl rfl) rfl rfl hl.1 rfl (lv_room (Nat.le_of_ble_eq_true rfl)) dX6_repair_3 ⟨Nat.zero_le _, Nat.zero_le _⟩) hD hS hA (fun H locs hP hD hS => ?_)
  obtain ⟨r5, u6, hc4, hf⟩ := sg_b2_s hf
  refine sg_ci (va_runV (As := [.int r2]) (rest := []) ⟨hx, hb, hml, hown, hts⟩ (c_X6_isThere l D cA ad N _ _ _ _ hc4 _) (cwV 1 hts gX6_repair_X6_isThere rfl rfl rfl (by decide +kernel) ⟨Nat.le_of_ble_eq_true rfl, Nat.le_of_ble_eq_true rfl⟩) (sg_pre hK hP hD (ci := 8) (q0 := 0) rfl rfl) rfl rfl hl.1 rfl (lv_room (Nat.le_of_ble_eq_true rfl)) dX6_repair_6 ⟨Nat.zero_le _, Nat.zero_le _⟩) hD hS hA (fun H locs hP hD hS => ?_)
  refine lv_if_ne (tgt := 14) hx hb dX6_repair_9 (by decide) (fun c9 => ?_) (fun c9 => ?_)
  · have hf := sg_in c9 hf
    refine lv_aload_n hx hb dX6_repair_14 rfl (lv_at hl 0 rfl) ?_
    refine lv_aload_n hx hb dX6_repair_15 rfl (lv_at hl 0 rfl) ?_
    refine va_get (D := D) (ci := 8) (C := RX6) (T := TX6) (N := 27) hx hb hts hinX6 hown hK.1 hP 0 rfl rfl 17 (by decide) (hts (.fieldLink RX6 50 "SwitchgearModel" "isFaulty" "[Z") (by decide +kernel)) (fun _ h9 => h9) rfl dX6_repair_16 ?_
    refine lv_iload_n hx hb dX6_repair_19 rfl (lv_at hl 1 rfl) ?_
    obtain ⟨hg7, hf⟩ := sg_g_s hf
    refine va_zald hx hb hK.1 hP 14 1 rfl rfl (sg_inb_s hg7) dX6_repair_20 ?_
    refine lv_if_eq (tgt := 28) hx hb dX6_repair_21 (by decide) (fun c8 => ?_) (fun c8 => ?_)
    · have hf := sg_ip c8 hf
      refine lv_iconst (v := 2) hx hb dX6_repair_28 (by decide) ?_
      exact hJ29 _ _ _ _ _ _ hf hP hD hS (lv_sub hl [0, 1] rfl)
    · have hf := sg_in c8 hf
      refine lv_iconst (v := 0) hx hb dX6_repair_24 (by decide) ?_
      refine lv_goto (tgt := 29) hx hb dX6_repair_25 (by decide) ?_
      exact hJ29 _ _ _ _ _ _ hf hP hD hS (lv_sub hl [0, 1] rfl)
  · have hf := sg_ip c9 hf
    refine lv_iconst (v := 0) hx hb dX6_repair_12 (by decide) ?_
    have hq := Option.some.inj hf
    exact sg_zret hx hb hr rfl hP hD hS dX6_repair_13 (congrArg Prod.fst hq) (congrArg Prod.snd hq) hlocks
set_option maxRecDepth 100000 in
set_option maxHeartbeats 4000000 in
theorem c_X6_reset (l : Launch) (D : va_G) (cA : Nat → ClassId) (ad : Nat → Nat) (N : Nat) (u : sg_St) (p1 : Int32) (r : Int32) (u' : sg_St) (hf : fX6_reset N u p1 = some (r, u')) : sg_CI l D cA (sg_WM cA ad) yX6_reset wsX6_reset ({ frames := 2, cells := 0, slots := 0, locals := 43 }) [.ref (ad 0), .int p1] u r u' := by
  intro sz
  refine Met.ofW (cc := cX6_reset) (maxL := 4) (ret := (some .int)) (by decide) rfl ?_
  intro p e s m args below meth c s₁ B hml hv
  obtain ⟨rfl, hsz, hP, hK, hD0⟩ := hv
  have hx := B.exec
  have hb := B.bytes
  have hr := B.returns
  have hts := atoms_spec (ws := wsX6_reset) B.pre
  have hown : s.vm.findClass RX6 = some m.cls := findClass_of_methodNamed B.named
  have hlocks := B.notSynchronized
  subst hsz
  have hD := hD0.self (sz := s.heap.size)
  generalize hAe : va_A (sg_WM cA ad u) s.heap.size = A at hD ⊢
  have hA : ∀ q : Nat, s.heap.size ≤ q → A q := fun q h => by rw [← hAe]; exact Or.inr h
  have hS : va_S A s.heap s.heap [] := va_S.rf
  have hl := lv_entry ([.ref (ad 0), .int p1]) (n := 4) (Nat.le_of_ble_eq_true rfl)
  rw [lg_entry_eq]
  generalize (lg_sl ([.ref (ad 0), .int p1]) ++ List.replicate (4 - (lg_sl ([.ref (ad 0), .int p1])).length) Slot.unset).toArray = ls at hl ⊢
  replace hl : lv_has ls 4 [(0, .ref (ad 0)), (1, .int p1)] := hl
  have hinX6 : ∀ w ∈ u_ws RX6 TX6 27, w ∈ wsX6_reset := by decide +kernel
  have hL55 : ∀ (u : sg_St) (n : Nat) (x : Int32 × Int32) (r9 : Int32), sg_it (fun x => fX6_reset_L55 N u x.1 x.2) n x = some r9 → ∀ (H : Heap) (locs : List Loc) (ls : Array Slot), va_P D vwCl (sg_WM cA ad u) H → va_D A (sg_WM cA ad u) → va_S A s.heap H locs → lv_has ls 4 [(0, .ref (ad 0)), (2, .int x.1), (3, .int x.2)] → (∀ (H : Heap) (locs : List Loc) (ls : Array Slot), va_P D vwCl (sg_WM cA ad u) H → va_D A (sg_WM cA ad u) → va_S A s.heap H locs → lv_has ls 4 [(0, .ref (ad 0)), (2, .int r9)] → W p l e (headSpec wsX6_reset ({ frames := 2, cells := 0, slots := 0, locals := 43 })).room s m ([.ref (ad 0), .int p1] : List Value).toArray below meth c H locs 0 0 (MQ below (va_Qi (fun x y => x = r ∧ y = u') (sg_BX D (sg_WM cA ad) A) A) ([.ref (ad 0), .int p1] : List Value).toArray s 0 0 A) (F0 m 86 ls [])) → W p l e (headSpec wsX6_reset ({ frames := 2, cells := 0, slots := 0, locals := 43 })).room s m ([.ref (ad 0), .int p1] : List Value).toArray below meth c H locs 0 0 (MQ below (va_Qi (fun x y => x = r ∧ y = u') (sg_BX D (sg_WM cA ad) A) A) ([.ref (ad 0), .int p1] : List Value).toArray s 0 0 A) (F0 m 55 ls []) := by
    intro u
    refine sg_loop _ ?_
    intro x y r9 hf hI hy H locs ls hP hD hS hl hk
    replace hf : fX6_reset_L55 N u x.1 x.2 = some y := hf
    have hJ78 : ∀ (v3 k0 k1 : Int32) (H : Heap) (locs : List Loc) (ls : Array Slot), fX6_reset_j78 N u v3 k0 k1 = some y → va_P D vwCl (sg_WM cA ad u) H → va_D A (sg_WM cA ad u) → va_S A s.heap H locs → lv_has ls 4 [(0, .ref (ad 0)), (3, .int v3)] → W p l e (headSpec wsX6_reset ({ frames := 2, cells := 0, slots := 0, locals := 43 })).room s m ([.ref (ad 0), .int p1] : List Value).toArray below meth c H locs 0 0 (MQ below (va_Qi (fun x y => x = r ∧ y = u') (sg_BX D (sg_WM cA ad) A) A) ([.ref (ad 0), .int p1] : List Value).toArray s 0 0 A) (F0 m 78 ls [.int k1, .int k0]) := by
      intro v3 k0 k1 H locs ls hf hP hD hS hl
      unfold fX6_reset_j78 at hf
      refine lv_iadd hx hb dX6_reset_78 ?_
      refine lv_istore_n (lv' := [(2, .int (k0 + k1)), (0, .ref (ad 0)), (3, .int v3)]) hx hb dX6_reset_79 rfl hl (by decide) rfl (fun ls hl => ?_)
      refine lv_iinc (v := v3 + 1) (lv' := [(3, .int (v3 + 1)), (2, .int (k0 + k1)), (0, .ref (ad 0))]) hx hb dX6_reset_80 hl (k := 2) rfl rfl (by decide) rfl (fun ls hl => ?_)
      refine lv_goto (tgt := 55) hx hb dX6_reset_83 (by decide) ?_
      exact hI _ (Option.some.inj hf).symm _ _ _ hP hD hS (lv_sub hl [2, 1, 0] rfl) hk
    unfold fX6_reset_L55 at hf
    refine lv_iload_n hx hb dX6_reset_55 rfl (lv_at hl 2 rfl) ?_
    refine lv_aload_n hx hb dX6_reset_56 rfl (lv_at hl 0 rfl) ?_
    refine va_get (D := D) (ci := 8) (C := RX6) (T := TX6) (N := 27) hx hb hts hinX6 hown hK.1 hP 0 rfl rfl 2 (by decide) (hts (.fieldLink RX6 79 "SwitchgearModel" "lines" "I") (by decide +kernel)) (fun _ h9 => h9) rfl dX6_reset_57 ?_
    refine lv_icmp_ge (tgt := 86) hx hb dX6_reset_60 (by decide) (fun c3 => ?_) (fun c3 => ?_)
    · have hf := sg_ip c3 hf
      have hq := hy _ (Option.some.inj hf).symm
      subst hq
      exact hk _ _ _ hP hD hS (lv_sub hl [0, 1] rfl)
    · have hf := sg_in c3 hf
      refine lv_iload_n hx hb dX6_reset_63 rfl (lv_at hl 1 rfl) ?_
      refine lv_aload_n hx hb dX6_reset_64 rfl (lv_at hl 0 rfl) ?_
      refine va_get (D := D) (ci := 8) (C := RX6) (T := TX6) (N := 27) hx hb hts hinX6 hown hK.1 hP 0 rfl rfl 16 (by decide) (hts (.fieldLink RX6 47 "SwitchgearModel" "isLocked" "[Z") (by decide +kernel)) (fun _ h9 => h9) rfl dX6_reset_65 ?_
      refine lv_iload_n hx hb dX6_reset_68 rfl (lv_at hl 2 rfl) ?_
      obtain ⟨hg1, hf⟩ := sg_g_s hf
      refine va_zald hx hb hK.1 hP 13 1 rfl rfl (sg_inb_s hg1) dX6_reset_69 ?_
      refine lv_if_eq (tgt := 77) hx hb dX6_reset_70 (by decide) (fun c2 => ?_) (fun c2 => ?_)
      · have hf := sg_ip c2 hf
        refine lv_iconst (v := 0) hx hb dX6_reset_77 (by decide) ?_
        exact hJ78 _ _ _ _ _ _ hf hP hD hS (lv_sub hl [0, 2] rfl)
      · have hf := sg_in c2 hf
        refine lv_iconst (v := 1) hx hb dX6_reset_73 (by decide) ?_
        refine lv_goto (tgt := 78) hx hb dX6_reset_74 (by decide) ?_
        exact hJ78 _ _ _ _ _ _ hf hP hD hS (lv_sub hl [0, 2] rfl)
  unfold fX6_reset at hf
  refine lv_aload_n hx hb dX6_reset_0 rfl (lv_at hl 0 rfl) ?_
  refine lv_aload_n hx hb dX6_reset_1 rfl (lv_at hl 0 rfl) ?_
  refine lv_iload_n hx hb dX6_reset_2 rfl (lv_at hl 1 rfl) ?_
  obtain ⟨r2, hc1, hf⟩ := sg_b_s hf
  refine sg_ci (va_runV (As := [.int p1]) (rest := [.ref (ad 0)]) ⟨hx, hb, hml, hown, hts⟩ (c_X6_isLine l D cA ad N _ _ _ hc1 _) (cwV 1 hts gX6_reset_X6_isLine rfl rfl rfl (by decide +kernel) ⟨Nat.le_of_ble_eq_true rfl, Nat.le_of_ble_eq_true rfl⟩) (sg_pre hK hP hD (ci := 8) (q0 := 0) rfl rfl) rfl rfl hl.1 rfl (lv_room (Nat.le_of_ble_eq_true rfl)) dX6_reset_3 ⟨Nat.zero_le _, Nat.zero_le _⟩) hD hS hA (fun H locs hP hD hS => ?_)
  obtain ⟨r5, u6, hc4, hf⟩ := sg_b2_s hf
  refine sg_ci (va_runV (As := [.int r2]) (rest := []) ⟨hx, hb, hml, hown, hts⟩ (c_X6_isThere l D cA ad N _ _ _ _ hc4 _) (cwV 1 hts gX6_reset_X6_isThere rfl rfl rfl (by decide +kernel) ⟨Nat.le_of_ble_eq_true rfl, Nat.le_of_ble_eq_true rfl⟩) (sg_pre hK hP hD (ci := 8) (q0 := 0) rfl rfl) rfl rfl hl.1 rfl (lv_room (Nat.le_of_ble_eq_true rfl)) dX6_reset_6 ⟨Nat.zero_le _, Nat.zero_le _⟩) hD hS hA (fun H locs hP hD hS => ?_)
  refine lv_if_ne (tgt := 14) hx hb dX6_reset_9 (by decide) (fun c20 => ?_) (fun c20 => ?_)
  · have hf := sg_in c20 hf
    refine lv_aload_n hx hb dX6_reset_14 rfl (lv_at hl 0 rfl) ?_
    refine va_get (D := D) (ci := 8) (C := RX6) (T := TX6) (N := 27) hx hb hts hinX6 hown hK.1 hP 0 rfl rfl 17 (by decide) (hts (.fieldLink RX6 50 "SwitchgearModel" "isFaulty" "[Z") (by decide +kernel)) (fun _ h9 => h9) rfl dX6_reset_15 ?_
    refine lv_iload_n hx hb dX6_reset_18 rfl (lv_at hl 1 rfl) ?_
    obtain ⟨hg7, hf⟩ := sg_g_s hf
    refine va_zald hx hb hK.1 hP 14 1 rfl rfl (sg_inb_s hg7) dX6_reset_19 ?_
    refine lv_if_eq (tgt := 29) hx hb dX6_reset_20 (by decide) (fun c19 => ?_) (fun c19 => ?_)
    · have hf := sg_ip c19 hf
      refine lv_aload_n hx hb dX6_reset_29 rfl (lv_at hl 0 rfl) ?_
      refine va_get (D := D) (ci := 8) (C := RX6) (T := TX6) (N := 27) hx hb hts hinX6 hown hK.1 hP 0 rfl rfl 16 (by decide) (hts (.fieldLink RX6 47 "SwitchgearModel" "isLocked" "[Z") (by decide +kernel)) (fun _ h9 => h9) rfl dX6_reset_30 ?_
      refine lv_iload_n hx hb dX6_reset_33 rfl (lv_at hl 1 rfl) ?_
      obtain ⟨hg8, hf⟩ := sg_g_s hf
      refine va_zald hx hb hK.1 hP 13 1 rfl rfl (sg_inb_s hg8) dX6_reset_34 ?_
      refine lv_if_ne (tgt := 44) hx hb dX6_reset_35 (by decide) (fun c15 => ?_) (fun c15 => ?_)
      · have hf := sg_in c15 hf
        refine lv_aload_n hx hb dX6_reset_44 rfl (lv_at hl 0 rfl) ?_
        refine va_get (D := D) (ci := 8) (C := RX6) (T := TX6) (N := 27) hx hb hts hinX6 hown hK.1 hP 0 rfl rfl 16 (by decide) (hts (.fieldLink RX6 47 "SwitchgearModel" "isLocked" "[Z") (by decide +kernel)) (fun _ h9 => h9) rfl dX6_reset_45 ?_
        refine lv_iload_n hx hb dX6_reset_48 rfl (lv_at hl 1 rfl) ?_
        refine lv_iconst (v := 0) hx hb dX6_reset_49 (by decide) ?_
        obtain ⟨hg9, hf⟩ := sg_g_s hf
        refine va_zast hx hb hK.1 hP hD hS 13 1 rfl rfl (sg_inb_s hg9) dX6_reset_50 (fun H locs hP hD hS => ?_)
        replace hP : va_P D vwCl (sg_WM cA ad (sg_set u6 20 (p1).toNatClampNeg (vp_nar .boolean 0))) H := by rw [← sg_WM_20]; exact hP
        replace hD : va_D A (sg_WM cA ad (sg_set u6 20 (p1).toNatClampNeg (vp_nar .boolean 0))) := by rw [← sg_WM_20]; exact hD
        refine lv_iconst (v := 0) hx hb dX6_reset_51 (by decide) ?_
        refine lv_istore_n (lv' := [(2, .int 0), (0, .ref (ad 0)), (1, .int p1)]) hx hb dX6_reset_52 rfl hl (by decide) rfl (fun ls hl => ?_)
        refine lv_iconst (v := 0) hx hb dX6_reset_53 (by decide) ?_
        refine lv_istore_n (lv' := [(3, .int 0), (2, .int 0), (0, .ref (ad 0)), (1, .int p1)]) hx hb dX6_reset_54 rfl hl (by decide) rfl (fun ls hl => ?_)
        obtain ⟨e10, hc11, hf⟩ := sg_b_s hf
        refine hL55 _ _ _ e10 hc11 _ _ _ hP hD hS (lv_sub hl [2, 1, 0] rfl) (fun H locs ls hP hD hS hl => ?_)
        refine lv_iload_n hx hb dX6_reset_86 rfl (lv_at hl 1 rfl) ?_
        have hq := Option.some.inj hf
        exact sg_iret hx hb hr hP hD hS dX6_reset_87 (congrArg Prod.fst hq) (congrArg Prod.snd hq) hlocks
      · have hf := sg_ip c15 hf
        refine lv_aload_n hx hb dX6_reset_38 rfl (lv_at hl 0 rfl) ?_
        refine lv_iconst (v := 3) hx hb dX6_reset_39 (by decide) ?_
        obtain ⟨r13, u14, hc12, hf⟩ := sg_b2_s hf
        refine sg_ci (va_runV (As := [.int 3]) (rest := []) ⟨hx, hb, hml, hown, hts⟩ (c_X6_fails l D cA ad N _ _ _ _ hc12 _) (cwV 1 hts gX6_reset_X6_fails rfl rfl rfl (by decide +kernel) ⟨Nat.le_of_ble_eq_true rfl, Nat.le_of_ble_eq_true rfl⟩) (sg_pre hK hP hD (ci := 8) (q0 := 0) rfl rfl) rfl rfl hl.1 rfl (lv_room (Nat.le_of_ble_eq_true rfl)) dX6_reset_40 ⟨Nat.zero_le _, Nat.zero_le _⟩) hD hS hA (fun H locs hP hD hS => ?_)
        have hq := Option.some.inj hf
        exact sg_iret hx hb hr hP hD hS dX6_reset_43 (congrArg Prod.fst hq) (congrArg Prod.snd hq) hlocks
    · have hf := sg_in c19 hf
      refine lv_aload_n hx hb dX6_reset_23 rfl (lv_at hl 0 rfl) ?_
      refine lv_iconst (v := 2) hx hb dX6_reset_24 (by decide) ?_
      obtain ⟨r17, u18, hc16, hf⟩ := sg_b2_s hf
      refine sg_ci (va_runV (As := [.int 2]) (rest := []) ⟨hx, hb, hml, hown, hts⟩ (c_X6_fails l D cA ad N _ _ _ _ hc16 _) (cwV 1 hts gX6_reset_X6_fails rfl rfl rfl (by decide +kernel) ⟨Nat.le_of_ble_eq_true rfl, Nat.le_of_ble_eq_true rfl⟩) (sg_pre hK hP hD (ci := 8) (q0 := 0) rfl rfl) rfl rfl hl.1 rfl (lv_room (Nat.le_of_ble_eq_true rfl)) dX6_reset_25 ⟨Nat.zero_le _, Nat.zero_le _⟩) hD hS hA (fun H locs hP hD hS => ?_)
      have hq := Option.some.inj hf
      exact sg_iret hx hb hr hP hD hS dX6_reset_28 (congrArg Prod.fst hq) (congrArg Prod.snd hq) hlocks
  · have hf := sg_ip c20 hf
    refine lv_iconst (v := 0) hx hb dX6_reset_12 (by decide) ?_
    have hq := Option.some.inj hf
    exact sg_iret hx hb hr hP hD hS dX6_reset_13 (congrArg Prod.fst hq) (congrArg Prod.snd hq) hlocks
set_option maxRecDepth 100000 in
set_option maxHeartbeats 4000000 in
theorem c_X6_restore (l : Launch) (D : va_G) (cA : Nat → ClassId) (ad : Nat → Nat) (N : Nat) (u : sg_St) (r : Int32) (u' : sg_St) (hf : fX6_restore N u = some (r, u')) : sg_CI l D cA (sg_WM cA ad) yX6_restore wsX6_restore ({ frames := 21, cells := 0, slots := 0, locals := 484 }) [.ref (ad 0)] u r u' := by
  intro sz
  refine Met.ofW (cc := cX6_restore) (maxL := 2) (ret := (some .int)) (by decide) rfl ?_
  intro p e s m args below meth c s₁ B hml hv
  obtain ⟨rfl, hsz, hP, hK, hD0⟩ := hv
  have hx := B.exec
  have hb := B.bytes
  have hr := B.returns
  have hts := atoms_spec (ws := wsX6_restore) B.pre
  have hown : s.vm.findClass RX6 = some m.cls := findClass_of_methodNamed B.named
  have hlocks := B.notSynchronized
  subst hsz
  have hD := hD0.self (sz := s.heap.size)
  generalize hAe : va_A (sg_WM cA ad u) s.heap.size = A at hD ⊢
  have hA : ∀ q : Nat, s.heap.size ≤ q → A q := fun q h => by rw [← hAe]; exact Or.inr h
  have hS : va_S A s.heap s.heap [] := va_S.rf
  have hl := lv_entry ([.ref (ad 0)]) (n := 2) (Nat.le_of_ble_eq_true rfl)
  rw [lg_entry_eq]
  generalize (lg_sl ([.ref (ad 0)]) ++ List.replicate (2 - (lg_sl ([.ref (ad 0)])).length) Slot.unset).toArray = ls at hl ⊢
  replace hl : lv_has ls 2 [(0, .ref (ad 0))] := hl
  have hinX6 : ∀ w ∈ u_ws RX6 TX6 27, w ∈ wsX6_restore := by decide +kernel
  have hL6 : ∀ (n : Nat) (x : sg_St × Int32) (r9 : sg_St), sg_it (fun x => fX6_restore_L6 N x.1 x.2) n x = some r9 → ∀ (H : Heap) (locs : List Loc) (ls : Array Slot), va_P D vwCl (sg_WM cA ad x.1) H → va_D A (sg_WM cA ad x.1) → va_S A s.heap H locs → lv_has ls 2 [(0, .ref (ad 0)), (1, .int x.2)] → (∀ (H : Heap) (locs : List Loc) (ls : Array Slot), va_P D vwCl (sg_WM cA ad r9) H → va_D A (sg_WM cA ad r9) → va_S A s.heap H locs → lv_has ls 2 [(0, .ref (ad 0))] → W p l e (headSpec wsX6_restore ({ frames := 21, cells := 0, slots := 0, locals := 484 })).room s m ([.ref (ad 0)] : List Value).toArray below meth c H locs 0 0 (MQ below (va_Qi (fun x y => x = r ∧ y = u') (sg_BX D (sg_WM cA ad) A) A) ([.ref (ad 0)] : List Value).toArray s 0 0 A) (F0 m 32 ls [])) → W p l e (headSpec wsX6_restore ({ frames := 21, cells := 0, slots := 0, locals := 484 })).room s m ([.ref (ad 0)] : List Value).toArray below meth c H locs 0 0 (MQ below (va_Qi (fun x y => x = r ∧ y = u') (sg_BX D (sg_WM cA ad) A) A) ([.ref (ad 0)] : List Value).toArray s 0 0 A) (F0 m 6 ls []) := by
    refine sg_loop _ ?_
    intro x y r9 hf hI hy H locs ls hP hD hS hl hk
    replace hf : fX6_restore_L6 N x.1 x.2 = some y := hf
    unfold fX6_restore_L6 at hf
    refine lv_iload_n hx hb dX6_restore_6 rfl (lv_at hl 1 rfl) ?_
    refine lv_aload_n hx hb dX6_restore_7 rfl (lv_at hl 0 rfl) ?_
    refine va_get (D := D) (ci := 8) (C := RX6) (T := TX6) (N := 27) hx hb hts hinX6 hown hK.1 hP 0 rfl rfl 25 (by decide) (hts (.fieldLink RX6 182 "SwitchgearModel" "bestMany" "I") (by decide +kernel)) (fun _ h9 => h9) rfl dX6_restore_8 ?_
    refine lv_icmp_ge (tgt := 32) hx hb dX6_restore_11 (by decide) (fun c3 => ?_) (fun c3 => ?_)
    · have hf := sg_ip c3 hf
      have hq := hy _ (Option.some.inj hf).symm
      subst hq
      exact hk _ _ _ hP hD hS (lv_sub hl [0] rfl)
    · have hf := sg_in c3 hf
      refine lv_aload_n hx hb dX6_restore_14 rfl (lv_at hl 0 rfl) ?_
      refine va_get (D := D) (ci := 8) (C := RX6) (T := TX6) (N := 27) hx hb hts hinX6 hown hK.1 hP 0 rfl rfl 15 (by decide) (hts (.fieldLink RX6 44 "SwitchgearModel" "isClosed" "[Z") (by decide +kernel)) (fun _ h9 => h9) rfl dX6_restore_15 ?_
      refine lv_aload_n hx hb dX6_restore_18 rfl (lv_at hl 0 rfl) ?_
      refine va_get (D := D) (ci := 8) (C := RX6) (T := TX6) (N := 27) hx hb hts hinX6 hown hK.1 hP 0 rfl rfl 23 (by decide) (hts (.fieldLink RX6 65 "SwitchgearModel" "best" "[I") (by decide +kernel)) (fun _ h9 => h9) rfl dX6_restore_19 ?_
      refine lv_iload_n hx hb dX6_restore_22 rfl (lv_at hl 1 rfl) ?_
      obtain ⟨hg1, hf⟩ := sg_g_s hf
      refine va_iald hx hb hK.1 hP 19 0 rfl rfl (sg_inb_s hg1) dX6_restore_23 ?_
      refine lv_iconst (v := 1) hx hb dX6_restore_24 (by decide) ?_
      obtain ⟨hg2, hf⟩ := sg_g_s hf
      refine va_zast hx hb hK.1 hP hD hS 12 1 rfl rfl (sg_inb_s hg2) dX6_restore_25 (fun H locs hP hD hS => ?_)
      replace hP : va_P D vwCl (sg_WM cA ad (sg_set x.1 19 (x.1 26 (x.2).toNatClampNeg).toNatClampNeg (vp_nar .boolean 1))) H := by rw [← sg_WM_19]; exact hP
      replace hD : va_D A (sg_WM cA ad (sg_set x.1 19 (x.1 26 (x.2).toNatClampNeg).toNatClampNeg (vp_nar .boolean 1))) := by rw [← sg_WM_19]; exact hD
      refine lv_iinc (v := x.2 + 1) (lv' := [(1, .int (x.2 + 1)), (0, .ref (ad 0))]) hx hb dX6_restore_26 hl (k := 1) rfl rfl (by decide) rfl (fun ls hl => ?_)
      refine lv_goto (tgt := 6) hx hb dX6_restore_29 (by decide) ?_
      exact hI _ (Option.some.inj hf).symm _ _ _ hP hD hS (lv_sub hl [1, 0] rfl) hk
  unfold fX6_restore at hf
  refine lv_aload_n hx hb dX6_restore_0 rfl (lv_at hl 0 rfl) ?_
  obtain ⟨u3, hc1, hf⟩ := sg_b_s hf
  refine sg_cv (va_runV (As := []) (rest := []) ⟨hx, hb, hml, hown, hts⟩ (c_X6_chooses l D cA ad N _ _ hc1 _) (cwV 0 hts gX6_restore_X6_chooses rfl rfl rfl (by decide +kernel) ⟨Nat.le_of_ble_eq_true rfl, Nat.le_of_ble_eq_true rfl⟩) (sg_pre hK hP hD (ci := 8) (q0 := 0) rfl rfl) rfl rfl hl.1 rfl (lv_room (Nat.le_of_ble_eq_true rfl)) dX6_restore_1 ⟨Nat.zero_le _, Nat.zero_le _⟩) hD hS hA (fun H locs hP hD hS => ?_)
  refine lv_iconst (v := 0) hx hb dX6_restore_4 (by decide) ?_
  refine lv_istore_n (lv' := [(1, .int 0), (0, .ref (ad 0))]) hx hb dX6_restore_5 rfl hl (by decide) rfl (fun ls hl => ?_)
  obtain ⟨e4, hc5, hf⟩ := sg_b_s hf
  refine hL6 _ _ e4 hc5 _ _ _ hP hD hS (lv_sub hl [1, 0] rfl) (fun H locs ls hP hD hS hl => ?_)
  refine lv_aload_n hx hb dX6_restore_32 rfl (lv_at hl 0 rfl) ?_
  refine va_get (D := D) (ci := 8) (C := RX6) (T := TX6) (N := 27) hx hb hts hinX6 hown hK.1 hP 0 rfl rfl 25 (by decide) (hts (.fieldLink RX6 182 "SwitchgearModel" "bestMany" "I") (by decide +kernel)) (fun _ h9 => h9) rfl dX6_restore_33 ?_
  have hq := Option.some.inj hf
  exact sg_iret hx hb hr hP hD hS dX6_restore_36 (congrArg Prod.fst hq) (congrArg Prod.snd hq) hlocks
set_option maxRecDepth 100000 in
set_option maxHeartbeats 4000000 in
theorem c_X6_setLoad (l : Launch) (D : va_G) (cA : Nat → ClassId) (ad : Nat → Nat) (N : Nat) (u : sg_St) (p1 p2 : Int32) (r : Int32) (u' : sg_St) (hf : fX6_setLoad N u p1 p2 = some (r, u')) : sg_CI l D cA (sg_WM cA ad) yX6_setLoad wsX6_setLoad ({ frames := 3, cells := 0, slots := 0, locals := 69 }) [.ref (ad 0), .int p1, .int p2] u r u' := by
  intro sz
  refine Met.ofW (cc := cX6_setLoad) (maxL := 6) (ret := (some .int)) (by decide) rfl ?_
  intro p e s m args below meth c s₁ B hml hv
  obtain ⟨rfl, hsz, hP, hK, hD0⟩ := hv
  have hx := B.exec
  have hb := B.bytes
  have hr := B.returns
  have hts := atoms_spec (ws := wsX6_setLoad) B.pre
  have hown : s.vm.findClass RX6 = some m.cls := findClass_of_methodNamed B.named
  have hlocks := B.notSynchronized
  subst hsz
  have hD := hD0.self (sz := s.heap.size)
  generalize hAe : va_A (sg_WM cA ad u) s.heap.size = A at hD ⊢
  have hA : ∀ q : Nat, s.heap.size ≤ q → A q := fun q h => by rw [← hAe]; exact Or.inr h
  have hS : va_S A s.heap s.heap [] := va_S.rf
  have hl := lv_entry ([.ref (ad 0), .int p1, .int p2]) (n := 6) (Nat.le_of_ble_eq_true rfl)
  rw [lg_entry_eq]
  generalize (lg_sl ([.ref (ad 0), .int p1, .int p2]) ++ List.replicate (6 - (lg_sl ([.ref (ad 0), .int p1, .int p2])).length) Slot.unset).toArray = ls at hl ⊢
  replace hl : lv_has ls 6 [(0, .ref (ad 0)), (1, .int p1), (2, .int p2)] := hl
  have hinX6 : ∀ w ∈ u_ws RX6 TX6 27, w ∈ wsX6_setLoad := by decide +kernel
  have hJ117 : ∀ (u : sg_St) (v1 v3 k0 : Int32) (H : Heap) (locs : List Loc) (ls : Array Slot), fX6_setLoad_j117 N u v1 v3 k0 = some (r, u') → va_P D vwCl (sg_WM cA ad u) H → va_D A (sg_WM cA ad u) → va_S A s.heap H locs → lv_has ls 6 [(0, .ref (ad 0)), (1, .int v1), (3, .int v3)] → W p l e (headSpec wsX6_setLoad ({ frames := 3, cells := 0, slots := 0, locals := 69 })).room s m ([.ref (ad 0), .int p1, .int p2] : List Value).toArray below meth c H locs 0 0 (MQ below (va_Qi (fun x y => x = r ∧ y = u') (sg_BX D (sg_WM cA ad) A) A) ([.ref (ad 0), .int p1, .int p2] : List Value).toArray s 0 0 A) (F0 m 117 ls [.int k0]) := by
    intro u v1 v3 k0 H locs ls hf hP hD hS hl
    unfold fX6_setLoad_j117 at hf
    refine lv_istore (lv' := [(5, .int k0), (0, .ref (ad 0)), (1, .int v1), (3, .int v3)]) hx hb dX6_setLoad_117 hl (by decide) rfl (fun ls hl => ?_)
    refine lv_iload hx hb dX6_setLoad_119 (lv_at hl 0 rfl) ?_
    refine lv_if_eq (tgt := 137) hx hb dX6_setLoad_121 (by decide) (fun c5 => ?_) (fun c5 => ?_)
    · have hf := sg_ip c5 hf
      refine lv_aload_n hx hb dX6_setLoad_137 rfl (lv_at hl 1 rfl) ?_
      refine lv_iconst (v := 0) hx hb dX6_setLoad_138 (by decide) ?_
      refine va_put (D := D) (ci := 8) (v := .int 0) (ty := .int) (C := RX6) (T := TX6) (N := 27) hx hb hts hinX6 tyX6 tyX6_ok nmX6 hown hK.1 hP hD hS 0 rfl rfl 0 (by decide) (hts (.fieldLink RX6 68 "SwitchgearModel" "thrown" "I") (by decide +kernel)) (fun _ h9 => h9) rfl (by decide +kernel) rfl rfl (Nat.le_of_ble_eq_true rfl) dX6_setLoad_139 (fun H locs hP hD hS => ?_)
      replace hP : va_P D vwCl (sg_WM cA ad (sg_set u 0 0 0)) H := by rw [← sg_WM_0]; exact hP
      replace hD : va_D A (sg_WM cA ad (sg_set u 0 0 0)) := by rw [← sg_WM_0]; exact hD
      refine lv_iload_n hx hb dX6_setLoad_142 rfl (lv_at hl 3 rfl) ?_
      have hq := Option.some.inj hf
      exact sg_iret hx hb hr hP hD hS dX6_setLoad_143 (congrArg Prod.fst hq) (congrArg Prod.snd hq) hlocks
    · have hf := sg_in c5 hf
      refine lv_aload_n hx hb dX6_setLoad_124 rfl (lv_at hl 1 rfl) ?_
      refine va_get (D := D) (ci := 8) (C := RX6) (T := TX6) (N := 27) hx hb hts hinX6 hown hK.1 hP 0 rfl rfl 6 (by decide) (hts (.fieldLink RX6 17 "SwitchgearModel" "load" "[I") (by decide +kernel)) (fun _ h9 => h9) rfl dX6_setLoad_125 ?_
      refine lv_iload_n hx hb dX6_setLoad_128 rfl (lv_at hl 2 rfl) ?_
      refine lv_iload_n hx hb dX6_setLoad_129 rfl (lv_at hl 3 rfl) ?_
      obtain ⟨hg1, hf⟩ := sg_g_s hf
      refine va_iast hx hb hK.1 hP hD hS 3 0 rfl rfl (sg_inb_s hg1) dX6_setLoad_130 (fun H locs hP hD hS => ?_)
      replace hP : va_P D vwCl (sg_WM cA ad (sg_set u 10 (v1).toNatClampNeg v3)) H := by rw [← sg_WM_10]; exact hP
      replace hD : va_D A (sg_WM cA ad (sg_set u 10 (v1).toNatClampNeg v3)) := by rw [← sg_WM_10]; exact hD
      refine lv_aload_n hx hb dX6_setLoad_131 rfl (lv_at hl 1 rfl) ?_
      refine lv_iconst (v := 4) hx hb dX6_setLoad_132 (by decide) ?_
      obtain ⟨r3, u4, hc2, hf⟩ := sg_b2_s hf
      refine sg_ci (va_runV (As := [.int 4]) (rest := []) ⟨hx, hb, hml, hown, hts⟩ (c_X6_fails l D cA ad N _ _ _ _ hc2 _) (cwV 1 hts gX6_setLoad_X6_fails rfl rfl rfl (by decide +kernel) ⟨Nat.le_of_ble_eq_true rfl, Nat.le_of_ble_eq_true rfl⟩) (sg_pre hK hP hD (ci := 8) (q0 := 0) rfl rfl) rfl rfl hl.1 rfl (lv_room (Nat.le_of_ble_eq_true rfl)) dX6_setLoad_133 ⟨Nat.zero_le _, Nat.zero_le _⟩) hD hS hA (fun H locs hP hD hS => ?_)
      have hq := Option.some.inj hf
      exact sg_iret hx hb hr hP hD hS dX6_setLoad_136 (congrArg Prod.fst hq) (congrArg Prod.snd hq) hlocks
  have hJ103 : ∀ (u : sg_St) (v1 v3 : Int32) (H : Heap) (locs : List Loc) (ls : Array Slot), fX6_setLoad_j103 N u v1 v3 = some (r, u') → va_P D vwCl (sg_WM cA ad u) H → va_D A (sg_WM cA ad u) → va_S A s.heap H locs → lv_has ls 6 [(0, .ref (ad 0)), (1, .int v1), (3, .int v3)] → W p l e (headSpec wsX6_setLoad ({ frames := 3, cells := 0, slots := 0, locals := 69 })).room s m ([.ref (ad 0), .int p1, .int p2] : List Value).toArray below meth c H locs 0 0 (MQ below (va_Qi (fun x y => x = r ∧ y = u') (sg_BX D (sg_WM cA ad) A) A) ([.ref (ad 0), .int p1, .int p2] : List Value).toArray s 0 0 A) (F0 m 103 ls []) := by
    intro u v1 v3 H locs ls hf hP hD hS hl
    unfold fX6_setLoad_j103 at hf
    refine lv_aload_n hx hb dX6_setLoad_103 rfl (lv_at hl 0 rfl) ?_
    refine lv_iconst (v := (-1)) hx hb dX6_setLoad_104 (by decide) ?_
    obtain ⟨r2, u3, hc1, hf⟩ := sg_b2_s hf
    refine sg_ci (va_runV (As := [.int ((-1))]) (rest := []) ⟨hx, hb, hml, hown, hts⟩ (c_X6_tooMuch l D cA ad N _ _ _ _ hc1 _) (cwV 1 hts gX6_setLoad_X6_tooMuch rfl rfl rfl (by decide +kernel) ⟨Nat.le_of_ble_eq_true rfl, Nat.le_of_ble_eq_true rfl⟩) (sg_pre hK hP hD (ci := 8) (q0 := 0) rfl rfl) rfl rfl hl.1 rfl (lv_room (Nat.le_of_ble_eq_true rfl)) dX6_setLoad_105 ⟨Nat.zero_le _, Nat.zero_le _⟩) hD hS hA (fun H locs hP hD hS => ?_)
    refine lv_iconst (v := (-1)) hx hb dX6_setLoad_108 (by decide) ?_
    refine lv_icmp_eq (tgt := 116) hx hb dX6_setLoad_109 (by decide) (fun c4 => ?_) (fun c4 => ?_)
    · have hf := sg_ip c4 hf
      refine lv_iconst (v := 0) hx hb dX6_setLoad_116 (by decide) ?_
      exact hJ117 _ _ _ _ _ _ _ hf hP hD hS (lv_sub hl [0, 1, 2] rfl)
    · have hf := sg_in c4 hf
      refine lv_iconst (v := 1) hx hb dX6_setLoad_112 (by decide) ?_
      refine lv_goto (tgt := 117) hx hb dX6_setLoad_113 (by decide) ?_
      exact hJ117 _ _ _ _ _ _ _ hf hP hD hS (lv_sub hl [0, 1, 2] rfl)
  unfold fX6_setLoad at hf
  refine lv_aload_n hx hb dX6_setLoad_0 rfl (lv_at hl 0 rfl) ?_
  refine lv_iload_n hx hb dX6_setLoad_1 rfl (lv_at hl 1 rfl) ?_
  obtain ⟨r2, hc1, hf⟩ := sg_b_s hf
  refine sg_ci (va_runV (As := [.int p1]) (rest := []) ⟨hx, hb, hml, hown, hts⟩ (c_X6_isNode l D cA ad N _ _ _ hc1 _) (cwV 1 hts gX6_setLoad_X6_isNode rfl rfl rfl (by decide +kernel) ⟨Nat.le_of_ble_eq_true rfl, Nat.le_of_ble_eq_true rfl⟩) (sg_pre hK hP hD (ci := 8) (q0 := 0) rfl rfl) rfl rfl hl.1 rfl (lv_room (Nat.le_of_ble_eq_true rfl)) dX6_setLoad_2 ⟨Nat.zero_le _, Nat.zero_le _⟩) hD hS hA (fun H locs hP hD hS => ?_)
  refine lv_if_ne (tgt := 14) hx hb dX6_setLoad_5 (by decide) (fun c35 => ?_) (fun c35 => ?_)
  · have hf := sg_in c35 hf
    refine lv_iload_n hx hb dX6_setLoad_14 rfl (lv_at hl 2 rfl) ?_
    refine lv_iconst (v := 0) hx hb dX6_setLoad_15 (by decide) ?_
    refine lv_bipush (v := 99) hx hb dX6_setLoad_16 (by decide) ?_
    obtain ⟨r5, hc4, hf⟩ := sg_b_s hf
    refine sg_ci0 (va_runS (As := [.int p2, .int 0, .int 99]) (rest := []) ⟨hx, hb, hml, hown, hts⟩ (c_X6_in l D cA N _ _ _ _ hc4 _) (va_cwS 3 hts gX6_setLoad_X6_in rfl rfl rfl (by decide +kernel) ⟨Nat.le_of_ble_eq_true rfl, Nat.le_of_ble_eq_true rfl⟩) (sg_pre0 hK) rfl rfl hl.1 rfl (lv_room (Nat.le_of_ble_eq_true rfl)) dX6_setLoad_18 ⟨Nat.zero_le _, Nat.zero_le _⟩) hP hS hA (fun H locs hP hS => ?_)
    refine lv_if_ne (tgt := 30) hx hb dX6_setLoad_21 (by decide) (fun c31 => ?_) (fun c31 => ?_)
    · have hf := sg_in c31 hf
      refine lv_aload_n hx hb dX6_setLoad_30 rfl (lv_at hl 0 rfl) ?_
      refine va_get (D := D) (ci := 8) (C := RX6) (T := TX6) (N := 27) hx hb hts hinX6 hown hK.1 hP 0 rfl rfl 4 (by decide) (hts (.fieldLink RX6 7 "SwitchgearModel" "isSource" "[Z") (by decide +kernel)) (fun _ h9 => h9) rfl dX6_setLoad_31 ?_
      refine lv_iload_n hx hb dX6_setLoad_34 rfl (lv_at hl 1 rfl) ?_
      obtain ⟨hg7, hf⟩ := sg_g_s hf
      refine va_zald hx hb hK.1 hP 1 1 rfl rfl (sg_inb_s hg7) dX6_setLoad_35 ?_
      refine lv_if_eq (tgt := 45) hx hb dX6_setLoad_36 (by decide) (fun c27 => ?_) (fun c27 => ?_)
      · have hf := sg_ip c27 hf
        refine lv_aload_n hx hb dX6_setLoad_45 rfl (lv_at hl 0 rfl) ?_
        refine va_get (D := D) (ci := 8) (C := RX6) (T := TX6) (N := 27) hx hb hts hinX6 hown hK.1 hP 0 rfl rfl 6 (by decide) (hts (.fieldLink RX6 17 "SwitchgearModel" "load" "[I") (by decide +kernel)) (fun _ h9 => h9) rfl dX6_setLoad_46 ?_
        refine lv_iload_n hx hb dX6_setLoad_49 rfl (lv_at hl 1 rfl) ?_
        obtain ⟨hg8, hf⟩ := sg_g_s hf
        refine va_iald hx hb hK.1 hP 3 0 rfl rfl (sg_inb_s hg8) dX6_setLoad_50 ?_
        refine lv_istore_n (lv' := [(3, .int (u 10 (p1).toNatClampNeg)), (0, .ref (ad 0)), (1, .int p1), (2, .int p2)]) hx hb dX6_setLoad_51 rfl hl (by decide) rfl (fun ls hl => ?_)
        refine lv_aload_n hx hb dX6_setLoad_52 rfl (lv_at hl 1 rfl) ?_
        refine va_get (D := D) (ci := 8) (C := RX6) (T := TX6) (N := 27) hx hb hts hinX6 hown hK.1 hP 0 rfl rfl 6 (by decide) (hts (.fieldLink RX6 17 "SwitchgearModel" "load" "[I") (by decide +kernel)) (fun _ h9 => h9) rfl dX6_setLoad_53 ?_
        refine lv_iload_n hx hb dX6_setLoad_56 rfl (lv_at hl 2 rfl) ?_
        refine lv_iload_n hx hb dX6_setLoad_57 rfl (lv_at hl 3 rfl) ?_
        obtain ⟨hg9, hf⟩ := sg_g_s hf
        refine va_iast hx hb hK.1 hP hD hS 3 0 rfl rfl (sg_inb_s hg9) dX6_setLoad_58 (fun H locs hP hD hS => ?_)
        replace hP : va_P D vwCl (sg_WM cA ad (sg_set u 10 (p1).toNatClampNeg p2)) H := by rw [← sg_WM_10]; exact hP
        replace hD : va_D A (sg_WM cA ad (sg_set u 10 (p1).toNatClampNeg p2)) := by rw [← sg_WM_10]; exact hD
        refine lv_aload_n hx hb dX6_setLoad_59 rfl (lv_at hl 1 rfl) ?_
        refine lv_iconst (v := (-1)) hx hb dX6_setLoad_60 (by decide) ?_
        refine lv_iconst (v := (-1)) hx hb dX6_setLoad_61 (by decide) ?_
        obtain ⟨u12, hc10, hf⟩ := sg_b_s hf
        refine sg_cv (va_runV (As := [.int ((-1)), .int ((-1))]) (rest := []) ⟨hx, hb, hml, hown, hts⟩ (c_X6_paints l D cA ad N _ _ _ _ hc10 _) (cwV 2 hts gX6_setLoad_X6_paints rfl rfl rfl (by decide +kernel) ⟨Nat.le_of_ble_eq_true rfl, Nat.le_of_ble_eq_true rfl⟩) (sg_pre hK hP hD (ci := 8) (q0 := 0) rfl rfl) rfl rfl hl.1 rfl (lv_room (Nat.le_of_ble_eq_true rfl)) dX6_setLoad_62 ⟨Nat.zero_le _, Nat.zero_le _⟩) hD hS hA (fun H locs hP hD hS => ?_)
        refine lv_aload_n hx hb dX6_setLoad_65 rfl (lv_at hl 1 rfl) ?_
        refine lv_aload_n hx hb dX6_setLoad_66 rfl (lv_at hl 1 rfl) ?_
        refine va_get (D := D) (ci := 8) (C := RX6) (T := TX6) (N := 27) hx hb hts hinX6 hown hK.1 hP 0 rfl rfl 18 (by decide) (hts (.fieldLink RX6 53 "SwitchgearModel" "island" "[I") (by decide +kernel)) (fun _ h9 => h9) rfl dX6_setLoad_67 ?_
        refine lv_iload_n hx hb dX6_setLoad_70 rfl (lv_at hl 2 rfl) ?_
        obtain ⟨hg13, hf⟩ := sg_g_s hf
        refine va_iald hx hb hK.1 hP 15 0 rfl rfl (sg_inb_s hg13) dX6_setLoad_71 ?_
        obtain ⟨r15, hc14, hf⟩ := sg_b_s hf
        refine sg_ci (va_runV (As := [.int (u12 22 (p1).toNatClampNeg)]) (rest := []) ⟨hx, hb, hml, hown, hts⟩ (c_X6_source l D cA ad N _ _ _ hc14 _) (cwV 1 hts gX6_setLoad_X6_source rfl rfl rfl (by decide +kernel) ⟨Nat.le_of_ble_eq_true rfl, Nat.le_of_ble_eq_true rfl⟩) (sg_pre hK hP hD (ci := 8) (q0 := 0) rfl rfl) rfl rfl hl.1 rfl (lv_room (Nat.le_of_ble_eq_true rfl)) dX6_setLoad_72 ⟨Nat.zero_le _, Nat.zero_le _⟩) hD hS hA (fun H locs hP hD hS => ?_)
        refine lv_istore (lv' := [(4, .int r15), (3, .int (u 10 (p1).toNatClampNeg)), (0, .ref (ad 0)), (1, .int p1), (2, .int p2)]) hx hb dX6_setLoad_75 hl (by decide) rfl (fun ls hl => ?_)
        refine lv_iload hx hb dX6_setLoad_77 (lv_at hl 0 rfl) ?_
        refine lv_iconst (v := (-1)) hx hb dX6_setLoad_79 (by decide) ?_
        refine lv_icmp_eq (tgt := 103) hx hb dX6_setLoad_80 (by decide) (fun c23 => ?_) (fun c23 => ?_)
        · have hf := sg_ip c23 hf
          exact hJ103 _ _ _ _ _ _ hf hP hD hS (lv_sub hl [2, 3, 1] rfl)
        · have hf := sg_in c23 hf
          refine lv_aload_n hx hb dX6_setLoad_83 rfl (lv_at hl 2 rfl) ?_
          refine lv_aload_n hx hb dX6_setLoad_84 rfl (lv_at hl 2 rfl) ?_
          refine va_get (D := D) (ci := 8) (C := RX6) (T := TX6) (N := 27) hx hb hts hinX6 hown hK.1 hP 0 rfl rfl 18 (by decide) (hts (.fieldLink RX6 53 "SwitchgearModel" "island" "[I") (by decide +kernel)) (fun _ h9 => h9) rfl dX6_setLoad_85 ?_
          refine lv_iload_n hx hb dX6_setLoad_88 rfl (lv_at hl 3 rfl) ?_
          obtain ⟨hg17, hf⟩ := sg_g_s hf
          refine va_iald hx hb hK.1 hP 15 0 rfl rfl (sg_inb_s hg17) dX6_setLoad_89 ?_
          obtain ⟨r19, hc18, hf⟩ := sg_b_s hf
          refine sg_ci (va_runV (As := [.int (u12 22 (p1).toNatClampNeg)]) (rest := []) ⟨hx, hb, hml, hown, hts⟩ (c_X6_sum l D cA ad N _ _ _ hc18 _) (cwV 1 hts gX6_setLoad_X6_sum rfl rfl rfl (by decide +kernel) ⟨Nat.le_of_ble_eq_true rfl, Nat.le_of_ble_eq_true rfl⟩) (sg_pre hK hP hD (ci := 8) (q0 := 0) rfl rfl) rfl rfl hl.1 rfl (lv_room (Nat.le_of_ble_eq_true rfl)) dX6_setLoad_90 ⟨Nat.zero_le _, Nat.zero_le _⟩) hD hS hA (fun H locs hP hD hS => ?_)
          refine lv_aload_n hx hb dX6_setLoad_93 rfl (lv_at hl 2 rfl) ?_
          refine va_get (D := D) (ci := 8) (C := RX6) (T := TX6) (N := 27) hx hb hts hinX6 hown hK.1 hP 0 rfl rfl 5 (by decide) (hts (.fieldLink RX6 13 "SwitchgearModel" "capacity" "[I") (by decide +kernel)) (fun _ h9 => h9) rfl dX6_setLoad_94 ?_
          refine lv_iload hx hb dX6_setLoad_97 (lv_at hl 0 rfl) ?_
          obtain ⟨hg21, hf⟩ := sg_g_s hf
          refine va_iald hx hb hK.1 hP 2 0 rfl rfl (sg_inb_s hg21) dX6_setLoad_99 ?_
          refine lv_icmp_gt (tgt := 112) hx hb dX6_setLoad_100 (by decide) (fun c22 => ?_) (fun c22 => ?_)
          · have hf := sg_ip c22 hf
            refine lv_iconst (v := 1) hx hb dX6_setLoad_112 (by decide) ?_
            refine lv_goto (tgt := 117) hx hb dX6_setLoad_113 (by decide) ?_
            exact hJ117 _ _ _ _ _ _ _ hf hP hD hS (lv_sub hl [2, 3, 1] rfl)
          · have hf := sg_in c22 hf
            exact hJ103 _ _ _ _ _ _ hf hP hD hS (lv_sub hl [2, 3, 1] rfl)
      · have hf := sg_in c27 hf
        refine lv_aload_n hx hb dX6_setLoad_39 rfl (lv_at hl 0 rfl) ?_
        refine lv_iconst (v := 3) hx hb dX6_setLoad_40 (by decide) ?_
        obtain ⟨r25, u26, hc24, hf⟩ := sg_b2_s hf
        refine sg_ci (va_runV (As := [.int 3]) (rest := []) ⟨hx, hb, hml, hown, hts⟩ (c_X6_fails l D cA ad N _ _ _ _ hc24 _) (cwV 1 hts gX6_setLoad_X6_fails rfl rfl rfl (by decide +kernel) ⟨Nat.le_of_ble_eq_true rfl, Nat.le_of_ble_eq_true rfl⟩) (sg_pre hK hP hD (ci := 8) (q0 := 0) rfl rfl) rfl rfl hl.1 rfl (lv_room (Nat.le_of_ble_eq_true rfl)) dX6_setLoad_41 ⟨Nat.zero_le _, Nat.zero_le _⟩) hD hS hA (fun H locs hP hD hS => ?_)
        have hq := Option.some.inj hf
        exact sg_iret hx hb hr hP hD hS dX6_setLoad_44 (congrArg Prod.fst hq) (congrArg Prod.snd hq) hlocks
    · have hf := sg_ip c31 hf
      refine lv_aload_n hx hb dX6_setLoad_24 rfl (lv_at hl 0 rfl) ?_
      refine lv_iconst (v := 2) hx hb dX6_setLoad_25 (by decide) ?_
      obtain ⟨r29, u30, hc28, hf⟩ := sg_b2_s hf
      refine sg_ci (va_runV (As := [.int 2]) (rest := []) ⟨hx, hb, hml, hown, hts⟩ (c_X6_fails l D cA ad N _ _ _ _ hc28 _) (cwV 1 hts gX6_setLoad_X6_fails rfl rfl rfl (by decide +kernel) ⟨Nat.le_of_ble_eq_true rfl, Nat.le_of_ble_eq_true rfl⟩) (sg_pre hK hP hD (ci := 8) (q0 := 0) rfl rfl) rfl rfl hl.1 rfl (lv_room (Nat.le_of_ble_eq_true rfl)) dX6_setLoad_26 ⟨Nat.zero_le _, Nat.zero_le _⟩) hD hS hA (fun H locs hP hD hS => ?_)
      have hq := Option.some.inj hf
      exact sg_iret hx hb hr hP hD hS dX6_setLoad_29 (congrArg Prod.fst hq) (congrArg Prod.snd hq) hlocks
  · have hf := sg_ip c35 hf
    refine lv_aload_n hx hb dX6_setLoad_8 rfl (lv_at hl 0 rfl) ?_
    refine lv_iconst (v := 1) hx hb dX6_setLoad_9 (by decide) ?_
    obtain ⟨r33, u34, hc32, hf⟩ := sg_b2_s hf
    refine sg_ci (va_runV (As := [.int 1]) (rest := []) ⟨hx, hb, hml, hown, hts⟩ (c_X6_fails l D cA ad N _ _ _ _ hc32 _) (cwV 1 hts gX6_setLoad_X6_fails rfl rfl rfl (by decide +kernel) ⟨Nat.le_of_ble_eq_true rfl, Nat.le_of_ble_eq_true rfl⟩) (sg_pre hK hP hD (ci := 8) (q0 := 0) rfl rfl) rfl rfl hl.1 rfl (lv_room (Nat.le_of_ble_eq_true rfl)) dX6_setLoad_10 ⟨Nat.zero_le _, Nat.zero_le _⟩) hD hS hA (fun H locs hP hD hS => ?_)
    have hq := Option.some.inj hf
    exact sg_iret hx hb hr hP hD hS dX6_setLoad_13 (congrArg Prod.fst hq) (congrArg Prod.snd hq) hlocks
set_option maxRecDepth 100000 in
set_option maxHeartbeats 4000000 in
theorem c_X6_setRelay (l : Launch) (D : va_G) (cA : Nat → ClassId) (ad : Nat → Nat) (N : Nat) (u : sg_St) (p1 p2 p3 p4 : Int32) (r : Int32) (u' : sg_St) (hf : fX6_setRelay N u p1 p2 p3 p4 = some (r, u')) : sg_CI l D cA (sg_WM cA ad) yX6_setRelay wsX6_setRelay ({ frames := 2, cells := 0, slots := 0, locals := 43 }) [.ref (ad 0), .int p1, .int p2, .int p3, .int p4] u r u' := by
  intro sz
  refine Met.ofW (cc := cX6_setRelay) (maxL := 6) (ret := (some .int)) (by decide) rfl ?_
  intro p e s m args below meth c s₁ B hml hv
  obtain ⟨rfl, hsz, hP, hK, hD0⟩ := hv
  have hx := B.exec
  have hb := B.bytes
  have hr := B.returns
  have hts := atoms_spec (ws := wsX6_setRelay) B.pre
  have hown : s.vm.findClass RX6 = some m.cls := findClass_of_methodNamed B.named
  have hlocks := B.notSynchronized
  subst hsz
  have hD := hD0.self (sz := s.heap.size)
  generalize hAe : va_A (sg_WM cA ad u) s.heap.size = A at hD ⊢
  have hA : ∀ q : Nat, s.heap.size ≤ q → A q := fun q h => by rw [← hAe]; exact Or.inr h
  have hS : va_S A s.heap s.heap [] := va_S.rf
  have hl := lv_entry ([.ref (ad 0), .int p1, .int p2, .int p3, .int p4]) (n := 6) (Nat.le_of_ble_eq_true rfl)
  rw [lg_entry_eq]
  generalize (lg_sl ([.ref (ad 0), .int p1, .int p2, .int p3, .int p4]) ++ List.replicate (6 - (lg_sl ([.ref (ad 0), .int p1, .int p2, .int p3, .int p4])).length) Slot.unset).toArray = ls at hl ⊢
  replace hl : lv_has ls 6 [(0, .ref (ad 0)), (1, .int p1), (2, .int p2), (3, .int p3), (4, .int p4)] := hl
  have hinX6 : ∀ w ∈ u_ws RX6 TX6 27, w ∈ wsX6_setRelay := by decide +kernel
  have hJ52 : ∀ (u : sg_St) (v1 v2 v3 v4 : Int32) (H : Heap) (locs : List Loc) (ls : Array Slot), fX6_setRelay_j52 N u v1 v2 v3 v4 = some (r, u') → va_P D vwCl (sg_WM cA ad u) H → va_D A (sg_WM cA ad u) → va_S A s.heap H locs → lv_has ls 6 [(0, .ref (ad 0)), (1, .int v1), (2, .int v2), (3, .int v3), (4, .int v4)] → W p l e (headSpec wsX6_setRelay ({ frames := 2, cells := 0, slots := 0, locals := 43 })).room s m ([.ref (ad 0), .int p1, .int p2, .int p3, .int p4] : List Value).toArray below meth c H locs 0 0 (MQ below (va_Qi (fun x y => x = r ∧ y = u') (sg_BX D (sg_WM cA ad) A) A) ([.ref (ad 0), .int p1, .int p2, .int p3, .int p4] : List Value).toArray s 0 0 A) (F0 m 52 ls []) := by
    intro u v1 v2 v3 v4 H locs ls hf hP hD hS hl
    unfold fX6_setRelay_j52 at hf
    refine lv_aload_n hx hb dX6_setRelay_52 rfl (lv_at hl 0 rfl) ?_
    refine va_get (D := D) (ci := 8) (C := RX6) (T := TX6) (N := 27) hx hb hts hinX6 hown hK.1 hP 0 rfl rfl 14 (by decide) (hts (.fieldLink RX6 41 "SwitchgearModel" "isBreaker" "[Z") (by decide +kernel)) (fun _ h9 => h9) rfl dX6_setRelay_53 ?_
    refine lv_iload_n hx hb dX6_setRelay_56 rfl (lv_at hl 1 rfl) ?_
    obtain ⟨hg1, hf⟩ := sg_g_s hf
    refine va_zald hx hb hK.1 hP 11 1 rfl rfl (sg_inb_s hg1) dX6_setRelay_57 ?_
    refine lv_if_ne (tgt := 67) hx hb dX6_setRelay_58 (by decide) (fun c9 => ?_) (fun c9 => ?_)
    · have hf := sg_in c9 hf
      refine lv_aload_n hx hb dX6_setRelay_67 rfl (lv_at hl 0 rfl) ?_
      refine lv_iconst (v := 0) hx hb dX6_setRelay_68 (by decide) ?_
      refine va_put (D := D) (ci := 8) (v := .int 0) (ty := .int) (C := RX6) (T := TX6) (N := 27) hx hb hts hinX6 tyX6 tyX6_ok nmX6 hown hK.1 hP hD hS 0 rfl rfl 0 (by decide) (hts (.fieldLink RX6 68 "SwitchgearModel" "thrown" "I") (by decide +kernel)) (fun _ h9 => h9) rfl (by decide +kernel) rfl rfl (Nat.le_of_ble_eq_true rfl) dX6_setRelay_69 (fun H locs hP hD hS => ?_)
      replace hP : va_P D vwCl (sg_WM cA ad (sg_set u 0 0 0)) H := by rw [← sg_WM_0]; exact hP
      replace hD : va_D A (sg_WM cA ad (sg_set u 0 0 0)) := by rw [← sg_WM_0]; exact hD
      refine lv_aload_n hx hb dX6_setRelay_72 rfl (lv_at hl 0 rfl) ?_
      refine va_get (D := D) (ci := 8) (C := RX6) (T := TX6) (N := 27) hx hb hts hinX6 hown hK.1 hP 0 rfl rfl 11 (by decide) (hts (.fieldLink RX6 32 "SwitchgearModel" "pickup" "[I") (by decide +kernel)) (fun _ h9 => h9) rfl dX6_setRelay_73 ?_
      refine lv_iload_n hx hb dX6_setRelay_76 rfl (lv_at hl 1 rfl) ?_
      obtain ⟨hg2, hf⟩ := sg_g_s hf
      refine va_iald hx hb hK.1 hP 8 0 rfl rfl (sg_inb_s hg2) dX6_setRelay_77 ?_
      refine lv_istore (lv' := [(5, .int ((sg_set u 0 0 0) 15 (v1).toNatClampNeg)), (0, .ref (ad 0)), (1, .int v1), (2, .int v2), (3, .int v3), (4, .int v4)]) hx hb dX6_setRelay_78 hl (by decide) rfl (fun ls hl => ?_)
      refine lv_aload_n hx hb dX6_setRelay_80 rfl (lv_at hl 1 rfl) ?_
      refine va_get (D := D) (ci := 8) (C := RX6) (T := TX6) (N := 27) hx hb hts hinX6 hown hK.1 hP 0 rfl rfl 11 (by decide) (hts (.fieldLink RX6 32 "SwitchgearModel" "pickup" "[I") (by decide +kernel)) (fun _ h9 => h9) rfl dX6_setRelay_81 ?_
      refine lv_iload_n hx hb dX6_setRelay_84 rfl (lv_at hl 2 rfl) ?_
      refine lv_iload_n hx hb dX6_setRelay_85 rfl (lv_at hl 3 rfl) ?_
      obtain ⟨hg3, hf⟩ := sg_g_s hf
      refine va_iast hx hb hK.1 hP hD hS 8 0 rfl rfl (sg_inb_s hg3) dX6_setRelay_86 (fun H locs hP hD hS => ?_)
      replace hP : va_P D vwCl (sg_WM cA ad (sg_set (sg_set u 0 0 0) 15 (v1).toNatClampNeg v2)) H := by rw [← sg_WM_15]; exact hP
      replace hD : va_D A (sg_WM cA ad (sg_set (sg_set u 0 0 0) 15 (v1).toNatClampNeg v2)) := by rw [← sg_WM_15]; exact hD
      refine lv_aload_n hx hb dX6_setRelay_87 rfl (lv_at hl 1 rfl) ?_
      refine va_get (D := D) (ci := 8) (C := RX6) (T := TX6) (N := 27) hx hb hts hinX6 hown hK.1 hP 0 rfl rfl 12 (by decide) (hts (.fieldLink RX6 35 "SwitchgearModel" "multiplier" "[I") (by decide +kernel)) (fun _ h9 => h9) rfl dX6_setRelay_88 ?_
      refine lv_iload_n hx hb dX6_setRelay_91 rfl (lv_at hl 2 rfl) ?_
      refine lv_iload_n hx hb dX6_setRelay_92 rfl (lv_at hl 4 rfl) ?_
      obtain ⟨hg4, hf⟩ := sg_g_s hf
      refine va_iast hx hb hK.1 hP hD hS 9 0 rfl rfl (sg_inb_s hg4) dX6_setRelay_93 (fun H locs hP hD hS => ?_)
      replace hP : va_P D vwCl (sg_WM cA ad (sg_set (sg_set (sg_set u 0 0 0) 15 (v1).toNatClampNeg v2) 16 (v1).toNatClampNeg v3)) H := by rw [← sg_WM_16]; exact hP
      replace hD : va_D A (sg_WM cA ad (sg_set (sg_set (sg_set u 0 0 0) 15 (v1).toNatClampNeg v2) 16 (v1).toNatClampNeg v3)) := by rw [← sg_WM_16]; exact hD
      refine lv_aload_n hx hb dX6_setRelay_94 rfl (lv_at hl 1 rfl) ?_
      refine va_get (D := D) (ci := 8) (C := RX6) (T := TX6) (N := 27) hx hb hts hinX6 hown hK.1 hP 0 rfl rfl 13 (by decide) (hts (.fieldLink RX6 38 "SwitchgearModel" "instant" "[I") (by decide +kernel)) (fun _ h9 => h9) rfl dX6_setRelay_95 ?_
      refine lv_iload_n hx hb dX6_setRelay_98 rfl (lv_at hl 2 rfl) ?_
      refine lv_iload hx hb dX6_setRelay_99 (lv_at hl 5 rfl) ?_
      obtain ⟨hg5, hf⟩ := sg_g_s hf
      refine va_iast hx hb hK.1 hP hD hS 10 0 rfl rfl (sg_inb_s hg5) dX6_setRelay_101 (fun H locs hP hD hS => ?_)
      replace hP : va_P D vwCl (sg_WM cA ad (sg_set (sg_set (sg_set (sg_set u 0 0 0) 15 (v1).toNatClampNeg v2) 16 (v1).toNatClampNeg v3) 17 (v1).toNatClampNeg v4)) H := by rw [← sg_WM_17]; exact hP
      replace hD : va_D A (sg_WM cA ad (sg_set (sg_set (sg_set (sg_set u 0 0 0) 15 (v1).toNatClampNeg v2) 16 (v1).toNatClampNeg v3) 17 (v1).toNatClampNeg v4)) := by rw [← sg_WM_17]; exact hD
      refine lv_iload hx hb dX6_setRelay_102 (lv_at hl 0 rfl) ?_
      have hq := Option.some.inj hf
      exact sg_iret hx hb hr hP hD hS dX6_setRelay_104 (congrArg Prod.fst hq) (congrArg Prod.snd hq) hlocks
    · have hf := sg_ip c9 hf
      refine lv_aload_n hx hb dX6_setRelay_61 rfl (lv_at hl 0 rfl) ?_
      refine lv_iconst (v := 3) hx hb dX6_setRelay_62 (by decide) ?_
      obtain ⟨r7, u8, hc6, hf⟩ := sg_b2_s hf
      refine sg_ci (va_runV (As := [.int 3]) (rest := []) ⟨hx, hb, hml, hown, hts⟩ (c_X6_fails l D cA ad N _ _ _ _ hc6 _) (cwV 1 hts gX6_setRelay_X6_fails rfl rfl rfl (by decide +kernel) ⟨Nat.le_of_ble_eq_true rfl, Nat.le_of_ble_eq_true rfl⟩) (sg_pre hK hP hD (ci := 8) (q0 := 0) rfl rfl) rfl rfl hl.1 rfl (lv_room (Nat.le_of_ble_eq_true rfl)) dX6_setRelay_63 ⟨Nat.zero_le _, Nat.zero_le _⟩) hD hS hA (fun H locs hP hD hS => ?_)
      have hq := Option.some.inj hf
      exact sg_iret hx hb hr hP hD hS dX6_setRelay_66 (congrArg Prod.fst hq) (congrArg Prod.snd hq) hlocks
  have hJ46 : ∀ (u : sg_St) (H : Heap) (locs : List Loc) (ls : Array Slot), fX6_setRelay_j46 N u  = some (r, u') → va_P D vwCl (sg_WM cA ad u) H → va_D A (sg_WM cA ad u) → va_S A s.heap H locs → lv_has ls 6 [(0, .ref (ad 0))] → W p l e (headSpec wsX6_setRelay ({ frames := 2, cells := 0, slots := 0, locals := 43 })).room s m ([.ref (ad 0), .int p1, .int p2, .int p3, .int p4] : List Value).toArray below meth c H locs 0 0 (MQ below (va_Qi (fun x y => x = r ∧ y = u') (sg_BX D (sg_WM cA ad) A) A) ([.ref (ad 0), .int p1, .int p2, .int p3, .int p4] : List Value).toArray s 0 0 A) (F0 m 46 ls []) := by
    intro u H locs ls hf hP hD hS hl
    unfold fX6_setRelay_j46 at hf
    refine lv_aload_n hx hb dX6_setRelay_46 rfl (lv_at hl 0 rfl) ?_
    refine lv_iconst (v := 2) hx hb dX6_setRelay_47 (by decide) ?_
    obtain ⟨r2, u3, hc1, hf⟩ := sg_b2_s hf
    refine sg_ci (va_runV (As := [.int 2]) (rest := []) ⟨hx, hb, hml, hown, hts⟩ (c_X6_fails l D cA ad N _ _ _ _ hc1 _) (cwV 1 hts gX6_setRelay_X6_fails rfl rfl rfl (by decide +kernel) ⟨Nat.le_of_ble_eq_true rfl, Nat.le_of_ble_eq_true rfl⟩) (sg_pre hK hP hD (ci := 8) (q0 := 0) rfl rfl) rfl rfl hl.1 rfl (lv_room (Nat.le_of_ble_eq_true rfl)) dX6_setRelay_48 ⟨Nat.zero_le _, Nat.zero_le _⟩) hD hS hA (fun H locs hP hD hS => ?_)
    have hq := Option.some.inj hf
    exact sg_iret hx hb hr hP hD hS dX6_setRelay_51 (congrArg Prod.fst hq) (congrArg Prod.snd hq) hlocks
  unfold fX6_setRelay at hf
  refine lv_aload_n hx hb dX6_setRelay_0 rfl (lv_at hl 0 rfl) ?_
  refine lv_iload_n hx hb dX6_setRelay_1 rfl (lv_at hl 1 rfl) ?_
  obtain ⟨r2, hc1, hf⟩ := sg_b_s hf
  refine sg_ci (va_runV (As := [.int p1]) (rest := []) ⟨hx, hb, hml, hown, hts⟩ (c_X6_isLine l D cA ad N _ _ _ hc1 _) (cwV 1 hts gX6_setRelay_X6_isLine rfl rfl rfl (by decide +kernel) ⟨Nat.le_of_ble_eq_true rfl, Nat.le_of_ble_eq_true rfl⟩) (sg_pre hK hP hD (ci := 8) (q0 := 0) rfl rfl) rfl rfl hl.1 rfl (lv_room (Nat.le_of_ble_eq_true rfl)) dX6_setRelay_2 ⟨Nat.zero_le _, Nat.zero_le _⟩) hD hS hA (fun H locs hP hD hS => ?_)
  refine lv_if_ne (tgt := 14) hx hb dX6_setRelay_5 (by decide) (fun c17 => ?_) (fun c17 => ?_)
  · have hf := sg_in c17 hf
    refine lv_iload_n hx hb dX6_setRelay_14 rfl (lv_at hl 2 rfl) ?_
    refine lv_iconst (v := 1) hx hb dX6_setRelay_15 (by decide) ?_
    refine lv_sipush (v := 999) hx hb dX6_setRelay_16 (by decide) ?_
    obtain ⟨r5, hc4, hf⟩ := sg_b_s hf
    refine sg_ci0 (va_runS (As := [.int p2, .int 1, .int 999]) (rest := []) ⟨hx, hb, hml, hown, hts⟩ (c_X6_in l D cA N _ _ _ _ hc4 _) (va_cwS 3 hts gX6_setRelay_X6_in rfl rfl rfl (by decide +kernel) ⟨Nat.le_of_ble_eq_true rfl, Nat.le_of_ble_eq_true rfl⟩) (sg_pre0 hK) rfl rfl hl.1 rfl (lv_room (Nat.le_of_ble_eq_true rfl)) dX6_setRelay_19 ⟨Nat.zero_le _, Nat.zero_le _⟩) hP hS hA (fun H locs hP hS => ?_)
    refine lv_if_eq (tgt := 46) hx hb dX6_setRelay_22 (by decide) (fun c13 => ?_) (fun c13 => ?_)
    · have hf := sg_ip c13 hf
      exact hJ46 _ _ _ _ hf hP hD hS (lv_sub hl [0] rfl)
    · have hf := sg_in c13 hf
      refine lv_iload_n hx hb dX6_setRelay_25 rfl (lv_at hl 3 rfl) ?_
      refine lv_iconst (v := 1) hx hb dX6_setRelay_26 (by decide) ?_
      refine lv_bipush (v := 10) hx hb dX6_setRelay_27 (by decide) ?_
      obtain ⟨r8, hc7, hf⟩ := sg_b_s hf
      refine sg_ci0 (va_runS (As := [.int p3, .int 1, .int 10]) (rest := []) ⟨hx, hb, hml, hown, hts⟩ (c_X6_in l D cA N _ _ _ _ hc7 _) (va_cwS 3 hts gX6_setRelay_X6_in rfl rfl rfl (by decide +kernel) ⟨Nat.le_of_ble_eq_true rfl, Nat.le_of_ble_eq_true rfl⟩) (sg_pre0 hK) rfl rfl hl.1 rfl (lv_room (Nat.le_of_ble_eq_true rfl)) dX6_setRelay_29 ⟨Nat.zero_le _, Nat.zero_le _⟩) hP hS hA (fun H locs hP hS => ?_)
      refine lv_if_eq (tgt := 46) hx hb dX6_setRelay_32 (by decide) (fun c12 => ?_) (fun c12 => ?_)
      · have hf := sg_ip c12 hf
        exact hJ46 _ _ _ _ hf hP hD hS (lv_sub hl [0] rfl)
      · have hf := sg_in c12 hf
        refine lv_iload hx hb dX6_setRelay_35 (lv_at hl 4 rfl) ?_
        refine lv_if_eq (tgt := 52) hx hb dX6_setRelay_37 (by decide) (fun c11 => ?_) (fun c11 => ?_)
        · have hf := sg_ip c11 hf
          exact hJ52 _ _ _ _ _ _ _ _ hf hP hD hS (lv_sub hl [0, 1, 2, 3, 4] rfl)
        · have hf := sg_in c11 hf
          refine lv_iload hx hb dX6_setRelay_40 (lv_at hl 4 rfl) ?_
          refine lv_iload_n hx hb dX6_setRelay_42 rfl (lv_at hl 2 rfl) ?_
          refine lv_icmp_gt (tgt := 52) hx hb dX6_setRelay_43 (by decide) (fun c10 => ?_) (fun c10 => ?_)
          · have hf := sg_ip c10 hf
            exact hJ52 _ _ _ _ _ _ _ _ hf hP hD hS (lv_sub hl [0, 1, 2, 3, 4] rfl)
          · have hf := sg_in c10 hf
            exact hJ46 _ _ _ _ hf hP hD hS (lv_sub hl [0] rfl)
  · have hf := sg_ip c17 hf
    refine lv_aload_n hx hb dX6_setRelay_8 rfl (lv_at hl 0 rfl) ?_
    refine lv_iconst (v := 1) hx hb dX6_setRelay_9 (by decide) ?_
    obtain ⟨r15, u16, hc14, hf⟩ := sg_b2_s hf
    refine sg_ci (va_runV (As := [.int 1]) (rest := []) ⟨hx, hb, hml, hown, hts⟩ (c_X6_fails l D cA ad N _ _ _ _ hc14 _) (cwV 1 hts gX6_setRelay_X6_fails rfl rfl rfl (by decide +kernel) ⟨Nat.le_of_ble_eq_true rfl, Nat.le_of_ble_eq_true rfl⟩) (sg_pre hK hP hD (ci := 8) (q0 := 0) rfl rfl) rfl rfl hl.1 rfl (lv_room (Nat.le_of_ble_eq_true rfl)) dX6_setRelay_10 ⟨Nat.zero_le _, Nat.zero_le _⟩) hD hS hA (fun H locs hP hD hS => ?_)
    have hq := Option.some.inj hf
    exact sg_iret hx hb hr hP hD hS dX6_setRelay_13 (congrArg Prod.fst hq) (congrArg Prod.snd hq) hlocks
set_option maxRecDepth 100000 in
set_option maxHeartbeats 4000000 in
theorem c_X6_sizeByTrying (l : Launch) (D : va_G) (cA : Nat → ClassId) (ad : Nat → Nat) (N : Nat) (u : sg_St) (r : Int32) (u' : sg_St) (hf : fX6_sizeByTrying N u = some (r, u')) : sg_CI l D cA (sg_WM cA ad) yX6_sizeByTrying wsX6_sizeByTrying ({ frames := 22, cells := 0, slots := 0, locals := 504 }) [.ref (ad 0)] u r u' := by
  intro sz
  refine Met.ofW (cc := cX6_sizeByTrying) (maxL := 1) (ret := (some .int)) (by decide) rfl ?_
  intro p e s m args below meth c s₁ B hml hv
  obtain ⟨rfl, hsz, hP, hK, hD0⟩ := hv
  have hx := B.exec
  have hb := B.bytes
  have hr := B.returns
  have hts := atoms_spec (ws := wsX6_sizeByTrying) B.pre
  have hown : s.vm.findClass RX6 = some m.cls := findClass_of_methodNamed B.named
  have hlocks := B.notSynchronized
  subst hsz
  have hD := hD0.self (sz := s.heap.size)
  generalize hAe : va_A (sg_WM cA ad u) s.heap.size = A at hD ⊢
  have hA : ∀ q : Nat, s.heap.size ≤ q → A q := fun q h => by rw [← hAe]; exact Or.inr h
  have hS : va_S A s.heap s.heap [] := va_S.rf
  have hl := lv_entry ([.ref (ad 0)]) (n := 1) (Nat.le_of_ble_eq_true rfl)
  rw [lg_entry_eq]
  generalize (lg_sl ([.ref (ad 0)]) ++ List.replicate (1 - (lg_sl ([.ref (ad 0)])).length) Slot.unset).toArray = ls at hl ⊢
  replace hl : lv_has ls 1 [(0, .ref (ad 0))] := hl
  unfold fX6_sizeByTrying at hf
  refine lv_aload_n hx hb dX6_sizeByTrying_0 rfl (lv_at hl 0 rfl) ?_
  obtain ⟨r2, u3, hc1, hf⟩ := sg_b2_s hf
  refine sg_ci (va_runV (As := []) (rest := []) ⟨hx, hb, hml, hown, hts⟩ (c_X6_canTry l D cA ad N _ _ _ hc1 _) (cwV 0 hts gX6_sizeByTrying_X6_canTry rfl rfl rfl (by decide +kernel) ⟨Nat.le_of_ble_eq_true rfl, Nat.le_of_ble_eq_true rfl⟩) (sg_pre hK hP hD (ci := 8) (q0 := 0) rfl rfl) rfl rfl hl.1 rfl (lv_room (Nat.le_of_ble_eq_true rfl)) dX6_sizeByTrying_1 ⟨Nat.zero_le _, Nat.zero_le _⟩) hD hS hA (fun H locs hP hD hS => ?_)
  refine lv_if_eq (tgt := 14) hx hb dX6_sizeByTrying_4 (by decide) (fun c7 => ?_) (fun c7 => ?_)
  · have hf := sg_ip c7 hf
    refine lv_iconst (v := 0) hx hb dX6_sizeByTrying_14 (by decide) ?_
    have hq := Option.some.inj hf
    exact sg_iret hx hb hr hP hD hS dX6_sizeByTrying_15 (congrArg Prod.fst hq) (congrArg Prod.snd hq) hlocks
  · have hf := sg_in c7 hf
    refine lv_aload_n hx hb dX6_sizeByTrying_7 rfl (lv_at hl 0 rfl) ?_
    obtain ⟨r5, u6, hc4, hf⟩ := sg_b2_s hf
    refine sg_ci (va_runV (As := []) (rest := []) ⟨hx, hb, hml, hown, hts⟩ (c_X6_bestSize l D cA ad N _ _ _ hc4 _) (cwV 0 hts gX6_sizeByTrying_X6_bestSize rfl rfl rfl (by decide +kernel) ⟨Nat.le_of_ble_eq_true rfl, Nat.le_of_ble_eq_true rfl⟩) (sg_pre hK hP hD (ci := 8) (q0 := 0) rfl rfl) rfl rfl hl.1 rfl (lv_room (Nat.le_of_ble_eq_true rfl)) dX6_sizeByTrying_8 ⟨Nat.zero_le _, Nat.zero_le _⟩) hD hS hA (fun H locs hP hD hS => ?_)
    refine lv_goto (tgt := 15) hx hb dX6_sizeByTrying_11 (by decide) ?_
    have hq := Option.some.inj hf
    exact sg_iret hx hb hr hP hD hS dX6_sizeByTrying_15 (congrArg Prod.fst hq) (congrArg Prod.snd hq) hlocks
set_option maxRecDepth 100000 in
set_option maxHeartbeats 4000000 in
theorem c_X6_sourceOf (l : Launch) (D : va_G) (cA : Nat → ClassId) (ad : Nat → Nat) (N : Nat) (u : sg_St) (p1 : Int32) (r : Int32) (u' : sg_St) (hf : fX6_sourceOf N u p1 = some (r, u')) : sg_CI l D cA (sg_WM cA ad) yX6_sourceOf wsX6_sourceOf ({ frames := 3, cells := 0, slots := 0, locals := 64 }) [.ref (ad 0), .int p1] u r u' := by
  intro sz
  refine Met.ofW (cc := cX6_sourceOf) (maxL := 3) (ret := (some .int)) (by decide) rfl ?_
  intro p e s m args below meth c s₁ B hml hv
  obtain ⟨rfl, hsz, hP, hK, hD0⟩ := hv
  have hx := B.exec
  have hb := B.bytes
  have hr := B.returns
  have hts := atoms_spec (ws := wsX6_sourceOf) B.pre
  have hown : s.vm.findClass RX6 = some m.cls := findClass_of_methodNamed B.named
  have hlocks := B.notSynchronized
  subst hsz
  have hD := hD0.self (sz := s.heap.size)
  generalize hAe : va_A (sg_WM cA ad u) s.heap.size = A at hD ⊢
  have hA : ∀ q : Nat, s.heap.size ≤ q → A q := fun q h => by rw [← hAe]; exact Or.inr h
  have hS : va_S A s.heap s.heap [] := va_S.rf
  have hl := lv_entry ([.ref (ad 0), .int p1]) (n := 3) (Nat.le_of_ble_eq_true rfl)
  rw [lg_entry_eq]
  generalize (lg_sl ([.ref (ad 0), .int p1]) ++ List.replicate (3 - (lg_sl ([.ref (ad 0), .int p1])).length) Slot.unset).toArray = ls at hl ⊢
  replace hl : lv_has ls 3 [(0, .ref (ad 0)), (1, .int p1)] := hl
  have hinX6 : ∀ w ∈ u_ws RX6 TX6 27, w ∈ wsX6_sourceOf := by decide +kernel
  unfold fX6_sourceOf at hf
  refine lv_aload_n hx hb dX6_sourceOf_0 rfl (lv_at hl 0 rfl) ?_
  refine lv_iload_n hx hb dX6_sourceOf_1 rfl (lv_at hl 1 rfl) ?_
  obtain ⟨r2, u3, hc1, hf⟩ := sg_b2_s hf
  refine sg_ci (va_runV (As := [.int p1]) (rest := []) ⟨hx, hb, hml, hown, hts⟩ (c_X6_isPainted l D cA ad N _ _ _ _ hc1 _) (cwV 1 hts gX6_sourceOf_X6_isPainted rfl rfl rfl (by decide +kernel) ⟨Nat.le_of_ble_eq_true rfl, Nat.le_of_ble_eq_true rfl⟩) (sg_pre hK hP hD (ci := 8) (q0 := 0) rfl rfl) rfl rfl hl.1 rfl (lv_room (Nat.le_of_ble_eq_true rfl)) dX6_sourceOf_2 ⟨Nat.zero_le _, Nat.zero_le _⟩) hD hS hA (fun H locs hP hD hS => ?_)
  refine lv_if_ne (tgt := 10) hx hb dX6_sourceOf_5 (by decide) (fun c12 => ?_) (fun c12 => ?_)
  · have hf := sg_in c12 hf
    refine lv_aload_n hx hb dX6_sourceOf_10 rfl (lv_at hl 0 rfl) ?_
    refine lv_aload_n hx hb dX6_sourceOf_11 rfl (lv_at hl 0 rfl) ?_
    refine va_get (D := D) (ci := 8) (C := RX6) (T := TX6) (N := 27) hx hb hts hinX6 hown hK.1 hP 0 rfl rfl 18 (by decide) (hts (.fieldLink RX6 53 "SwitchgearModel" "island" "[I") (by decide +kernel)) (fun _ h9 => h9) rfl dX6_sourceOf_12 ?_
    refine lv_iload_n hx hb dX6_sourceOf_15 rfl (lv_at hl 1 rfl) ?_
    obtain ⟨hg4, hf⟩ := sg_g_s hf
    refine va_iald hx hb hK.1 hP 15 0 rfl rfl (sg_inb_s hg4) dX6_sourceOf_16 ?_
    obtain ⟨r6, hc5, hf⟩ := sg_b_s hf
    refine sg_ci (va_runV (As := [.int (u3 22 (p1).toNatClampNeg)]) (rest := []) ⟨hx, hb, hml, hown, hts⟩ (c_X6_source l D cA ad N _ _ _ hc5 _) (cwV 1 hts gX6_sourceOf_X6_source rfl rfl rfl (by decide +kernel) ⟨Nat.le_of_ble_eq_true rfl, Nat.le_of_ble_eq_true rfl⟩) (sg_pre hK hP hD (ci := 8) (q0 := 0) rfl rfl) rfl rfl hl.1 rfl (lv_room (Nat.le_of_ble_eq_true rfl)) dX6_sourceOf_17 ⟨Nat.zero_le _, Nat.zero_le _⟩) hD hS hA (fun H locs hP hD hS => ?_)
    refine lv_istore_n (lv' := [(2, .int r6), (0, .ref (ad 0)), (1, .int p1)]) hx hb dX6_sourceOf_20 rfl hl (by decide) rfl (fun ls hl => ?_)
    refine lv_iload_n hx hb dX6_sourceOf_21 rfl (lv_at hl 0 rfl) ?_
    refine lv_iconst (v := (-1)) hx hb dX6_sourceOf_22 (by decide) ?_
    refine lv_icmp_ne (tgt := 34) hx hb dX6_sourceOf_23 (by decide) (fun c11 => ?_) (fun c11 => ?_)
    · have hf := sg_in c11 hf
      refine lv_iload_n hx hb dX6_sourceOf_34 rfl (lv_at hl 0 rfl) ?_
      have hq := Option.some.inj hf
      exact sg_iret hx hb hr hP hD hS dX6_sourceOf_35 (congrArg Prod.fst hq) (congrArg Prod.snd hq) hlocks
    · have hf := sg_ip c11 hf
      refine lv_aload_n hx hb dX6_sourceOf_26 rfl (lv_at hl 1 rfl) ?_
      refine lv_iconst (v := 2) hx hb dX6_sourceOf_27 (by decide) ?_
      obtain ⟨r9, u10, hc8, hf⟩ := sg_b2_s hf
      refine sg_ci (va_runV (As := [.int 2]) (rest := []) ⟨hx, hb, hml, hown, hts⟩ (c_X6_fails l D cA ad N _ _ _ _ hc8 _) (cwV 1 hts gX6_sourceOf_X6_fails rfl rfl rfl (by decide +kernel) ⟨Nat.le_of_ble_eq_true rfl, Nat.le_of_ble_eq_true rfl⟩) (sg_pre hK hP hD (ci := 8) (q0 := 0) rfl rfl) rfl rfl hl.1 rfl (lv_room (Nat.le_of_ble_eq_true rfl)) dX6_sourceOf_28 ⟨Nat.zero_le _, Nat.zero_le _⟩) hD hS hA (fun H locs hP hD hS => ?_)
      refine lv_goto (tgt := 35) hx hb dX6_sourceOf_31 (by decide) ?_
      have hq := Option.some.inj hf
      exact sg_iret hx hb hr hP hD hS dX6_sourceOf_35 (congrArg Prod.fst hq) (congrArg Prod.snd hq) hlocks
  · have hf := sg_ip c12 hf
    refine lv_iconst (v := 0) hx hb dX6_sourceOf_8 (by decide) ?_
    have hq := Option.some.inj hf
    exact sg_iret hx hb hr hP hD hS dX6_sourceOf_9 (congrArg Prod.fst hq) (congrArg Prod.snd hq) hlocks
set_option maxRecDepth 100000 in
set_option maxHeartbeats 4000000 in
theorem c_X6_thrown (l : Launch) (D : va_G) (cA : Nat → ClassId) (ad : Nat → Nat) (N : Nat) (u : sg_St) (r : Int32) (hf : fX6_thrown N u = some r) : sg_CI l D cA (sg_WM cA ad) yX6_thrown wsX6_thrown ({ frames := 0, cells := 0, slots := 0, locals := 0 }) [.ref (ad 0)] u r u := by
  intro sz
  refine Met.ofW (cc := cX6_thrown) (maxL := 1) (ret := (some .int)) (by decide) rfl ?_
  intro p e s m args below meth c s₁ B hml hv
  obtain ⟨rfl, hsz, hP, hK, hD0⟩ := hv
  have hx := B.exec
  have hb := B.bytes
  have hr := B.returns
  have hts := atoms_spec (ws := wsX6_thrown) B.pre
  have hown : s.vm.findClass RX6 = some m.cls := findClass_of_methodNamed B.named
  have hlocks := B.notSynchronized
  subst hsz
  have hD := hD0.self (sz := s.heap.size)
  generalize hAe : va_A (sg_WM cA ad u) s.heap.size = A at hD ⊢
  have hA : ∀ q : Nat, s.heap.size ≤ q → A q := fun q h => by rw [← hAe]; exact Or.inr h
  have hS : va_S A s.heap s.heap [] := va_S.rf
  have hl := lv_entry ([.ref (ad 0)]) (n := 1) (Nat.le_of_ble_eq_true rfl)
  rw [lg_entry_eq]
  generalize (lg_sl ([.ref (ad 0)]) ++ List.replicate (1 - (lg_sl ([.ref (ad 0)])).length) Slot.unset).toArray = ls at hl ⊢
  replace hl : lv_has ls 1 [(0, .ref (ad 0))] := hl
  have hinX6 : ∀ w ∈ u_ws RX6 TX6 27, w ∈ wsX6_thrown := by decide +kernel
  unfold fX6_thrown at hf
  refine lv_aload_n hx hb dX6_thrown_0 rfl (lv_at hl 0 rfl) ?_
  refine va_get (D := D) (ci := 8) (C := RX6) (T := TX6) (N := 27) hx hb hts hinX6 hown hK.1 hP 0 rfl rfl 0 (by decide) (hts (.fieldLink RX6 68 "SwitchgearModel" "thrown" "I") (by decide +kernel)) (fun _ h9 => h9) rfl dX6_thrown_1 ?_
  have hq := Option.some.inj hf
  exact sg_iret hx hb hr hP hD hS dX6_thrown_4 hq rfl hlocks
set_option maxRecDepth 100000 in
set_option maxHeartbeats 4000000 in
theorem c_X6_tripTime (l : Launch) (D : va_G) (cA : Nat → ClassId) (ad : Nat → Nat) (N : Nat) (u : sg_St) (p1 p2 : Int32) (r : Int32) (u' : sg_St) (hf : fX6_tripTime N u p1 p2 = some (r, u')) : sg_CI l D cA (sg_WM cA ad) yX6_tripTime wsX6_tripTime ({ frames := 2, cells := 0, slots := 0, locals := 43 }) [.ref (ad 0), .int p1, .int p2] u r u' := by
  intro sz
  refine Met.ofW (cc := cX6_tripTime) (maxL := 3) (ret := (some .int)) (by decide) rfl ?_
  intro p e s m args below meth c s₁ B hml hv
  obtain ⟨rfl, hsz, hP, hK, hD0⟩ := hv
  have hx := B.exec
  have hb := B.bytes
  have hr := B.returns
  have hts := atoms_spec (ws := wsX6_tripTime) B.pre
  have hown : s.vm.findClass RX6 = some m.cls := findClass_of_methodNamed B.named
  have hlocks := B.notSynchronized
  subst hsz
  have hD := hD0.self (sz := s.heap.size)
  generalize hAe : va_A (sg_WM cA ad u) s.heap.size = A at hD ⊢
  have hA : ∀ q : Nat, s.heap.size ≤ q → A q := fun q h => by rw [← hAe]; exact Or.inr h
  have hS : va_S A s.heap s.heap [] := va_S.rf
  have hl := lv_entry ([.ref (ad 0), .int p1, .int p2]) (n := 3) (Nat.le_of_ble_eq_true rfl)
  rw [lg_entry_eq]
  generalize (lg_sl ([.ref (ad 0), .int p1, .int p2]) ++ List.replicate (3 - (lg_sl ([.ref (ad 0), .int p1, .int p2])).length) Slot.unset).toArray = ls at hl ⊢
  replace hl : lv_has ls 3 [(0, .ref (ad 0)), (1, .int p1), (2, .int p2)] := hl
  have hinX6 : ∀ w ∈ u_ws RX6 TX6 27, w ∈ wsX6_tripTime := by decide +kernel
  unfold fX6_tripTime at hf
  refine lv_aload_n hx hb dX6_tripTime_0 rfl (lv_at hl 0 rfl) ?_
  refine lv_iload_n hx hb dX6_tripTime_1 rfl (lv_at hl 1 rfl) ?_
  obtain ⟨r2, hc1, hf⟩ := sg_b_s hf
  refine sg_ci (va_runV (As := [.int p1]) (rest := []) ⟨hx, hb, hml, hown, hts⟩ (c_X6_isLine l D cA ad N _ _ _ hc1 _) (cwV 1 hts gX6_tripTime_X6_isLine rfl rfl rfl (by decide +kernel) ⟨Nat.le_of_ble_eq_true rfl, Nat.le_of_ble_eq_true rfl⟩) (sg_pre hK hP hD (ci := 8) (q0 := 0) rfl rfl) rfl rfl hl.1 rfl (lv_room (Nat.le_of_ble_eq_true rfl)) dX6_tripTime_2 ⟨Nat.zero_le _, Nat.zero_le _⟩) hD hS hA (fun H locs hP hD hS => ?_)
  refine lv_if_ne (tgt := 14) hx hb dX6_tripTime_5 (by decide) (fun c22 => ?_) (fun c22 => ?_)
  · have hf := sg_in c22 hf
    refine lv_iload_n hx hb dX6_tripTime_14 rfl (lv_at hl 2 rfl) ?_
    refine lv_iconst (v := 1) hx hb dX6_tripTime_15 (by decide) ?_
    refine lv_ldc (v := 99999) hx hb hown (hts (.constant RX6 165 (99999)) (by decide +kernel)) dX6_tripTime_16 ?_
    obtain ⟨r5, hc4, hf⟩ := sg_b_s hf
    refine sg_ci0 (va_runS (As := [.int p2, .int 1, .int 99999]) (rest := []) ⟨hx, hb, hml, hown, hts⟩ (c_X6_in l D cA N _ _ _ _ hc4 _) (va_cwS 3 hts gX6_tripTime_X6_in rfl rfl rfl (by decide +kernel) ⟨Nat.le_of_ble_eq_true rfl, Nat.le_of_ble_eq_true rfl⟩) (sg_pre0 hK) rfl rfl hl.1 rfl (lv_room (Nat.le_of_ble_eq_true rfl)) dX6_tripTime_18 ⟨Nat.zero_le _, Nat.zero_le _⟩) hP hS hA (fun H locs hP hS => ?_)
    refine lv_if_ne (tgt := 30) hx hb dX6_tripTime_21 (by decide) (fun c18 => ?_) (fun c18 => ?_)
    · have hf := sg_in c18 hf
      refine lv_aload_n hx hb dX6_tripTime_30 rfl (lv_at hl 0 rfl) ?_
      refine va_get (D := D) (ci := 8) (C := RX6) (T := TX6) (N := 27) hx hb hts hinX6 hown hK.1 hP 0 rfl rfl 14 (by decide) (hts (.fieldLink RX6 41 "SwitchgearModel" "isBreaker" "[Z") (by decide +kernel)) (fun _ h9 => h9) rfl dX6_tripTime_31 ?_
      refine lv_iload_n hx hb dX6_tripTime_34 rfl (lv_at hl 1 rfl) ?_
      obtain ⟨hg7, hf⟩ := sg_g_s hf
      refine va_zald hx hb hK.1 hP 11 1 rfl rfl (sg_inb_s hg7) dX6_tripTime_35 ?_
      refine lv_if_ne (tgt := 45) hx hb dX6_tripTime_36 (by decide) (fun c14 => ?_) (fun c14 => ?_)
      · have hf := sg_in c14 hf
        refine lv_aload_n hx hb dX6_tripTime_45 rfl (lv_at hl 0 rfl) ?_
        refine lv_iconst (v := 0) hx hb dX6_tripTime_46 (by decide) ?_
        refine va_put (D := D) (ci := 8) (v := .int 0) (ty := .int) (C := RX6) (T := TX6) (N := 27) hx hb hts hinX6 tyX6 tyX6_ok nmX6 hown hK.1 hP hD hS 0 rfl rfl 0 (by decide) (hts (.fieldLink RX6 68 "SwitchgearModel" "thrown" "I") (by decide +kernel)) (fun _ h9 => h9) rfl (by decide +kernel) rfl rfl (Nat.le_of_ble_eq_true rfl) dX6_tripTime_47 (fun H locs hP hD hS => ?_)
        replace hP : va_P D vwCl (sg_WM cA ad (sg_set u 0 0 0)) H := by rw [← sg_WM_0]; exact hP
        replace hD : va_D A (sg_WM cA ad (sg_set u 0 0 0)) := by rw [← sg_WM_0]; exact hD
        refine lv_aload_n hx hb dX6_tripTime_50 rfl (lv_at hl 0 rfl) ?_
        refine lv_iload_n hx hb dX6_tripTime_51 rfl (lv_at hl 1 rfl) ?_
        refine lv_iload_n hx hb dX6_tripTime_52 rfl (lv_at hl 2 rfl) ?_
        obtain ⟨r9, hc8, hf⟩ := sg_b_s hf
        refine sg_ci (va_runV (As := [.int p1, .int p2]) (rest := []) ⟨hx, hb, hml, hown, hts⟩ (c_X6_time l D cA ad N _ _ _ _ hc8 _) (cwV 2 hts gX6_tripTime_X6_time rfl rfl rfl (by decide +kernel) ⟨Nat.le_of_ble_eq_true rfl, Nat.le_of_ble_eq_true rfl⟩) (sg_pre hK hP hD (ci := 8) (q0 := 0) rfl rfl) rfl rfl hl.1 rfl (lv_room (Nat.le_of_ble_eq_true rfl)) dX6_tripTime_53 ⟨Nat.zero_le _, Nat.zero_le _⟩) hD hS hA (fun H locs hP hD hS => ?_)
        have hq := Option.some.inj hf
        exact sg_iret hx hb hr hP hD hS dX6_tripTime_56 (congrArg Prod.fst hq) (congrArg Prod.snd hq) hlocks
      · have hf := sg_ip c14 hf
        refine lv_aload_n hx hb dX6_tripTime_39 rfl (lv_at hl 0 rfl) ?_
        refine lv_iconst (v := 3) hx hb dX6_tripTime_40 (by decide) ?_
        obtain ⟨r12, u13, hc11, hf⟩ := sg_b2_s hf
        refine sg_ci (va_runV (As := [.int 3]) (rest := []) ⟨hx, hb, hml, hown, hts⟩ (c_X6_fails l D cA ad N _ _ _ _ hc11 _) (cwV 1 hts gX6_tripTime_X6_fails rfl rfl rfl (by decide +kernel) ⟨Nat.le_of_ble_eq_true rfl, Nat.le_of_ble_eq_true rfl⟩) (sg_pre hK hP hD (ci := 8) (q0 := 0) rfl rfl) rfl rfl hl.1 rfl (lv_room (Nat.le_of_ble_eq_true rfl)) dX6_tripTime_41 ⟨Nat.zero_le _, Nat.zero_le _⟩) hD hS hA (fun H locs hP hD hS => ?_)
        have hq := Option.some.inj hf
        exact sg_iret hx hb hr hP hD hS dX6_tripTime_44 (congrArg Prod.fst hq) (congrArg Prod.snd hq) hlocks
    · have hf := sg_ip c18 hf
      refine lv_aload_n hx hb dX6_tripTime_24 rfl (lv_at hl 0 rfl) ?_
      refine lv_iconst (v := 2) hx hb dX6_tripTime_25 (by decide) ?_
      obtain ⟨r16, u17, hc15, hf⟩ := sg_b2_s hf
      refine sg_ci (va_runV (As := [.int 2]) (rest := []) ⟨hx, hb, hml, hown, hts⟩ (c_X6_fails l D cA ad N _ _ _ _ hc15 _) (cwV 1 hts gX6_tripTime_X6_fails rfl rfl rfl (by decide +kernel) ⟨Nat.le_of_ble_eq_true rfl, Nat.le_of_ble_eq_true rfl⟩) (sg_pre hK hP hD (ci := 8) (q0 := 0) rfl rfl) rfl rfl hl.1 rfl (lv_room (Nat.le_of_ble_eq_true rfl)) dX6_tripTime_26 ⟨Nat.zero_le _, Nat.zero_le _⟩) hD hS hA (fun H locs hP hD hS => ?_)
      have hq := Option.some.inj hf
      exact sg_iret hx hb hr hP hD hS dX6_tripTime_29 (congrArg Prod.fst hq) (congrArg Prod.snd hq) hlocks
  · have hf := sg_ip c22 hf
    refine lv_aload_n hx hb dX6_tripTime_8 rfl (lv_at hl 0 rfl) ?_
    refine lv_iconst (v := 1) hx hb dX6_tripTime_9 (by decide) ?_
    obtain ⟨r20, u21, hc19, hf⟩ := sg_b2_s hf
    refine sg_ci (va_runV (As := [.int 1]) (rest := []) ⟨hx, hb, hml, hown, hts⟩ (c_X6_fails l D cA ad N _ _ _ _ hc19 _) (cwV 1 hts gX6_tripTime_X6_fails rfl rfl rfl (by decide +kernel) ⟨Nat.le_of_ble_eq_true rfl, Nat.le_of_ble_eq_true rfl⟩) (sg_pre hK hP hD (ci := 8) (q0 := 0) rfl rfl) rfl rfl hl.1 rfl (lv_room (Nat.le_of_ble_eq_true rfl)) dX6_tripTime_10 ⟨Nat.zero_le _, Nat.zero_le _⟩) hD hS hA (fun H locs hP hD hS => ?_)
    have hq := Option.some.inj hf
    exact sg_iret hx hb hr hP hD hS dX6_tripTime_13 (congrArg Prod.fst hq) (congrArg Prod.snd hq) hlocks
set_option maxRecDepth 100000 in
set_option maxHeartbeats 4000000 in
theorem c_X6_trips (l : Launch) (D : va_G) (cA : Nat → ClassId) (ad : Nat → Nat) (N : Nat) (u : sg_St) (r : Int32) (u' : sg_St) (hf : fX6_trips N u = some (r, u')) : sg_CI l D cA (sg_WM cA ad) yX6_trips wsX6_trips ({ frames := 0, cells := 0, slots := 0, locals := 0 }) [.ref (ad 0)] u r u' := by
  intro sz
  refine Met.ofW (cc := cX6_trips) (maxL := 1) (ret := (some .int)) (by decide) rfl ?_
  intro p e s m args below meth c s₁ B hml hv
  obtain ⟨rfl, hsz, hP, hK, hD0⟩ := hv
  have hx := B.exec
  have hb := B.bytes
  have hr := B.returns
  have hts := atoms_spec (ws := wsX6_trips) B.pre
  have hown : s.vm.findClass RX6 = some m.cls := findClass_of_methodNamed B.named
  have hlocks := B.notSynchronized
  subst hsz
  have hD := hD0.self (sz := s.heap.size)
  generalize hAe : va_A (sg_WM cA ad u) s.heap.size = A at hD ⊢
  have hA : ∀ q : Nat, s.heap.size ≤ q → A q := fun q h => by rw [← hAe]; exact Or.inr h
  have hS : va_S A s.heap s.heap [] := va_S.rf
  have hl := lv_entry ([.ref (ad 0)]) (n := 1) (Nat.le_of_ble_eq_true rfl)
  rw [lg_entry_eq]
  generalize (lg_sl ([.ref (ad 0)]) ++ List.replicate (1 - (lg_sl ([.ref (ad 0)])).length) Slot.unset).toArray = ls at hl ⊢
  replace hl : lv_has ls 1 [(0, .ref (ad 0))] := hl
  have hinX6 : ∀ w ∈ u_ws RX6 TX6 27, w ∈ wsX6_trips := by decide +kernel
  unfold fX6_trips at hf
  refine lv_aload_n hx hb dX6_trips_0 rfl (lv_at hl 0 rfl) ?_
  refine lv_iconst (v := 0) hx hb dX6_trips_1 (by decide) ?_
  refine va_put (D := D) (ci := 8) (v := .int 0) (ty := .int) (C := RX6) (T := TX6) (N := 27) hx hb hts hinX6 tyX6 tyX6_ok nmX6 hown hK.1 hP hD hS 0 rfl rfl 0 (by decide) (hts (.fieldLink RX6 68 "SwitchgearModel" "thrown" "I") (by decide +kernel)) (fun _ h9 => h9) rfl (by decide +kernel) rfl rfl (Nat.le_of_ble_eq_true rfl) dX6_trips_2 (fun H locs hP hD hS => ?_)
  replace hP : va_P D vwCl (sg_WM cA ad (sg_set u 0 0 0)) H := by rw [← sg_WM_0]; exact hP
  replace hD : va_D A (sg_WM cA ad (sg_set u 0 0 0)) := by rw [← sg_WM_0]; exact hD
  refine lv_aload_n hx hb dX6_trips_5 rfl (lv_at hl 0 rfl) ?_
  refine va_get (D := D) (ci := 8) (C := RX6) (T := TX6) (N := 27) hx hb hts hinX6 hown hK.1 hP 0 rfl rfl 3 (by decide) (hts (.fieldLink RX6 150 "SwitchgearModel" "trips" "I") (by decide +kernel)) (fun _ h9 => h9) rfl dX6_trips_6 ?_
  have hq := Option.some.inj hf
  exact sg_iret hx hb hr hP hD hS dX6_trips_9 (congrArg Prod.fst hq) (congrArg Prod.snd hq) hlocks
set_option maxRecDepth 100000 in
set_option maxHeartbeats 4000000 in
theorem c_X6_valueByTrying (l : Launch) (D : va_G) (cA : Nat → ClassId) (ad : Nat → Nat) (N : Nat) (u : sg_St) (r : Int32) (u' : sg_St) (hf : fX6_valueByTrying N u = some (r, u')) : sg_CI l D cA (sg_WM cA ad) yX6_valueByTrying wsX6_valueByTrying ({ frames := 22, cells := 0, slots := 0, locals := 504 }) [.ref (ad 0)] u r u' := by
  intro sz
  refine Met.ofW (cc := cX6_valueByTrying) (maxL := 1) (ret := (some .int)) (by decide) rfl ?_
  intro p e s m args below meth c s₁ B hml hv
  obtain ⟨rfl, hsz, hP, hK, hD0⟩ := hv
  have hx := B.exec
  have hb := B.bytes
  have hr := B.returns
  have hts := atoms_spec (ws := wsX6_valueByTrying) B.pre
  have hown : s.vm.findClass RX6 = some m.cls := findClass_of_methodNamed B.named
  have hlocks := B.notSynchronized
  subst hsz
  have hD := hD0.self (sz := s.heap.size)
  generalize hAe : va_A (sg_WM cA ad u) s.heap.size = A at hD ⊢
  have hA : ∀ q : Nat, s.heap.size ≤ q → A q := fun q h => by rw [← hAe]; exact Or.inr h
  have hS : va_S A s.heap s.heap [] := va_S.rf
  have hl := lv_entry ([.ref (ad 0)]) (n := 1) (Nat.le_of_ble_eq_true rfl)
  rw [lg_entry_eq]
  generalize (lg_sl ([.ref (ad 0)]) ++ List.replicate (1 - (lg_sl ([.ref (ad 0)])).length) Slot.unset).toArray = ls at hl ⊢
  replace hl : lv_has ls 1 [(0, .ref (ad 0))] := hl
  unfold fX6_valueByTrying at hf
  refine lv_aload_n hx hb dX6_valueByTrying_0 rfl (lv_at hl 0 rfl) ?_
  obtain ⟨r2, u3, hc1, hf⟩ := sg_b2_s hf
  refine sg_ci (va_runV (As := []) (rest := []) ⟨hx, hb, hml, hown, hts⟩ (c_X6_canTry l D cA ad N _ _ _ hc1 _) (cwV 0 hts gX6_valueByTrying_X6_canTry rfl rfl rfl (by decide +kernel) ⟨Nat.le_of_ble_eq_true rfl, Nat.le_of_ble_eq_true rfl⟩) (sg_pre hK hP hD (ci := 8) (q0 := 0) rfl rfl) rfl rfl hl.1 rfl (lv_room (Nat.le_of_ble_eq_true rfl)) dX6_valueByTrying_1 ⟨Nat.zero_le _, Nat.zero_le _⟩) hD hS hA (fun H locs hP hD hS => ?_)
  refine lv_if_eq (tgt := 14) hx hb dX6_valueByTrying_4 (by decide) (fun c7 => ?_) (fun c7 => ?_)
  · have hf := sg_ip c7 hf
    refine lv_iconst (v := 0) hx hb dX6_valueByTrying_14 (by decide) ?_
    have hq := Option.some.inj hf
    exact sg_iret hx hb hr hP hD hS dX6_valueByTrying_15 (congrArg Prod.fst hq) (congrArg Prod.snd hq) hlocks
  · have hf := sg_in c7 hf
    refine lv_aload_n hx hb dX6_valueByTrying_7 rfl (lv_at hl 0 rfl) ?_
    obtain ⟨r5, u6, hc4, hf⟩ := sg_b2_s hf
    refine sg_ci (va_runV (As := []) (rest := []) ⟨hx, hb, hml, hown, hts⟩ (c_X6_bestValue l D cA ad N _ _ _ hc4 _) (cwV 0 hts gX6_valueByTrying_X6_bestValue rfl rfl rfl (by decide +kernel) ⟨Nat.le_of_ble_eq_true rfl, Nat.le_of_ble_eq_true rfl⟩) (sg_pre hK hP hD (ci := 8) (q0 := 0) rfl rfl) rfl rfl hl.1 rfl (lv_room (Nat.le_of_ble_eq_true rfl)) dX6_valueByTrying_8 ⟨Nat.zero_le _, Nat.zero_le _⟩) hD hS hA (fun H locs hP hD hS => ?_)
    refine lv_goto (tgt := 15) hx hb dX6_valueByTrying_11 (by decide) ?_
    have hq := Option.some.inj hf
    exact sg_iret hx hb hr hP hD hS dX6_valueByTrying_15 (congrArg Prod.fst hq) (congrArg Prod.snd hq) hlocks
set_option maxRecDepth 100000 in
set_option maxHeartbeats 4000000 in
theorem c_X6_weight (l : Launch) (D : va_G) (cA : Nat → ClassId) (ad : Nat → Nat) (N : Nat) (u : sg_St) (p1 : Int32) (r : Int32) (u' : sg_St) (hf : fX6_weight N u p1 = some (r, u')) : sg_CI l D cA (sg_WM cA ad) yX6_weight wsX6_weight ({ frames := 2, cells := 0, slots := 0, locals := 43 }) [.ref (ad 0), .int p1] u r u' := by
  intro sz
  refine Met.ofW (cc := cX6_weight) (maxL := 2) (ret := (some .int)) (by decide) rfl ?_
  intro p e s m args below meth c s₁ B hml hv
  obtain ⟨rfl, hsz, hP, hK, hD0⟩ := hv
  have hx := B.exec
  have hb := B.bytes
  have hr := B.returns
  have hts := atoms_spec (ws := wsX6_weight) B.pre
  have hown : s.vm.findClass RX6 = some m.cls := findClass_of_methodNamed B.named
  have hlocks := B.notSynchronized
  subst hsz
  have hD := hD0.self (sz := s.heap.size)
  generalize hAe : va_A (sg_WM cA ad u) s.heap.size = A at hD ⊢
  have hA : ∀ q : Nat, s.heap.size ≤ q → A q := fun q h => by rw [← hAe]; exact Or.inr h
  have hS : va_S A s.heap s.heap [] := va_S.rf
  have hl := lv_entry ([.ref (ad 0), .int p1]) (n := 2) (Nat.le_of_ble_eq_true rfl)
  rw [lg_entry_eq]
  generalize (lg_sl ([.ref (ad 0), .int p1]) ++ List.replicate (2 - (lg_sl ([.ref (ad 0), .int p1])).length) Slot.unset).toArray = ls at hl ⊢
  replace hl : lv_has ls 2 [(0, .ref (ad 0)), (1, .int p1)] := hl
  have hinX6 : ∀ w ∈ u_ws RX6 TX6 27, w ∈ wsX6_weight := by decide +kernel
  unfold fX6_weight at hf
  refine lv_aload_n hx hb dX6_weight_0 rfl (lv_at hl 0 rfl) ?_
  refine lv_aload_n hx hb dX6_weight_1 rfl (lv_at hl 0 rfl) ?_
  refine lv_iload_n hx hb dX6_weight_2 rfl (lv_at hl 1 rfl) ?_
  obtain ⟨r2, hc1, hf⟩ := sg_b_s hf
  refine sg_ci (va_runV (As := [.int p1]) (rest := [.ref (ad 0)]) ⟨hx, hb, hml, hown, hts⟩ (c_X6_isNode l D cA ad N _ _ _ hc1 _) (cwV 1 hts gX6_weight_X6_isNode rfl rfl rfl (by decide +kernel) ⟨Nat.le_of_ble_eq_true rfl, Nat.le_of_ble_eq_true rfl⟩) (sg_pre hK hP hD (ci := 8) (q0 := 0) rfl rfl) rfl rfl hl.1 rfl (lv_room (Nat.le_of_ble_eq_true rfl)) dX6_weight_3 ⟨Nat.zero_le _, Nat.zero_le _⟩) hD hS hA (fun H locs hP hD hS => ?_)
  obtain ⟨r5, u6, hc4, hf⟩ := sg_b2_s hf
  refine sg_ci (va_runV (As := [.int r2]) (rest := []) ⟨hx, hb, hml, hown, hts⟩ (c_X6_isThere l D cA ad N _ _ _ _ hc4 _) (cwV 1 hts gX6_weight_X6_isThere rfl rfl rfl (by decide +kernel) ⟨Nat.le_of_ble_eq_true rfl, Nat.le_of_ble_eq_true rfl⟩) (sg_pre hK hP hD (ci := 8) (q0 := 0) rfl rfl) rfl rfl hl.1 rfl (lv_room (Nat.le_of_ble_eq_true rfl)) dX6_weight_6 ⟨Nat.zero_le _, Nat.zero_le _⟩) hD hS hA (fun H locs hP hD hS => ?_)
  refine lv_if_ne (tgt := 14) hx hb dX6_weight_9 (by decide) (fun c14 => ?_) (fun c14 => ?_)
  · have hf := sg_in c14 hf
    refine lv_aload_n hx hb dX6_weight_14 rfl (lv_at hl 0 rfl) ?_
    refine va_get (D := D) (ci := 8) (C := RX6) (T := TX6) (N := 27) hx hb hts hinX6 hown hK.1 hP 0 rfl rfl 4 (by decide) (hts (.fieldLink RX6 7 "SwitchgearModel" "isSource" "[Z") (by decide +kernel)) (fun _ h9 => h9) rfl dX6_weight_15 ?_
    refine lv_iload_n hx hb dX6_weight_18 rfl (lv_at hl 1 rfl) ?_
    obtain ⟨hg7, hf⟩ := sg_g_s hf
    refine va_zald hx hb hK.1 hP 1 1 rfl rfl (sg_inb_s hg7) dX6_weight_19 ?_
    refine lv_if_eq (tgt := 31) hx hb dX6_weight_20 (by decide) (fun c13 => ?_) (fun c13 => ?_)
    · have hf := sg_ip c13 hf
      refine lv_aload_n hx hb dX6_weight_31 rfl (lv_at hl 0 rfl) ?_
      refine va_get (D := D) (ci := 8) (C := RX6) (T := TX6) (N := 27) hx hb hts hinX6 hown hK.1 hP 0 rfl rfl 6 (by decide) (hts (.fieldLink RX6 17 "SwitchgearModel" "load" "[I") (by decide +kernel)) (fun _ h9 => h9) rfl dX6_weight_32 ?_
      refine lv_iload_n hx hb dX6_weight_35 rfl (lv_at hl 1 rfl) ?_
      obtain ⟨hg8, hf⟩ := sg_g_s hf
      refine va_iald hx hb hK.1 hP 3 0 rfl rfl (sg_inb_s hg8) dX6_weight_36 ?_
      refine lv_aload_n hx hb dX6_weight_37 rfl (lv_at hl 0 rfl) ?_
      refine va_get (D := D) (ci := 8) (C := RX6) (T := TX6) (N := 27) hx hb hts hinX6 hown hK.1 hP 0 rfl rfl 7 (by decide) (hts (.fieldLink RX6 20 "SwitchgearModel" "priority" "[I") (by decide +kernel)) (fun _ h9 => h9) rfl dX6_weight_38 ?_
      refine lv_iload_n hx hb dX6_weight_41 rfl (lv_at hl 1 rfl) ?_
      obtain ⟨hg9, hf⟩ := sg_g_s hf
      refine va_iald hx hb hK.1 hP 4 0 rfl rfl (sg_inb_s hg9) dX6_weight_42 ?_
      refine lv_imul hx hb dX6_weight_43 ?_
      have hq := Option.some.inj hf
      exact sg_iret hx hb hr hP hD hS dX6_weight_44 (congrArg Prod.fst hq) (congrArg Prod.snd hq) hlocks
    · have hf := sg_in c13 hf
      refine lv_aload_n hx hb dX6_weight_23 rfl (lv_at hl 0 rfl) ?_
      refine lv_iconst (v := 2) hx hb dX6_weight_24 (by decide) ?_
      obtain ⟨r11, u12, hc10, hf⟩ := sg_b2_s hf
      refine sg_ci (va_runV (As := [.int 2]) (rest := []) ⟨hx, hb, hml, hown, hts⟩ (c_X6_fails l D cA ad N _ _ _ _ hc10 _) (cwV 1 hts gX6_weight_X6_fails rfl rfl rfl (by decide +kernel) ⟨Nat.le_of_ble_eq_true rfl, Nat.le_of_ble_eq_true rfl⟩) (sg_pre hK hP hD (ci := 8) (q0 := 0) rfl rfl) rfl rfl hl.1 rfl (lv_room (Nat.le_of_ble_eq_true rfl)) dX6_weight_25 ⟨Nat.zero_le _, Nat.zero_le _⟩) hD hS hA (fun H locs hP hD hS => ?_)
      refine lv_goto (tgt := 44) hx hb dX6_weight_28 (by decide) ?_
      have hq := Option.some.inj hf
      exact sg_iret hx hb hr hP hD hS dX6_weight_44 (congrArg Prod.fst hq) (congrArg Prod.snd hq) hlocks
  · have hf := sg_ip c14 hf
    refine lv_iconst (v := 0) hx hb dX6_weight_12 (by decide) ?_
    have hq := Option.some.inj hf
    exact sg_iret hx hb hr hP hD hS dX6_weight_13 (congrArg Prod.fst hq) (congrArg Prod.snd hq) hlocks
set_option maxRecDepth 100000 in
set_option maxHeartbeats 4000000 in
theorem c_X6_wouldTrip (l : Launch) (D : va_G) (cA : Nat → ClassId) (ad : Nat → Nat) (N : Nat) (u : sg_St) (p1 : Int32) (r : Int32) (u' : sg_St) (hf : fX6_wouldTrip N u p1 = some (r, u')) : sg_CI l D cA (sg_WM cA ad) yX6_wouldTrip wsX6_wouldTrip ({ frames := 3, cells := 0, slots := 0, locals := 76 }) [.ref (ad 0), .int p1] u r u' := by
  intro sz
  refine Met.ofW (cc := cX6_wouldTrip) (maxL := 2) (ret := (some .int)) (by decide) rfl ?_
  intro p e s m args below meth c s₁ B hml hv
  obtain ⟨rfl, hsz, hP, hK, hD0⟩ := hv
  have hx := B.exec
  have hb := B.bytes
  have hr := B.returns
  have hts := atoms_spec (ws := wsX6_wouldTrip) B.pre
  have hown : s.vm.findClass RX6 = some m.cls := findClass_of_methodNamed B.named
  have hlocks := B.notSynchronized
  subst hsz
  have hD := hD0.self (sz := s.heap.size)
  generalize hAe : va_A (sg_WM cA ad u) s.heap.size = A at hD ⊢
  have hA : ∀ q : Nat, s.heap.size ≤ q → A q := fun q h => by rw [← hAe]; exact Or.inr h
  have hS : va_S A s.heap s.heap [] := va_S.rf
  have hl := lv_entry ([.ref (ad 0), .int p1]) (n := 2) (Nat.le_of_ble_eq_true rfl)
  rw [lg_entry_eq]
  generalize (lg_sl ([.ref (ad 0), .int p1]) ++ List.replicate (2 - (lg_sl ([.ref (ad 0), .int p1])).length) Slot.unset).toArray = ls at hl ⊢
  replace hl : lv_has ls 2 [(0, .ref (ad 0)), (1, .int p1)] := hl
  unfold fX6_wouldTrip at hf
  refine lv_aload_n hx hb dX6_wouldTrip_0 rfl (lv_at hl 0 rfl) ?_
  refine lv_aload_n hx hb dX6_wouldTrip_1 rfl (lv_at hl 0 rfl) ?_
  refine lv_iload_n hx hb dX6_wouldTrip_2 rfl (lv_at hl 1 rfl) ?_
  obtain ⟨r2, hc1, hf⟩ := sg_b_s hf
  refine sg_ci (va_runV (As := [.int p1]) (rest := [.ref (ad 0)]) ⟨hx, hb, hml, hown, hts⟩ (c_X6_isLine l D cA ad N _ _ _ hc1 _) (cwV 1 hts gX6_wouldTrip_X6_isLine rfl rfl rfl (by decide +kernel) ⟨Nat.le_of_ble_eq_true rfl, Nat.le_of_ble_eq_true rfl⟩) (sg_pre hK hP hD (ci := 8) (q0 := 0) rfl rfl) rfl rfl hl.1 rfl (lv_room (Nat.le_of_ble_eq_true rfl)) dX6_wouldTrip_3 ⟨Nat.zero_le _, Nat.zero_le _⟩) hD hS hA (fun H locs hP hD hS => ?_)
  obtain ⟨r5, u6, hc4, hf⟩ := sg_b2_s hf
  refine sg_ci (va_runV (As := [.int r2]) (rest := []) ⟨hx, hb, hml, hown, hts⟩ (c_X6_isThere l D cA ad N _ _ _ _ hc4 _) (cwV 1 hts gX6_wouldTrip_X6_isThere rfl rfl rfl (by decide +kernel) ⟨Nat.le_of_ble_eq_true rfl, Nat.le_of_ble_eq_true rfl⟩) (sg_pre hK hP hD (ci := 8) (q0 := 0) rfl rfl) rfl rfl hl.1 rfl (lv_room (Nat.le_of_ble_eq_true rfl)) dX6_wouldTrip_6 ⟨Nat.zero_le _, Nat.zero_le _⟩) hD hS hA (fun H locs hP hD hS => ?_)
  refine lv_if_eq (tgt := 20) hx hb dX6_wouldTrip_9 (by decide) (fun c10 => ?_) (fun c10 => ?_)
  · have hf := sg_ip c10 hf
    refine lv_iconst (v := 0) hx hb dX6_wouldTrip_20 (by decide) ?_
    have hq := Option.some.inj hf
    exact sg_iret hx hb hr hP hD hS dX6_wouldTrip_21 (congrArg Prod.fst hq) (congrArg Prod.snd hq) hlocks
  · have hf := sg_in c10 hf
    refine lv_aload_n hx hb dX6_wouldTrip_12 rfl (lv_at hl 0 rfl) ?_
    refine lv_iload_n hx hb dX6_wouldTrip_13 rfl (lv_at hl 1 rfl) ?_
    obtain ⟨r8, u9, hc7, hf⟩ := sg_b2_s hf
    refine sg_ci (va_runV (As := [.int p1]) (rest := []) ⟨hx, hb, hml, hown, hts⟩ (c_X6_tripped l D cA ad N _ _ _ _ hc7 _) (cwV 1 hts gX6_wouldTrip_X6_tripped rfl rfl rfl (by decide +kernel) ⟨Nat.le_of_ble_eq_true rfl, Nat.le_of_ble_eq_true rfl⟩) (sg_pre hK hP hD (ci := 8) (q0 := 0) rfl rfl) rfl rfl hl.1 rfl (lv_room (Nat.le_of_ble_eq_true rfl)) dX6_wouldTrip_14 ⟨Nat.zero_le _, Nat.zero_le _⟩) hD hS hA (fun H locs hP hD hS => ?_)
    refine lv_goto (tgt := 21) hx hb dX6_wouldTrip_17 (by decide) ?_
    have hq := Option.some.inj hf
    exact sg_iret hx hb hr hP hD hS dX6_wouldTrip_21 (congrArg Prod.fst hq) (congrArg Prod.snd hq) hlocks
