set_option maxRecDepth 100000 in
set_option maxHeartbeats 4000000 in
theorem c_X6_reasonToOpen (l : Launch) (D : va_G) (cA : Nat → ClassId) (ad : Nat → Nat) (N : Nat) (u : sg_St) (p1 : Int32) (r : Int32) (u' : sg_St) (hf : fX6_reasonToOpen N u p1 = some (r, u')) : sg_CI l D cA (sg_WM cA ad) yX6_reasonToOpen wsX6_reasonToOpen ({ frames := 3, cells := 0, slots := 0, locals := 68 }) [.ref (ad 0), .int p1] u r u' := by
  intro sz
  refine Met.ofW (cc := cX6_reasonToOpen) (maxL := 2) (ret := (some .char)) (by decide) rfl ?_
  intro p e s m args below meth c s₁ B hml hv
  obtain ⟨rfl, hsz, hP, hK, hD0⟩ := hv
  have hx := B.exec
  have hb := B.bytes
  have hr := B.returns
  have hts := atoms_spec (ws := wsX6_reasonToOpen) B.pre
  have hown : s.vm.findClass RX6 = some m.cls := findClass_of_methodNamed B.named
  have hlocks := B.notSynchronized
  subst hsz
  have hD := hD0.self (sz := s.heap.size)
  generalize hAe : va_A (sg_WM cA ad u) s.heap.size = A at hD ⊢
  have hA : ∀ q : Nat, s.heap.size ≤ q → A q := fun q h => by rw [← hAe]; exact Or.inr h
  have hS : va_S A s.heap s.heap [] := va_S.rf
  have hl := lv_entry ([.ref (ad 0), .int p1]) (n := 2) (Nat.le_of_ble_eq_true rfl)
  rw [lg_entry_eq]
  generalize (lg_sl ([.ref (ad 0), .int p1]) ++ List.replicate (2 - (lg_sl ([.ref (ad 0), .int p1])).length) Slot.unset).toArray = ls at hl ⊢
  replace hl : lv_has ls 2 [(0, .ref (ad 0)), (1, .int p1)] := hl
  have hinX6 : ∀ w ∈ u_ws RX6 TX6 27, w ∈ wsX6_reasonToOpen := by decide +kernel
  unfold fX6_reasonToOpen at hf
  refine lv_aload_n hx hb dX6_reasonToOpen_0 rfl (lv_at hl 0 rfl) ?_
  refine va_get (D := D) (ci := 8) (C := RX6) (T := TX6) (N := 27) hx hb hts hinX6 hown hK.1 hP 0 rfl rfl 15 (by decide) (hts (.fieldLink RX6 44 "SwitchgearModel" "isClosed" "[Z") (by decide +kernel)) (fun _ h9 => h9) rfl dX6_reasonToOpen_1 ?_
  refine lv_iload_n hx hb dX6_reasonToOpen_4 rfl (lv_at hl 1 rfl) ?_
  obtain ⟨hg1, hf⟩ := sg_g_s hf
  refine va_zald hx hb hK.1 hP 12 1 rfl rfl (sg_inb_s hg1) dX6_reasonToOpen_5 ?_
  refine lv_if_ne (tgt := 14) hx hb dX6_reasonToOpen_6 (by decide) (fun c8 => ?_) (fun c8 => ?_)
  · have hf := sg_in c8 hf
    refine lv_aload_n hx hb dX6_reasonToOpen_14 rfl (lv_at hl 0 rfl) ?_
    refine va_get (D := D) (ci := 8) (C := RX6) (T := TX6) (N := 27) hx hb hts hinX6 hown hK.1 hP 0 rfl rfl 14 (by decide) (hts (.fieldLink RX6 41 "SwitchgearModel" "isBreaker" "[Z") (by decide +kernel)) (fun _ h9 => h9) rfl dX6_reasonToOpen_15 ?_
    refine lv_iload_n hx hb dX6_reasonToOpen_18 rfl (lv_at hl 1 rfl) ?_
    obtain ⟨hg2, hf⟩ := sg_g_s hf
    refine va_zald hx hb hK.1 hP 11 1 rfl rfl (sg_inb_s hg2) dX6_reasonToOpen_19 ?_
    refine lv_if_ne (tgt := 31) hx hb dX6_reasonToOpen_20 (by decide) (fun c7 => ?_) (fun c7 => ?_)
    · have hf := sg_in c7 hf
      refine lv_bipush (v := 110) hx hb dX6_reasonToOpen_31 (by decide) ?_
      refine lv_goto (tgt := 38) hx hb dX6_reasonToOpen_33 (by decide) ?_
      have hq := Option.some.inj hf
      exact sg_zret hx hb hr rfl hP hD hS dX6_reasonToOpen_38 (congrArg Prod.fst hq) (congrArg Prod.snd hq) hlocks
    · have hf := sg_ip c7 hf
      refine lv_aload_n hx hb dX6_reasonToOpen_23 rfl (lv_at hl 0 rfl) ?_
      refine lv_iload_n hx hb dX6_reasonToOpen_24 rfl (lv_at hl 1 rfl) ?_
      obtain ⟨r4, u5, hc3, hf⟩ := sg_b2_s hf
      refine sg_ci (va_runV (As := [.int p1]) (rest := []) ⟨hx, hb, hml, hown, hts⟩ (c_X6_flowOf l D cA ad N _ _ _ _ hc3 _) (cwV 1 hts gX6_reasonToOpen_X6_flowOf rfl rfl rfl (by decide +kernel) ⟨Nat.le_of_ble_eq_true rfl, Nat.le_of_ble_eq_true rfl⟩) (sg_pre hK hP hD (ci := 8) (q0 := 0) rfl rfl) rfl rfl hl.1 rfl (lv_room (Nat.le_of_ble_eq_true rfl)) dX6_reasonToOpen_25 ⟨Nat.zero_le _, Nat.zero_le _⟩) hD hS hA (fun H locs hP hD hS => ?_)
      refine lv_if_ne (tgt := 36) hx hb dX6_reasonToOpen_28 (by decide) (fun c6 => ?_) (fun c6 => ?_)
      · have hf := sg_in c6 hf
        refine lv_bipush (v := 100) hx hb dX6_reasonToOpen_36 (by decide) ?_
        have hq := Option.some.inj hf
        exact sg_zret hx hb hr rfl hP hD hS dX6_reasonToOpen_38 (congrArg Prod.fst hq) (congrArg Prod.snd hq) hlocks
      · have hf := sg_ip c6 hf
        refine lv_bipush (v := 110) hx hb dX6_reasonToOpen_31 (by decide) ?_
        refine lv_goto (tgt := 38) hx hb dX6_reasonToOpen_33 (by decide) ?_
        have hq := Option.some.inj hf
        exact sg_zret hx hb hr rfl hP hD hS dX6_reasonToOpen_38 (congrArg Prod.fst hq) (congrArg Prod.snd hq) hlocks
  · have hf := sg_ip c8 hf
    refine lv_bipush (v := 99) hx hb dX6_reasonToOpen_9 (by decide) ?_
    refine lv_goto (tgt := 38) hx hb dX6_reasonToOpen_11 (by decide) ?_
    have hq := Option.some.inj hf
    exact sg_zret hx hb hr rfl hP hD hS dX6_reasonToOpen_38 (congrArg Prod.fst hq) (congrArg Prod.snd hq) hlocks
set_option maxRecDepth 100000 in
set_option maxHeartbeats 4000000 in
theorem c_X6_canOpen (l : Launch) (D : va_G) (cA : Nat → ClassId) (ad : Nat → Nat) (N : Nat) (u : sg_St) (p1 : Int32) (r : Int32) (u' : sg_St) (hf : fX6_canOpen N u p1 = some (r, u')) : sg_CI l D cA (sg_WM cA ad) yX6_canOpen wsX6_canOpen ({ frames := 4, cells := 0, slots := 0, locals := 89 }) [.ref (ad 0), .int p1] u r u' := by
  intro sz
  refine Met.ofW (cc := cX6_canOpen) (maxL := 2) (ret := (some .char)) (by decide) rfl ?_
  intro p e s m args below meth c s₁ B hml hv
  obtain ⟨rfl, hsz, hP, hK, hD0⟩ := hv
  have hx := B.exec
  have hb := B.bytes
  have hr := B.returns
  have hts := atoms_spec (ws := wsX6_canOpen) B.pre
  have hown : s.vm.findClass RX6 = some m.cls := findClass_of_methodNamed B.named
  have hlocks := B.notSynchronized
  subst hsz
  have hD := hD0.self (sz := s.heap.size)
  generalize hAe : va_A (sg_WM cA ad u) s.heap.size = A at hD ⊢
  have hA : ∀ q : Nat, s.heap.size ≤ q → A q := fun q h => by rw [← hAe]; exact Or.inr h
  have hS : va_S A s.heap s.heap [] := va_S.rf
  have hl := lv_entry ([.ref (ad 0), .int p1]) (n := 2) (Nat.le_of_ble_eq_true rfl)
  rw [lg_entry_eq]
  generalize (lg_sl ([.ref (ad 0), .int p1]) ++ List.replicate (2 - (lg_sl ([.ref (ad 0), .int p1])).length) Slot.unset).toArray = ls at hl ⊢
  replace hl : lv_has ls 2 [(0, .ref (ad 0)), (1, .int p1)] := hl
  unfold fX6_canOpen at hf
  refine lv_aload_n hx hb dX6_canOpen_0 rfl (lv_at hl 0 rfl) ?_
  refine lv_aload_n hx hb dX6_canOpen_1 rfl (lv_at hl 0 rfl) ?_
  refine lv_iload_n hx hb dX6_canOpen_2 rfl (lv_at hl 1 rfl) ?_
  obtain ⟨r2, hc1, hf⟩ := sg_b_s hf
  refine sg_ci (va_runV (As := [.int p1]) (rest := [.ref (ad 0)]) ⟨hx, hb, hml, hown, hts⟩ (c_X6_isLine l D cA ad N _ _ _ hc1 _) (cwV 1 hts gX6_canOpen_X6_isLine rfl rfl rfl (by decide +kernel) ⟨Nat.le_of_ble_eq_true rfl, Nat.le_of_ble_eq_true rfl⟩) (sg_pre hK hP hD (ci := 8) (q0 := 0) rfl rfl) rfl rfl hl.1 rfl (lv_room (Nat.le_of_ble_eq_true rfl)) dX6_canOpen_3 ⟨Nat.zero_le _, Nat.zero_le _⟩) hD hS hA (fun H locs hP hD hS => ?_)
  obtain ⟨r5, u6, hc4, hf⟩ := sg_b2_s hf
  refine sg_ci (va_runV (As := [.int r2]) (rest := []) ⟨hx, hb, hml, hown, hts⟩ (c_X6_isThere l D cA ad N _ _ _ _ hc4 _) (cwV 1 hts gX6_canOpen_X6_isThere rfl rfl rfl (by decide +kernel) ⟨Nat.le_of_ble_eq_true rfl, Nat.le_of_ble_eq_true rfl⟩) (sg_pre hK hP hD (ci := 8) (q0 := 0) rfl rfl) rfl rfl hl.1 rfl (lv_room (Nat.le_of_ble_eq_true rfl)) dX6_canOpen_6 ⟨Nat.zero_le _, Nat.zero_le _⟩) hD hS hA (fun H locs hP hD hS => ?_)
  refine lv_if_eq (tgt := 20) hx hb dX6_canOpen_9 (by decide) (fun c11 => ?_) (fun c11 => ?_)
  · have hf := sg_ip c11 hf
    refine lv_iconst (v := 0) hx hb dX6_canOpen_20 (by decide) ?_
    have hq := Option.some.inj hf
    exact sg_zret hx hb hr rfl hP hD hS dX6_canOpen_21 (congrArg Prod.fst hq) (congrArg Prod.snd hq) hlocks
  · have hf := sg_in c11 hf
    refine lv_aload_n hx hb dX6_canOpen_12 rfl (lv_at hl 0 rfl) ?_
    refine lv_iload_n hx hb dX6_canOpen_13 rfl (lv_at hl 1 rfl) ?_
    obtain ⟨r8, u9, hc7, hf⟩ := sg_b2_s hf
    refine sg_ci (va_runV (As := [.int p1]) (rest := []) ⟨hx, hb, hml, hown, hts⟩ (c_X6_reasonToOpen l D cA ad N _ _ _ _ hc7 _) (cwV 1 hts gX6_canOpen_X6_reasonToOpen rfl rfl rfl (by decide +kernel) ⟨Nat.le_of_ble_eq_true rfl, Nat.le_of_ble_eq_true rfl⟩) (sg_pre hK hP hD (ci := 8) (q0 := 0) rfl rfl) rfl rfl hl.1 rfl (lv_room (Nat.le_of_ble_eq_true rfl)) dX6_canOpen_14 ⟨Nat.zero_le _, Nat.zero_le _⟩) hD hS hA (fun H locs hP hD hS => ?_)
    refine lv_goto (tgt := 21) hx hb dX6_canOpen_17 (by decide) ?_
    obtain ⟨hg10, hf⟩ := sg_g_s hf
    have hq := Option.some.inj hf
    exact sg_zret hx hb hr (sg_nc hg10) hP hD hS dX6_canOpen_21 (congrArg Prod.fst hq) (congrArg Prod.snd hq) hlocks
set_option maxRecDepth 100000 in
set_option maxHeartbeats 4000000 in
theorem c_X6_canTry (l : Launch) (D : va_G) (cA : Nat → ClassId) (ad : Nat → Nat) (N : Nat) (u : sg_St) (r : Int32) (u' : sg_St) (hf : fX6_canTry N u = some (r, u')) : sg_CI l D cA (sg_WM cA ad) yX6_canTry wsX6_canTry ({ frames := 1, cells := 0, slots := 0, locals := 21 }) [.ref (ad 0)] u r u' := by
  intro sz
  refine Met.ofW (cc := cX6_canTry) (maxL := 3) (ret := (some .boolean)) (by decide) rfl ?_
  intro p e s m args below meth c s₁ B hml hv
  obtain ⟨rfl, hsz, hP, hK, hD0⟩ := hv
  have hx := B.exec
  have hb := B.bytes
  have hr := B.returns
  have hts := atoms_spec (ws := wsX6_canTry) B.pre
  have hown : s.vm.findClass RX6 = some m.cls := findClass_of_methodNamed B.named
  have hlocks := B.notSynchronized
  subst hsz
  have hD := hD0.self (sz := s.heap.size)
  generalize hAe : va_A (sg_WM cA ad u) s.heap.size = A at hD ⊢
  have hA : ∀ q : Nat, s.heap.size ≤ q → A q := fun q h => by rw [← hAe]; exact Or.inr h
  have hS : va_S A s.heap s.heap [] := va_S.rf
  have hl := lv_entry ([.ref (ad 0)]) (n := 3) (Nat.le_of_ble_eq_true rfl)
  rw [lg_entry_eq]
  generalize (lg_sl ([.ref (ad 0)]) ++ List.replicate (3 - (lg_sl ([.ref (ad 0)])).length) Slot.unset).toArray = ls at hl ⊢
  replace hl : lv_has ls 3 [(0, .ref (ad 0))] := hl
  have hinX6 : ∀ w ∈ u_ws RX6 TX6 27, w ∈ wsX6_canTry := by decide +kernel
  have hL4 : ∀ (u : sg_St) (n : Nat) (x : Int32 × Int32) (r9 : Int32), sg_it (fun x => fX6_canTry_L4 N u x.1 x.2) n x = some r9 → ∀ (H : Heap) (locs : List Loc) (ls : Array Slot), va_P D vwCl (sg_WM cA ad u) H → va_D A (sg_WM cA ad u) → va_S A s.heap H locs → lv_has ls 3 [(0, .ref (ad 0)), (1, .int x.1), (2, .int x.2)] → (∀ (H : Heap) (locs : List Loc) (ls : Array Slot), va_P D vwCl (sg_WM cA ad u) H → va_D A (sg_WM cA ad u) → va_S A s.heap H locs → lv_has ls 3 [(0, .ref (ad 0)), (1, .int r9)] → W p l e (headSpec wsX6_canTry ({ frames := 1, cells := 0, slots := 0, locals := 21 })).room s m ([.ref (ad 0)] : List Value).toArray below meth c H locs 0 0 (MQ below (va_Qi (fun x y => x = r ∧ y = u') (sg_BX D (sg_WM cA ad) A) A) ([.ref (ad 0)] : List Value).toArray s 0 0 A) (F0 m 34 ls [])) → W p l e (headSpec wsX6_canTry ({ frames := 1, cells := 0, slots := 0, locals := 21 })).room s m ([.ref (ad 0)] : List Value).toArray below meth c H locs 0 0 (MQ below (va_Qi (fun x y => x = r ∧ y = u') (sg_BX D (sg_WM cA ad) A) A) ([.ref (ad 0)] : List Value).toArray s 0 0 A) (F0 m 4 ls []) := by
    intro u
    refine sg_loop _ ?_
    intro x y r9 hf hI hy H locs ls hP hD hS hl hk
    replace hf : fX6_canTry_L4 N u x.1 x.2 = some y := hf
    have hJ26 : ∀ (v2 k0 k1 : Int32) (H : Heap) (locs : List Loc) (ls : Array Slot), fX6_canTry_j26 N u v2 k0 k1 = some y → va_P D vwCl (sg_WM cA ad u) H → va_D A (sg_WM cA ad u) → va_S A s.heap H locs → lv_has ls 3 [(0, .ref (ad 0)), (2, .int v2)] → W p l e (headSpec wsX6_canTry ({ frames := 1, cells := 0, slots := 0, locals := 21 })).room s m ([.ref (ad 0)] : List Value).toArray below meth c H locs 0 0 (MQ below (va_Qi (fun x y => x = r ∧ y = u') (sg_BX D (sg_WM cA ad) A) A) ([.ref (ad 0)] : List Value).toArray s 0 0 A) (F0 m 26 ls [.int k1, .int k0]) := by
      intro v2 k0 k1 H locs ls hf hP hD hS hl
      unfold fX6_canTry_j26 at hf
      refine lv_iadd hx hb dX6_canTry_26 ?_
      refine lv_istore_n (lv' := [(1, .int (k0 + k1)), (0, .ref (ad 0)), (2, .int v2)]) hx hb dX6_canTry_27 rfl hl (by decide) rfl (fun ls hl => ?_)
      refine lv_iinc (v := v2 + 1) (lv' := [(2, .int (v2 + 1)), (1, .int (k0 + k1)), (0, .ref (ad 0))]) hx hb dX6_canTry_28 hl (k := 2) rfl rfl (by decide) rfl (fun ls hl => ?_)
      refine lv_goto (tgt := 4) hx hb dX6_canTry_31 (by decide) ?_
      exact hI _ (Option.some.inj hf).symm _ _ _ hP hD hS (lv_sub hl [2, 1, 0] rfl) hk
    unfold fX6_canTry_L4 at hf
    refine lv_iload_n hx hb dX6_canTry_4 rfl (lv_at hl 2 rfl) ?_
    refine lv_aload_n hx hb dX6_canTry_5 rfl (lv_at hl 0 rfl) ?_
    refine va_get (D := D) (ci := 8) (C := RX6) (T := TX6) (N := 27) hx hb hts hinX6 hown hK.1 hP 0 rfl rfl 2 (by decide) (hts (.fieldLink RX6 79 "SwitchgearModel" "lines" "I") (by decide +kernel)) (fun _ h9 => h9) rfl dX6_canTry_6 ?_
    refine lv_icmp_ge (tgt := 34) hx hb dX6_canTry_9 (by decide) (fun c5 => ?_) (fun c5 => ?_)
    · have hf := sg_ip c5 hf
      have hq := hy _ (Option.some.inj hf).symm
      subst hq
      exact hk _ _ _ hP hD hS (lv_sub hl [0, 1] rfl)
    · have hf := sg_in c5 hf
      refine lv_iload_n hx hb dX6_canTry_12 rfl (lv_at hl 1 rfl) ?_
      refine lv_aload_n hx hb dX6_canTry_13 rfl (lv_at hl 0 rfl) ?_
      refine lv_iload_n hx hb dX6_canTry_14 rfl (lv_at hl 2 rfl) ?_
      obtain ⟨r2, hc1, hf⟩ := sg_b_s hf
      refine sg_ci (va_runV (As := [.int x.2]) (rest := [.int x.1]) ⟨hx, hb, hml, hown, hts⟩ (c_X6_isChoice l D cA ad N _ _ _ hc1 _) (cwV 1 hts gX6_canTry_X6_isChoice rfl rfl rfl (by decide +kernel) ⟨Nat.le_of_ble_eq_true rfl, Nat.le_of_ble_eq_true rfl⟩) (sg_pre hK hP hD (ci := 8) (q0 := 0) rfl rfl) rfl rfl hl.1 rfl (lv_room (Nat.le_of_ble_eq_true rfl)) dX6_canTry_15 ⟨Nat.zero_le _, Nat.zero_le _⟩) hD hS hA (fun H locs hP hD hS => ?_)
      refine lv_if_eq (tgt := 25) hx hb dX6_canTry_18 (by decide) (fun c4 => ?_) (fun c4 => ?_)
      · have hf := sg_ip c4 hf
        refine lv_iconst (v := 0) hx hb dX6_canTry_25 (by decide) ?_
        exact hJ26 _ _ _ _ _ _ hf hP hD hS (lv_sub hl [0, 2] rfl)
      · have hf := sg_in c4 hf
        refine lv_iconst (v := 1) hx hb dX6_canTry_21 (by decide) ?_
        refine lv_goto (tgt := 26) hx hb dX6_canTry_22 (by decide) ?_
        exact hJ26 _ _ _ _ _ _ hf hP hD hS (lv_sub hl [0, 2] rfl)
  unfold fX6_canTry at hf
  refine lv_iconst (v := 0) hx hb dX6_canTry_0 (by decide) ?_
  refine lv_istore_n (lv' := [(1, .int 0), (0, .ref (ad 0))]) hx hb dX6_canTry_1 rfl hl (by decide) rfl (fun ls hl => ?_)
  refine lv_iconst (v := 0) hx hb dX6_canTry_2 (by decide) ?_
  refine lv_istore_n (lv' := [(2, .int 0), (1, .int 0), (0, .ref (ad 0))]) hx hb dX6_canTry_3 rfl hl (by decide) rfl (fun ls hl => ?_)
  obtain ⟨e1, hc2, hf⟩ := sg_b_s hf
  refine hL4 _ _ _ e1 hc2 _ _ _ hP hD hS (lv_sub hl [2, 1, 0] rfl) (fun H locs ls hP hD hS hl => ?_)
  refine lv_aload_n hx hb dX6_canTry_34 rfl (lv_at hl 0 rfl) ?_
  refine lv_iload_n hx hb dX6_canTry_35 rfl (lv_at hl 1 rfl) ?_
  refine lv_bipush (v := 9) hx hb dX6_canTry_36 (by decide) ?_
  refine lv_icmp_gt (tgt := 45) hx hb dX6_canTry_38 (by decide) (fun c11 => ?_) (fun c11 => ?_)
  · have hf := sg_ip c11 hf
    refine lv_iconst (v := 0) hx hb dX6_canTry_45 (by decide) ?_
    obtain ⟨r4, u5, hc3, hf⟩ := sg_b2_s hf
    refine sg_ci (va_runV (As := [.int 0]) (rest := []) ⟨hx, hb, hml, hown, hts⟩ (c_X6_isThere l D cA ad N _ _ _ _ hc3 _) (cwV 1 hts gX6_canTry_X6_isThere rfl rfl rfl (by decide +kernel) ⟨Nat.le_of_ble_eq_true rfl, Nat.le_of_ble_eq_true rfl⟩) (sg_pre hK hP hD (ci := 8) (q0 := 0) rfl rfl) rfl rfl hl.1 rfl (lv_room (Nat.le_of_ble_eq_true rfl)) dX6_canTry_46 ⟨Nat.zero_le _, Nat.zero_le _⟩) hD hS hA (fun H locs hP hD hS => ?_)
    obtain ⟨hg6, hf⟩ := sg_g_s hf
    have hq := Option.some.inj hf
    exact sg_zret hx hb hr (sg_nz hg6) hP hD hS dX6_canTry_49 (congrArg Prod.fst hq) (congrArg Prod.snd hq) hlocks
  · have hf := sg_in c11 hf
    refine lv_iconst (v := 1) hx hb dX6_canTry_41 (by decide) ?_
    refine lv_goto (tgt := 46) hx hb dX6_canTry_42 (by decide) ?_
    obtain ⟨r8, u9, hc7, hf⟩ := sg_b2_s hf
    refine sg_ci (va_runV (As := [.int 1]) (rest := []) ⟨hx, hb, hml, hown, hts⟩ (c_X6_isThere l D cA ad N _ _ _ _ hc7 _) (cwV 1 hts gX6_canTry_X6_isThere rfl rfl rfl (by decide +kernel) ⟨Nat.le_of_ble_eq_true rfl, Nat.le_of_ble_eq_true rfl⟩) (sg_pre hK hP hD (ci := 8) (q0 := 0) rfl rfl) rfl rfl hl.1 rfl (lv_room (Nat.le_of_ble_eq_true rfl)) dX6_canTry_46 ⟨Nat.zero_le _, Nat.zero_le _⟩) hD hS hA (fun H locs hP hD hS => ?_)
    obtain ⟨hg10, hf⟩ := sg_g_s hf
    have hq := Option.some.inj hf
    exact sg_zret hx hb hr (sg_nz hg10) hP hD hS dX6_canTry_49 (congrArg Prod.fst hq) (congrArg Prod.snd hq) hlocks
set_option maxRecDepth 100000 in
set_option maxHeartbeats 4000000 in
theorem c_X6_close (l : Launch) (D : va_G) (cA : Nat → ClassId) (ad : Nat → Nat) (N : Nat) (u : sg_St) (p1 : Int32) (r : Int32) (u' : sg_St) (hf : fX6_close N u p1 = some (r, u')) : sg_CI l D cA (sg_WM cA ad) yX6_close wsX6_close ({ frames := 4, cells := 0, slots := 0, locals := 96 }) [.ref (ad 0), .int p1] u r u' := by
  intro sz
  refine Met.ofW (cc := cX6_close) (maxL := 3) (ret := (some .char)) (by decide) rfl ?_
  intro p e s m args below meth c s₁ B hml hv
  obtain ⟨rfl, hsz, hP, hK, hD0⟩ := hv
  have hx := B.exec
  have hb := B.bytes
  have hr := B.returns
  have hts := atoms_spec (ws := wsX6_close) B.pre
  have hown : s.vm.findClass RX6 = some m.cls := findClass_of_methodNamed B.named
  have hlocks := B.notSynchronized
  subst hsz
  have hD := hD0.self (sz := s.heap.size)
  generalize hAe : va_A (sg_WM cA ad u) s.heap.size = A at hD ⊢
  have hA : ∀ q : Nat, s.heap.size ≤ q → A q := fun q h => by rw [← hAe]; exact Or.inr h
  have hS : va_S A s.heap s.heap [] := va_S.rf
  have hl := lv_entry ([.ref (ad 0), .int p1]) (n := 3) (Nat.le_of_ble_eq_true rfl)
  rw [lg_entry_eq]
  generalize (lg_sl ([.ref (ad 0), .int p1]) ++ List.replicate (3 - (lg_sl ([.ref (ad 0), .int p1])).length) Slot.unset).toArray = ls at hl ⊢
  replace hl : lv_has ls 3 [(0, .ref (ad 0)), (1, .int p1)] := hl
  have hinX6 : ∀ w ∈ u_ws RX6 TX6 27, w ∈ wsX6_close := by decide +kernel
  unfold fX6_close at hf
  refine lv_aload_n hx hb dX6_close_0 rfl (lv_at hl 0 rfl) ?_
  refine lv_aload_n hx hb dX6_close_1 rfl (lv_at hl 0 rfl) ?_
  refine lv_iload_n hx hb dX6_close_2 rfl (lv_at hl 1 rfl) ?_
  obtain ⟨r2, hc1, hf⟩ := sg_b_s hf
  refine sg_ci (va_runV (As := [.int p1]) (rest := [.ref (ad 0)]) ⟨hx, hb, hml, hown, hts⟩ (c_X6_isLine l D cA ad N _ _ _ hc1 _) (cwV 1 hts gX6_close_X6_isLine rfl rfl rfl (by decide +kernel) ⟨Nat.le_of_ble_eq_true rfl, Nat.le_of_ble_eq_true rfl⟩) (sg_pre hK hP hD (ci := 8) (q0 := 0) rfl rfl) rfl rfl hl.1 rfl (lv_room (Nat.le_of_ble_eq_true rfl)) dX6_close_3 ⟨Nat.zero_le _, Nat.zero_le _⟩) hD hS hA (fun H locs hP hD hS => ?_)
  obtain ⟨r5, u6, hc4, hf⟩ := sg_b2_s hf
  refine sg_ci (va_runV (As := [.int r2]) (rest := []) ⟨hx, hb, hml, hown, hts⟩ (c_X6_isThere l D cA ad N _ _ _ _ hc4 _) (cwV 1 hts gX6_close_X6_isThere rfl rfl rfl (by decide +kernel) ⟨Nat.le_of_ble_eq_true rfl, Nat.le_of_ble_eq_true rfl⟩) (sg_pre hK hP hD (ci := 8) (q0 := 0) rfl rfl) rfl rfl hl.1 rfl (lv_room (Nat.le_of_ble_eq_true rfl)) dX6_close_6 ⟨Nat.zero_le _, Nat.zero_le _⟩) hD hS hA (fun H locs hP hD hS => ?_)
  refine lv_if_ne (tgt := 14) hx hb dX6_close_9 (by decide) (fun c14 => ?_) (fun c14 => ?_)
  · have hf := sg_in c14 hf
    refine lv_aload_n hx hb dX6_close_14 rfl (lv_at hl 0 rfl) ?_
    refine lv_iload_n hx hb dX6_close_15 rfl (lv_at hl 1 rfl) ?_
    obtain ⟨r8, u9, hc7, hf⟩ := sg_b2_s hf
    refine sg_ci (va_runV (As := [.int p1]) (rest := []) ⟨hx, hb, hml, hown, hts⟩ (c_X6_reason l D cA ad N _ _ _ _ hc7 _) (cwV 1 hts gX6_close_X6_reason rfl rfl rfl (by decide +kernel) ⟨Nat.le_of_ble_eq_true rfl, Nat.le_of_ble_eq_true rfl⟩) (sg_pre hK hP hD (ci := 8) (q0 := 0) rfl rfl) rfl rfl hl.1 rfl (lv_room (Nat.le_of_ble_eq_true rfl)) dX6_close_16 ⟨Nat.zero_le _, Nat.zero_le _⟩) hD hS hA (fun H locs hP hD hS => ?_)
    refine lv_istore_n (lv' := [(2, .int r8), (0, .ref (ad 0)), (1, .int p1)]) hx hb dX6_close_19 rfl hl (by decide) rfl (fun ls hl => ?_)
    refine lv_iload_n hx hb dX6_close_20 rfl (lv_at hl 0 rfl) ?_
    refine lv_bipush (v := 110) hx hb dX6_close_21 (by decide) ?_
    refine lv_icmp_ne (tgt := 33) hx hb dX6_close_23 (by decide) (fun c13 => ?_) (fun c13 => ?_)
    · have hf := sg_in c13 hf
      refine lv_iload_n hx hb dX6_close_33 rfl (lv_at hl 0 rfl) ?_
      obtain ⟨hg10, hf⟩ := sg_g_s hf
      have hq := Option.some.inj hf
      exact sg_zret hx hb hr (sg_nc hg10) hP hD hS dX6_close_34 (congrArg Prod.fst hq) (congrArg Prod.snd hq) hlocks
    · have hf := sg_ip c13 hf
      refine lv_aload_n hx hb dX6_close_26 rfl (lv_at hl 1 rfl) ?_
      refine va_get (D := D) (ci := 8) (C := RX6) (T := TX6) (N := 27) hx hb hts hinX6 hown hK.1 hP 0 rfl rfl 15 (by decide) (hts (.fieldLink RX6 44 "SwitchgearModel" "isClosed" "[Z") (by decide +kernel)) (fun _ h9 => h9) rfl dX6_close_27 ?_
      refine lv_iload_n hx hb dX6_close_30 rfl (lv_at hl 2 rfl) ?_
      refine lv_iconst (v := 1) hx hb dX6_close_31 (by decide) ?_
      obtain ⟨hg11, hf⟩ := sg_g_s hf
      refine va_zast hx hb hK.1 hP hD hS 12 1 rfl rfl (sg_inb_s hg11) dX6_close_32 (fun H locs hP hD hS => ?_)
      replace hP : va_P D vwCl (sg_WM cA ad (sg_set u9 19 (p1).toNatClampNeg (vp_nar .boolean 1))) H := by rw [← sg_WM_19]; exact hP
      replace hD : va_D A (sg_WM cA ad (sg_set u9 19 (p1).toNatClampNeg (vp_nar .boolean 1))) := by rw [← sg_WM_19]; exact hD
      refine lv_iload_n hx hb dX6_close_33 rfl (lv_at hl 0 rfl) ?_
      obtain ⟨hg12, hf⟩ := sg_g_s hf
      have hq := Option.some.inj hf
      exact sg_zret hx hb hr (sg_nc hg12) hP hD hS dX6_close_34 (congrArg Prod.fst hq) (congrArg Prod.snd hq) hlocks
  · have hf := sg_ip c14 hf
    refine lv_iconst (v := 0) hx hb dX6_close_12 (by decide) ?_
    have hq := Option.some.inj hf
    exact sg_zret hx hb hr rfl hP hD hS dX6_close_13 (congrArg Prod.fst hq) (congrArg Prod.snd hq) hlocks
set_option maxRecDepth 100000 in
set_option maxHeartbeats 4000000 in
theorem c_X6_current (l : Launch) (D : va_G) (cA : Nat → ClassId) (ad : Nat → Nat) (N : Nat) (u : sg_St) (p1 : Int32) (r : Int32) (u' : sg_St) (hf : fX6_current N u p1 = some (r, u')) : sg_CI l D cA (sg_WM cA ad) yX6_current wsX6_current ({ frames := 3, cells := 0, slots := 0, locals := 68 }) [.ref (ad 0), .int p1] u r u' := by
  intro sz
  refine Met.ofW (cc := cX6_current) (maxL := 2) (ret := (some .int)) (by decide) rfl ?_
  intro p e s m args below meth c s₁ B hml hv
  obtain ⟨rfl, hsz, hP, hK, hD0⟩ := hv
  have hx := B.exec
  have hb := B.bytes
  have hr := B.returns
  have hts := atoms_spec (ws := wsX6_current) B.pre
  have hown : s.vm.findClass RX6 = some m.cls := findClass_of_methodNamed B.named
  have hlocks := B.notSynchronized
  subst hsz
  have hD := hD0.self (sz := s.heap.size)
  generalize hAe : va_A (sg_WM cA ad u) s.heap.size = A at hD ⊢
  have hA : ∀ q : Nat, s.heap.size ≤ q → A q := fun q h => by rw [← hAe]; exact Or.inr h
  have hS : va_S A s.heap s.heap [] := va_S.rf
  have hl := lv_entry ([.ref (ad 0), .int p1]) (n := 2) (Nat.le_of_ble_eq_true rfl)
  rw [lg_entry_eq]
  generalize (lg_sl ([.ref (ad 0), .int p1]) ++ List.replicate (2 - (lg_sl ([.ref (ad 0), .int p1])).length) Slot.unset).toArray = ls at hl ⊢
  replace hl : lv_has ls 2 [(0, .ref (ad 0)), (1, .int p1)] := hl
  unfold fX6_current at hf
  refine lv_aload_n hx hb dX6_current_0 rfl (lv_at hl 0 rfl) ?_
  refine lv_aload_n hx hb dX6_current_1 rfl (lv_at hl 0 rfl) ?_
  refine lv_iload_n hx hb dX6_current_2 rfl (lv_at hl 1 rfl) ?_
  obtain ⟨r2, hc1, hf⟩ := sg_b_s hf
  refine sg_ci (va_runV (As := [.int p1]) (rest := [.ref (ad 0)]) ⟨hx, hb, hml, hown, hts⟩ (c_X6_isLine l D cA ad N _ _ _ hc1 _) (cwV 1 hts gX6_current_X6_isLine rfl rfl rfl (by decide +kernel) ⟨Nat.le_of_ble_eq_true rfl, Nat.le_of_ble_eq_true rfl⟩) (sg_pre hK hP hD (ci := 8) (q0 := 0) rfl rfl) rfl rfl hl.1 rfl (lv_room (Nat.le_of_ble_eq_true rfl)) dX6_current_3 ⟨Nat.zero_le _, Nat.zero_le _⟩) hD hS hA (fun H locs hP hD hS => ?_)
  obtain ⟨r5, u6, hc4, hf⟩ := sg_b2_s hf
  refine sg_ci (va_runV (As := [.int r2]) (rest := []) ⟨hx, hb, hml, hown, hts⟩ (c_X6_isThere l D cA ad N _ _ _ _ hc4 _) (cwV 1 hts gX6_current_X6_isThere rfl rfl rfl (by decide +kernel) ⟨Nat.le_of_ble_eq_true rfl, Nat.le_of_ble_eq_true rfl⟩) (sg_pre hK hP hD (ci := 8) (q0 := 0) rfl rfl) rfl rfl hl.1 rfl (lv_room (Nat.le_of_ble_eq_true rfl)) dX6_current_6 ⟨Nat.zero_le _, Nat.zero_le _⟩) hD hS hA (fun H locs hP hD hS => ?_)
  refine lv_if_eq (tgt := 20) hx hb dX6_current_9 (by decide) (fun c10 => ?_) (fun c10 => ?_)
  · have hf := sg_ip c10 hf
    refine lv_iconst (v := 0) hx hb dX6_current_20 (by decide) ?_
    have hq := Option.some.inj hf
    exact sg_iret hx hb hr hP hD hS dX6_current_21 (congrArg Prod.fst hq) (congrArg Prod.snd hq) hlocks
  · have hf := sg_in c10 hf
    refine lv_aload_n hx hb dX6_current_12 rfl (lv_at hl 0 rfl) ?_
    refine lv_iload_n hx hb dX6_current_13 rfl (lv_at hl 1 rfl) ?_
    obtain ⟨r8, u9, hc7, hf⟩ := sg_b2_s hf
    refine sg_ci (va_runV (As := [.int p1]) (rest := []) ⟨hx, hb, hml, hown, hts⟩ (c_X6_flowOf l D cA ad N _ _ _ _ hc7 _) (cwV 1 hts gX6_current_X6_flowOf rfl rfl rfl (by decide +kernel) ⟨Nat.le_of_ble_eq_true rfl, Nat.le_of_ble_eq_true rfl⟩) (sg_pre hK hP hD (ci := 8) (q0 := 0) rfl rfl) rfl rfl hl.1 rfl (lv_room (Nat.le_of_ble_eq_true rfl)) dX6_current_14 ⟨Nat.zero_le _, Nat.zero_le _⟩) hD hS hA (fun H locs hP hD hS => ?_)
    refine lv_goto (tgt := 21) hx hb dX6_current_17 (by decide) ?_
    have hq := Option.some.inj hf
    exact sg_iret hx hb hr hP hD hS dX6_current_21 (congrArg Prod.fst hq) (congrArg Prod.snd hq) hlocks
set_option maxRecDepth 100000 in
set_option maxHeartbeats 4000000 in
theorem c_X6_currentByCutting (l : Launch) (D : va_G) (cA : Nat → ClassId) (ad : Nat → Nat) (N : Nat) (u : sg_St) (p1 : Int32) (r : Int32) (u' : sg_St) (hf : fX6_currentByCutting N u p1 = some (r, u')) : sg_CI l D cA (sg_WM cA ad) yX6_currentByCutting wsX6_currentByCutting ({ frames := 4, cells := 0, slots := 0, locals := 89 }) [.ref (ad 0), .int p1] u r u' := by
  intro sz
  refine Met.ofW (cc := cX6_currentByCutting) (maxL := 2) (ret := (some .int)) (by decide) rfl ?_
  intro p e s m args below meth c s₁ B hml hv
  obtain ⟨rfl, hsz, hP, hK, hD0⟩ := hv
  have hx := B.exec
  have hb := B.bytes
  have hr := B.returns
  have hts := atoms_spec (ws := wsX6_currentByCutting) B.pre
  have hown : s.vm.findClass RX6 = some m.cls := findClass_of_methodNamed B.named
  have hlocks := B.notSynchronized
  subst hsz
  have hD := hD0.self (sz := s.heap.size)
  generalize hAe : va_A (sg_WM cA ad u) s.heap.size = A at hD ⊢
  have hA : ∀ q : Nat, s.heap.size ≤ q → A q := fun q h => by rw [← hAe]; exact Or.inr h
  have hS : va_S A s.heap s.heap [] := va_S.rf
  have hl := lv_entry ([.ref (ad 0), .int p1]) (n := 2) (Nat.le_of_ble_eq_true rfl)
  rw [lg_entry_eq]
  generalize (lg_sl ([.ref (ad 0), .int p1]) ++ List.replicate (2 - (lg_sl ([.ref (ad 0), .int p1])).length) Slot.unset).toArray = ls at hl ⊢
  replace hl : lv_has ls 2 [(0, .ref (ad 0)), (1, .int p1)] := hl
  unfold fX6_currentByCutting at hf
  refine lv_aload_n hx hb dX6_currentByCutting_0 rfl (lv_at hl 0 rfl) ?_
  refine lv_iload_n hx hb dX6_currentByCutting_1 rfl (lv_at hl 1 rfl) ?_
  obtain ⟨r2, u3, hc1, hf⟩ := sg_b2_s hf
  refine sg_ci (va_runV (As := [.int p1]) (rest := []) ⟨hx, hb, hml, hown, hts⟩ (c_X6_current l D cA ad N _ _ _ _ hc1 _) (cwV 1 hts gX6_currentByCutting_X6_current rfl rfl rfl (by decide +kernel) ⟨Nat.le_of_ble_eq_true rfl, Nat.le_of_ble_eq_true rfl⟩) (sg_pre hK hP hD (ci := 8) (q0 := 0) rfl rfl) rfl rfl hl.1 rfl (lv_room (Nat.le_of_ble_eq_true rfl)) dX6_currentByCutting_2 ⟨Nat.zero_le _, Nat.zero_le _⟩) hD hS hA (fun H locs hP hD hS => ?_)
  have hq := Option.some.inj hf
  exact sg_iret hx hb hr hP hD hS dX6_currentByCutting_5 (congrArg Prod.fst hq) (congrArg Prod.snd hq) hlocks
set_option maxRecDepth 100000 in
set_option maxHeartbeats 4000000 in
theorem c_X6_loads (l : Launch) (D : va_G) (cA : Nat → ClassId) (ad : Nat → Nat) (N : Nat) (u : sg_St) (p1 : Int32) (r : Int32) (u' : sg_St) (hf : fX6_loads N u p1 = some (r, u')) : sg_CI l D cA (sg_WM cA ad) yX6_loads wsX6_loads ({ frames := 1, cells := 0, slots := 0, locals := 25 }) [.ref (ad 0), .int p1] u r u' := by
  intro sz
  refine Met.ofW (cc := cX6_loads) (maxL := 4) (ret := (some .int)) (by decide) rfl ?_
  intro p e s m args below meth c s₁ B hml hv
  obtain ⟨rfl, hsz, hP, hK, hD0⟩ := hv
  have hx := B.exec
  have hb := B.bytes
  have hr := B.returns
  have hts := atoms_spec (ws := wsX6_loads) B.pre
  have hown : s.vm.findClass RX6 = some m.cls := findClass_of_methodNamed B.named
  have hlocks := B.notSynchronized
  subst hsz
  have hD := hD0.self (sz := s.heap.size)
  generalize hAe : va_A (sg_WM cA ad u) s.heap.size = A at hD ⊢
  have hA : ∀ q : Nat, s.heap.size ≤ q → A q := fun q h => by rw [← hAe]; exact Or.inr h
  have hS : va_S A s.heap s.heap [] := va_S.rf
  have hl := lv_entry ([.ref (ad 0), .int p1]) (n := 4) (Nat.le_of_ble_eq_true rfl)
  rw [lg_entry_eq]
  generalize (lg_sl ([.ref (ad 0), .int p1]) ++ List.replicate (4 - (lg_sl ([.ref (ad 0), .int p1])).length) Slot.unset).toArray = ls at hl ⊢
  replace hl : lv_has ls 4 [(0, .ref (ad 0)), (1, .int p1)] := hl
  have hinX6 : ∀ w ∈ u_ws RX6 TX6 27, w ∈ wsX6_loads := by decide +kernel
  have hL10 : ∀ (u : sg_St) (v1 : Int32) (n : Nat) (x : Int32 × Int32) (r9 : Int32), sg_it (fun x => fX6_loads_L10 N u v1 x.1 x.2) n x = some r9 → ∀ (H : Heap) (locs : List Loc) (ls : Array Slot), va_P D vwCl (sg_WM cA ad u) H → va_D A (sg_WM cA ad u) → va_S A s.heap H locs → lv_has ls 4 [(0, .ref (ad 0)), (1, .int v1), (2, .int x.1), (3, .int x.2)] → (∀ (H : Heap) (locs : List Loc) (ls : Array Slot), va_P D vwCl (sg_WM cA ad u) H → va_D A (sg_WM cA ad u) → va_S A s.heap H locs → lv_has ls 4 [(0, .ref (ad 0)), (2, .int r9)] → W p l e (headSpec wsX6_loads ({ frames := 1, cells := 0, slots := 0, locals := 25 })).room s m ([.ref (ad 0), .int p1] : List Value).toArray below meth c H locs 0 0 (MQ below (va_Qi (fun x y => x = r ∧ y = u') (sg_BX D (sg_WM cA ad) A) A) ([.ref (ad 0), .int p1] : List Value).toArray s 0 0 A) (F0 m 55 ls [])) → W p l e (headSpec wsX6_loads ({ frames := 1, cells := 0, slots := 0, locals := 25 })).room s m ([.ref (ad 0), .int p1] : List Value).toArray below meth c H locs 0 0 (MQ below (va_Qi (fun x y => x = r ∧ y = u') (sg_BX D (sg_WM cA ad) A) A) ([.ref (ad 0), .int p1] : List Value).toArray s 0 0 A) (F0 m 10 ls []) := by
    intro u v1
    refine sg_loop _ ?_
    intro x y r9 hf hI hy H locs ls hP hD hS hl hk
    replace hf : fX6_loads_L10 N u v1 x.1 x.2 = some y := hf
    have hJ47 : ∀ (v3 k0 k1 : Int32) (H : Heap) (locs : List Loc) (ls : Array Slot), fX6_loads_j47 N u v1 v3 k0 k1 = some y → va_P D vwCl (sg_WM cA ad u) H → va_D A (sg_WM cA ad u) → va_S A s.heap H locs → lv_has ls 4 [(0, .ref (ad 0)), (1, .int v1), (3, .int v3)] → W p l e (headSpec wsX6_loads ({ frames := 1, cells := 0, slots := 0, locals := 25 })).room s m ([.ref (ad 0), .int p1] : List Value).toArray below meth c H locs 0 0 (MQ below (va_Qi (fun x y => x = r ∧ y = u') (sg_BX D (sg_WM cA ad) A) A) ([.ref (ad 0), .int p1] : List Value).toArray s 0 0 A) (F0 m 47 ls [.int k1, .int k0]) := by
      intro v3 k0 k1 H locs ls hf hP hD hS hl
      unfold fX6_loads_j47 at hf
      refine lv_iadd hx hb dX6_loads_47 ?_
      refine lv_istore_n (lv' := [(2, .int (k0 + k1)), (0, .ref (ad 0)), (1, .int v1), (3, .int v3)]) hx hb dX6_loads_48 rfl hl (by decide) rfl (fun ls hl => ?_)
      refine lv_iinc (v := v3 + 1) (lv' := [(3, .int (v3 + 1)), (2, .int (k0 + k1)), (0, .ref (ad 0)), (1, .int v1)]) hx hb dX6_loads_49 hl (k := 3) rfl rfl (by decide) rfl (fun ls hl => ?_)
      refine lv_goto (tgt := 10) hx hb dX6_loads_52 (by decide) ?_
      exact hI _ (Option.some.inj hf).symm _ _ _ hP hD hS (lv_sub hl [2, 3, 1, 0] rfl) hk
    have hJ41 : ∀ (v3 k0 : Int32) (H : Heap) (locs : List Loc) (ls : Array Slot), fX6_loads_j41 N u v1 v3 k0 = some y → va_P D vwCl (sg_WM cA ad u) H → va_D A (sg_WM cA ad u) → va_S A s.heap H locs → lv_has ls 4 [(0, .ref (ad 0)), (1, .int v1), (3, .int v3)] → W p l e (headSpec wsX6_loads ({ frames := 1, cells := 0, slots := 0, locals := 25 })).room s m ([.ref (ad 0), .int p1] : List Value).toArray below meth c H locs 0 0 (MQ below (va_Qi (fun x y => x = r ∧ y = u') (sg_BX D (sg_WM cA ad) A) A) ([.ref (ad 0), .int p1] : List Value).toArray s 0 0 A) (F0 m 41 ls [.int k0]) := by
      intro v3 k0 H locs ls hf hP hD hS hl
      unfold fX6_loads_j41 at hf
      refine lv_aload_n hx hb dX6_loads_41 rfl (lv_at hl 0 rfl) ?_
      refine va_get (D := D) (ci := 8) (C := RX6) (T := TX6) (N := 27) hx hb hts hinX6 hown hK.1 hP 0 rfl rfl 6 (by decide) (hts (.fieldLink RX6 17 "SwitchgearModel" "load" "[I") (by decide +kernel)) (fun _ h9 => h9) rfl dX6_loads_42 ?_
      refine lv_iload_n hx hb dX6_loads_45 rfl (lv_at hl 2 rfl) ?_
      obtain ⟨hg1, hf⟩ := sg_g_s hf
      refine va_iald hx hb hK.1 hP 3 0 rfl rfl (sg_inb_s hg1) dX6_loads_46 ?_
      exact hJ47 _ _ _ _ _ _ hf hP hD hS (lv_sub hl [0, 1, 2] rfl)
    unfold fX6_loads_L10 at hf
    refine lv_iload_n hx hb dX6_loads_10 rfl (lv_at hl 3 rfl) ?_
    refine lv_aload_n hx hb dX6_loads_11 rfl (lv_at hl 0 rfl) ?_
    refine va_get (D := D) (ci := 8) (C := RX6) (T := TX6) (N := 27) hx hb hts hinX6 hown hK.1 hP 0 rfl rfl 1 (by decide) (hts (.fieldLink RX6 72 "SwitchgearModel" "nodes" "I") (by decide +kernel)) (fun _ h9 => h9) rfl dX6_loads_12 ?_
    refine lv_icmp_ge (tgt := 55) hx hb dX6_loads_15 (by decide) (fun c7 => ?_) (fun c7 => ?_)
    · have hf := sg_ip c7 hf
      have hq := hy _ (Option.some.inj hf).symm
      subst hq
      exact hk _ _ _ hP hD hS (lv_sub hl [0, 2] rfl)
    · have hf := sg_in c7 hf
      refine lv_iload_n hx hb dX6_loads_18 rfl (lv_at hl 2 rfl) ?_
      refine lv_iload_n hx hb dX6_loads_19 rfl (lv_at hl 1 rfl) ?_
      refine lv_if_eq (tgt := 41) hx hb dX6_loads_20 (by decide) (fun c6 => ?_) (fun c6 => ?_)
      · have hf := sg_ip c6 hf
        exact hJ41 _ _ _ _ _ hf hP hD hS (lv_sub hl [0, 1, 3] rfl)
      · have hf := sg_in c6 hf
        refine lv_aload_n hx hb dX6_loads_23 rfl (lv_at hl 0 rfl) ?_
        refine lv_aload_n hx hb dX6_loads_24 rfl (lv_at hl 0 rfl) ?_
        refine va_get (D := D) (ci := 8) (C := RX6) (T := TX6) (N := 27) hx hb hts hinX6 hown hK.1 hP 0 rfl rfl 18 (by decide) (hts (.fieldLink RX6 53 "SwitchgearModel" "island" "[I") (by decide +kernel)) (fun _ h9 => h9) rfl dX6_loads_25 ?_
        refine lv_iload_n hx hb dX6_loads_28 rfl (lv_at hl 3 rfl) ?_
        obtain ⟨hg1, hf⟩ := sg_g_s hf
        refine va_iald hx hb hK.1 hP 15 0 rfl rfl (sg_inb_s hg1) dX6_loads_29 ?_
        obtain ⟨r3, hc2, hf⟩ := sg_b_s hf
        refine sg_ci (va_runV (As := [.int (u 22 (x.2).toNatClampNeg)]) (rest := [.int x.1]) ⟨hx, hb, hml, hown, hts⟩ (c_X6_source l D cA ad N _ _ _ hc2 _) (cwV 1 hts gX6_loads_X6_source rfl rfl rfl (by decide +kernel) ⟨Nat.le_of_ble_eq_true rfl, Nat.le_of_ble_eq_true rfl⟩) (sg_pre hK hP hD (ci := 8) (q0 := 0) rfl rfl) rfl rfl hl.1 rfl (lv_room (Nat.le_of_ble_eq_true rfl)) dX6_loads_30 ⟨Nat.zero_le _, Nat.zero_le _⟩) hD hS hA (fun H locs hP hD hS => ?_)
        refine lv_iconst (v := (-1)) hx hb dX6_loads_33 (by decide) ?_
        refine lv_icmp_eq (tgt := 41) hx hb dX6_loads_34 (by decide) (fun c5 => ?_) (fun c5 => ?_)
        · have hf := sg_ip c5 hf
          exact hJ41 _ _ _ _ _ hf hP hD hS (lv_sub hl [0, 1, 3] rfl)
        · have hf := sg_in c5 hf
          refine lv_iconst (v := 0) hx hb dX6_loads_37 (by decide) ?_
          refine lv_goto (tgt := 47) hx hb dX6_loads_38 (by decide) ?_
          exact hJ47 _ _ _ _ _ _ hf hP hD hS (lv_sub hl [0, 1, 3] rfl)
  unfold fX6_loads at hf
  refine lv_aload_n hx hb dX6_loads_0 rfl (lv_at hl 0 rfl) ?_
  refine lv_iconst (v := (-1)) hx hb dX6_loads_1 (by decide) ?_
  refine lv_iconst (v := (-1)) hx hb dX6_loads_2 (by decide) ?_
  obtain ⟨u3, hc1, hf⟩ := sg_b_s hf
  refine sg_cv (va_runV (As := [.int ((-1)), .int ((-1))]) (rest := []) ⟨hx, hb, hml, hown, hts⟩ (c_X6_paints l D cA ad N _ _ _ _ hc1 _) (cwV 2 hts gX6_loads_X6_paints rfl rfl rfl (by decide +kernel) ⟨Nat.le_of_ble_eq_true rfl, Nat.le_of_ble_eq_true rfl⟩) (sg_pre hK hP hD (ci := 8) (q0 := 0) rfl rfl) rfl rfl hl.1 rfl (lv_room (Nat.le_of_ble_eq_true rfl)) dX6_loads_3 ⟨Nat.zero_le _, Nat.zero_le _⟩) hD hS hA (fun H locs hP hD hS => ?_)
  refine lv_iconst (v := 0) hx hb dX6_loads_6 (by decide) ?_
  refine lv_istore_n (lv' := [(2, .int 0), (0, .ref (ad 0)), (1, .int p1)]) hx hb dX6_loads_7 rfl hl (by decide) rfl (fun ls hl => ?_)
  refine lv_iconst (v := 0) hx hb dX6_loads_8 (by decide) ?_
  refine lv_istore_n (lv' := [(3, .int 0), (2, .int 0), (0, .ref (ad 0)), (1, .int p1)]) hx hb dX6_loads_9 rfl hl (by decide) rfl (fun ls hl => ?_)
  obtain ⟨e4, hc5, hf⟩ := sg_b_s hf
  refine hL10 _ _ _ _ e4 hc5 _ _ _ hP hD hS (lv_sub hl [2, 3, 1, 0] rfl) (fun H locs ls hP hD hS hl => ?_)
  refine lv_iload_n hx hb dX6_loads_55 rfl (lv_at hl 1 rfl) ?_
  have hq := Option.some.inj hf
  exact sg_iret hx hb hr hP hD hS dX6_loads_56 (congrArg Prod.fst hq) (congrArg Prod.snd hq) hlocks
set_option maxRecDepth 100000 in
set_option maxHeartbeats 4000000 in
theorem c_X6_darkLoad (l : Launch) (D : va_G) (cA : Nat → ClassId) (ad : Nat → Nat) (N : Nat) (u : sg_St) (r : Int32) (u' : sg_St) (hf : fX6_darkLoad N u = some (r, u')) : sg_CI l D cA (sg_WM cA ad) yX6_darkLoad wsX6_darkLoad ({ frames := 2, cells := 0, slots := 0, locals := 48 }) [.ref (ad 0)] u r u' := by
  intro sz
  refine Met.ofW (cc := cX6_darkLoad) (maxL := 1) (ret := (some .int)) (by decide) rfl ?_
  intro p e s m args below meth c s₁ B hml hv
  obtain ⟨rfl, hsz, hP, hK, hD0⟩ := hv
  have hx := B.exec
  have hb := B.bytes
  have hr := B.returns
  have hts := atoms_spec (ws := wsX6_darkLoad) B.pre
  have hown : s.vm.findClass RX6 = some m.cls := findClass_of_methodNamed B.named
  have hlocks := B.notSynchronized
  subst hsz
  have hD := hD0.self (sz := s.heap.size)
  generalize hAe : va_A (sg_WM cA ad u) s.heap.size = A at hD ⊢
  have hA : ∀ q : Nat, s.heap.size ≤ q → A q := fun q h => by rw [← hAe]; exact Or.inr h
  have hS : va_S A s.heap s.heap [] := va_S.rf
  have hl := lv_entry ([.ref (ad 0)]) (n := 1) (Nat.le_of_ble_eq_true rfl)
  rw [lg_entry_eq]
  generalize (lg_sl ([.ref (ad 0)]) ++ List.replicate (1 - (lg_sl ([.ref (ad 0)])).length) Slot.unset).toArray = ls at hl ⊢
  replace hl : lv_has ls 1 [(0, .ref (ad 0))] := hl
  have hinX6 : ∀ w ∈ u_ws RX6 TX6 27, w ∈ wsX6_darkLoad := by decide +kernel
  unfold fX6_darkLoad at hf
  refine lv_aload_n hx hb dX6_darkLoad_0 rfl (lv_at hl 0 rfl) ?_
  refine lv_iconst (v := 0) hx hb dX6_darkLoad_1 (by decide) ?_
  refine va_put (D := D) (ci := 8) (v := .int 0) (ty := .int) (C := RX6) (T := TX6) (N := 27) hx hb hts hinX6 tyX6 tyX6_ok nmX6 hown hK.1 hP hD hS 0 rfl rfl 0 (by decide) (hts (.fieldLink RX6 68 "SwitchgearModel" "thrown" "I") (by decide +kernel)) (fun _ h9 => h9) rfl (by decide +kernel) rfl rfl (Nat.le_of_ble_eq_true rfl) dX6_darkLoad_2 (fun H locs hP hD hS => ?_)
  replace hP : va_P D vwCl (sg_WM cA ad (sg_set u 0 0 0)) H := by rw [← sg_WM_0]; exact hP
  replace hD : va_D A (sg_WM cA ad (sg_set u 0 0 0)) := by rw [← sg_WM_0]; exact hD
  refine lv_aload_n hx hb dX6_darkLoad_5 rfl (lv_at hl 0 rfl) ?_
  refine lv_iconst (v := 1) hx hb dX6_darkLoad_6 (by decide) ?_
  obtain ⟨r2, u3, hc1, hf⟩ := sg_b2_s hf
  refine sg_ci (va_runV (As := [.int 1]) (rest := []) ⟨hx, hb, hml, hown, hts⟩ (c_X6_loads l D cA ad N _ _ _ _ hc1 _) (cwV 1 hts gX6_darkLoad_X6_loads rfl rfl rfl (by decide +kernel) ⟨Nat.le_of_ble_eq_true rfl, Nat.le_of_ble_eq_true rfl⟩) (sg_pre hK hP hD (ci := 8) (q0 := 0) rfl rfl) rfl rfl hl.1 rfl (lv_room (Nat.le_of_ble_eq_true rfl)) dX6_darkLoad_7 ⟨Nat.zero_le _, Nat.zero_le _⟩) hD hS hA (fun H locs hP hD hS => ?_)
  have hq := Option.some.inj hf
  exact sg_iret hx hb hr hP hD hS dX6_darkLoad_10 (congrArg Prod.fst hq) (congrArg Prod.snd hq) hlocks
set_option maxRecDepth 100000 in
set_option maxHeartbeats 4000000 in
theorem c_X6_finds (l : Launch) (D : va_G) (cA : Nat → ClassId) (ad : Nat → Nat) (N : Nat) (u : sg_St) (p1 : Int32) (r : Int32) (u' : sg_St) (hf : fX6_finds N u p1 = some (r, u')) : sg_CI l D cA (sg_WM cA ad) yX6_finds wsX6_finds ({ frames := 1, cells := 0, slots := 0, locals := 25 }) [.ref (ad 0), .int p1] u r u' := by
  intro sz
  refine Met.ofW (cc := cX6_finds) (maxL := 7) (ret := (some .boolean)) (by decide) rfl ?_
  intro p e s m args below meth c s₁ B hml hv
  obtain ⟨rfl, hsz, hP, hK, hD0⟩ := hv
  have hx := B.exec
  have hb := B.bytes
  have hr := B.returns
  have hts := atoms_spec (ws := wsX6_finds) B.pre
  have hown : s.vm.findClass RX6 = some m.cls := findClass_of_methodNamed B.named
  have hlocks := B.notSynchronized
  subst hsz
  have hD := hD0.self (sz := s.heap.size)
  generalize hAe : va_A (sg_WM cA ad u) s.heap.size = A at hD ⊢
  have hA : ∀ q : Nat, s.heap.size ≤ q → A q := fun q h => by rw [← hAe]; exact Or.inr h
  have hS : va_S A s.heap s.heap [] := va_S.rf
  have hl := lv_entry ([.ref (ad 0), .int p1]) (n := 7) (Nat.le_of_ble_eq_true rfl)
  rw [lg_entry_eq]
  generalize (lg_sl ([.ref (ad 0), .int p1]) ++ List.replicate (7 - (lg_sl ([.ref (ad 0), .int p1])).length) Slot.unset).toArray = ls at hl ⊢
  replace hl : lv_has ls 7 [(0, .ref (ad 0)), (1, .int p1)] := hl
  have hinX6 : ∀ w ∈ u_ws RX6 TX6 27, w ∈ wsX6_finds := by decide +kernel
  have hL47 : ∀ (v1 v2 : Int32) (n : Nat) (x : sg_St × Int32) (r9 : sg_St), sg_it (fun x => fX6_finds_L47 N x.1 v1 v2 x.2) n x = some r9 → ∀ (H : Heap) (locs : List Loc) (ls : Array Slot), va_P D vwCl (sg_WM cA ad x.1) H → va_D A (sg_WM cA ad x.1) → va_S A s.heap H locs → lv_has ls 7 [(0, .ref (ad 0)), (1, .int v1), (2, .int v2), (3, .int x.2)] → (∀ (H : Heap) (locs : List Loc) (ls : Array Slot), va_P D vwCl (sg_WM cA ad r9) H → va_D A (sg_WM cA ad r9) → va_S A s.heap H locs → lv_has ls 7 [(0, .ref (ad 0)), (1, .int v1), (2, .int v2)] → W p l e (headSpec wsX6_finds ({ frames := 1, cells := 0, slots := 0, locals := 25 })).room s m ([.ref (ad 0), .int p1] : List Value).toArray below meth c H locs 0 0 (MQ below (va_Qi (fun x y => x = r ∧ y = u') (sg_BX D (sg_WM cA ad) A) A) ([.ref (ad 0), .int p1] : List Value).toArray s 0 0 A) (F0 m 68 ls [])) → W p l e (headSpec wsX6_finds ({ frames := 1, cells := 0, slots := 0, locals := 25 })).room s m ([.ref (ad 0), .int p1] : List Value).toArray below meth c H locs 0 0 (MQ below (va_Qi (fun x y => x = r ∧ y = u') (sg_BX D (sg_WM cA ad) A) A) ([.ref (ad 0), .int p1] : List Value).toArray s 0 0 A) (F0 m 47 ls []) := by
    intro v1 v2
    refine sg_loop _ ?_
    intro x y r9 hf hI hy H locs ls hP hD hS hl hk
    replace hf : fX6_finds_L47 N x.1 v1 v2 x.2 = some y := hf
    unfold fX6_finds_L47 at hf
    refine lv_iload_n hx hb dX6_finds_47 rfl (lv_at hl 3 rfl) ?_
    refine lv_aload_n hx hb dX6_finds_48 rfl (lv_at hl 0 rfl) ?_
    refine va_get (D := D) (ci := 8) (C := RX6) (T := TX6) (N := 27) hx hb hts hinX6 hown hK.1 hP 0 rfl rfl 1 (by decide) (hts (.fieldLink RX6 72 "SwitchgearModel" "nodes" "I") (by decide +kernel)) (fun _ h9 => h9) rfl dX6_finds_49 ?_
    refine lv_icmp_ge (tgt := 68) hx hb dX6_finds_52 (by decide) (fun c2 => ?_) (fun c2 => ?_)
    · have hf := sg_ip c2 hf
      have hq := hy _ (Option.some.inj hf).symm
      subst hq
      exact hk _ _ _ hP hD hS (lv_sub hl [0, 1, 2] rfl)
    · have hf := sg_in c2 hf
      refine lv_aload_n hx hb dX6_finds_55 rfl (lv_at hl 0 rfl) ?_
      refine va_get (D := D) (ci := 8) (C := RX6) (T := TX6) (N := 27) hx hb hts hinX6 hown hK.1 hP 0 rfl rfl 20 (by decide) (hts (.fieldLink RX6 59 "SwitchgearModel" "above" "[I") (by decide +kernel)) (fun _ h9 => h9) rfl dX6_finds_56 ?_
      refine lv_iload_n hx hb dX6_finds_59 rfl (lv_at hl 3 rfl) ?_
      refine lv_iconst (v := (-1)) hx hb dX6_finds_60 (by decide) ?_
      obtain ⟨hg1, hf⟩ := sg_g_s hf
      refine va_iast hx hb hK.1 hP hD hS 17 0 rfl rfl (sg_inb_s hg1) dX6_finds_61 (fun H locs hP hD hS => ?_)
      replace hP : va_P D vwCl (sg_WM cA ad (sg_set x.1 24 (x.2).toNatClampNeg ((-1)))) H := by rw [← sg_WM_24]; exact hP
      replace hD : va_D A (sg_WM cA ad (sg_set x.1 24 (x.2).toNatClampNeg ((-1)))) := by rw [← sg_WM_24]; exact hD
      refine lv_iinc (v := x.2 + 1) (lv' := [(3, .int (x.2 + 1)), (0, .ref (ad 0)), (1, .int v1), (2, .int v2)]) hx hb dX6_finds_62 hl (k := 3) rfl rfl (by decide) rfl (fun ls hl => ?_)
      refine lv_goto (tgt := 47) hx hb dX6_finds_65 (by decide) ?_
      exact hI _ (Option.some.inj hf).symm _ _ _ hP hD hS (lv_sub hl [1, 2, 3, 0] rfl) hk
  have hL272 : ∀ (v2 v4 v5 : Int32) (n : Nat) (x : sg_St × Int32) (r9 : sg_St), sg_it (fun x => fX6_finds_L272 N x.1 v2 v4 v5 x.2) n x = some r9 → ∀ (H : Heap) (locs : List Loc) (ls : Array Slot), va_P D vwCl (sg_WM cA ad x.1) H → va_D A (sg_WM cA ad x.1) → va_S A s.heap H locs → lv_has ls 7 [(0, .ref (ad 0)), (2, .int v2), (4, .int v4), (5, .int v5), (6, .int x.2)] → (∀ (H : Heap) (locs : List Loc) (ls : Array Slot), va_P D vwCl (sg_WM cA ad r9) H → va_D A (sg_WM cA ad r9) → va_S A s.heap H locs → lv_has ls 7 [(0, .ref (ad 0)), (2, .int v2), (4, .int v4), (5, .int v5)] → W p l e (headSpec wsX6_finds ({ frames := 1, cells := 0, slots := 0, locals := 25 })).room s m ([.ref (ad 0), .int p1] : List Value).toArray below meth c H locs 0 0 (MQ below (va_Qi (fun x y => x = r ∧ y = u') (sg_BX D (sg_WM cA ad) A) A) ([.ref (ad 0), .int p1] : List Value).toArray s 0 0 A) (F0 m 299 ls [])) → W p l e (headSpec wsX6_finds ({ frames := 1, cells := 0, slots := 0, locals := 25 })).room s m ([.ref (ad 0), .int p1] : List Value).toArray below meth c H locs 0 0 (MQ below (va_Qi (fun x y => x = r ∧ y = u') (sg_BX D (sg_WM cA ad) A) A) ([.ref (ad 0), .int p1] : List Value).toArray s 0 0 A) (F0 m 272 ls []) := by
    intro v2 v4 v5
    refine sg_loop _ ?_
    intro x y r9 hf hI hy H locs ls hP hD hS hl hk
    replace hf : fX6_finds_L272 N x.1 v2 v4 v5 x.2 = some y := hf
    unfold fX6_finds_L272 at hf
    refine lv_iload hx hb dX6_finds_272 (lv_at hl 4 rfl) ?_
    refine lv_if_le (tgt := 299) hx hb dX6_finds_274 (by decide) (fun c3 => ?_) (fun c3 => ?_)
    · have hf := sg_ip c3 hf
      have hq := hy _ (Option.some.inj hf).symm
      subst hq
      exact hk _ _ _ hP hD hS (lv_sub hl [0, 1, 2, 3] rfl)
    · have hf := sg_in c3 hf
      refine lv_aload_n hx hb dX6_finds_277 rfl (lv_at hl 0 rfl) ?_
      refine va_get (D := D) (ci := 8) (C := RX6) (T := TX6) (N := 27) hx hb hts hinX6 hown hK.1 hP 0 rfl rfl 19 (by decide) (hts (.fieldLink RX6 56 "SwitchgearModel" "path" "[I") (by decide +kernel)) (fun _ h9 => h9) rfl dX6_finds_278 ?_
      refine lv_iload hx hb dX6_finds_281 (lv_at hl 4 rfl) ?_
      refine lv_aload_n hx hb dX6_finds_283 rfl (lv_at hl 0 rfl) ?_
      refine va_get (D := D) (ci := 8) (C := RX6) (T := TX6) (N := 27) hx hb hts hinX6 hown hK.1 hP 0 rfl rfl 19 (by decide) (hts (.fieldLink RX6 56 "SwitchgearModel" "path" "[I") (by decide +kernel)) (fun _ h9 => h9) rfl dX6_finds_284 ?_
      refine lv_iload hx hb dX6_finds_287 (lv_at hl 4 rfl) ?_
      refine lv_iconst (v := 1) hx hb dX6_finds_289 (by decide) ?_
      refine lv_isub hx hb dX6_finds_290 ?_
      obtain ⟨hg1, hf⟩ := sg_g_s hf
      refine va_iald hx hb hK.1 hP 16 0 rfl rfl (sg_inb_s hg1) dX6_finds_291 ?_
      obtain ⟨hg2, hf⟩ := sg_g_s hf
      refine va_iast hx hb hK.1 hP hD hS 16 0 rfl rfl (sg_inb_s hg2) dX6_finds_292 (fun H locs hP hD hS => ?_)
      replace hP : va_P D vwCl (sg_WM cA ad (sg_set x.1 23 (x.2).toNatClampNeg (x.1 23 (x.2 - 1).toNatClampNeg))) H := by rw [← sg_WM_23]; exact hP
      replace hD : va_D A (sg_WM cA ad (sg_set x.1 23 (x.2).toNatClampNeg (x.1 23 (x.2 - 1).toNatClampNeg))) := by rw [← sg_WM_23]; exact hD
      refine lv_iinc (v := x.2 + (-1)) (lv' := [(6, .int (x.2 + (-1))), (0, .ref (ad 0)), (2, .int v2), (4, .int v4), (5, .int v5)]) hx hb dX6_finds_293 hl (k := 4) rfl rfl (by decide) rfl (fun ls hl => ?_)
      refine lv_goto (tgt := 272) hx hb dX6_finds_296 (by decide) ?_
      exact hI _ (Option.some.inj hf).symm _ _ _ hP hD hS (lv_sub hl [1, 2, 3, 4, 0] rfl) hk
  have hL251 : ∀ (v2 : Int32) (n : Nat) (x : sg_St × Int32) (r9 : sg_St), sg_it (fun x => fX6_finds_L251 N x.1 v2 x.2) n x = some r9 → ∀ (H : Heap) (locs : List Loc) (ls : Array Slot), va_P D vwCl (sg_WM cA ad x.1) H → va_D A (sg_WM cA ad x.1) → va_S A s.heap H locs → lv_has ls 7 [(0, .ref (ad 0)), (2, .int v2), (4, .int x.2)] → (∀ (H : Heap) (locs : List Loc) (ls : Array Slot), va_P D vwCl (sg_WM cA ad r9) H → va_D A (sg_WM cA ad r9) → va_S A s.heap H locs → lv_has ls 7 [(0, .ref (ad 0))] → W p l e (headSpec wsX6_finds ({ frames := 1, cells := 0, slots := 0, locals := 25 })).room s m ([.ref (ad 0), .int p1] : List Value).toArray below meth c H locs 0 0 (MQ below (va_Qi (fun x y => x = r ∧ y = u') (sg_BX D (sg_WM cA ad) A) A) ([.ref (ad 0), .int p1] : List Value).toArray s 0 0 A) (F0 m 351 ls [])) → W p l e (headSpec wsX6_finds ({ frames := 1, cells := 0, slots := 0, locals := 25 })).room s m ([.ref (ad 0), .int p1] : List Value).toArray below meth c H locs 0 0 (MQ below (va_Qi (fun x y => x = r ∧ y = u') (sg_BX D (sg_WM cA ad) A) A) ([.ref (ad 0), .int p1] : List Value).toArray s 0 0 A) (F0 m 251 ls []) := by
    intro v2
    refine sg_loop _ ?_
    intro x y r9 hf hI hy H locs ls hP hD hS hl hk
    replace hf : fX6_finds_L251 N x.1 v2 x.2 = some y := hf
    unfold fX6_finds_L251 at hf
    refine lv_iload hx hb dX6_finds_251 (lv_at hl 2 rfl) ?_
    refine lv_iload_n hx hb dX6_finds_253 rfl (lv_at hl 1 rfl) ?_
    refine lv_icmp_eq (tgt := 351) hx hb dX6_finds_254 (by decide) (fun c11 => ?_) (fun c11 => ?_)
    · have hf := sg_ip c11 hf
      have hq := hy _ (Option.some.inj hf).symm
      subst hq
      exact hk _ _ _ hP hD hS (lv_sub hl [0] rfl)
    · have hf := sg_in c11 hf
      refine lv_aload_n hx hb dX6_finds_257 rfl (lv_at hl 0 rfl) ?_
      refine va_get (D := D) (ci := 8) (C := RX6) (T := TX6) (N := 27) hx hb hts hinX6 hown hK.1 hP 0 rfl rfl 20 (by decide) (hts (.fieldLink RX6 59 "SwitchgearModel" "above" "[I") (by decide +kernel)) (fun _ h9 => h9) rfl dX6_finds_258 ?_
      refine lv_iload hx hb dX6_finds_261 (lv_at hl 2 rfl) ?_
      obtain ⟨hg1, hf⟩ := sg_g_s hf
      refine va_iald hx hb hK.1 hP 17 0 rfl rfl (sg_inb_s hg1) dX6_finds_263 ?_
      refine lv_istore (lv' := [(5, .int (x.1 24 (x.2).toNatClampNeg)), (0, .ref (ad 0)), (2, .int v2), (4, .int x.2)]) hx hb dX6_finds_264 hl (by decide) rfl (fun ls hl => ?_)
      refine lv_aload_n hx hb dX6_finds_266 rfl (lv_at hl 1 rfl) ?_
      refine va_get (D := D) (ci := 8) (C := RX6) (T := TX6) (N := 27) hx hb hts hinX6 hown hK.1 hP 0 rfl rfl 21 (by decide) (hts (.fieldLink RX6 127 "SwitchgearModel" "far" "I") (by decide +kernel)) (fun _ h9 => h9) rfl dX6_finds_267 ?_
      refine lv_istore (lv' := [(6, .int (x.1 4 0)), (5, .int (x.1 24 (x.2).toNatClampNeg)), (0, .ref (ad 0)), (2, .int v2), (4, .int x.2)]) hx hb dX6_finds_270 hl (by decide) rfl (fun ls hl => ?_)
      obtain ⟨e2, hc3, hf⟩ := sg_b_s hf
      refine hL272 _ _ _ _ _ e2 hc3 _ _ _ hP hD hS (lv_sub hl [2, 3, 4, 1, 0] rfl) (fun H locs ls hP hD hS hl => ?_)
      refine lv_aload_n hx hb dX6_finds_299 rfl (lv_at hl 0 rfl) ?_
      refine va_get (D := D) (ci := 8) (C := RX6) (T := TX6) (N := 27) hx hb hts hinX6 hown hK.1 hP 0 rfl rfl 19 (by decide) (hts (.fieldLink RX6 56 "SwitchgearModel" "path" "[I") (by decide +kernel)) (fun _ h9 => h9) rfl dX6_finds_300 ?_
      refine lv_iconst (v := 0) hx hb dX6_finds_303 (by decide) ?_
      refine lv_iload hx hb dX6_finds_304 (lv_at hl 3 rfl) ?_
      obtain ⟨hg4, hf⟩ := sg_g_s hf
      refine va_iast hx hb hK.1 hP hD hS 16 0 rfl rfl (sg_inb_s hg4) dX6_finds_306 (fun H locs hP hD hS => ?_)
      replace hP : va_P D vwCl (sg_WM cA ad (sg_set e2 23 (0 : Int32).toNatClampNeg (x.1 24 (x.2).toNatClampNeg))) H := by rw [← sg_WM_23]; exact hP
      replace hD : va_D A (sg_WM cA ad (sg_set e2 23 (0 : Int32).toNatClampNeg (x.1 24 (x.2).toNatClampNeg))) := by rw [← sg_WM_23]; exact hD
      refine lv_aload_n hx hb dX6_finds_307 rfl (lv_at hl 0 rfl) ?_
      refine lv_dup hx hb dX6_finds_308 rfl ?_
      refine va_get (D := D) (ci := 8) (C := RX6) (T := TX6) (N := 27) hx hb hts hinX6 hown hK.1 hP 0 rfl rfl 21 (by decide) (hts (.fieldLink RX6 127 "SwitchgearModel" "far" "I") (by decide +kernel)) (fun _ h9 => h9) rfl dX6_finds_309 ?_
      refine lv_iconst (v := 1) hx hb dX6_finds_312 (by decide) ?_
      refine lv_iadd hx hb dX6_finds_313 ?_
      refine va_put (D := D) (ci := 8) (v := .int (((sg_set e2 23 (0 : Int32).toNatClampNeg (x.1 24 (x.2).toNatClampNeg)) 4 0) + 1)) (ty := .int) (C := RX6) (T := TX6) (N := 27) hx hb hts hinX6 tyX6 tyX6_ok nmX6 hown hK.1 hP hD hS 0 rfl rfl 21 (by decide) (hts (.fieldLink RX6 127 "SwitchgearModel" "far" "I") (by decide +kernel)) (fun _ h9 => h9) rfl (by decide +kernel) rfl rfl (Nat.le_of_ble_eq_true rfl) dX6_finds_314 (fun H locs hP hD hS => ?_)
      replace hP : va_P D vwCl (sg_WM cA ad (sg_set (sg_set e2 23 (0 : Int32).toNatClampNeg (x.1 24 (x.2).toNatClampNeg)) 4 0 (((sg_set e2 23 (0 : Int32).toNatClampNeg (x.1 24 (x.2).toNatClampNeg)) 4 0) + 1))) H := by rw [← sg_WM_4]; exact hP
      replace hD : va_D A (sg_WM cA ad (sg_set (sg_set e2 23 (0 : Int32).toNatClampNeg (x.1 24 (x.2).toNatClampNeg)) 4 0 (((sg_set e2 23 (0 : Int32).toNatClampNeg (x.1 24 (x.2).toNatClampNeg)) 4 0) + 1))) := by rw [← sg_WM_4]; exact hD
      refine lv_aload_n hx hb dX6_finds_317 rfl (lv_at hl 0 rfl) ?_
      refine va_get (D := D) (ci := 8) (C := RX6) (T := TX6) (N := 27) hx hb hts hinX6 hown hK.1 hP 0 rfl rfl 8 (by decide) (hts (.fieldLink RX6 23 "SwitchgearModel" "one" "[I") (by decide +kernel)) (fun _ h9 => h9) rfl dX6_finds_318 ?_
      refine lv_iload hx hb dX6_finds_321 (lv_at hl 3 rfl) ?_
      obtain ⟨hg5, hf⟩ := sg_g_s hf
      refine va_iald hx hb hK.1 hP 5 0 rfl rfl (sg_inb_s hg5) dX6_finds_323 ?_
      refine lv_iload hx hb dX6_finds_324 (lv_at hl 2 rfl) ?_
      refine lv_icmp_ne (tgt := 339) hx hb dX6_finds_326 (by decide) (fun c10 => ?_) (fun c10 => ?_)
      · have hf := sg_in c10 hf
        refine lv_aload_n hx hb dX6_finds_339 rfl (lv_at hl 0 rfl) ?_
        refine va_get (D := D) (ci := 8) (C := RX6) (T := TX6) (N := 27) hx hb hts hinX6 hown hK.1 hP 0 rfl rfl 8 (by decide) (hts (.fieldLink RX6 23 "SwitchgearModel" "one" "[I") (by decide +kernel)) (fun _ h9 => h9) rfl dX6_finds_340 ?_
        refine lv_iload hx hb dX6_finds_343 (lv_at hl 3 rfl) ?_
        obtain ⟨hg6, hf⟩ := sg_g_s hf
        refine va_iald hx hb hK.1 hP 5 0 rfl rfl (sg_inb_s hg6) dX6_finds_345 ?_
        refine lv_topi (fun x7 ex7 => ?_)
        have hf := sg_l_s ex7 hf
        refine lv_istore (lv' := [(4, .int x7), (0, .ref (ad 0)), (2, .int v2), (5, .int (x.1 24 (x.2).toNatClampNeg))]) hx hb dX6_finds_346 hl (by decide) rfl (fun ls hl => ?_)
        refine lv_goto (tgt := 251) hx hb dX6_finds_348 (by decide) ?_
        exact hI _ (Option.some.inj hf).symm _ _ _ hP hD hS (lv_sub hl [1, 2, 0] rfl) hk
      · have hf := sg_ip c10 hf
        refine lv_aload_n hx hb dX6_finds_329 rfl (lv_at hl 0 rfl) ?_
        refine va_get (D := D) (ci := 8) (C := RX6) (T := TX6) (N := 27) hx hb hts hinX6 hown hK.1 hP 0 rfl rfl 9 (by decide) (hts (.fieldLink RX6 26 "SwitchgearModel" "other" "[I") (by decide +kernel)) (fun _ h9 => h9) rfl dX6_finds_330 ?_
        refine lv_iload hx hb dX6_finds_333 (lv_at hl 3 rfl) ?_
        obtain ⟨hg8, hf⟩ := sg_g_s hf
        refine va_iald hx hb hK.1 hP 6 0 rfl rfl (sg_inb_s hg8) dX6_finds_335 ?_
        refine lv_goto (tgt := 346) hx hb dX6_finds_336 (by decide) ?_
        refine lv_topi (fun x9 ex9 => ?_)
        have hf := sg_l_s ex9 hf
        refine lv_istore (lv' := [(4, .int x9), (0, .ref (ad 0)), (2, .int v2), (5, .int (x.1 24 (x.2).toNatClampNeg))]) hx hb dX6_finds_346 hl (by decide) rfl (fun ls hl => ?_)
        refine lv_goto (tgt := 251) hx hb dX6_finds_348 (by decide) ?_
        exact hI _ (Option.some.inj hf).symm _ _ _ hP hD hS (lv_sub hl [1, 2, 0] rfl) hk
  have hL79 : ∀ (v1 v2 : Int32) (n : Nat) (x : sg_St × Int32 × Int32) (r9 : sg_St × Int32), sg_it (fun x => fX6_finds_L79 N x.1 v1 v2 x.2.1 x.2.2) n x = some r9 → ∀ (H : Heap) (locs : List Loc) (ls : Array Slot), va_P D vwCl (sg_WM cA ad x.1) H → va_D A (sg_WM cA ad x.1) → va_S A s.heap H locs → lv_has ls 7 [(0, .ref (ad 0)), (1, .int v1), (2, .int v2), (3, .int x.2.1), (4, .int x.2.2)] → (∀ (H : Heap) (locs : List Loc) (ls : Array Slot), va_P D vwCl (sg_WM cA ad r9.1) H → va_D A (sg_WM cA ad r9.1) → va_S A s.heap H locs → lv_has ls 7 [(0, .ref (ad 0)), (1, .int v1), (2, .int v2), (3, .int r9.2)] → W p l e (headSpec wsX6_finds ({ frames := 1, cells := 0, slots := 0, locals := 25 })).room s m ([.ref (ad 0), .int p1] : List Value).toArray below meth c H locs 0 0 (MQ below (va_Qi (fun x y => x = r ∧ y = u') (sg_BX D (sg_WM cA ad) A) A) ([.ref (ad 0), .int p1] : List Value).toArray s 0 0 A) (F0 m 216 ls [])) → W p l e (headSpec wsX6_finds ({ frames := 1, cells := 0, slots := 0, locals := 25 })).room s m ([.ref (ad 0), .int p1] : List Value).toArray below meth c H locs 0 0 (MQ below (va_Qi (fun x y => x = r ∧ y = u') (sg_BX D (sg_WM cA ad) A) A) ([.ref (ad 0), .int p1] : List Value).toArray s 0 0 A) (F0 m 79 ls []) := by
    intro v1 v2
    refine sg_loop _ ?_
    intro x y r9 hf hI hy H locs ls hP hD hS hl hk
    replace hf : fX6_finds_L79 N x.1 v1 v2 x.2.1 x.2.2 = some y := hf
    have hJ205 : ∀ (u : sg_St) (v4 k0 : Int32) (H : Heap) (locs : List Loc) (ls : Array Slot), fX6_finds_j205 N u v1 v2 v4 k0 = some y → va_P D vwCl (sg_WM cA ad u) H → va_D A (sg_WM cA ad u) → va_S A s.heap H locs → lv_has ls 7 [(0, .ref (ad 0)), (1, .int v1), (2, .int v2), (4, .int v4)] → W p l e (headSpec wsX6_finds ({ frames := 1, cells := 0, slots := 0, locals := 25 })).room s m ([.ref (ad 0), .int p1] : List Value).toArray below meth c H locs 0 0 (MQ below (va_Qi (fun x y => x = r ∧ y = u') (sg_BX D (sg_WM cA ad) A) A) ([.ref (ad 0), .int p1] : List Value).toArray s 0 0 A) (F0 m 205 ls [.int k0, .ref (ad 17)]) := by
      intro u v4 k0 H locs ls hf hP hD hS hl
      unfold fX6_finds_j205 at hf
      refine lv_iload hx hb dX6_finds_205 (lv_at hl 3 rfl) ?_
      obtain ⟨hg1, hf⟩ := sg_g_s hf
      refine va_iast hx hb hK.1 hP hD hS 17 0 rfl rfl (sg_inb_s hg1) dX6_finds_207 (fun H locs hP hD hS => ?_)
      replace hP : va_P D vwCl (sg_WM cA ad (sg_set u 24 (k0).toNatClampNeg v4)) H := by rw [← sg_WM_24]; exact hP
      replace hD : va_D A (sg_WM cA ad (sg_set u 24 (k0).toNatClampNeg v4)) := by rw [← sg_WM_24]; exact hD
      refine lv_iconst (v := 1) hx hb dX6_finds_208 (by decide) ?_
      refine lv_istore_n (lv' := [(3, .int 1), (0, .ref (ad 0)), (1, .int v1), (2, .int v2), (4, .int v4)]) hx hb dX6_finds_209 rfl hl (by decide) rfl (fun ls hl => ?_)
      refine lv_iinc (v := v4 + 1) (lv' := [(4, .int (v4 + 1)), (3, .int 1), (0, .ref (ad 0)), (1, .int v1), (2, .int v2)]) hx hb dX6_finds_210 hl (k := 4) rfl rfl (by decide) rfl (fun ls hl => ?_)
      refine lv_goto (tgt := 79) hx hb dX6_finds_213 (by decide) ?_
      exact hI _ (Option.some.inj hf).symm _ _ _ hP hD hS (lv_sub hl [2, 3, 4, 1, 0] rfl) hk
    have hJ167 : ∀ (u : sg_St) (v3 v4 v5 k0 : Int32) (H : Heap) (locs : List Loc) (ls : Array Slot), fX6_finds_j167 N u v1 v2 v3 v4 v5 k0 = some y → va_P D vwCl (sg_WM cA ad u) H → va_D A (sg_WM cA ad u) → va_S A s.heap H locs → lv_has ls 7 [(0, .ref (ad 0)), (1, .int v1), (2, .int v2), (3, .int v3), (4, .int v4), (5, .int v5)] → W p l e (headSpec wsX6_finds ({ frames := 1, cells := 0, slots := 0, locals := 25 })).room s m ([.ref (ad 0), .int p1] : List Value).toArray below meth c H locs 0 0 (MQ below (va_Qi (fun x y => x = r ∧ y = u') (sg_BX D (sg_WM cA ad) A) A) ([.ref (ad 0), .int p1] : List Value).toArray s 0 0 A) (F0 m 167 ls [.int k0]) := by
      intro u v3 v4 v5 k0 H locs ls hf hP hD hS hl
      unfold fX6_finds_j167 at hf
      refine lv_istore (lv' := [(6, .int k0), (0, .ref (ad 0)), (1, .int v1), (2, .int v2), (3, .int v3), (4, .int v4), (5, .int v5)]) hx hb dX6_finds_167 hl (by decide) rfl (fun ls hl => ?_)
      refine lv_iload hx hb dX6_finds_169 (lv_at hl 6 rfl) ?_
      refine lv_iload hx hb dX6_finds_171 (lv_at hl 0 rfl) ?_
      refine lv_icmp_ne (tgt := 179) hx hb dX6_finds_173 (by decide) (fun c4 => ?_) (fun c4 => ?_)
      · have hf := sg_in c4 hf
        refine lv_aload_n hx hb dX6_finds_179 rfl (lv_at hl 1 rfl) ?_
        refine va_get (D := D) (ci := 8) (C := RX6) (T := TX6) (N := 27) hx hb hts hinX6 hown hK.1 hP 0 rfl rfl 20 (by decide) (hts (.fieldLink RX6 59 "SwitchgearModel" "above" "[I") (by decide +kernel)) (fun _ h9 => h9) rfl dX6_finds_180 ?_
        refine lv_iload hx hb dX6_finds_183 (lv_at hl 6 rfl) ?_
        refine lv_if_eq (tgt := 198) hx hb dX6_finds_185 (by decide) (fun c3 => ?_) (fun c3 => ?_)
        · have hf := sg_ip c3 hf
          refine lv_aload_n hx hb dX6_finds_198 rfl (lv_at hl 1 rfl) ?_
          refine va_get (D := D) (ci := 8) (C := RX6) (T := TX6) (N := 27) hx hb hts hinX6 hown hK.1 hP 0 rfl rfl 8 (by decide) (hts (.fieldLink RX6 23 "SwitchgearModel" "one" "[I") (by decide +kernel)) (fun _ h9 => h9) rfl dX6_finds_199 ?_
          refine lv_iload hx hb dX6_finds_202 (lv_at hl 5 rfl) ?_
          obtain ⟨hg1, hf⟩ := sg_g_s hf
          refine va_iald hx hb hK.1 hP 5 0 rfl rfl (sg_inb_s hg1) dX6_finds_204 ?_
          exact hJ205 _ _ _ _ _ _ hf hP hD hS (lv_sub hl [1, 2, 3, 5] rfl)
        · have hf := sg_in c3 hf
          refine lv_aload_n hx hb dX6_finds_188 rfl (lv_at hl 1 rfl) ?_
          refine va_get (D := D) (ci := 8) (C := RX6) (T := TX6) (N := 27) hx hb hts hinX6 hown hK.1 hP 0 rfl rfl 9 (by decide) (hts (.fieldLink RX6 26 "SwitchgearModel" "other" "[I") (by decide +kernel)) (fun _ h9 => h9) rfl dX6_finds_189 ?_
          refine lv_iload hx hb dX6_finds_192 (lv_at hl 5 rfl) ?_
          obtain ⟨hg2, hf⟩ := sg_g_s hf
          refine va_iald hx hb hK.1 hP 6 0 rfl rfl (sg_inb_s hg2) dX6_finds_194 ?_
          refine lv_goto (tgt := 205) hx hb dX6_finds_195 (by decide) ?_
          exact hJ205 _ _ _ _ _ _ hf hP hD hS (lv_sub hl [1, 2, 3, 5] rfl)
      · have hf := sg_ip c4 hf
        refine lv_goto (tgt := 210) hx hb dX6_finds_176 (by decide) ?_
        refine lv_iinc (v := v4 + 1) (lv' := [(4, .int (v4 + 1)), (6, .int k0), (0, .ref (ad 0)), (1, .int v1), (2, .int v2), (3, .int v3), (5, .int v5)]) hx hb dX6_finds_210 hl (k := 5) rfl rfl (by decide) rfl (fun ls hl => ?_)
        refine lv_goto (tgt := 79) hx hb dX6_finds_213 (by decide) ?_
        exact hI _ (Option.some.inj hf).symm _ _ _ hP hD hS (lv_sub hl [2, 3, 4, 5, 0] rfl) hk
    have hJ133 : ∀ (u : sg_St) (v3 v4 k0 : Int32) (H : Heap) (locs : List Loc) (ls : Array Slot), fX6_finds_j133 N u v1 v2 v3 v4 k0 = some y → va_P D vwCl (sg_WM cA ad u) H → va_D A (sg_WM cA ad u) → va_S A s.heap H locs → lv_has ls 7 [(0, .ref (ad 0)), (1, .int v1), (2, .int v2), (3, .int v3), (4, .int v4)] → W p l e (headSpec wsX6_finds ({ frames := 1, cells := 0, slots := 0, locals := 25 })).room s m ([.ref (ad 0), .int p1] : List Value).toArray below meth c H locs 0 0 (MQ below (va_Qi (fun x y => x = r ∧ y = u') (sg_BX D (sg_WM cA ad) A) A) ([.ref (ad 0), .int p1] : List Value).toArray s 0 0 A) (F0 m 133 ls [.int k0]) := by
      intro u v3 v4 k0 H locs ls hf hP hD hS hl
      unfold fX6_finds_j133 at hf
      refine lv_istore (lv' := [(5, .int k0), (0, .ref (ad 0)), (1, .int v1), (2, .int v2), (3, .int v3), (4, .int v4)]) hx hb dX6_finds_133 hl (by decide) rfl (fun ls hl => ?_)
      refine lv_aload_n hx hb dX6_finds_135 rfl (lv_at hl 1 rfl) ?_
      refine va_get (D := D) (ci := 8) (C := RX6) (T := TX6) (N := 27) hx hb hts hinX6 hown hK.1 hP 0 rfl rfl 9 (by decide) (hts (.fieldLink RX6 26 "SwitchgearModel" "other" "[I") (by decide +kernel)) (fun _ h9 => h9) rfl dX6_finds_136 ?_
      refine lv_iload hx hb dX6_finds_139 (lv_at hl 5 rfl) ?_
      obtain ⟨hg1, hf⟩ := sg_g_s hf
      refine va_iald hx hb hK.1 hP 6 0 rfl rfl (sg_inb_s hg1) dX6_finds_141 ?_
      refine lv_iload_n hx hb dX6_finds_142 rfl (lv_at hl 3 rfl) ?_
      refine lv_icmp_eq (tgt := 162) hx hb dX6_finds_143 (by decide) (fun c5 => ?_) (fun c5 => ?_)
      · have hf := sg_ip c5 hf
        refine lv_iconst (v := 1) hx hb dX6_finds_162 (by decide) ?_
        refine lv_goto (tgt := 167) hx hb dX6_finds_163 (by decide) ?_
        exact hJ167 _ _ _ _ _ _ _ _ hf hP hD hS (lv_sub hl [1, 2, 3, 4, 5, 0] rfl)
      · have hf := sg_in c5 hf
        refine lv_aload_n hx hb dX6_finds_146 rfl (lv_at hl 1 rfl) ?_
        refine va_get (D := D) (ci := 8) (C := RX6) (T := TX6) (N := 27) hx hb hts hinX6 hown hK.1 hP 0 rfl rfl 20 (by decide) (hts (.fieldLink RX6 59 "SwitchgearModel" "above" "[I") (by decide +kernel)) (fun _ h9 => h9) rfl dX6_finds_147 ?_
        refine lv_aload_n hx hb dX6_finds_150 rfl (lv_at hl 1 rfl) ?_
        refine va_get (D := D) (ci := 8) (C := RX6) (T := TX6) (N := 27) hx hb hts hinX6 hown hK.1 hP 0 rfl rfl 9 (by decide) (hts (.fieldLink RX6 26 "SwitchgearModel" "other" "[I") (by decide +kernel)) (fun _ h9 => h9) rfl dX6_finds_151 ?_
        refine lv_iload hx hb dX6_finds_154 (lv_at hl 5 rfl) ?_
        obtain ⟨hg2, hf⟩ := sg_g_s hf
        refine va_iald hx hb hK.1 hP 6 0 rfl rfl (sg_inb_s hg2) dX6_finds_156 ?_
        obtain ⟨hg3, hf⟩ := sg_g_s hf
        refine va_iald hx hb hK.1 hP 17 0 rfl rfl (sg_inb_s hg3) dX6_finds_157 ?_
        refine lv_iconst (v := (-1)) hx hb dX6_finds_158 (by decide) ?_
        refine lv_icmp_eq (tgt := 166) hx hb dX6_finds_159 (by decide) (fun c4 => ?_) (fun c4 => ?_)
        · have hf := sg_ip c4 hf
          refine lv_iconst (v := 0) hx hb dX6_finds_166 (by decide) ?_
          exact hJ167 _ _ _ _ _ _ _ _ hf hP hD hS (lv_sub hl [1, 2, 3, 4, 5, 0] rfl)
        · have hf := sg_in c4 hf
          refine lv_iconst (v := 1) hx hb dX6_finds_162 (by decide) ?_
          refine lv_goto (tgt := 167) hx hb dX6_finds_163 (by decide) ?_
          exact hJ167 _ _ _ _ _ _ _ _ hf hP hD hS (lv_sub hl [1, 2, 3, 4, 5, 0] rfl)
    unfold fX6_finds_L79 at hf
    refine lv_iload hx hb dX6_finds_79 (lv_at hl 4 rfl) ?_
    refine lv_aload_n hx hb dX6_finds_81 rfl (lv_at hl 0 rfl) ?_
    refine va_get (D := D) (ci := 8) (C := RX6) (T := TX6) (N := 27) hx hb hts hinX6 hown hK.1 hP 0 rfl rfl 2 (by decide) (hts (.fieldLink RX6 79 "SwitchgearModel" "lines" "I") (by decide +kernel)) (fun _ h9 => h9) rfl dX6_finds_82 ?_
    refine lv_icmp_ge (tgt := 216) hx hb dX6_finds_85 (by decide) (fun c8 => ?_) (fun c8 => ?_)
    · have hf := sg_ip c8 hf
      have hq := hy _ (Option.some.inj hf).symm
      subst hq
      exact hk _ _ _ hP hD hS (lv_sub hl [0, 1, 2, 3] rfl)
    · have hf := sg_in c8 hf
      refine lv_aload_n hx hb dX6_finds_88 rfl (lv_at hl 0 rfl) ?_
      refine va_get (D := D) (ci := 8) (C := RX6) (T := TX6) (N := 27) hx hb hts hinX6 hown hK.1 hP 0 rfl rfl 15 (by decide) (hts (.fieldLink RX6 44 "SwitchgearModel" "isClosed" "[Z") (by decide +kernel)) (fun _ h9 => h9) rfl dX6_finds_89 ?_
      refine lv_iload hx hb dX6_finds_92 (lv_at hl 4 rfl) ?_
      obtain ⟨hg1, hf⟩ := sg_g_s hf
      refine va_zald hx hb hK.1 hP 12 1 rfl rfl (sg_inb_s hg1) dX6_finds_94 ?_
      refine lv_if_ne (tgt := 101) hx hb dX6_finds_95 (by decide) (fun c7 => ?_) (fun c7 => ?_)
      · have hf := sg_in c7 hf
        refine lv_aload_n hx hb dX6_finds_101 rfl (lv_at hl 0 rfl) ?_
        refine va_get (D := D) (ci := 8) (C := RX6) (T := TX6) (N := 27) hx hb hts hinX6 hown hK.1 hP 0 rfl rfl 8 (by decide) (hts (.fieldLink RX6 23 "SwitchgearModel" "one" "[I") (by decide +kernel)) (fun _ h9 => h9) rfl dX6_finds_102 ?_
        refine lv_iload hx hb dX6_finds_105 (lv_at hl 4 rfl) ?_
        obtain ⟨hg2, hf⟩ := sg_g_s hf
        refine va_iald hx hb hK.1 hP 5 0 rfl rfl (sg_inb_s hg2) dX6_finds_107 ?_
        refine lv_iload_n hx hb dX6_finds_108 rfl (lv_at hl 2 rfl) ?_
        refine lv_icmp_eq (tgt := 128) hx hb dX6_finds_109 (by decide) (fun c6 => ?_) (fun c6 => ?_)
        · have hf := sg_ip c6 hf
          refine lv_iconst (v := 1) hx hb dX6_finds_128 (by decide) ?_
          refine lv_goto (tgt := 133) hx hb dX6_finds_129 (by decide) ?_
          exact hJ133 _ _ _ _ _ _ _ hf hP hD hS (lv_sub hl [0, 1, 2, 3, 4] rfl)
        · have hf := sg_in c6 hf
          refine lv_aload_n hx hb dX6_finds_112 rfl (lv_at hl 0 rfl) ?_
          refine va_get (D := D) (ci := 8) (C := RX6) (T := TX6) (N := 27) hx hb hts hinX6 hown hK.1 hP 0 rfl rfl 20 (by decide) (hts (.fieldLink RX6 59 "SwitchgearModel" "above" "[I") (by decide +kernel)) (fun _ h9 => h9) rfl dX6_finds_113 ?_
          refine lv_aload_n hx hb dX6_finds_116 rfl (lv_at hl 0 rfl) ?_
          refine va_get (D := D) (ci := 8) (C := RX6) (T := TX6) (N := 27) hx hb hts hinX6 hown hK.1 hP 0 rfl rfl 8 (by decide) (hts (.fieldLink RX6 23 "SwitchgearModel" "one" "[I") (by decide +kernel)) (fun _ h9 => h9) rfl dX6_finds_117 ?_
          refine lv_iload hx hb dX6_finds_120 (lv_at hl 4 rfl) ?_
          obtain ⟨hg3, hf⟩ := sg_g_s hf
          refine va_iald hx hb hK.1 hP 5 0 rfl rfl (sg_inb_s hg3) dX6_finds_122 ?_
          obtain ⟨hg4, hf⟩ := sg_g_s hf
          refine va_iald hx hb hK.1 hP 17 0 rfl rfl (sg_inb_s hg4) dX6_finds_123 ?_
          refine lv_iconst (v := (-1)) hx hb dX6_finds_124 (by decide) ?_
          refine lv_icmp_eq (tgt := 132) hx hb dX6_finds_125 (by decide) (fun c5 => ?_) (fun c5 => ?_)
          · have hf := sg_ip c5 hf
            refine lv_iconst (v := 0) hx hb dX6_finds_132 (by decide) ?_
            exact hJ133 _ _ _ _ _ _ _ hf hP hD hS (lv_sub hl [0, 1, 2, 3, 4] rfl)
          · have hf := sg_in c5 hf
            refine lv_iconst (v := 1) hx hb dX6_finds_128 (by decide) ?_
            refine lv_goto (tgt := 133) hx hb dX6_finds_129 (by decide) ?_
            exact hJ133 _ _ _ _ _ _ _ hf hP hD hS (lv_sub hl [0, 1, 2, 3, 4] rfl)
      · have hf := sg_ip c7 hf
        refine lv_goto (tgt := 210) hx hb dX6_finds_98 (by decide) ?_
        refine lv_iinc (v := x.2.2 + 1) (lv' := [(4, .int (x.2.2 + 1)), (0, .ref (ad 0)), (1, .int v1), (2, .int v2), (3, .int x.2.1)]) hx hb dX6_finds_210 hl (k := 4) rfl rfl (by decide) rfl (fun ls hl => ?_)
        refine lv_goto (tgt := 79) hx hb dX6_finds_213 (by decide) ?_
        exact hI _ (Option.some.inj hf).symm _ _ _ hP hD hS (lv_sub hl [1, 2, 3, 4, 0] rfl) hk
  have hL70 : ∀ (v1 v2 : Int32) (n : Nat) (x : sg_St × Int32) (r9 : sg_St), sg_it (fun x => fX6_finds_L70 N x.1 v1 v2 x.2) n x = some r9 → ∀ (H : Heap) (locs : List Loc) (ls : Array Slot), va_P D vwCl (sg_WM cA ad x.1) H → va_D A (sg_WM cA ad x.1) → va_S A s.heap H locs → lv_has ls 7 [(0, .ref (ad 0)), (1, .int v1), (2, .int v2), (3, .int x.2)] → (∀ (H : Heap) (locs : List Loc) (ls : Array Slot), va_P D vwCl (sg_WM cA ad r9) H → va_D A (sg_WM cA ad r9) → va_S A s.heap H locs → lv_has ls 7 [(0, .ref (ad 0)), (1, .int v1), (2, .int v2)] → W p l e (headSpec wsX6_finds ({ frames := 1, cells := 0, slots := 0, locals := 25 })).room s m ([.ref (ad 0), .int p1] : List Value).toArray below meth c H locs 0 0 (MQ below (va_Qi (fun x y => x = r ∧ y = u') (sg_BX D (sg_WM cA ad) A) A) ([.ref (ad 0), .int p1] : List Value).toArray s 0 0 A) (F0 m 219 ls [])) → W p l e (headSpec wsX6_finds ({ frames := 1, cells := 0, slots := 0, locals := 25 })).room s m ([.ref (ad 0), .int p1] : List Value).toArray below meth c H locs 0 0 (MQ below (va_Qi (fun x y => x = r ∧ y = u') (sg_BX D (sg_WM cA ad) A) A) ([.ref (ad 0), .int p1] : List Value).toArray s 0 0 A) (F0 m 70 ls []) := by
    intro v1 v2
    refine sg_loop _ ?_
    intro x y r9 hf hI hy H locs ls hP hD hS hl hk
    replace hf : fX6_finds_L70 N x.1 v1 v2 x.2 = some y := hf
    unfold fX6_finds_L70 at hf
    refine lv_iload_n hx hb dX6_finds_70 rfl (lv_at hl 3 rfl) ?_
    refine lv_if_eq (tgt := 219) hx hb dX6_finds_71 (by decide) (fun c3 => ?_) (fun c3 => ?_)
    · have hf := sg_ip c3 hf
      have hq := hy _ (Option.some.inj hf).symm
      subst hq
      exact hk _ _ _ hP hD hS (lv_sub hl [0, 1, 2] rfl)
    · have hf := sg_in c3 hf
      refine lv_iconst (v := 0) hx hb dX6_finds_74 (by decide) ?_
      refine lv_istore_n (lv' := [(3, .int 0), (0, .ref (ad 0)), (1, .int v1), (2, .int v2)]) hx hb dX6_finds_75 rfl hl (by decide) rfl (fun ls hl => ?_)
      refine lv_iconst (v := 0) hx hb dX6_finds_76 (by decide) ?_
      refine lv_istore (lv' := [(4, .int 0), (3, .int 0), (0, .ref (ad 0)), (1, .int v1), (2, .int v2)]) hx hb dX6_finds_77 hl (by decide) rfl (fun ls hl => ?_)
      obtain ⟨e1, hc2, hf⟩ := sg_b_s hf
      refine hL79 _ _ _ _ e1 hc2 _ _ _ hP hD hS (lv_sub hl [2, 3, 4, 1, 0] rfl) (fun H locs ls hP hD hS hl => ?_)
      refine lv_goto (tgt := 70) hx hb dX6_finds_216 (by decide) ?_
      exact hI _ (Option.some.inj hf).symm _ _ _ hP hD hS (lv_sub hl [0, 1, 2, 3] rfl) hk
  have hJ249 : ∀ (u : sg_St) (v2 k0 : Int32) (H : Heap) (locs : List Loc) (ls : Array Slot), fX6_finds_j249 N u v2 k0 = some (r, u') → va_P D vwCl (sg_WM cA ad u) H → va_D A (sg_WM cA ad u) → va_S A s.heap H locs → lv_has ls 7 [(0, .ref (ad 0)), (2, .int v2)] → W p l e (headSpec wsX6_finds ({ frames := 1, cells := 0, slots := 0, locals := 25 })).room s m ([.ref (ad 0), .int p1] : List Value).toArray below meth c H locs 0 0 (MQ below (va_Qi (fun x y => x = r ∧ y = u') (sg_BX D (sg_WM cA ad) A) A) ([.ref (ad 0), .int p1] : List Value).toArray s 0 0 A) (F0 m 249 ls [.int k0]) := by
    intro u v2 k0 H locs ls hf hP hD hS hl
    unfold fX6_finds_j249 at hf
    refine lv_istore (lv' := [(4, .int k0), (0, .ref (ad 0)), (2, .int v2)]) hx hb dX6_finds_249 hl (by decide) rfl (fun ls hl => ?_)
    obtain ⟨e1, hc2, hf⟩ := sg_b_s hf
    refine hL251 _ _ _ e1 hc2 _ _ _ hP hD hS (lv_sub hl [1, 2, 0] rfl) (fun H locs ls hP hD hS hl => ?_)
    refine lv_iconst (v := 1) hx hb dX6_finds_351 (by decide) ?_
    have hq := Option.some.inj hf
    exact sg_zret hx hb hr rfl hP hD hS dX6_finds_352 (congrArg Prod.fst hq) (congrArg Prod.snd hq) hlocks
  unfold fX6_finds at hf
  refine lv_aload_n hx hb dX6_finds_0 rfl (lv_at hl 0 rfl) ?_
  refine lv_iconst (v := 0) hx hb dX6_finds_1 (by decide) ?_
  refine va_put (D := D) (ci := 8) (v := .int 0) (ty := .int) (C := RX6) (T := TX6) (N := 27) hx hb hts hinX6 tyX6 tyX6_ok nmX6 hown hK.1 hP hD hS 0 rfl rfl 21 (by decide) (hts (.fieldLink RX6 127 "SwitchgearModel" "far" "I") (by decide +kernel)) (fun _ h9 => h9) rfl (by decide +kernel) rfl rfl (Nat.le_of_ble_eq_true rfl) dX6_finds_2 (fun H locs hP hD hS => ?_)
  replace hP : va_P D vwCl (sg_WM cA ad (sg_set u 4 0 0)) H := by rw [← sg_WM_4]; exact hP
  replace hD : va_D A (sg_WM cA ad (sg_set u 4 0 0)) := by rw [← sg_WM_4]; exact hD
  refine lv_aload_n hx hb dX6_finds_5 rfl (lv_at hl 0 rfl) ?_
  refine va_get (D := D) (ci := 8) (C := RX6) (T := TX6) (N := 27) hx hb hts hinX6 hown hK.1 hP 0 rfl rfl 15 (by decide) (hts (.fieldLink RX6 44 "SwitchgearModel" "isClosed" "[Z") (by decide +kernel)) (fun _ h9 => h9) rfl dX6_finds_6 ?_
  refine lv_iload_n hx hb dX6_finds_9 rfl (lv_at hl 1 rfl) ?_
  obtain ⟨hg1, hf⟩ := sg_g_s hf
  refine va_zald hx hb hK.1 hP 12 1 rfl rfl (sg_inb_s hg1) dX6_finds_10 ?_
  refine lv_if_ne (tgt := 16) hx hb dX6_finds_11 (by decide) (fun c20 => ?_) (fun c20 => ?_)
  · have hf := sg_in c20 hf
    refine lv_aload_n hx hb dX6_finds_16 rfl (lv_at hl 0 rfl) ?_
    refine lv_iconst (v := (-1)) hx hb dX6_finds_17 (by decide) ?_
    refine lv_iconst (v := (-1)) hx hb dX6_finds_18 (by decide) ?_
    obtain ⟨u4, hc2, hf⟩ := sg_b_s hf
    refine sg_cv (va_runV (As := [.int ((-1)), .int ((-1))]) (rest := []) ⟨hx, hb, hml, hown, hts⟩ (c_X6_paints l D cA ad N _ _ _ _ hc2 _) (cwV 2 hts gX6_finds_X6_paints rfl rfl rfl (by decide +kernel) ⟨Nat.le_of_ble_eq_true rfl, Nat.le_of_ble_eq_true rfl⟩) (sg_pre hK hP hD (ci := 8) (q0 := 0) rfl rfl) rfl rfl hl.1 rfl (lv_room (Nat.le_of_ble_eq_true rfl)) dX6_finds_19 ⟨Nat.zero_le _, Nat.zero_le _⟩) hD hS hA (fun H locs hP hD hS => ?_)
    refine lv_aload_n hx hb dX6_finds_22 rfl (lv_at hl 0 rfl) ?_
    refine lv_aload_n hx hb dX6_finds_23 rfl (lv_at hl 0 rfl) ?_
    refine va_get (D := D) (ci := 8) (C := RX6) (T := TX6) (N := 27) hx hb hts hinX6 hown hK.1 hP 0 rfl rfl 18 (by decide) (hts (.fieldLink RX6 53 "SwitchgearModel" "island" "[I") (by decide +kernel)) (fun _ h9 => h9) rfl dX6_finds_24 ?_
    refine lv_aload_n hx hb dX6_finds_27 rfl (lv_at hl 0 rfl) ?_
    refine va_get (D := D) (ci := 8) (C := RX6) (T := TX6) (N := 27) hx hb hts hinX6 hown hK.1 hP 0 rfl rfl 8 (by decide) (hts (.fieldLink RX6 23 "SwitchgearModel" "one" "[I") (by decide +kernel)) (fun _ h9 => h9) rfl dX6_finds_28 ?_
    refine lv_iload_n hx hb dX6_finds_31 rfl (lv_at hl 1 rfl) ?_
    obtain ⟨hg5, hf⟩ := sg_g_s hf
    refine va_iald hx hb hK.1 hP 5 0 rfl rfl (sg_inb_s hg5) dX6_finds_32 ?_
    obtain ⟨hg6, hf⟩ := sg_g_s hf
    refine va_iald hx hb hK.1 hP 15 0 rfl rfl (sg_inb_s hg6) dX6_finds_33 ?_
    obtain ⟨r8, hc7, hf⟩ := sg_b_s hf
    refine sg_ci (va_runV (As := [.int (u4 22 (u4 12 (p1).toNatClampNeg).toNatClampNeg)]) (rest := []) ⟨hx, hb, hml, hown, hts⟩ (c_X6_source l D cA ad N _ _ _ hc7 _) (cwV 1 hts gX6_finds_X6_source rfl rfl rfl (by decide +kernel) ⟨Nat.le_of_ble_eq_true rfl, Nat.le_of_ble_eq_true rfl⟩) (sg_pre hK hP hD (ci := 8) (q0 := 0) rfl rfl) rfl rfl hl.1 rfl (lv_room (Nat.le_of_ble_eq_true rfl)) dX6_finds_34 ⟨Nat.zero_le _, Nat.zero_le _⟩) hD hS hA (fun H locs hP hD hS => ?_)
    refine lv_istore_n (lv' := [(2, .int r8), (0, .ref (ad 0)), (1, .int p1)]) hx hb dX6_finds_37 rfl hl (by decide) rfl (fun ls hl => ?_)
    refine lv_iload_n hx hb dX6_finds_38 rfl (lv_at hl 0 rfl) ?_
    refine lv_iconst (v := (-1)) hx hb dX6_finds_39 (by decide) ?_
    refine lv_icmp_ne (tgt := 45) hx hb dX6_finds_40 (by decide) (fun c19 => ?_) (fun c19 => ?_)
    · have hf := sg_in c19 hf
      refine lv_iconst (v := 0) hx hb dX6_finds_45 (by decide) ?_
      refine lv_istore_n (lv' := [(3, .int 0), (2, .int r8), (0, .ref (ad 0)), (1, .int p1)]) hx hb dX6_finds_46 rfl hl (by decide) rfl (fun ls hl => ?_)
      obtain ⟨e10, hc11, hf⟩ := sg_b_s hf
      refine hL47 _ _ _ _ e10 hc11 _ _ _ hP hD hS (lv_sub hl [2, 3, 1, 0] rfl) (fun H locs ls hP hD hS hl => ?_)
      refine lv_iconst (v := 1) hx hb dX6_finds_68 (by decide) ?_
      refine lv_istore_n (lv' := [(3, .int 1), (0, .ref (ad 0)), (1, .int p1), (2, .int r8)]) hx hb dX6_finds_69 rfl hl (by decide) rfl (fun ls hl => ?_)
      obtain ⟨e12, hc13, hf⟩ := sg_b_s hf
      refine hL70 _ _ _ _ e12 hc13 _ _ _ hP hD hS (lv_sub hl [1, 2, 3, 0] rfl) (fun H locs ls hP hD hS hl => ?_)
      refine lv_aload_n hx hb dX6_finds_219 rfl (lv_at hl 0 rfl) ?_
      refine va_get (D := D) (ci := 8) (C := RX6) (T := TX6) (N := 27) hx hb hts hinX6 hown hK.1 hP 0 rfl rfl 20 (by decide) (hts (.fieldLink RX6 59 "SwitchgearModel" "above" "[I") (by decide +kernel)) (fun _ h9 => h9) rfl dX6_finds_220 ?_
      refine lv_aload_n hx hb dX6_finds_223 rfl (lv_at hl 0 rfl) ?_
      refine va_get (D := D) (ci := 8) (C := RX6) (T := TX6) (N := 27) hx hb hts hinX6 hown hK.1 hP 0 rfl rfl 8 (by decide) (hts (.fieldLink RX6 23 "SwitchgearModel" "one" "[I") (by decide +kernel)) (fun _ h9 => h9) rfl dX6_finds_224 ?_
      refine lv_iload_n hx hb dX6_finds_227 rfl (lv_at hl 1 rfl) ?_
      obtain ⟨hg14, hf⟩ := sg_g_s hf
      refine va_iald hx hb hK.1 hP 5 0 rfl rfl (sg_inb_s hg14) dX6_finds_228 ?_
      obtain ⟨hg15, hf⟩ := sg_g_s hf
      refine va_iald hx hb hK.1 hP 17 0 rfl rfl (sg_inb_s hg15) dX6_finds_229 ?_
      refine lv_iload_n hx hb dX6_finds_230 rfl (lv_at hl 1 rfl) ?_
      refine lv_icmp_ne (tgt := 243) hx hb dX6_finds_231 (by decide) (fun c18 => ?_) (fun c18 => ?_)
      · have hf := sg_in c18 hf
        refine lv_aload_n hx hb dX6_finds_243 rfl (lv_at hl 0 rfl) ?_
        refine va_get (D := D) (ci := 8) (C := RX6) (T := TX6) (N := 27) hx hb hts hinX6 hown hK.1 hP 0 rfl rfl 9 (by decide) (hts (.fieldLink RX6 26 "SwitchgearModel" "other" "[I") (by decide +kernel)) (fun _ h9 => h9) rfl dX6_finds_244 ?_
        refine lv_iload_n hx hb dX6_finds_247 rfl (lv_at hl 1 rfl) ?_
        obtain ⟨hg16, hf⟩ := sg_g_s hf
        refine va_iald hx hb hK.1 hP 6 0 rfl rfl (sg_inb_s hg16) dX6_finds_248 ?_
        exact hJ249 _ _ _ _ _ _ hf hP hD hS (lv_sub hl [0, 2] rfl)
      · have hf := sg_ip c18 hf
        refine lv_aload_n hx hb dX6_finds_234 rfl (lv_at hl 0 rfl) ?_
        refine va_get (D := D) (ci := 8) (C := RX6) (T := TX6) (N := 27) hx hb hts hinX6 hown hK.1 hP 0 rfl rfl 8 (by decide) (hts (.fieldLink RX6 23 "SwitchgearModel" "one" "[I") (by decide +kernel)) (fun _ h9 => h9) rfl dX6_finds_235 ?_
        refine lv_iload_n hx hb dX6_finds_238 rfl (lv_at hl 1 rfl) ?_
        obtain ⟨hg17, hf⟩ := sg_g_s hf
        refine va_iald hx hb hK.1 hP 5 0 rfl rfl (sg_inb_s hg17) dX6_finds_239 ?_
        refine lv_goto (tgt := 249) hx hb dX6_finds_240 (by decide) ?_
        exact hJ249 _ _ _ _ _ _ hf hP hD hS (lv_sub hl [0, 2] rfl)
    · have hf := sg_ip c19 hf
      refine lv_iconst (v := 0) hx hb dX6_finds_43 (by decide) ?_
      have hq := Option.some.inj hf
      exact sg_zret hx hb hr rfl hP hD hS dX6_finds_44 (congrArg Prod.fst hq) (congrArg Prod.snd hq) hlocks
  · have hf := sg_ip c20 hf
    refine lv_iconst (v := 0) hx hb dX6_finds_14 (by decide) ?_
    have hq := Option.some.inj hf
    exact sg_zret hx hb hr rfl hP hD hS dX6_finds_15 (congrArg Prod.fst hq) (congrArg Prod.snd hq) hlocks
set_option maxRecDepth 100000 in
set_option maxHeartbeats 4000000 in
theorem c_X6_isFound (l : Launch) (D : va_G) (cA : Nat → ClassId) (ad : Nat → Nat) (N : Nat) (u : sg_St) (p1 : Int32) (r : Int32) (u' : sg_St) (hf : fX6_isFound N u p1 = some (r, u')) : sg_CI l D cA (sg_WM cA ad) yX6_isFound wsX6_isFound ({ frames := 2, cells := 0, slots := 0, locals := 51 }) [.ref (ad 0), .int p1] u r u' := by
  intro sz
  refine Met.ofW (cc := cX6_isFound) (maxL := 2) (ret := (some .boolean)) (by decide) rfl ?_
  intro p e s m args below meth c s₁ B hml hv
  obtain ⟨rfl, hsz, hP, hK, hD0⟩ := hv
  have hx := B.exec
  have hb := B.bytes
  have hr := B.returns
  have hts := atoms_spec (ws := wsX6_isFound) B.pre
  have hown : s.vm.findClass RX6 = some m.cls := findClass_of_methodNamed B.named
  have hlocks := B.notSynchronized
  subst hsz
  have hD := hD0.self (sz := s.heap.size)
  generalize hAe : va_A (sg_WM cA ad u) s.heap.size = A at hD ⊢
  have hA : ∀ q : Nat, s.heap.size ≤ q → A q := fun q h => by rw [← hAe]; exact Or.inr h
  have hS : va_S A s.heap s.heap [] := va_S.rf
  have hl := lv_entry ([.ref (ad 0), .int p1]) (n := 2) (Nat.le_of_ble_eq_true rfl)
  rw [lg_entry_eq]
  generalize (lg_sl ([.ref (ad 0), .int p1]) ++ List.replicate (2 - (lg_sl ([.ref (ad 0), .int p1])).length) Slot.unset).toArray = ls at hl ⊢
  replace hl : lv_has ls 2 [(0, .ref (ad 0)), (1, .int p1)] := hl
  have hinX6 : ∀ w ∈ u_ws RX6 TX6 27, w ∈ wsX6_isFound := by decide +kernel
  have hJ28 : ∀ (u : sg_St) (k0 : Int32) (H : Heap) (locs : List Loc) (ls : Array Slot), fX6_isFound_j28 N u k0 = some (r, u') → va_P D vwCl (sg_WM cA ad u) H → va_D A (sg_WM cA ad u) → va_S A s.heap H locs → lv_has ls 2 [(0, .ref (ad 0))] → W p l e (headSpec wsX6_isFound ({ frames := 2, cells := 0, slots := 0, locals := 51 })).room s m ([.ref (ad 0), .int p1] : List Value).toArray below meth c H locs 0 0 (MQ below (va_Qi (fun x y => x = r ∧ y = u') (sg_BX D (sg_WM cA ad) A) A) ([.ref (ad 0), .int p1] : List Value).toArray s 0 0 A) (F0 m 28 ls [.int k0, .ref (ad 0)]) := by
    intro u k0 H locs ls hf hP hD hS hl
    unfold fX6_isFound_j28 at hf
    refine va_put (D := D) (ci := 8) (v := .int k0) (ty := .int) (C := RX6) (T := TX6) (N := 27) hx hb hts hinX6 tyX6 tyX6_ok nmX6 hown hK.1 hP hD hS 0 rfl rfl 0 (by decide) (hts (.fieldLink RX6 68 "SwitchgearModel" "thrown" "I") (by decide +kernel)) (fun _ h9 => h9) rfl (by decide +kernel) rfl rfl (Nat.le_of_ble_eq_true rfl) dX6_isFound_28 (fun H locs hP hD hS => ?_)
    replace hP : va_P D vwCl (sg_WM cA ad (sg_set u 0 0 k0)) H := by rw [← sg_WM_0]; exact hP
    replace hD : va_D A (sg_WM cA ad (sg_set u 0 0 k0)) := by rw [← sg_WM_0]; exact hD
    refine lv_aload_n hx hb dX6_isFound_31 rfl (lv_at hl 0 rfl) ?_
    refine va_get (D := D) (ci := 8) (C := RX6) (T := TX6) (N := 27) hx hb hts hinX6 hown hK.1 hP 0 rfl rfl 0 (by decide) (hts (.fieldLink RX6 68 "SwitchgearModel" "thrown" "I") (by decide +kernel)) (fun _ h9 => h9) rfl dX6_isFound_32 ?_
    refine lv_if_ne (tgt := 42) hx hb dX6_isFound_35 (by decide) (fun c1 => ?_) (fun c1 => ?_)
    · have hf := sg_in c1 hf
      refine lv_iconst (v := 0) hx hb dX6_isFound_42 (by decide) ?_
      have hq := Option.some.inj hf
      exact sg_zret hx hb hr rfl hP hD hS dX6_isFound_43 (congrArg Prod.fst hq) (congrArg Prod.snd hq) hlocks
    · have hf := sg_ip c1 hf
      refine lv_iconst (v := 1) hx hb dX6_isFound_38 (by decide) ?_
      refine lv_goto (tgt := 43) hx hb dX6_isFound_39 (by decide) ?_
      have hq := Option.some.inj hf
      exact sg_zret hx hb hr rfl hP hD hS dX6_isFound_43 (congrArg Prod.fst hq) (congrArg Prod.snd hq) hlocks
  unfold fX6_isFound at hf
  refine lv_aload_n hx hb dX6_isFound_0 rfl (lv_at hl 0 rfl) ?_
  refine lv_aload_n hx hb dX6_isFound_1 rfl (lv_at hl 0 rfl) ?_
  refine lv_iload_n hx hb dX6_isFound_2 rfl (lv_at hl 1 rfl) ?_
  obtain ⟨r2, hc1, hf⟩ := sg_b_s hf
  refine sg_ci (va_runV (As := [.int p1]) (rest := [.ref (ad 0)]) ⟨hx, hb, hml, hown, hts⟩ (c_X6_isLine l D cA ad N _ _ _ hc1 _) (cwV 1 hts gX6_isFound_X6_isLine rfl rfl rfl (by decide +kernel) ⟨Nat.le_of_ble_eq_true rfl, Nat.le_of_ble_eq_true rfl⟩) (sg_pre hK hP hD (ci := 8) (q0 := 0) rfl rfl) rfl rfl hl.1 rfl (lv_room (Nat.le_of_ble_eq_true rfl)) dX6_isFound_3 ⟨Nat.zero_le _, Nat.zero_le _⟩) hD hS hA (fun H locs hP hD hS => ?_)
  obtain ⟨r5, u6, hc4, hf⟩ := sg_b2_s hf
  refine sg_ci (va_runV (As := [.int r2]) (rest := []) ⟨hx, hb, hml, hown, hts⟩ (c_X6_isThere l D cA ad N _ _ _ _ hc4 _) (cwV 1 hts gX6_isFound_X6_isThere rfl rfl rfl (by decide +kernel) ⟨Nat.le_of_ble_eq_true rfl, Nat.le_of_ble_eq_true rfl⟩) (sg_pre hK hP hD (ci := 8) (q0 := 0) rfl rfl) rfl rfl hl.1 rfl (lv_room (Nat.le_of_ble_eq_true rfl)) dX6_isFound_6 ⟨Nat.zero_le _, Nat.zero_le _⟩) hD hS hA (fun H locs hP hD hS => ?_)
  refine lv_if_ne (tgt := 14) hx hb dX6_isFound_9 (by decide) (fun c11 => ?_) (fun c11 => ?_)
  · have hf := sg_in c11 hf
    refine lv_aload_n hx hb dX6_isFound_14 rfl (lv_at hl 0 rfl) ?_
    refine lv_aload_n hx hb dX6_isFound_15 rfl (lv_at hl 0 rfl) ?_
    refine lv_iload_n hx hb dX6_isFound_16 rfl (lv_at hl 1 rfl) ?_
    obtain ⟨r8, u9, hc7, hf⟩ := sg_b2_s hf
    refine sg_ci (va_runV (As := [.int p1]) (rest := [.ref (ad 0)]) ⟨hx, hb, hml, hown, hts⟩ (c_X6_finds l D cA ad N _ _ _ _ hc7 _) (cwV 1 hts gX6_isFound_X6_finds rfl rfl rfl (by decide +kernel) ⟨Nat.le_of_ble_eq_true rfl, Nat.le_of_ble_eq_true rfl⟩) (sg_pre hK hP hD (ci := 8) (q0 := 0) rfl rfl) rfl rfl hl.1 rfl (lv_room (Nat.le_of_ble_eq_true rfl)) dX6_isFound_17 ⟨Nat.zero_le _, Nat.zero_le _⟩) hD hS hA (fun H locs hP hD hS => ?_)
    refine lv_if_eq (tgt := 27) hx hb dX6_isFound_20 (by decide) (fun c10 => ?_) (fun c10 => ?_)
    · have hf := sg_ip c10 hf
      refine lv_iconst (v := 2) hx hb dX6_isFound_27 (by decide) ?_
      exact hJ28 _ _ _ _ _ hf hP hD hS (lv_sub hl [0] rfl)
    · have hf := sg_in c10 hf
      refine lv_iconst (v := 0) hx hb dX6_isFound_23 (by decide) ?_
      refine lv_goto (tgt := 28) hx hb dX6_isFound_24 (by decide) ?_
      exact hJ28 _ _ _ _ _ hf hP hD hS (lv_sub hl [0] rfl)
  · have hf := sg_ip c11 hf
    refine lv_iconst (v := 0) hx hb dX6_isFound_12 (by decide) ?_
    have hq := Option.some.inj hf
    exact sg_zret hx hb hr rfl hP hD hS dX6_isFound_13 (congrArg Prod.fst hq) (congrArg Prod.snd hq) hlocks
set_option maxRecDepth 100000 in
set_option maxHeartbeats 4000000 in
theorem c_X6_distance (l : Launch) (D : va_G) (cA : Nat → ClassId) (ad : Nat → Nat) (N : Nat) (u : sg_St) (p1 : Int32) (r : Int32) (u' : sg_St) (hf : fX6_distance N u p1 = some (r, u')) : sg_CI l D cA (sg_WM cA ad) yX6_distance wsX6_distance ({ frames := 3, cells := 0, slots := 0, locals := 72 }) [.ref (ad 0), .int p1] u r u' := by
  intro sz
  refine Met.ofW (cc := cX6_distance) (maxL := 2) (ret := (some .int)) (by decide) rfl ?_
  intro p e s m args below meth c s₁ B hml hv
  obtain ⟨rfl, hsz, hP, hK, hD0⟩ := hv
  have hx := B.exec
  have hb := B.bytes
  have hr := B.returns
  have hts := atoms_spec (ws := wsX6_distance) B.pre
  have hown : s.vm.findClass RX6 = some m.cls := findClass_of_methodNamed B.named
  have hlocks := B.notSynchronized
  subst hsz
  have hD := hD0.self (sz := s.heap.size)
  generalize hAe : va_A (sg_WM cA ad u) s.heap.size = A at hD ⊢
  have hA : ∀ q : Nat, s.heap.size ≤ q → A q := fun q h => by rw [← hAe]; exact Or.inr h
  have hS : va_S A s.heap s.heap [] := va_S.rf
  have hl := lv_entry ([.ref (ad 0), .int p1]) (n := 2) (Nat.le_of_ble_eq_true rfl)
  rw [lg_entry_eq]
  generalize (lg_sl ([.ref (ad 0), .int p1]) ++ List.replicate (2 - (lg_sl ([.ref (ad 0), .int p1])).length) Slot.unset).toArray = ls at hl ⊢
  replace hl : lv_has ls 2 [(0, .ref (ad 0)), (1, .int p1)] := hl
  have hinX6 : ∀ w ∈ u_ws RX6 TX6 27, w ∈ wsX6_distance := by decide +kernel
  unfold fX6_distance at hf
  refine lv_aload_n hx hb dX6_distance_0 rfl (lv_at hl 0 rfl) ?_
  refine lv_iload_n hx hb dX6_distance_1 rfl (lv_at hl 1 rfl) ?_
  obtain ⟨r2, u3, hc1, hf⟩ := sg_b2_s hf
  refine sg_ci (va_runV (As := [.int p1]) (rest := []) ⟨hx, hb, hml, hown, hts⟩ (c_X6_isFound l D cA ad N _ _ _ _ hc1 _) (cwV 1 hts gX6_distance_X6_isFound rfl rfl rfl (by decide +kernel) ⟨Nat.le_of_ble_eq_true rfl, Nat.le_of_ble_eq_true rfl⟩) (sg_pre hK hP hD (ci := 8) (q0 := 0) rfl rfl) rfl rfl hl.1 rfl (lv_room (Nat.le_of_ble_eq_true rfl)) dX6_distance_2 ⟨Nat.zero_le _, Nat.zero_le _⟩) hD hS hA (fun H locs hP hD hS => ?_)
  refine lv_if_eq (tgt := 15) hx hb dX6_distance_5 (by decide) (fun c4 => ?_) (fun c4 => ?_)
  · have hf := sg_ip c4 hf
    refine lv_iconst (v := 0) hx hb dX6_distance_15 (by decide) ?_
    have hq := Option.some.inj hf
    exact sg_iret hx hb hr hP hD hS dX6_distance_16 (congrArg Prod.fst hq) (congrArg Prod.snd hq) hlocks
  · have hf := sg_in c4 hf
    refine lv_aload_n hx hb dX6_distance_8 rfl (lv_at hl 0 rfl) ?_
    refine va_get (D := D) (ci := 8) (C := RX6) (T := TX6) (N := 27) hx hb hts hinX6 hown hK.1 hP 0 rfl rfl 21 (by decide) (hts (.fieldLink RX6 127 "SwitchgearModel" "far" "I") (by decide +kernel)) (fun _ h9 => h9) rfl dX6_distance_9 ?_
    refine lv_goto (tgt := 16) hx hb dX6_distance_12 (by decide) ?_
    have hq := Option.some.inj hf
    exact sg_iret hx hb hr hP hD hS dX6_distance_16 (congrArg Prod.fst hq) (congrArg Prod.snd hq) hlocks
set_option maxRecDepth 100000 in
set_option maxHeartbeats 4000000 in
theorem c_X6_sourceOfPath (l : Launch) (D : va_G) (cA : Nat → ClassId) (ad : Nat → Nat) (N : Nat) (u : sg_St) (r : Int32) (hf : fX6_sourceOfPath N u = some r) : sg_CI l D cA (sg_WM cA ad) yX6_sourceOfPath wsX6_sourceOfPath ({ frames := 0, cells := 0, slots := 0, locals := 0 }) [.ref (ad 0)] u r u := by
  intro sz
  refine Met.ofW (cc := cX6_sourceOfPath) (maxL := 2) (ret := (some .int)) (by decide) rfl ?_
  intro p e s m args below meth c s₁ B hml hv
  obtain ⟨rfl, hsz, hP, hK, hD0⟩ := hv
  have hx := B.exec
  have hb := B.bytes
  have hr := B.returns
  have hts := atoms_spec (ws := wsX6_sourceOfPath) B.pre
  have hown : s.vm.findClass RX6 = some m.cls := findClass_of_methodNamed B.named
  have hlocks := B.notSynchronized
  subst hsz
  have hD := hD0.self (sz := s.heap.size)
  generalize hAe : va_A (sg_WM cA ad u) s.heap.size = A at hD ⊢
  have hA : ∀ q : Nat, s.heap.size ≤ q → A q := fun q h => by rw [← hAe]; exact Or.inr h
  have hS : va_S A s.heap s.heap [] := va_S.rf
  have hl := lv_entry ([.ref (ad 0)]) (n := 2) (Nat.le_of_ble_eq_true rfl)
  rw [lg_entry_eq]
  generalize (lg_sl ([.ref (ad 0)]) ++ List.replicate (2 - (lg_sl ([.ref (ad 0)])).length) Slot.unset).toArray = ls at hl ⊢
  replace hl : lv_has ls 2 [(0, .ref (ad 0))] := hl
  have hinX6 : ∀ w ∈ u_ws RX6 TX6 27, w ∈ wsX6_sourceOfPath := by decide +kernel
  unfold fX6_sourceOfPath at hf
  refine lv_aload_n hx hb dX6_sourceOfPath_0 rfl (lv_at hl 0 rfl) ?_
  refine va_get (D := D) (ci := 8) (C := RX6) (T := TX6) (N := 27) hx hb hts hinX6 hown hK.1 hP 0 rfl rfl 19 (by decide) (hts (.fieldLink RX6 56 "SwitchgearModel" "path" "[I") (by decide +kernel)) (fun _ h9 => h9) rfl dX6_sourceOfPath_1 ?_
  refine lv_iconst (v := 0) hx hb dX6_sourceOfPath_4 (by decide) ?_
  obtain ⟨hg1, hf⟩ := sg_g_s hf
  refine va_iald hx hb hK.1 hP 16 0 rfl rfl (sg_inb_s hg1) dX6_sourceOfPath_5 ?_
  refine lv_istore_n (lv' := [(1, .int (u 23 (0 : Int32).toNatClampNeg)), (0, .ref (ad 0))]) hx hb dX6_sourceOfPath_6 rfl hl (by decide) rfl (fun ls hl => ?_)
  refine lv_aload_n hx hb dX6_sourceOfPath_7 rfl (lv_at hl 1 rfl) ?_
  refine va_get (D := D) (ci := 8) (C := RX6) (T := TX6) (N := 27) hx hb hts hinX6 hown hK.1 hP 0 rfl rfl 4 (by decide) (hts (.fieldLink RX6 7 "SwitchgearModel" "isSource" "[Z") (by decide +kernel)) (fun _ h9 => h9) rfl dX6_sourceOfPath_8 ?_
  refine lv_aload_n hx hb dX6_sourceOfPath_11 rfl (lv_at hl 1 rfl) ?_
  refine va_get (D := D) (ci := 8) (C := RX6) (T := TX6) (N := 27) hx hb hts hinX6 hown hK.1 hP 0 rfl rfl 8 (by decide) (hts (.fieldLink RX6 23 "SwitchgearModel" "one" "[I") (by decide +kernel)) (fun _ h9 => h9) rfl dX6_sourceOfPath_12 ?_
  refine lv_iload_n hx hb dX6_sourceOfPath_15 rfl (lv_at hl 0 rfl) ?_
  obtain ⟨hg2, hf⟩ := sg_g_s hf
  refine va_iald hx hb hK.1 hP 5 0 rfl rfl (sg_inb_s hg2) dX6_sourceOfPath_16 ?_
  obtain ⟨hg3, hf⟩ := sg_g_s hf
  refine va_zald hx hb hK.1 hP 1 1 rfl rfl (sg_inb_s hg3) dX6_sourceOfPath_17 ?_
  refine lv_if_eq (tgt := 30) hx hb dX6_sourceOfPath_18 (by decide) (fun c6 => ?_) (fun c6 => ?_)
  · have hf := sg_ip c6 hf
    refine lv_aload_n hx hb dX6_sourceOfPath_30 rfl (lv_at hl 1 rfl) ?_
    refine va_get (D := D) (ci := 8) (C := RX6) (T := TX6) (N := 27) hx hb hts hinX6 hown hK.1 hP 0 rfl rfl 9 (by decide) (hts (.fieldLink RX6 26 "SwitchgearModel" "other" "[I") (by decide +kernel)) (fun _ h9 => h9) rfl dX6_sourceOfPath_31 ?_
    refine lv_iload_n hx hb dX6_sourceOfPath_34 rfl (lv_at hl 0 rfl) ?_
    obtain ⟨hg4, hf⟩ := sg_g_s hf
    refine va_iald hx hb hK.1 hP 6 0 rfl rfl (sg_inb_s hg4) dX6_sourceOfPath_35 ?_
    have hq := Option.some.inj hf
    exact sg_iret hx hb hr hP hD hS dX6_sourceOfPath_36 hq rfl hlocks
  · have hf := sg_in c6 hf
    refine lv_aload_n hx hb dX6_sourceOfPath_21 rfl (lv_at hl 1 rfl) ?_
    refine va_get (D := D) (ci := 8) (C := RX6) (T := TX6) (N := 27) hx hb hts hinX6 hown hK.1 hP 0 rfl rfl 8 (by decide) (hts (.fieldLink RX6 23 "SwitchgearModel" "one" "[I") (by decide +kernel)) (fun _ h9 => h9) rfl dX6_sourceOfPath_22 ?_
    refine lv_iload_n hx hb dX6_sourceOfPath_25 rfl (lv_at hl 0 rfl) ?_
    obtain ⟨hg5, hf⟩ := sg_g_s hf
    refine va_iald hx hb hK.1 hP 5 0 rfl rfl (sg_inb_s hg5) dX6_sourceOfPath_26 ?_
    refine lv_goto (tgt := 36) hx hb dX6_sourceOfPath_27 (by decide) ?_
    have hq := Option.some.inj hf
    exact sg_iret hx hb hr hP hD hS dX6_sourceOfPath_36 hq rfl hlocks
set_option maxRecDepth 100000 in
set_option maxHeartbeats 4000000 in
theorem c_X6_drawn (l : Launch) (D : va_G) (cA : Nat → ClassId) (ad : Nat → Nat) (N : Nat) (u : sg_St) (r : Int32) (hf : fX6_drawn N u = some r) : sg_CI l D cA (sg_WM cA ad) yX6_drawn wsX6_drawn ({ frames := 1, cells := 0, slots := 0, locals := 21 }) [.ref (ad 0)] u r u := by
  intro sz
  refine Met.ofW (cc := cX6_drawn) (maxL := 1) (ret := (some .int)) (by decide) rfl ?_
  intro p e s m args below meth c s₁ B hml hv
  obtain ⟨rfl, hsz, hP, hK, hD0⟩ := hv
  have hx := B.exec
  have hb := B.bytes
  have hr := B.returns
  have hts := atoms_spec (ws := wsX6_drawn) B.pre
  have hown : s.vm.findClass RX6 = some m.cls := findClass_of_methodNamed B.named
  have hlocks := B.notSynchronized
  subst hsz
  have hD := hD0.self (sz := s.heap.size)
  generalize hAe : va_A (sg_WM cA ad u) s.heap.size = A at hD ⊢
  have hA : ∀ q : Nat, s.heap.size ≤ q → A q := fun q h => by rw [← hAe]; exact Or.inr h
  have hS : va_S A s.heap s.heap [] := va_S.rf
  have hl := lv_entry ([.ref (ad 0)]) (n := 1) (Nat.le_of_ble_eq_true rfl)
  rw [lg_entry_eq]
  generalize (lg_sl ([.ref (ad 0)]) ++ List.replicate (1 - (lg_sl ([.ref (ad 0)])).length) Slot.unset).toArray = ls at hl ⊢
  replace hl : lv_has ls 1 [(0, .ref (ad 0))] := hl
  have hinX6 : ∀ w ∈ u_ws RX6 TX6 27, w ∈ wsX6_drawn := by decide +kernel
  unfold fX6_drawn at hf
  refine lv_aload_n hx hb dX6_drawn_0 rfl (lv_at hl 0 rfl) ?_
  refine va_get (D := D) (ci := 8) (C := RX6) (T := TX6) (N := 27) hx hb hts hinX6 hown hK.1 hP 0 rfl rfl 5 (by decide) (hts (.fieldLink RX6 13 "SwitchgearModel" "capacity" "[I") (by decide +kernel)) (fun _ h9 => h9) rfl dX6_drawn_1 ?_
  refine lv_aload_n hx hb dX6_drawn_4 rfl (lv_at hl 0 rfl) ?_
  obtain ⟨r2, hc1, hf⟩ := sg_b_s hf
  refine sg_ci (va_runV (As := []) (rest := [.ref (ad 2)]) ⟨hx, hb, hml, hown, hts⟩ (c_X6_sourceOfPath l D cA ad N _ _ hc1 _) (cwV 0 hts gX6_drawn_X6_sourceOfPath rfl rfl rfl (by decide +kernel) ⟨Nat.le_of_ble_eq_true rfl, Nat.le_of_ble_eq_true rfl⟩) (sg_pre hK hP hD (ci := 8) (q0 := 0) rfl rfl) rfl rfl hl.1 rfl (lv_room (Nat.le_of_ble_eq_true rfl)) dX6_drawn_5 ⟨Nat.zero_le _, Nat.zero_le _⟩) hD hS hA (fun H locs hP hD hS => ?_)
  obtain ⟨hg4, hf⟩ := sg_g_s hf
  refine va_iald hx hb hK.1 hP 2 0 rfl rfl (sg_inb_s hg4) dX6_drawn_8 ?_
  refine lv_bipush (v := 10) hx hb dX6_drawn_9 (by decide) ?_
  refine lv_imul hx hb dX6_drawn_11 ?_
  refine lv_aload_n hx hb dX6_drawn_12 rfl (lv_at hl 0 rfl) ?_
  refine va_get (D := D) (ci := 8) (C := RX6) (T := TX6) (N := 27) hx hb hts hinX6 hown hK.1 hP 0 rfl rfl 21 (by decide) (hts (.fieldLink RX6 127 "SwitchgearModel" "far" "I") (by decide +kernel)) (fun _ h9 => h9) rfl dX6_drawn_13 ?_
  obtain ⟨hg5, hf⟩ := sg_g_s hf
  refine lv_idiv hx hb dX6_drawn_16 (of_decide_eq_true hg5) ?_
  have hq := Option.some.inj hf
  exact sg_iret hx hb hr hP hD hS dX6_drawn_17 hq rfl hlocks
set_option maxRecDepth 100000 in
set_option maxHeartbeats 4000000 in
theorem c_X6_time (l : Launch) (D : va_G) (cA : Nat → ClassId) (ad : Nat → Nat) (N : Nat) (u : sg_St) (p1 p2 : Int32) (r : Int32) (hf : fX6_time N u p1 p2 = some r) : sg_CI l D cA (sg_WM cA ad) yX6_time wsX6_time ({ frames := 0, cells := 0, slots := 0, locals := 0 }) [.ref (ad 0), .int p1, .int p2] u r u := by
  intro sz
  refine Met.ofW (cc := cX6_time) (maxL := 3) (ret := (some .int)) (by decide) rfl ?_
  intro p e s m args below meth c s₁ B hml hv
  obtain ⟨rfl, hsz, hP, hK, hD0⟩ := hv
  have hx := B.exec
  have hb := B.bytes
  have hr := B.returns
  have hts := atoms_spec (ws := wsX6_time) B.pre
  have hown : s.vm.findClass RX6 = some m.cls := findClass_of_methodNamed B.named
  have hlocks := B.notSynchronized
  subst hsz
  have hD := hD0.self (sz := s.heap.size)
  generalize hAe : va_A (sg_WM cA ad u) s.heap.size = A at hD ⊢
  have hA : ∀ q : Nat, s.heap.size ≤ q → A q := fun q h => by rw [← hAe]; exact Or.inr h
  have hS : va_S A s.heap s.heap [] := va_S.rf
  have hl := lv_entry ([.ref (ad 0), .int p1, .int p2]) (n := 3) (Nat.le_of_ble_eq_true rfl)
  rw [lg_entry_eq]
  generalize (lg_sl ([.ref (ad 0), .int p1, .int p2]) ++ List.replicate (3 - (lg_sl ([.ref (ad 0), .int p1, .int p2])).length) Slot.unset).toArray = ls at hl ⊢
  replace hl : lv_has ls 3 [(0, .ref (ad 0)), (1, .int p1), (2, .int p2)] := hl
  have hinX6 : ∀ w ∈ u_ws RX6 TX6 27, w ∈ wsX6_time := by decide +kernel
  have hJ35 : ∀ (v1 v2 : Int32) (H : Heap) (locs : List Loc) (ls : Array Slot), fX6_time_j35 N u v1 v2 = some r → va_P D vwCl (sg_WM cA ad u) H → va_D A (sg_WM cA ad u) → va_S A s.heap H locs → lv_has ls 3 [(0, .ref (ad 0)), (1, .int v1), (2, .int v2)] → W p l e (headSpec wsX6_time ({ frames := 0, cells := 0, slots := 0, locals := 0 })).room s m ([.ref (ad 0), .int p1, .int p2] : List Value).toArray below meth c H locs 0 0 (MQ below (va_Qi (fun x y => x = r ∧ y = u) (sg_BX D (sg_WM cA ad) A) A) ([.ref (ad 0), .int p1, .int p2] : List Value).toArray s 0 0 A) (F0 m 35 ls []) := by
    intro v1 v2 H locs ls hf hP hD hS hl
    unfold fX6_time_j35 at hf
    refine lv_aload_n hx hb dX6_time_35 rfl (lv_at hl 0 rfl) ?_
    refine va_get (D := D) (ci := 8) (C := RX6) (T := TX6) (N := 27) hx hb hts hinX6 hown hK.1 hP 0 rfl rfl 12 (by decide) (hts (.fieldLink RX6 35 "SwitchgearModel" "multiplier" "[I") (by decide +kernel)) (fun _ h9 => h9) rfl dX6_time_36 ?_
    refine lv_iload_n hx hb dX6_time_39 rfl (lv_at hl 1 rfl) ?_
    obtain ⟨hg1, hf⟩ := sg_g_s hf
    refine va_iald hx hb hK.1 hP 9 0 rfl rfl (sg_inb_s hg1) dX6_time_40 ?_
    refine lv_aload_n hx hb dX6_time_41 rfl (lv_at hl 0 rfl) ?_
    refine va_get (D := D) (ci := 8) (C := RX6) (T := TX6) (N := 27) hx hb hts hinX6 hown hK.1 hP 0 rfl rfl 11 (by decide) (hts (.fieldLink RX6 32 "SwitchgearModel" "pickup" "[I") (by decide +kernel)) (fun _ h9 => h9) rfl dX6_time_42 ?_
    refine lv_iload_n hx hb dX6_time_45 rfl (lv_at hl 1 rfl) ?_
    obtain ⟨hg2, hf⟩ := sg_g_s hf
    refine va_iald hx hb hK.1 hP 8 0 rfl rfl (sg_inb_s hg2) dX6_time_46 ?_
    refine lv_imul hx hb dX6_time_47 ?_
    refine lv_bipush (v := 10) hx hb dX6_time_48 (by decide) ?_
    refine lv_imul hx hb dX6_time_50 ?_
    refine lv_iload_n hx hb dX6_time_51 rfl (lv_at hl 2 rfl) ?_
    refine lv_aload_n hx hb dX6_time_52 rfl (lv_at hl 0 rfl) ?_
    refine va_get (D := D) (ci := 8) (C := RX6) (T := TX6) (N := 27) hx hb hts hinX6 hown hK.1 hP 0 rfl rfl 11 (by decide) (hts (.fieldLink RX6 32 "SwitchgearModel" "pickup" "[I") (by decide +kernel)) (fun _ h9 => h9) rfl dX6_time_53 ?_
    refine lv_iload_n hx hb dX6_time_56 rfl (lv_at hl 1 rfl) ?_
    obtain ⟨hg3, hf⟩ := sg_g_s hf
    refine va_iald hx hb hK.1 hP 8 0 rfl rfl (sg_inb_s hg3) dX6_time_57 ?_
    refine lv_isub hx hb dX6_time_58 ?_
    obtain ⟨hg4, hf⟩ := sg_g_s hf
    refine lv_idiv hx hb dX6_time_59 (of_decide_eq_true hg4) ?_
    refine lv_iconst (v := 2) hx hb dX6_time_60 (by decide) ?_
    refine lv_iadd hx hb dX6_time_61 ?_
    have hq := Option.some.inj hf
    exact sg_iret hx hb hr hP hD hS dX6_time_62 hq rfl hlocks
  unfold fX6_time at hf
  refine lv_iload_n hx hb dX6_time_0 rfl (lv_at hl 2 rfl) ?_
  refine lv_aload_n hx hb dX6_time_1 rfl (lv_at hl 0 rfl) ?_
  refine va_get (D := D) (ci := 8) (C := RX6) (T := TX6) (N := 27) hx hb hts hinX6 hown hK.1 hP 0 rfl rfl 11 (by decide) (hts (.fieldLink RX6 32 "SwitchgearModel" "pickup" "[I") (by decide +kernel)) (fun _ h9 => h9) rfl dX6_time_2 ?_
  refine lv_iload_n hx hb dX6_time_5 rfl (lv_at hl 1 rfl) ?_
  obtain ⟨hg1, hf⟩ := sg_g_s hf
  refine va_iald hx hb hK.1 hP 8 0 rfl rfl (sg_inb_s hg1) dX6_time_6 ?_
  refine lv_icmp_gt (tgt := 12) hx hb dX6_time_7 (by decide) (fun c6 => ?_) (fun c6 => ?_)
  · have hf := sg_ip c6 hf
    refine lv_aload_n hx hb dX6_time_12 rfl (lv_at hl 0 rfl) ?_
    refine va_get (D := D) (ci := 8) (C := RX6) (T := TX6) (N := 27) hx hb hts hinX6 hown hK.1 hP 0 rfl rfl 13 (by decide) (hts (.fieldLink RX6 38 "SwitchgearModel" "instant" "[I") (by decide +kernel)) (fun _ h9 => h9) rfl dX6_time_13 ?_
    refine lv_iload_n hx hb dX6_time_16 rfl (lv_at hl 1 rfl) ?_
    obtain ⟨hg2, hf⟩ := sg_g_s hf
    refine va_iald hx hb hK.1 hP 10 0 rfl rfl (sg_inb_s hg2) dX6_time_17 ?_
    refine lv_if_le (tgt := 35) hx hb dX6_time_18 (by decide) (fun c5 => ?_) (fun c5 => ?_)
    · have hf := sg_ip c5 hf
      exact hJ35 _ _ _ _ _ hf hP hD hS (lv_sub hl [0, 1, 2] rfl)
    · have hf := sg_in c5 hf
      refine lv_aload_n hx hb dX6_time_21 rfl (lv_at hl 0 rfl) ?_
      refine va_get (D := D) (ci := 8) (C := RX6) (T := TX6) (N := 27) hx hb hts hinX6 hown hK.1 hP 0 rfl rfl 13 (by decide) (hts (.fieldLink RX6 38 "SwitchgearModel" "instant" "[I") (by decide +kernel)) (fun _ h9 => h9) rfl dX6_time_22 ?_
      refine lv_iload_n hx hb dX6_time_25 rfl (lv_at hl 1 rfl) ?_
      obtain ⟨hg3, hf⟩ := sg_g_s hf
      refine va_iald hx hb hK.1 hP 10 0 rfl rfl (sg_inb_s hg3) dX6_time_26 ?_
      refine lv_iload_n hx hb dX6_time_27 rfl (lv_at hl 2 rfl) ?_
      refine lv_icmp_gt (tgt := 35) hx hb dX6_time_28 (by decide) (fun c4 => ?_) (fun c4 => ?_)
      · have hf := sg_ip c4 hf
        exact hJ35 _ _ _ _ _ hf hP hD hS (lv_sub hl [0, 1, 2] rfl)
      · have hf := sg_in c4 hf
        refine lv_iconst (v := 1) hx hb dX6_time_31 (by decide) ?_
        refine lv_goto (tgt := 62) hx hb dX6_time_32 (by decide) ?_
        have hq := Option.some.inj hf
        exact sg_iret hx hb hr hP hD hS dX6_time_62 hq rfl hlocks
  · have hf := sg_in c6 hf
    refine lv_iconst (v := (-1)) hx hb dX6_time_10 (by decide) ?_
    have hq := Option.some.inj hf
    exact sg_iret hx hb hr hP hD hS dX6_time_11 hq rfl hlocks
set_option maxRecDepth 100000 in
set_option maxHeartbeats 4000000 in
theorem c_X6_tripped (l : Launch) (D : va_G) (cA : Nat → ClassId) (ad : Nat → Nat) (N : Nat) (u : sg_St) (p1 : Int32) (r : Int32) (u' : sg_St) (hf : fX6_tripped N u p1 = some (r, u')) : sg_CI l D cA (sg_WM cA ad) yX6_tripped wsX6_tripped ({ frames := 2, cells := 0, slots := 0, locals := 51 }) [.ref (ad 0), .int p1] u r u' := by
  intro sz
  refine Met.ofW (cc := cX6_tripped) (maxL := 6) (ret := (some .int)) (by decide) rfl ?_
  intro p e s m args below meth c s₁ B hml hv
  obtain ⟨rfl, hsz, hP, hK, hD0⟩ := hv
  have hx := B.exec
  have hb := B.bytes
  have hr := B.returns
  have hts := atoms_spec (ws := wsX6_tripped) B.pre
  have hown : s.vm.findClass RX6 = some m.cls := findClass_of_methodNamed B.named
  have hlocks := B.notSynchronized
  subst hsz
  have hD := hD0.self (sz := s.heap.size)
  generalize hAe : va_A (sg_WM cA ad u) s.heap.size = A at hD ⊢
  have hA : ∀ q : Nat, s.heap.size ≤ q → A q := fun q h => by rw [← hAe]; exact Or.inr h
  have hS : va_S A s.heap s.heap [] := va_S.rf
  have hl := lv_entry ([.ref (ad 0), .int p1]) (n := 6) (Nat.le_of_ble_eq_true rfl)
  rw [lg_entry_eq]
  generalize (lg_sl ([.ref (ad 0), .int p1]) ++ List.replicate (6 - (lg_sl ([.ref (ad 0), .int p1])).length) Slot.unset).toArray = ls at hl ⊢
  replace hl : lv_has ls 6 [(0, .ref (ad 0)), (1, .int p1)] := hl
  have hinX6 : ∀ w ∈ u_ws RX6 TX6 27, w ∈ wsX6_tripped := by decide +kernel
  have hL15 : ∀ (u : sg_St) (n : Nat) (x : Int32 × Int32) (r9 : Int32), sg_it (fun x => fX6_tripped_L15 N u x.1 x.2) n x = some r9 → ∀ (H : Heap) (locs : List Loc) (ls : Array Slot), va_P D vwCl (sg_WM cA ad u) H → va_D A (sg_WM cA ad u) → va_S A s.heap H locs → lv_has ls 6 [(0, .ref (ad 0)), (2, .int x.1), (3, .int x.2)] → (∀ (H : Heap) (locs : List Loc) (ls : Array Slot), va_P D vwCl (sg_WM cA ad u) H → va_D A (sg_WM cA ad u) → va_S A s.heap H locs → lv_has ls 6 [(0, .ref (ad 0)), (2, .int r9)] → W p l e (headSpec wsX6_tripped ({ frames := 2, cells := 0, slots := 0, locals := 51 })).room s m ([.ref (ad 0), .int p1] : List Value).toArray below meth c H locs 0 0 (MQ below (va_Qi (fun x y => x = r ∧ y = u') (sg_BX D (sg_WM cA ad) A) A) ([.ref (ad 0), .int p1] : List Value).toArray s 0 0 A) (F0 m 90 ls [])) → W p l e (headSpec wsX6_tripped ({ frames := 2, cells := 0, slots := 0, locals := 51 })).room s m ([.ref (ad 0), .int p1] : List Value).toArray below meth c H locs 0 0 (MQ below (va_Qi (fun x y => x = r ∧ y = u') (sg_BX D (sg_WM cA ad) A) A) ([.ref (ad 0), .int p1] : List Value).toArray s 0 0 A) (F0 m 15 ls []) := by
    intro u
    refine sg_loop _ ?_
    intro x y r9 hf hI hy H locs ls hP hD hS hl hk
    replace hf : fX6_tripped_L15 N u x.1 x.2 = some y := hf
    have hJ81 : ∀ (v3 v4 : Int32) (H : Heap) (locs : List Loc) (ls : Array Slot), fX6_tripped_j81 N u v3 v4 = some y → va_P D vwCl (sg_WM cA ad u) H → va_D A (sg_WM cA ad u) → va_S A s.heap H locs → lv_has ls 6 [(0, .ref (ad 0)), (3, .int v3), (4, .int v4)] → W p l e (headSpec wsX6_tripped ({ frames := 2, cells := 0, slots := 0, locals := 51 })).room s m ([.ref (ad 0), .int p1] : List Value).toArray below meth c H locs 0 0 (MQ below (va_Qi (fun x y => x = r ∧ y = u') (sg_BX D (sg_WM cA ad) A) A) ([.ref (ad 0), .int p1] : List Value).toArray s 0 0 A) (F0 m 81 ls []) := by
      intro v3 v4 H locs ls hf hP hD hS hl
      unfold fX6_tripped_j81 at hf
      refine lv_iload hx hb dX6_tripped_81 (lv_at hl 2 rfl) ?_
      refine lv_istore_n (lv' := [(2, .int v4), (0, .ref (ad 0)), (3, .int v3), (4, .int v4)]) hx hb dX6_tripped_83 rfl hl (by decide) rfl (fun ls hl => ?_)
      refine lv_iinc (v := v3 + 1) (lv' := [(3, .int (v3 + 1)), (2, .int v4), (0, .ref (ad 0)), (4, .int v4)]) hx hb dX6_tripped_84 hl (k := 2) rfl rfl (by decide) rfl (fun ls hl => ?_)
      refine lv_goto (tgt := 15) hx hb dX6_tripped_87 (by decide) ?_
      exact hI _ (Option.some.inj hf).symm _ _ _ hP hD hS (lv_sub hl [2, 1, 0] rfl) hk
    have hJ55 : ∀ (v2 v3 v4 k0 : Int32) (H : Heap) (locs : List Loc) (ls : Array Slot), fX6_tripped_j55 N u v2 v3 v4 k0 = some y → va_P D vwCl (sg_WM cA ad u) H → va_D A (sg_WM cA ad u) → va_S A s.heap H locs → lv_has ls 6 [(0, .ref (ad 0)), (2, .int v2), (3, .int v3), (4, .int v4)] → W p l e (headSpec wsX6_tripped ({ frames := 2, cells := 0, slots := 0, locals := 51 })).room s m ([.ref (ad 0), .int p1] : List Value).toArray below meth c H locs 0 0 (MQ below (va_Qi (fun x y => x = r ∧ y = u') (sg_BX D (sg_WM cA ad) A) A) ([.ref (ad 0), .int p1] : List Value).toArray s 0 0 A) (F0 m 55 ls [.int k0]) := by
      intro v2 v3 v4 k0 H locs ls hf hP hD hS hl
      unfold fX6_tripped_j55 at hf
      refine lv_istore (lv' := [(5, .int k0), (0, .ref (ad 0)), (2, .int v2), (3, .int v3), (4, .int v4)]) hx hb dX6_tripped_55 hl (by decide) rfl (fun ls hl => ?_)
      refine lv_iload hx hb dX6_tripped_57 (lv_at hl 0 rfl) ?_
      refine lv_iconst (v := (-1)) hx hb dX6_tripped_59 (by decide) ?_
      refine lv_icmp_eq (tgt := 84) hx hb dX6_tripped_60 (by decide) (fun c9 => ?_) (fun c9 => ?_)
      · have hf := sg_ip c9 hf
        refine lv_iinc (v := v3 + 1) (lv' := [(3, .int (v3 + 1)), (5, .int k0), (0, .ref (ad 0)), (2, .int v2), (4, .int v4)]) hx hb dX6_tripped_84 hl (k := 3) rfl rfl (by decide) rfl (fun ls hl => ?_)
        refine lv_goto (tgt := 15) hx hb dX6_tripped_87 (by decide) ?_
        exact hI _ (Option.some.inj hf).symm _ _ _ hP hD hS (lv_sub hl [2, 3, 0] rfl) hk
      · have hf := sg_in c9 hf
        refine lv_iload_n hx hb dX6_tripped_63 rfl (lv_at hl 2 rfl) ?_
        refine lv_if_lt (tgt := 81) hx hb dX6_tripped_64 (by decide) (fun c8 => ?_) (fun c8 => ?_)
        · have hf := sg_ip c8 hf
          exact hJ81 _ _ _ _ _ hf hP hD hS (lv_sub hl [1, 3, 4] rfl)
        · have hf := sg_in c8 hf
          refine lv_iload hx hb dX6_tripped_67 (lv_at hl 0 rfl) ?_
          refine lv_aload_n hx hb dX6_tripped_69 rfl (lv_at hl 1 rfl) ?_
          refine lv_iload_n hx hb dX6_tripped_70 rfl (lv_at hl 2 rfl) ?_
          refine lv_aload_n hx hb dX6_tripped_71 rfl (lv_at hl 1 rfl) ?_
          obtain ⟨r2, hc1, hf⟩ := sg_b_s hf
          refine sg_ci (va_runV (As := []) (rest := [.int v2, .ref (ad 0), .int k0]) ⟨hx, hb, hml, hown, hts⟩ (c_X6_drawn l D cA ad N _ _ hc1 _) (cwV 0 hts gX6_tripped_X6_drawn rfl rfl rfl (by decide +kernel) ⟨Nat.le_of_ble_eq_true rfl, Nat.le_of_ble_eq_true rfl⟩) (sg_pre hK hP hD (ci := 8) (q0 := 0) rfl rfl) rfl rfl hl.1 rfl (lv_room (Nat.le_of_ble_eq_true rfl)) dX6_tripped_72 ⟨Nat.zero_le _, Nat.zero_le _⟩) hD hS hA (fun H locs hP hD hS => ?_)
          obtain ⟨r5, hc4, hf⟩ := sg_b_s hf
          refine sg_ci (va_runV (As := [.int v2, .int r2]) (rest := [.int k0]) ⟨hx, hb, hml, hown, hts⟩ (c_X6_time l D cA ad N _ _ _ _ hc4 _) (cwV 2 hts gX6_tripped_X6_time rfl rfl rfl (by decide +kernel) ⟨Nat.le_of_ble_eq_true rfl, Nat.le_of_ble_eq_true rfl⟩) (sg_pre hK hP hD (ci := 8) (q0 := 0) rfl rfl) rfl rfl hl.1 rfl (lv_room (Nat.le_of_ble_eq_true rfl)) dX6_tripped_75 ⟨Nat.zero_le _, Nat.zero_le _⟩) hD hS hA (fun H locs hP hD hS => ?_)
          refine lv_icmp_gt (tgt := 84) hx hb dX6_tripped_78 (by decide) (fun c7 => ?_) (fun c7 => ?_)
          · have hf := sg_ip c7 hf
            refine lv_iinc (v := v3 + 1) (lv' := [(3, .int (v3 + 1)), (5, .int k0), (0, .ref (ad 0)), (2, .int v2), (4, .int v4)]) hx hb dX6_tripped_84 hl (k := 3) rfl rfl (by decide) rfl (fun ls hl => ?_)
            refine lv_goto (tgt := 15) hx hb dX6_tripped_87 (by decide) ?_
            exact hI _ (Option.some.inj hf).symm _ _ _ hP hD hS (lv_sub hl [2, 3, 0] rfl) hk
          · have hf := sg_in c7 hf
            exact hJ81 _ _ _ _ _ hf hP hD hS (lv_sub hl [1, 3, 4] rfl)
    unfold fX6_tripped_L15 at hf
    refine lv_iload_n hx hb dX6_tripped_15 rfl (lv_at hl 2 rfl) ?_
    refine lv_aload_n hx hb dX6_tripped_16 rfl (lv_at hl 0 rfl) ?_
    refine va_get (D := D) (ci := 8) (C := RX6) (T := TX6) (N := 27) hx hb hts hinX6 hown hK.1 hP 0 rfl rfl 21 (by decide) (hts (.fieldLink RX6 127 "SwitchgearModel" "far" "I") (by decide +kernel)) (fun _ h9 => h9) rfl dX6_tripped_17 ?_
    refine lv_icmp_ge (tgt := 90) hx hb dX6_tripped_20 (by decide) (fun c10 => ?_) (fun c10 => ?_)
    · have hf := sg_ip c10 hf
      have hq := hy _ (Option.some.inj hf).symm
      subst hq
      exact hk _ _ _ hP hD hS (lv_sub hl [0, 1] rfl)
    · have hf := sg_in c10 hf
      refine lv_aload_n hx hb dX6_tripped_23 rfl (lv_at hl 0 rfl) ?_
      refine va_get (D := D) (ci := 8) (C := RX6) (T := TX6) (N := 27) hx hb hts hinX6 hown hK.1 hP 0 rfl rfl 19 (by decide) (hts (.fieldLink RX6 56 "SwitchgearModel" "path" "[I") (by decide +kernel)) (fun _ h9 => h9) rfl dX6_tripped_24 ?_
      refine lv_iload_n hx hb dX6_tripped_27 rfl (lv_at hl 2 rfl) ?_
      obtain ⟨hg1, hf⟩ := sg_g_s hf
      refine va_iald hx hb hK.1 hP 16 0 rfl rfl (sg_inb_s hg1) dX6_tripped_28 ?_
      refine lv_istore (lv' := [(4, .int (u 23 (x.2).toNatClampNeg)), (0, .ref (ad 0)), (2, .int x.1), (3, .int x.2)]) hx hb dX6_tripped_29 hl (by decide) rfl (fun ls hl => ?_)
      refine lv_aload_n hx hb dX6_tripped_31 rfl (lv_at hl 1 rfl) ?_
      refine va_get (D := D) (ci := 8) (C := RX6) (T := TX6) (N := 27) hx hb hts hinX6 hown hK.1 hP 0 rfl rfl 14 (by decide) (hts (.fieldLink RX6 41 "SwitchgearModel" "isBreaker" "[Z") (by decide +kernel)) (fun _ h9 => h9) rfl dX6_tripped_32 ?_
      refine lv_iload hx hb dX6_tripped_35 (lv_at hl 0 rfl) ?_
      obtain ⟨hg2, hf⟩ := sg_g_s hf
      refine va_zald hx hb hK.1 hP 11 1 rfl rfl (sg_inb_s hg2) dX6_tripped_37 ?_
      refine lv_if_eq (tgt := 54) hx hb dX6_tripped_38 (by decide) (fun c9 => ?_) (fun c9 => ?_)
      · have hf := sg_ip c9 hf
        refine lv_iconst (v := (-1)) hx hb dX6_tripped_54 (by decide) ?_
        exact hJ55 _ _ _ _ _ _ _ hf hP hD hS (lv_sub hl [1, 2, 3, 0] rfl)
      · have hf := sg_in c9 hf
        refine lv_aload_n hx hb dX6_tripped_41 rfl (lv_at hl 1 rfl) ?_
        refine lv_iload hx hb dX6_tripped_42 (lv_at hl 0 rfl) ?_
        refine lv_aload_n hx hb dX6_tripped_44 rfl (lv_at hl 1 rfl) ?_
        obtain ⟨r4, hc3, hf⟩ := sg_b_s hf
        refine sg_ci (va_runV (As := []) (rest := [.int (u 23 (x.2).toNatClampNeg), .ref (ad 0)]) ⟨hx, hb, hml, hown, hts⟩ (c_X6_drawn l D cA ad N _ _ hc3 _) (cwV 0 hts gX6_tripped_X6_drawn rfl rfl rfl (by decide +kernel) ⟨Nat.le_of_ble_eq_true rfl, Nat.le_of_ble_eq_true rfl⟩) (sg_pre hK hP hD (ci := 8) (q0 := 0) rfl rfl) rfl rfl hl.1 rfl (lv_room (Nat.le_of_ble_eq_true rfl)) dX6_tripped_45 ⟨Nat.zero_le _, Nat.zero_le _⟩) hD hS hA (fun H locs hP hD hS => ?_)
        obtain ⟨r7, hc6, hf⟩ := sg_b_s hf
        refine sg_ci (va_runV (As := [.int (u 23 (x.2).toNatClampNeg), .int r4]) (rest := []) ⟨hx, hb, hml, hown, hts⟩ (c_X6_time l D cA ad N _ _ _ _ hc6 _) (cwV 2 hts gX6_tripped_X6_time rfl rfl rfl (by decide +kernel) ⟨Nat.le_of_ble_eq_true rfl, Nat.le_of_ble_eq_true rfl⟩) (sg_pre hK hP hD (ci := 8) (q0 := 0) rfl rfl) rfl rfl hl.1 rfl (lv_room (Nat.le_of_ble_eq_true rfl)) dX6_tripped_48 ⟨Nat.zero_le _, Nat.zero_le _⟩) hD hS hA (fun H locs hP hD hS => ?_)
        refine lv_goto (tgt := 55) hx hb dX6_tripped_51 (by decide) ?_
        exact hJ55 _ _ _ _ _ _ _ hf hP hD hS (lv_sub hl [1, 2, 3, 0] rfl)
  unfold fX6_tripped at hf
  refine lv_aload_n hx hb dX6_tripped_0 rfl (lv_at hl 0 rfl) ?_
  refine lv_iload_n hx hb dX6_tripped_1 rfl (lv_at hl 1 rfl) ?_
  obtain ⟨r2, u3, hc1, hf⟩ := sg_b2_s hf
  refine sg_ci (va_runV (As := [.int p1]) (rest := []) ⟨hx, hb, hml, hown, hts⟩ (c_X6_finds l D cA ad N _ _ _ _ hc1 _) (cwV 1 hts gX6_tripped_X6_finds rfl rfl rfl (by decide +kernel) ⟨Nat.le_of_ble_eq_true rfl, Nat.le_of_ble_eq_true rfl⟩) (sg_pre hK hP hD (ci := 8) (q0 := 0) rfl rfl) rfl rfl hl.1 rfl (lv_room (Nat.le_of_ble_eq_true rfl)) dX6_tripped_2 ⟨Nat.zero_le _, Nat.zero_le _⟩) hD hS hA (fun H locs hP hD hS => ?_)
  refine lv_if_ne (tgt := 10) hx hb dX6_tripped_5 (by decide) (fun c6 => ?_) (fun c6 => ?_)
  · have hf := sg_in c6 hf
    refine lv_bipush (v := (-2)) hx hb dX6_tripped_10 (by decide) ?_
    refine lv_istore_n (lv' := [(2, .int ((-2))), (0, .ref (ad 0)), (1, .int p1)]) hx hb dX6_tripped_12 rfl hl (by decide) rfl (fun ls hl => ?_)
    refine lv_iconst (v := 0) hx hb dX6_tripped_13 (by decide) ?_
    refine lv_istore_n (lv' := [(3, .int 0), (2, .int ((-2))), (0, .ref (ad 0)), (1, .int p1)]) hx hb dX6_tripped_14 rfl hl (by decide) rfl (fun ls hl => ?_)
    obtain ⟨e4, hc5, hf⟩ := sg_b_s hf
    refine hL15 _ _ _ e4 hc5 _ _ _ hP hD hS (lv_sub hl [2, 1, 0] rfl) (fun H locs ls hP hD hS hl => ?_)
    refine lv_iload_n hx hb dX6_tripped_90 rfl (lv_at hl 1 rfl) ?_
    have hq := Option.some.inj hf
    exact sg_iret hx hb hr hP hD hS dX6_tripped_91 (congrArg Prod.fst hq) (congrArg Prod.snd hq) hlocks
  · have hf := sg_ip c6 hf
    refine lv_iconst (v := (-1)) hx hb dX6_tripped_8 (by decide) ?_
    have hq := Option.some.inj hf
    exact sg_iret hx hb hr hP hD hS dX6_tripped_9 (congrArg Prod.fst hq) (congrArg Prod.snd hq) hlocks
set_option maxRecDepth 100000 in
set_option maxHeartbeats 4000000 in
theorem c_X6_locks (l : Launch) (D : va_G) (cA : Nat → ClassId) (ad : Nat → Nat) (N : Nat) (u : sg_St) (p1 : Int32) (u' : sg_St) (hf : fX6_locks N u p1 = some u') : sg_CV l D cA (sg_WM cA ad) yX6_locks wsX6_locks ({ frames := 0, cells := 0, slots := 0, locals := 0 }) [.ref (ad 0), .int p1] u u' := by
  intro sz
  refine Met.ofW (cc := cX6_locks) (maxL := 2) (ret := none) (by decide) rfl ?_
  intro p e s m args below meth c s₁ B hml hv
  obtain ⟨rfl, hsz, hP, hK, hD0⟩ := hv
  have hx := B.exec
  have hb := B.bytes
  have hr := B.returns
  have hts := atoms_spec (ws := wsX6_locks) B.pre
  have hown : s.vm.findClass RX6 = some m.cls := findClass_of_methodNamed B.named
  have hlocks := B.notSynchronized
  subst hsz
  have hD := hD0.self (sz := s.heap.size)
  generalize hAe : va_A (sg_WM cA ad u) s.heap.size = A at hD ⊢
  have hA : ∀ q : Nat, s.heap.size ≤ q → A q := fun q h => by rw [← hAe]; exact Or.inr h
  have hS : va_S A s.heap s.heap [] := va_S.rf
  have hl := lv_entry ([.ref (ad 0), .int p1]) (n := 2) (Nat.le_of_ble_eq_true rfl)
  rw [lg_entry_eq]
  generalize (lg_sl ([.ref (ad 0), .int p1]) ++ List.replicate (2 - (lg_sl ([.ref (ad 0), .int p1])).length) Slot.unset).toArray = ls at hl ⊢
  replace hl : lv_has ls 2 [(0, .ref (ad 0)), (1, .int p1)] := hl
  have hinX6 : ∀ w ∈ u_ws RX6 TX6 27, w ∈ wsX6_locks := by decide +kernel
  unfold fX6_locks at hf
  refine lv_aload_n hx hb dX6_locks_0 rfl (lv_at hl 0 rfl) ?_
  refine va_get (D := D) (ci := 8) (C := RX6) (T := TX6) (N := 27) hx hb hts hinX6 hown hK.1 hP 0 rfl rfl 15 (by decide) (hts (.fieldLink RX6 44 "SwitchgearModel" "isClosed" "[Z") (by decide +kernel)) (fun _ h9 => h9) rfl dX6_locks_1 ?_
  refine lv_iload_n hx hb dX6_locks_4 rfl (lv_at hl 1 rfl) ?_
  refine lv_iconst (v := 0) hx hb dX6_locks_5 (by decide) ?_
  obtain ⟨hg1, hf⟩ := sg_g_s hf
  refine va_zast hx hb hK.1 hP hD hS 12 1 rfl rfl (sg_inb_s hg1) dX6_locks_6 (fun H locs hP hD hS => ?_)
  replace hP : va_P D vwCl (sg_WM cA ad (sg_set u 19 (p1).toNatClampNeg (vp_nar .boolean 0))) H := by rw [← sg_WM_19]; exact hP
  replace hD : va_D A (sg_WM cA ad (sg_set u 19 (p1).toNatClampNeg (vp_nar .boolean 0))) := by rw [← sg_WM_19]; exact hD
  refine lv_aload_n hx hb dX6_locks_7 rfl (lv_at hl 0 rfl) ?_
  refine va_get (D := D) (ci := 8) (C := RX6) (T := TX6) (N := 27) hx hb hts hinX6 hown hK.1 hP 0 rfl rfl 16 (by decide) (hts (.fieldLink RX6 47 "SwitchgearModel" "isLocked" "[Z") (by decide +kernel)) (fun _ h9 => h9) rfl dX6_locks_8 ?_
  refine lv_iload_n hx hb dX6_locks_11 rfl (lv_at hl 1 rfl) ?_
  refine lv_iconst (v := 1) hx hb dX6_locks_12 (by decide) ?_
  obtain ⟨hg2, hf⟩ := sg_g_s hf
  refine va_zast hx hb hK.1 hP hD hS 13 1 rfl rfl (sg_inb_s hg2) dX6_locks_13 (fun H locs hP hD hS => ?_)
  replace hP : va_P D vwCl (sg_WM cA ad (sg_set (sg_set u 19 (p1).toNatClampNeg (vp_nar .boolean 0)) 20 (p1).toNatClampNeg (vp_nar .boolean 1))) H := by rw [← sg_WM_20]; exact hP
  replace hD : va_D A (sg_WM cA ad (sg_set (sg_set u 19 (p1).toNatClampNeg (vp_nar .boolean 0)) 20 (p1).toNatClampNeg (vp_nar .boolean 1))) := by rw [← sg_WM_20]; exact hD
  have hq := Option.some.inj hf
  exact sg_vret hx hb hr hP hD hS dX6_locks_14 hq hlocks
set_option maxRecDepth 100000 in
set_option maxHeartbeats 4000000 in
theorem c_X6_fault (l : Launch) (D : va_G) (cA : Nat → ClassId) (ad : Nat → Nat) (N : Nat) (u : sg_St) (p1 : Int32) (r : Int32) (u' : sg_St) (hf : fX6_fault N u p1 = some (r, u')) : sg_CI l D cA (sg_WM cA ad) yX6_fault wsX6_fault ({ frames := 3, cells := 0, slots := 0, locals := 76 }) [.ref (ad 0), .int p1] u r u' := by
  intro sz
  refine Met.ofW (cc := cX6_fault) (maxL := 5) (ret := (some .int)) (by decide) rfl ?_
  intro p e s m args below meth c s₁ B hml hv
  obtain ⟨rfl, hsz, hP, hK, hD0⟩ := hv
  have hx := B.exec
  have hb := B.bytes
  have hr := B.returns
  have hts := atoms_spec (ws := wsX6_fault) B.pre
  have hown : s.vm.findClass RX6 = some m.cls := findClass_of_methodNamed B.named
  have hlocks := B.notSynchronized
  subst hsz
  have hD := hD0.self (sz := s.heap.size)
  generalize hAe : va_A (sg_WM cA ad u) s.heap.size = A at hD ⊢
  have hA : ∀ q : Nat, s.heap.size ≤ q → A q := fun q h => by rw [← hAe]; exact Or.inr h
  have hS : va_S A s.heap s.heap [] := va_S.rf
  have hl := lv_entry ([.ref (ad 0), .int p1]) (n := 5) (Nat.le_of_ble_eq_true rfl)
  rw [lg_entry_eq]
  generalize (lg_sl ([.ref (ad 0), .int p1]) ++ List.replicate (5 - (lg_sl ([.ref (ad 0), .int p1])).length) Slot.unset).toArray = ls at hl ⊢
  replace hl : lv_has ls 5 [(0, .ref (ad 0)), (1, .int p1)] := hl
  have hinX6 : ∀ w ∈ u_ws RX6 TX6 27, w ∈ wsX6_fault := by decide +kernel
  have hL56 : ∀ (v2 v3 : Int32) (n : Nat) (x : sg_St × Int32) (r9 : sg_St), sg_it (fun x => fX6_fault_L56 N x.1 v2 v3 x.2) n x = some r9 → ∀ (H : Heap) (locs : List Loc) (ls : Array Slot), va_P D vwCl (sg_WM cA ad x.1) H → va_D A (sg_WM cA ad x.1) → va_S A s.heap H locs → lv_has ls 5 [(0, .ref (ad 0)), (2, .int v2), (3, .int v3), (4, .int x.2)] → (∀ (H : Heap) (locs : List Loc) (ls : Array Slot), va_P D vwCl (sg_WM cA ad r9) H → va_D A (sg_WM cA ad r9) → va_S A s.heap H locs → lv_has ls 5 [(0, .ref (ad 0)), (2, .int v2)] → W p l e (headSpec wsX6_fault ({ frames := 3, cells := 0, slots := 0, locals := 76 })).room s m ([.ref (ad 0), .int p1] : List Value).toArray below meth c H locs 0 0 (MQ below (va_Qi (fun x y => x = r ∧ y = u') (sg_BX D (sg_WM cA ad) A) A) ([.ref (ad 0), .int p1] : List Value).toArray s 0 0 A) (F0 m 109 ls [])) → W p l e (headSpec wsX6_fault ({ frames := 3, cells := 0, slots := 0, locals := 76 })).room s m ([.ref (ad 0), .int p1] : List Value).toArray below meth c H locs 0 0 (MQ below (va_Qi (fun x y => x = r ∧ y = u') (sg_BX D (sg_WM cA ad) A) A) ([.ref (ad 0), .int p1] : List Value).toArray s 0 0 A) (F0 m 56 ls []) := by
    intro v2 v3
    refine sg_loop _ ?_
    intro x y r9 hf hI hy H locs ls hP hD hS hl hk
    replace hf : fX6_fault_L56 N x.1 v2 v3 x.2 = some y := hf
    have hJ97 : ∀ (u : sg_St) (v4 : Int32) (H : Heap) (locs : List Loc) (ls : Array Slot), fX6_fault_j97 N u v2 v3 v4 = some y → va_P D vwCl (sg_WM cA ad u) H → va_D A (sg_WM cA ad u) → va_S A s.heap H locs → lv_has ls 5 [(0, .ref (ad 0)), (2, .int v2), (3, .int v3), (4, .int v4)] → W p l e (headSpec wsX6_fault ({ frames := 3, cells := 0, slots := 0, locals := 76 })).room s m ([.ref (ad 0), .int p1] : List Value).toArray below meth c H locs 0 0 (MQ below (va_Qi (fun x y => x = r ∧ y = u') (sg_BX D (sg_WM cA ad) A) A) ([.ref (ad 0), .int p1] : List Value).toArray s 0 0 A) (F0 m 97 ls []) := by
      intro u v4 H locs ls hf hP hD hS hl
      unfold fX6_fault_j97 at hf
      refine lv_aload_n hx hb dX6_fault_97 rfl (lv_at hl 0 rfl) ?_
      refine lv_iload hx hb dX6_fault_98 (lv_at hl 3 rfl) ?_
      obtain ⟨u3, hc1, hf⟩ := sg_b_s hf
      refine sg_cv (va_runV (As := [.int v4]) (rest := []) ⟨hx, hb, hml, hown, hts⟩ (c_X6_locks l D cA ad N _ _ _ hc1 _) (cwV 1 hts gX6_fault_X6_locks rfl rfl rfl (by decide +kernel) ⟨Nat.le_of_ble_eq_true rfl, Nat.le_of_ble_eq_true rfl⟩) (sg_pre hK hP hD (ci := 8) (q0 := 0) rfl rfl) rfl rfl hl.1 rfl (lv_room (Nat.le_of_ble_eq_true rfl)) dX6_fault_100 ⟨Nat.zero_le _, Nat.zero_le _⟩) hD hS hA (fun H locs hP hD hS => ?_)
      refine lv_iinc (v := v4 + 1) (lv' := [(4, .int (v4 + 1)), (0, .ref (ad 0)), (2, .int v2), (3, .int v3)]) hx hb dX6_fault_103 hl (k := 3) rfl rfl (by decide) rfl (fun ls hl => ?_)
      refine lv_goto (tgt := 56) hx hb dX6_fault_106 (by decide) ?_
      exact hI _ (Option.some.inj hf).symm _ _ _ hP hD hS (lv_sub hl [1, 2, 3, 0] rfl) hk
    unfold fX6_fault_L56 at hf
    refine lv_iload hx hb dX6_fault_56 (lv_at hl 3 rfl) ?_
    refine lv_aload_n hx hb dX6_fault_58 rfl (lv_at hl 0 rfl) ?_
    refine va_get (D := D) (ci := 8) (C := RX6) (T := TX6) (N := 27) hx hb hts hinX6 hown hK.1 hP 0 rfl rfl 2 (by decide) (hts (.fieldLink RX6 79 "SwitchgearModel" "lines" "I") (by decide +kernel)) (fun _ h9 => h9) rfl dX6_fault_59 ?_
    refine lv_icmp_ge (tgt := 109) hx hb dX6_fault_62 (by decide) (fun c7 => ?_) (fun c7 => ?_)
    · have hf := sg_ip c7 hf
      have hq := hy _ (Option.some.inj hf).symm
      subst hq
      exact hk _ _ _ hP hD hS (lv_sub hl [0, 1] rfl)
    · have hf := sg_in c7 hf
      refine lv_aload_n hx hb dX6_fault_65 rfl (lv_at hl 0 rfl) ?_
      refine va_get (D := D) (ci := 8) (C := RX6) (T := TX6) (N := 27) hx hb hts hinX6 hown hK.1 hP 0 rfl rfl 15 (by decide) (hts (.fieldLink RX6 44 "SwitchgearModel" "isClosed" "[Z") (by decide +kernel)) (fun _ h9 => h9) rfl dX6_fault_66 ?_
      refine lv_iload hx hb dX6_fault_69 (lv_at hl 3 rfl) ?_
      obtain ⟨hg1, hf⟩ := sg_g_s hf
      refine va_zald hx hb hK.1 hP 12 1 rfl rfl (sg_inb_s hg1) dX6_fault_71 ?_
      refine lv_if_eq (tgt := 103) hx hb dX6_fault_72 (by decide) (fun c6 => ?_) (fun c6 => ?_)
      · have hf := sg_ip c6 hf
        refine lv_iinc (v := x.2 + 1) (lv' := [(4, .int (x.2 + 1)), (0, .ref (ad 0)), (2, .int v2), (3, .int v3)]) hx hb dX6_fault_103 hl (k := 3) rfl rfl (by decide) rfl (fun ls hl => ?_)
        refine lv_goto (tgt := 56) hx hb dX6_fault_106 (by decide) ?_
        exact hI _ (Option.some.inj hf).symm _ _ _ hP hD hS (lv_sub hl [1, 2, 3, 0] rfl) hk
      · have hf := sg_in c6 hf
        refine lv_aload_n hx hb dX6_fault_75 rfl (lv_at hl 0 rfl) ?_
        refine va_get (D := D) (ci := 8) (C := RX6) (T := TX6) (N := 27) hx hb hts hinX6 hown hK.1 hP 0 rfl rfl 8 (by decide) (hts (.fieldLink RX6 23 "SwitchgearModel" "one" "[I") (by decide +kernel)) (fun _ h9 => h9) rfl dX6_fault_76 ?_
        refine lv_iload hx hb dX6_fault_79 (lv_at hl 3 rfl) ?_
        obtain ⟨hg2, hf⟩ := sg_g_s hf
        refine va_iald hx hb hK.1 hP 5 0 rfl rfl (sg_inb_s hg2) dX6_fault_81 ?_
        refine lv_iload_n hx hb dX6_fault_82 rfl (lv_at hl 2 rfl) ?_
        refine lv_icmp_eq (tgt := 97) hx hb dX6_fault_83 (by decide) (fun c5 => ?_) (fun c5 => ?_)
        · have hf := sg_ip c5 hf
          exact hJ97 _ _ _ _ _ hf hP hD hS (lv_sub hl [0, 1, 2, 3] rfl)
        · have hf := sg_in c5 hf
          refine lv_aload_n hx hb dX6_fault_86 rfl (lv_at hl 0 rfl) ?_
          refine va_get (D := D) (ci := 8) (C := RX6) (T := TX6) (N := 27) hx hb hts hinX6 hown hK.1 hP 0 rfl rfl 9 (by decide) (hts (.fieldLink RX6 26 "SwitchgearModel" "other" "[I") (by decide +kernel)) (fun _ h9 => h9) rfl dX6_fault_87 ?_
          refine lv_iload hx hb dX6_fault_90 (lv_at hl 3 rfl) ?_
          obtain ⟨hg3, hf⟩ := sg_g_s hf
          refine va_iald hx hb hK.1 hP 6 0 rfl rfl (sg_inb_s hg3) dX6_fault_92 ?_
          refine lv_iload_n hx hb dX6_fault_93 rfl (lv_at hl 2 rfl) ?_
          refine lv_icmp_ne (tgt := 103) hx hb dX6_fault_94 (by decide) (fun c4 => ?_) (fun c4 => ?_)
          · have hf := sg_in c4 hf
            refine lv_iinc (v := x.2 + 1) (lv' := [(4, .int (x.2 + 1)), (0, .ref (ad 0)), (2, .int v2), (3, .int v3)]) hx hb dX6_fault_103 hl (k := 3) rfl rfl (by decide) rfl (fun ls hl => ?_)
            refine lv_goto (tgt := 56) hx hb dX6_fault_106 (by decide) ?_
            exact hI _ (Option.some.inj hf).symm _ _ _ hP hD hS (lv_sub hl [1, 2, 3, 0] rfl) hk
          · have hf := sg_ip c4 hf
            exact hJ97 _ _ _ _ _ hf hP hD hS (lv_sub hl [0, 1, 2, 3] rfl)
  have hJ109 : ∀ (u : sg_St) (v2 : Int32) (H : Heap) (locs : List Loc) (ls : Array Slot), fX6_fault_j109 N u v2 = some (r, u') → va_P D vwCl (sg_WM cA ad u) H → va_D A (sg_WM cA ad u) → va_S A s.heap H locs → lv_has ls 5 [(0, .ref (ad 0)), (2, .int v2)] → W p l e (headSpec wsX6_fault ({ frames := 3, cells := 0, slots := 0, locals := 76 })).room s m ([.ref (ad 0), .int p1] : List Value).toArray below meth c H locs 0 0 (MQ below (va_Qi (fun x y => x = r ∧ y = u') (sg_BX D (sg_WM cA ad) A) A) ([.ref (ad 0), .int p1] : List Value).toArray s 0 0 A) (F0 m 109 ls []) := by
    intro u v2 H locs ls hf hP hD hS hl
    unfold fX6_fault_j109 at hf
    refine lv_iload_n hx hb dX6_fault_109 rfl (lv_at hl 1 rfl) ?_
    refine lv_if_lt (tgt := 128) hx hb dX6_fault_110 (by decide) (fun c4 => ?_) (fun c4 => ?_)
    · have hf := sg_ip c4 hf
      refine lv_iload_n hx hb dX6_fault_128 rfl (lv_at hl 1 rfl) ?_
      have hq := Option.some.inj hf
      exact sg_iret hx hb hr hP hD hS dX6_fault_129 (congrArg Prod.fst hq) (congrArg Prod.snd hq) hlocks
    · have hf := sg_in c4 hf
      refine lv_aload_n hx hb dX6_fault_113 rfl (lv_at hl 0 rfl) ?_
      refine lv_iload_n hx hb dX6_fault_114 rfl (lv_at hl 1 rfl) ?_
      obtain ⟨u3, hc1, hf⟩ := sg_b_s hf
      refine sg_cv (va_runV (As := [.int v2]) (rest := []) ⟨hx, hb, hml, hown, hts⟩ (c_X6_locks l D cA ad N _ _ _ hc1 _) (cwV 1 hts gX6_fault_X6_locks rfl rfl rfl (by decide +kernel) ⟨Nat.le_of_ble_eq_true rfl, Nat.le_of_ble_eq_true rfl⟩) (sg_pre hK hP hD (ci := 8) (q0 := 0) rfl rfl) rfl rfl hl.1 rfl (lv_room (Nat.le_of_ble_eq_true rfl)) dX6_fault_115 ⟨Nat.zero_le _, Nat.zero_le _⟩) hD hS hA (fun H locs hP hD hS => ?_)
      refine lv_aload_n hx hb dX6_fault_118 rfl (lv_at hl 0 rfl) ?_
      refine lv_dup hx hb dX6_fault_119 rfl ?_
      refine va_get (D := D) (ci := 8) (C := RX6) (T := TX6) (N := 27) hx hb hts hinX6 hown hK.1 hP 0 rfl rfl 3 (by decide) (hts (.fieldLink RX6 150 "SwitchgearModel" "trips" "I") (by decide +kernel)) (fun _ h9 => h9) rfl dX6_fault_120 ?_
      refine lv_iconst (v := 1) hx hb dX6_fault_123 (by decide) ?_
      refine lv_iadd hx hb dX6_fault_124 ?_
      refine va_put (D := D) (ci := 8) (v := .int ((u3 3 0) + 1)) (ty := .int) (C := RX6) (T := TX6) (N := 27) hx hb hts hinX6 tyX6 tyX6_ok nmX6 hown hK.1 hP hD hS 0 rfl rfl 3 (by decide) (hts (.fieldLink RX6 150 "SwitchgearModel" "trips" "I") (by decide +kernel)) (fun _ h9 => h9) rfl (by decide +kernel) rfl rfl (Nat.le_of_ble_eq_true rfl) dX6_fault_125 (fun H locs hP hD hS => ?_)
      replace hP : va_P D vwCl (sg_WM cA ad (sg_set u3 3 0 ((u3 3 0) + 1))) H := by rw [← sg_WM_3]; exact hP
      replace hD : va_D A (sg_WM cA ad (sg_set u3 3 0 ((u3 3 0) + 1))) := by rw [← sg_WM_3]; exact hD
      refine lv_iload_n hx hb dX6_fault_128 rfl (lv_at hl 1 rfl) ?_
      have hq := Option.some.inj hf
      exact sg_iret hx hb hr hP hD hS dX6_fault_129 (congrArg Prod.fst hq) (congrArg Prod.snd hq) hlocks
  unfold fX6_fault at hf
  refine lv_aload_n hx hb dX6_fault_0 rfl (lv_at hl 0 rfl) ?_
  refine lv_aload_n hx hb dX6_fault_1 rfl (lv_at hl 0 rfl) ?_
  refine lv_iload_n hx hb dX6_fault_2 rfl (lv_at hl 1 rfl) ?_
  obtain ⟨r2, hc1, hf⟩ := sg_b_s hf
  refine sg_ci (va_runV (As := [.int p1]) (rest := [.ref (ad 0)]) ⟨hx, hb, hml, hown, hts⟩ (c_X6_isLine l D cA ad N _ _ _ hc1 _) (cwV 1 hts gX6_fault_X6_isLine rfl rfl rfl (by decide +kernel) ⟨Nat.le_of_ble_eq_true rfl, Nat.le_of_ble_eq_true rfl⟩) (sg_pre hK hP hD (ci := 8) (q0 := 0) rfl rfl) rfl rfl hl.1 rfl (lv_room (Nat.le_of_ble_eq_true rfl)) dX6_fault_3 ⟨Nat.zero_le _, Nat.zero_le _⟩) hD hS hA (fun H locs hP hD hS => ?_)
  obtain ⟨r5, u6, hc4, hf⟩ := sg_b2_s hf
  refine sg_ci (va_runV (As := [.int r2]) (rest := []) ⟨hx, hb, hml, hown, hts⟩ (c_X6_isThere l D cA ad N _ _ _ _ hc4 _) (cwV 1 hts gX6_fault_X6_isThere rfl rfl rfl (by decide +kernel) ⟨Nat.le_of_ble_eq_true rfl, Nat.le_of_ble_eq_true rfl⟩) (sg_pre hK hP hD (ci := 8) (q0 := 0) rfl rfl) rfl rfl hl.1 rfl (lv_room (Nat.le_of_ble_eq_true rfl)) dX6_fault_6 ⟨Nat.zero_le _, Nat.zero_le _⟩) hD hS hA (fun H locs hP hD hS => ?_)
  refine lv_if_ne (tgt := 14) hx hb dX6_fault_9 (by decide) (fun c26 => ?_) (fun c26 => ?_)
  · have hf := sg_in c26 hf
    refine lv_aload_n hx hb dX6_fault_14 rfl (lv_at hl 0 rfl) ?_
    refine va_get (D := D) (ci := 8) (C := RX6) (T := TX6) (N := 27) hx hb hts hinX6 hown hK.1 hP 0 rfl rfl 17 (by decide) (hts (.fieldLink RX6 50 "SwitchgearModel" "isFaulty" "[Z") (by decide +kernel)) (fun _ h9 => h9) rfl dX6_fault_15 ?_
    refine lv_iload_n hx hb dX6_fault_18 rfl (lv_at hl 1 rfl) ?_
    obtain ⟨hg7, hf⟩ := sg_g_s hf
    refine va_zald hx hb hK.1 hP 14 1 rfl rfl (sg_inb_s hg7) dX6_fault_19 ?_
    refine lv_if_eq (tgt := 29) hx hb dX6_fault_20 (by decide) (fun c25 => ?_) (fun c25 => ?_)
    · have hf := sg_ip c25 hf
      refine lv_aload_n hx hb dX6_fault_29 rfl (lv_at hl 0 rfl) ?_
      refine lv_iload_n hx hb dX6_fault_30 rfl (lv_at hl 1 rfl) ?_
      obtain ⟨r9, u10, hc8, hf⟩ := sg_b2_s hf
      refine sg_ci (va_runV (As := [.int p1]) (rest := []) ⟨hx, hb, hml, hown, hts⟩ (c_X6_tripped l D cA ad N _ _ _ _ hc8 _) (cwV 1 hts gX6_fault_X6_tripped rfl rfl rfl (by decide +kernel) ⟨Nat.le_of_ble_eq_true rfl, Nat.le_of_ble_eq_true rfl⟩) (sg_pre hK hP hD (ci := 8) (q0 := 0) rfl rfl) rfl rfl hl.1 rfl (lv_room (Nat.le_of_ble_eq_true rfl)) dX6_fault_31 ⟨Nat.zero_le _, Nat.zero_le _⟩) hD hS hA (fun H locs hP hD hS => ?_)
      refine lv_istore_n (lv' := [(2, .int r9), (0, .ref (ad 0)), (1, .int p1)]) hx hb dX6_fault_34 rfl hl (by decide) rfl (fun ls hl => ?_)
      refine lv_aload_n hx hb dX6_fault_35 rfl (lv_at hl 1 rfl) ?_
      refine va_get (D := D) (ci := 8) (C := RX6) (T := TX6) (N := 27) hx hb hts hinX6 hown hK.1 hP 0 rfl rfl 17 (by decide) (hts (.fieldLink RX6 50 "SwitchgearModel" "isFaulty" "[Z") (by decide +kernel)) (fun _ h9 => h9) rfl dX6_fault_36 ?_
      refine lv_iload_n hx hb dX6_fault_39 rfl (lv_at hl 2 rfl) ?_
      refine lv_iconst (v := 1) hx hb dX6_fault_40 (by decide) ?_
      obtain ⟨hg11, hf⟩ := sg_g_s hf
      refine va_zast hx hb hK.1 hP hD hS 14 1 rfl rfl (sg_inb_s hg11) dX6_fault_41 (fun H locs hP hD hS => ?_)
      replace hP : va_P D vwCl (sg_WM cA ad (sg_set u10 21 (p1).toNatClampNeg (vp_nar .boolean 1))) H := by rw [← sg_WM_21]; exact hP
      replace hD : va_D A (sg_WM cA ad (sg_set u10 21 (p1).toNatClampNeg (vp_nar .boolean 1))) := by rw [← sg_WM_21]; exact hD
      refine lv_iload_n hx hb dX6_fault_42 rfl (lv_at hl 0 rfl) ?_
      refine lv_bipush (v := (-2)) hx hb dX6_fault_43 (by decide) ?_
      refine lv_icmp_ne (tgt := 109) hx hb dX6_fault_45 (by decide) (fun c21 => ?_) (fun c21 => ?_)
      · have hf := sg_in c21 hf
        exact hJ109 _ _ _ _ _ hf hP hD hS (lv_sub hl [1, 0] rfl)
      · have hf := sg_ip c21 hf
        refine lv_aload_n hx hb dX6_fault_48 rfl (lv_at hl 1 rfl) ?_
        obtain ⟨r13, hc12, hf⟩ := sg_b_s hf
        refine sg_ci (va_runV (As := []) (rest := []) ⟨hx, hb, hml, hown, hts⟩ (c_X6_sourceOfPath l D cA ad N _ _ hc12 _) (cwV 0 hts gX6_fault_X6_sourceOfPath rfl rfl rfl (by decide +kernel) ⟨Nat.le_of_ble_eq_true rfl, Nat.le_of_ble_eq_true rfl⟩) (sg_pre hK hP hD (ci := 8) (q0 := 0) rfl rfl) rfl rfl hl.1 rfl (lv_room (Nat.le_of_ble_eq_true rfl)) dX6_fault_49 ⟨Nat.zero_le _, Nat.zero_le _⟩) hD hS hA (fun H locs hP hD hS => ?_)
        refine lv_istore_n (lv' := [(3, .int r13), (2, .int r9), (0, .ref (ad 0)), (1, .int p1)]) hx hb dX6_fault_52 rfl hl (by decide) rfl (fun ls hl => ?_)
        refine lv_iconst (v := 0) hx hb dX6_fault_53 (by decide) ?_
        refine lv_istore (lv' := [(4, .int 0), (3, .int r13), (2, .int r9), (0, .ref (ad 0)), (1, .int p1)]) hx hb dX6_fault_54 hl (by decide) rfl (fun ls hl => ?_)
        obtain ⟨e15, hc16, hf⟩ := sg_b_s hf
        refine hL56 _ _ _ _ e15 hc16 _ _ _ hP hD hS (lv_sub hl [3, 2, 1, 0] rfl) (fun H locs ls hP hD hS hl => ?_)
        refine lv_iload_n hx hb dX6_fault_109 rfl (lv_at hl 1 rfl) ?_
        refine lv_if_lt (tgt := 128) hx hb dX6_fault_110 (by decide) (fun c20 => ?_) (fun c20 => ?_)
        · have hf := sg_ip c20 hf
          refine lv_iload_n hx hb dX6_fault_128 rfl (lv_at hl 1 rfl) ?_
          have hq := Option.some.inj hf
          exact sg_iret hx hb hr hP hD hS dX6_fault_129 (congrArg Prod.fst hq) (congrArg Prod.snd hq) hlocks
        · have hf := sg_in c20 hf
          refine lv_aload_n hx hb dX6_fault_113 rfl (lv_at hl 0 rfl) ?_
          refine lv_iload_n hx hb dX6_fault_114 rfl (lv_at hl 1 rfl) ?_
          obtain ⟨u19, hc17, hf⟩ := sg_b_s hf
          refine sg_cv (va_runV (As := [.int r9]) (rest := []) ⟨hx, hb, hml, hown, hts⟩ (c_X6_locks l D cA ad N _ _ _ hc17 _) (cwV 1 hts gX6_fault_X6_locks rfl rfl rfl (by decide +kernel) ⟨Nat.le_of_ble_eq_true rfl, Nat.le_of_ble_eq_true rfl⟩) (sg_pre hK hP hD (ci := 8) (q0 := 0) rfl rfl) rfl rfl hl.1 rfl (lv_room (Nat.le_of_ble_eq_true rfl)) dX6_fault_115 ⟨Nat.zero_le _, Nat.zero_le _⟩) hD hS hA (fun H locs hP hD hS => ?_)
          refine lv_aload_n hx hb dX6_fault_118 rfl (lv_at hl 0 rfl) ?_
          refine lv_dup hx hb dX6_fault_119 rfl ?_
          refine va_get (D := D) (ci := 8) (C := RX6) (T := TX6) (N := 27) hx hb hts hinX6 hown hK.1 hP 0 rfl rfl 3 (by decide) (hts (.fieldLink RX6 150 "SwitchgearModel" "trips" "I") (by decide +kernel)) (fun _ h9 => h9) rfl dX6_fault_120 ?_
          refine lv_iconst (v := 1) hx hb dX6_fault_123 (by decide) ?_
          refine lv_iadd hx hb dX6_fault_124 ?_
          refine va_put (D := D) (ci := 8) (v := .int ((u19 3 0) + 1)) (ty := .int) (C := RX6) (T := TX6) (N := 27) hx hb hts hinX6 tyX6 tyX6_ok nmX6 hown hK.1 hP hD hS 0 rfl rfl 3 (by decide) (hts (.fieldLink RX6 150 "SwitchgearModel" "trips" "I") (by decide +kernel)) (fun _ h9 => h9) rfl (by decide +kernel) rfl rfl (Nat.le_of_ble_eq_true rfl) dX6_fault_125 (fun H locs hP hD hS => ?_)
          replace hP : va_P D vwCl (sg_WM cA ad (sg_set u19 3 0 ((u19 3 0) + 1))) H := by rw [← sg_WM_3]; exact hP
          replace hD : va_D A (sg_WM cA ad (sg_set u19 3 0 ((u19 3 0) + 1))) := by rw [← sg_WM_3]; exact hD
          refine lv_iload_n hx hb dX6_fault_128 rfl (lv_at hl 1 rfl) ?_
          have hq := Option.some.inj hf
          exact sg_iret hx hb hr hP hD hS dX6_fault_129 (congrArg Prod.fst hq) (congrArg Prod.snd hq) hlocks
    · have hf := sg_in c25 hf
      refine lv_aload_n hx hb dX6_fault_23 rfl (lv_at hl 0 rfl) ?_
      refine lv_iconst (v := 2) hx hb dX6_fault_24 (by decide) ?_
      obtain ⟨r23, u24, hc22, hf⟩ := sg_b2_s hf
      refine sg_ci (va_runV (As := [.int 2]) (rest := []) ⟨hx, hb, hml, hown, hts⟩ (c_X6_fails l D cA ad N _ _ _ _ hc22 _) (cwV 1 hts gX6_fault_X6_fails rfl rfl rfl (by decide +kernel) ⟨Nat.le_of_ble_eq_true rfl, Nat.le_of_ble_eq_true rfl⟩) (sg_pre hK hP hD (ci := 8) (q0 := 0) rfl rfl) rfl rfl hl.1 rfl (lv_room (Nat.le_of_ble_eq_true rfl)) dX6_fault_25 ⟨Nat.zero_le _, Nat.zero_le _⟩) hD hS hA (fun H locs hP hD hS => ?_)
      have hq := Option.some.inj hf
      exact sg_iret hx hb hr hP hD hS dX6_fault_28 (congrArg Prod.fst hq) (congrArg Prod.snd hq) hlocks
  · have hf := sg_ip c26 hf
    refine lv_iconst (v := 0) hx hb dX6_fault_12 (by decide) ?_
    have hq := Option.some.inj hf
    exact sg_iret hx hb hr hP hD hS dX6_fault_13 (congrArg Prod.fst hq) (congrArg Prod.snd hq) hlocks
set_option maxRecDepth 100000 in
set_option maxHeartbeats 4000000 in
theorem c_X6_faultCurrent (l : Launch) (D : va_G) (cA : Nat → ClassId) (ad : Nat → Nat) (N : Nat) (u : sg_St) (p1 : Int32) (r : Int32) (u' : sg_St) (hf : fX6_faultCurrent N u p1 = some (r, u')) : sg_CI l D cA (sg_WM cA ad) yX6_faultCurrent wsX6_faultCurrent ({ frames := 3, cells := 0, slots := 0, locals := 72 }) [.ref (ad 0), .int p1] u r u' := by
  intro sz
  refine Met.ofW (cc := cX6_faultCurrent) (maxL := 2) (ret := (some .int)) (by decide) rfl ?_
  intro p e s m args below meth c s₁ B hml hv
  obtain ⟨rfl, hsz, hP, hK, hD0⟩ := hv
  have hx := B.exec
  have hb := B.bytes
  have hr := B.returns
  have hts := atoms_spec (ws := wsX6_faultCurrent) B.pre
  have hown : s.vm.findClass RX6 = some m.cls := findClass_of_methodNamed B.named
  have hlocks := B.notSynchronized
  subst hsz
  have hD := hD0.self (sz := s.heap.size)
  generalize hAe : va_A (sg_WM cA ad u) s.heap.size = A at hD ⊢
  have hA : ∀ q : Nat, s.heap.size ≤ q → A q := fun q h => by rw [← hAe]; exact Or.inr h
  have hS : va_S A s.heap s.heap [] := va_S.rf
  have hl := lv_entry ([.ref (ad 0), .int p1]) (n := 2) (Nat.le_of_ble_eq_true rfl)
  rw [lg_entry_eq]
  generalize (lg_sl ([.ref (ad 0), .int p1]) ++ List.replicate (2 - (lg_sl ([.ref (ad 0), .int p1])).length) Slot.unset).toArray = ls at hl ⊢
  replace hl : lv_has ls 2 [(0, .ref (ad 0)), (1, .int p1)] := hl
  unfold fX6_faultCurrent at hf
  refine lv_aload_n hx hb dX6_faultCurrent_0 rfl (lv_at hl 0 rfl) ?_
  refine lv_iload_n hx hb dX6_faultCurrent_1 rfl (lv_at hl 1 rfl) ?_
  obtain ⟨r2, u3, hc1, hf⟩ := sg_b2_s hf
  refine sg_ci (va_runV (As := [.int p1]) (rest := []) ⟨hx, hb, hml, hown, hts⟩ (c_X6_isFound l D cA ad N _ _ _ _ hc1 _) (cwV 1 hts gX6_faultCurrent_X6_isFound rfl rfl rfl (by decide +kernel) ⟨Nat.le_of_ble_eq_true rfl, Nat.le_of_ble_eq_true rfl⟩) (sg_pre hK hP hD (ci := 8) (q0 := 0) rfl rfl) rfl rfl hl.1 rfl (lv_room (Nat.le_of_ble_eq_true rfl)) dX6_faultCurrent_2 ⟨Nat.zero_le _, Nat.zero_le _⟩) hD hS hA (fun H locs hP hD hS => ?_)
  refine lv_if_eq (tgt := 15) hx hb dX6_faultCurrent_5 (by decide) (fun c7 => ?_) (fun c7 => ?_)
  · have hf := sg_ip c7 hf
    refine lv_iconst (v := 0) hx hb dX6_faultCurrent_15 (by decide) ?_
    have hq := Option.some.inj hf
    exact sg_iret hx hb hr hP hD hS dX6_faultCurrent_16 (congrArg Prod.fst hq) (congrArg Prod.snd hq) hlocks
  · have hf := sg_in c7 hf
    refine lv_aload_n hx hb dX6_faultCurrent_8 rfl (lv_at hl 0 rfl) ?_
    obtain ⟨r5, hc4, hf⟩ := sg_b_s hf
    refine sg_ci (va_runV (As := []) (rest := []) ⟨hx, hb, hml, hown, hts⟩ (c_X6_drawn l D cA ad N _ _ hc4 _) (cwV 0 hts gX6_faultCurrent_X6_drawn rfl rfl rfl (by decide +kernel) ⟨Nat.le_of_ble_eq_true rfl, Nat.le_of_ble_eq_true rfl⟩) (sg_pre hK hP hD (ci := 8) (q0 := 0) rfl rfl) rfl rfl hl.1 rfl (lv_room (Nat.le_of_ble_eq_true rfl)) dX6_faultCurrent_9 ⟨Nat.zero_le _, Nat.zero_le _⟩) hD hS hA (fun H locs hP hD hS => ?_)
    refine lv_goto (tgt := 16) hx hb dX6_faultCurrent_12 (by decide) ?_
    have hq := Option.some.inj hf
    exact sg_iret hx hb hr hP hD hS dX6_faultCurrent_16 (congrArg Prod.fst hq) (congrArg Prod.snd hq) hlocks
set_option maxRecDepth 100000 in
set_option maxHeartbeats 4000000 in
theorem c_X6_hasFault (l : Launch) (D : va_G) (cA : Nat → ClassId) (ad : Nat → Nat) (N : Nat) (u : sg_St) (p1 : Int32) (r : Int32) (u' : sg_St) (hf : fX6_hasFault N u p1 = some (r, u')) : sg_CI l D cA (sg_WM cA ad) yX6_hasFault wsX6_hasFault ({ frames := 2, cells := 0, slots := 0, locals := 43 }) [.ref (ad 0), .int p1] u r u' := by
  intro sz
  refine Met.ofW (cc := cX6_hasFault) (maxL := 2) (ret := (some .boolean)) (by decide) rfl ?_
  intro p e s m args below meth c s₁ B hml hv
  obtain ⟨rfl, hsz, hP, hK, hD0⟩ := hv
  have hx := B.exec
  have hb := B.bytes
  have hr := B.returns
  have hts := atoms_spec (ws := wsX6_hasFault) B.pre
  have hown : s.vm.findClass RX6 = some m.cls := findClass_of_methodNamed B.named
  have hlocks := B.notSynchronized
  subst hsz
  have hD := hD0.self (sz := s.heap.size)
  generalize hAe : va_A (sg_WM cA ad u) s.heap.size = A at hD ⊢
  have hA : ∀ q : Nat, s.heap.size ≤ q → A q := fun q h => by rw [← hAe]; exact Or.inr h
  have hS : va_S A s.heap s.heap [] := va_S.rf
  have hl := lv_entry ([.ref (ad 0), .int p1]) (n := 2) (Nat.le_of_ble_eq_true rfl)
  rw [lg_entry_eq]
  generalize (lg_sl ([.ref (ad 0), .int p1]) ++ List.replicate (2 - (lg_sl ([.ref (ad 0), .int p1])).length) Slot.unset).toArray = ls at hl ⊢
  replace hl : lv_has ls 2 [(0, .ref (ad 0)), (1, .int p1)] := hl
  have hinX6 : ∀ w ∈ u_ws RX6 TX6 27, w ∈ wsX6_hasFault := by decide +kernel
  have hJ25 : ∀ (u : sg_St) (H : Heap) (locs : List Loc) (ls : Array Slot), fX6_hasFault_j25 N u  = some (r, u') → va_P D vwCl (sg_WM cA ad u) H → va_D A (sg_WM cA ad u) → va_S A s.heap H locs → lv_has ls 2 [(0, .ref (ad 0))] → W p l e (headSpec wsX6_hasFault ({ frames := 2, cells := 0, slots := 0, locals := 43 })).room s m ([.ref (ad 0), .int p1] : List Value).toArray below meth c H locs 0 0 (MQ below (va_Qi (fun x y => x = r ∧ y = u') (sg_BX D (sg_WM cA ad) A) A) ([.ref (ad 0), .int p1] : List Value).toArray s 0 0 A) (F0 m 25 ls []) := by
    intro u H locs ls hf hP hD hS hl
    unfold fX6_hasFault_j25 at hf
    refine lv_iconst (v := 0) hx hb dX6_hasFault_25 (by decide) ?_
    have hq := Option.some.inj hf
    exact sg_zret hx hb hr rfl hP hD hS dX6_hasFault_26 (congrArg Prod.fst hq) (congrArg Prod.snd hq) hlocks
  unfold fX6_hasFault at hf
  refine lv_aload_n hx hb dX6_hasFault_0 rfl (lv_at hl 0 rfl) ?_
  refine lv_aload_n hx hb dX6_hasFault_1 rfl (lv_at hl 0 rfl) ?_
  refine lv_iload_n hx hb dX6_hasFault_2 rfl (lv_at hl 1 rfl) ?_
  obtain ⟨r2, hc1, hf⟩ := sg_b_s hf
  refine sg_ci (va_runV (As := [.int p1]) (rest := [.ref (ad 0)]) ⟨hx, hb, hml, hown, hts⟩ (c_X6_isLine l D cA ad N _ _ _ hc1 _) (cwV 1 hts gX6_hasFault_X6_isLine rfl rfl rfl (by decide +kernel) ⟨Nat.le_of_ble_eq_true rfl, Nat.le_of_ble_eq_true rfl⟩) (sg_pre hK hP hD (ci := 8) (q0 := 0) rfl rfl) rfl rfl hl.1 rfl (lv_room (Nat.le_of_ble_eq_true rfl)) dX6_hasFault_3 ⟨Nat.zero_le _, Nat.zero_le _⟩) hD hS hA (fun H locs hP hD hS => ?_)
  obtain ⟨r5, u6, hc4, hf⟩ := sg_b2_s hf
  refine sg_ci (va_runV (As := [.int r2]) (rest := []) ⟨hx, hb, hml, hown, hts⟩ (c_X6_isThere l D cA ad N _ _ _ _ hc4 _) (cwV 1 hts gX6_hasFault_X6_isThere rfl rfl rfl (by decide +kernel) ⟨Nat.le_of_ble_eq_true rfl, Nat.le_of_ble_eq_true rfl⟩) (sg_pre hK hP hD (ci := 8) (q0 := 0) rfl rfl) rfl rfl hl.1 rfl (lv_room (Nat.le_of_ble_eq_true rfl)) dX6_hasFault_6 ⟨Nat.zero_le _, Nat.zero_le _⟩) hD hS hA (fun H locs hP hD hS => ?_)
  refine lv_if_eq (tgt := 25) hx hb dX6_hasFault_9 (by decide) (fun c9 => ?_) (fun c9 => ?_)
  · have hf := sg_ip c9 hf
    exact hJ25 _ _ _ _ hf hP hD hS (lv_sub hl [0] rfl)
  · have hf := sg_in c9 hf
    refine lv_aload_n hx hb dX6_hasFault_12 rfl (lv_at hl 0 rfl) ?_
    refine va_get (D := D) (ci := 8) (C := RX6) (T := TX6) (N := 27) hx hb hts hinX6 hown hK.1 hP 0 rfl rfl 17 (by decide) (hts (.fieldLink RX6 50 "SwitchgearModel" "isFaulty" "[Z") (by decide +kernel)) (fun _ h9 => h9) rfl dX6_hasFault_13 ?_
    refine lv_iload_n hx hb dX6_hasFault_16 rfl (lv_at hl 1 rfl) ?_
    obtain ⟨hg7, hf⟩ := sg_g_s hf
    refine va_zald hx hb hK.1 hP 14 1 rfl rfl (sg_inb_s hg7) dX6_hasFault_17 ?_
    refine lv_if_eq (tgt := 25) hx hb dX6_hasFault_18 (by decide) (fun c8 => ?_) (fun c8 => ?_)
    · have hf := sg_ip c8 hf
      exact hJ25 _ _ _ _ hf hP hD hS (lv_sub hl [0] rfl)
    · have hf := sg_in c8 hf
      refine lv_iconst (v := 1) hx hb dX6_hasFault_21 (by decide) ?_
      refine lv_goto (tgt := 26) hx hb dX6_hasFault_22 (by decide) ?_
      have hq := Option.some.inj hf
      exact sg_zret hx hb hr rfl hP hD hS dX6_hasFault_26 (congrArg Prod.fst hq) (congrArg Prod.snd hq) hlocks
set_option maxRecDepth 100000 in
set_option maxHeartbeats 4000000 in
theorem c_X6_isClosed (l : Launch) (D : va_G) (cA : Nat → ClassId) (ad : Nat → Nat) (N : Nat) (u : sg_St) (p1 : Int32) (r : Int32) (u' : sg_St) (hf : fX6_isClosed N u p1 = some (r, u')) : sg_CI l D cA (sg_WM cA ad) yX6_isClosed wsX6_isClosed ({ frames := 2, cells := 0, slots := 0, locals := 43 }) [.ref (ad 0), .int p1] u r u' := by
  intro sz
  refine Met.ofW (cc := cX6_isClosed) (maxL := 2) (ret := (some .boolean)) (by decide) rfl ?_
  intro p e s m args below meth c s₁ B hml hv
  obtain ⟨rfl, hsz, hP, hK, hD0⟩ := hv
  have hx := B.exec
  have hb := B.bytes
  have hr := B.returns
  have hts := atoms_spec (ws := wsX6_isClosed) B.pre
  have hown : s.vm.findClass RX6 = some m.cls := findClass_of_methodNamed B.named
  have hlocks := B.notSynchronized
  subst hsz
  have hD := hD0.self (sz := s.heap.size)
  generalize hAe : va_A (sg_WM cA ad u) s.heap.size = A at hD ⊢
  have hA : ∀ q : Nat, s.heap.size ≤ q → A q := fun q h => by rw [← hAe]; exact Or.inr h
  have hS : va_S A s.heap s.heap [] := va_S.rf
  have hl := lv_entry ([.ref (ad 0), .int p1]) (n := 2) (Nat.le_of_ble_eq_true rfl)
  rw [lg_entry_eq]
  generalize (lg_sl ([.ref (ad 0), .int p1]) ++ List.replicate (2 - (lg_sl ([.ref (ad 0), .int p1])).length) Slot.unset).toArray = ls at hl ⊢
  replace hl : lv_has ls 2 [(0, .ref (ad 0)), (1, .int p1)] := hl
  have hinX6 : ∀ w ∈ u_ws RX6 TX6 27, w ∈ wsX6_isClosed := by decide +kernel
  have hJ25 : ∀ (u : sg_St) (H : Heap) (locs : List Loc) (ls : Array Slot), fX6_isClosed_j25 N u  = some (r, u') → va_P D vwCl (sg_WM cA ad u) H → va_D A (sg_WM cA ad u) → va_S A s.heap H locs → lv_has ls 2 [(0, .ref (ad 0))] → W p l e (headSpec wsX6_isClosed ({ frames := 2, cells := 0, slots := 0, locals := 43 })).room s m ([.ref (ad 0), .int p1] : List Value).toArray below meth c H locs 0 0 (MQ below (va_Qi (fun x y => x = r ∧ y = u') (sg_BX D (sg_WM cA ad) A) A) ([.ref (ad 0), .int p1] : List Value).toArray s 0 0 A) (F0 m 25 ls []) := by
    intro u H locs ls hf hP hD hS hl
    unfold fX6_isClosed_j25 at hf
    refine lv_iconst (v := 0) hx hb dX6_isClosed_25 (by decide) ?_
    have hq := Option.some.inj hf
    exact sg_zret hx hb hr rfl hP hD hS dX6_isClosed_26 (congrArg Prod.fst hq) (congrArg Prod.snd hq) hlocks
  unfold fX6_isClosed at hf
  refine lv_aload_n hx hb dX6_isClosed_0 rfl (lv_at hl 0 rfl) ?_
  refine lv_aload_n hx hb dX6_isClosed_1 rfl (lv_at hl 0 rfl) ?_
  refine lv_iload_n hx hb dX6_isClosed_2 rfl (lv_at hl 1 rfl) ?_
  obtain ⟨r2, hc1, hf⟩ := sg_b_s hf
  refine sg_ci (va_runV (As := [.int p1]) (rest := [.ref (ad 0)]) ⟨hx, hb, hml, hown, hts⟩ (c_X6_isLine l D cA ad N _ _ _ hc1 _) (cwV 1 hts gX6_isClosed_X6_isLine rfl rfl rfl (by decide +kernel) ⟨Nat.le_of_ble_eq_true rfl, Nat.le_of_ble_eq_true rfl⟩) (sg_pre hK hP hD (ci := 8) (q0 := 0) rfl rfl) rfl rfl hl.1 rfl (lv_room (Nat.le_of_ble_eq_true rfl)) dX6_isClosed_3 ⟨Nat.zero_le _, Nat.zero_le _⟩) hD hS hA (fun H locs hP hD hS => ?_)
  obtain ⟨r5, u6, hc4, hf⟩ := sg_b2_s hf
  refine sg_ci (va_runV (As := [.int r2]) (rest := []) ⟨hx, hb, hml, hown, hts⟩ (c_X6_isThere l D cA ad N _ _ _ _ hc4 _) (cwV 1 hts gX6_isClosed_X6_isThere rfl rfl rfl (by decide +kernel) ⟨Nat.le_of_ble_eq_true rfl, Nat.le_of_ble_eq_true rfl⟩) (sg_pre hK hP hD (ci := 8) (q0 := 0) rfl rfl) rfl rfl hl.1 rfl (lv_room (Nat.le_of_ble_eq_true rfl)) dX6_isClosed_6 ⟨Nat.zero_le _, Nat.zero_le _⟩) hD hS hA (fun H locs hP hD hS => ?_)
  refine lv_if_eq (tgt := 25) hx hb dX6_isClosed_9 (by decide) (fun c9 => ?_) (fun c9 => ?_)
  · have hf := sg_ip c9 hf
    exact hJ25 _ _ _ _ hf hP hD hS (lv_sub hl [0] rfl)
  · have hf := sg_in c9 hf
    refine lv_aload_n hx hb dX6_isClosed_12 rfl (lv_at hl 0 rfl) ?_
    refine va_get (D := D) (ci := 8) (C := RX6) (T := TX6) (N := 27) hx hb hts hinX6 hown hK.1 hP 0 rfl rfl 15 (by decide) (hts (.fieldLink RX6 44 "SwitchgearModel" "isClosed" "[Z") (by decide +kernel)) (fun _ h9 => h9) rfl dX6_isClosed_13 ?_
    refine lv_iload_n hx hb dX6_isClosed_16 rfl (lv_at hl 1 rfl) ?_
    obtain ⟨hg7, hf⟩ := sg_g_s hf
    refine va_zald hx hb hK.1 hP 12 1 rfl rfl (sg_inb_s hg7) dX6_isClosed_17 ?_
    refine lv_if_eq (tgt := 25) hx hb dX6_isClosed_18 (by decide) (fun c8 => ?_) (fun c8 => ?_)
    · have hf := sg_ip c8 hf
      exact hJ25 _ _ _ _ hf hP hD hS (lv_sub hl [0] rfl)
    · have hf := sg_in c8 hf
      refine lv_iconst (v := 1) hx hb dX6_isClosed_21 (by decide) ?_
      refine lv_goto (tgt := 26) hx hb dX6_isClosed_22 (by decide) ?_
      have hq := Option.some.inj hf
      exact sg_zret hx hb hr rfl hP hD hS dX6_isClosed_26 (congrArg Prod.fst hq) (congrArg Prod.snd hq) hlocks
set_option maxRecDepth 100000 in
set_option maxHeartbeats 4000000 in
theorem c_X6_isPainted (l : Launch) (D : va_G) (cA : Nat → ClassId) (ad : Nat → Nat) (N : Nat) (u : sg_St) (p1 : Int32) (r : Int32) (u' : sg_St) (hf : fX6_isPainted N u p1 = some (r, u')) : sg_CI l D cA (sg_WM cA ad) yX6_isPainted wsX6_isPainted ({ frames := 2, cells := 0, slots := 0, locals := 43 }) [.ref (ad 0), .int p1] u r u' := by
  intro sz
  refine Met.ofW (cc := cX6_isPainted) (maxL := 2) (ret := (some .boolean)) (by decide) rfl ?_
  intro p e s m args below meth c s₁ B hml hv
  obtain ⟨rfl, hsz, hP, hK, hD0⟩ := hv
  have hx := B.exec
  have hb := B.bytes
  have hr := B.returns
  have hts := atoms_spec (ws := wsX6_isPainted) B.pre
  have hown : s.vm.findClass RX6 = some m.cls := findClass_of_methodNamed B.named
  have hlocks := B.notSynchronized
  subst hsz
  have hD := hD0.self (sz := s.heap.size)
  generalize hAe : va_A (sg_WM cA ad u) s.heap.size = A at hD ⊢
  have hA : ∀ q : Nat, s.heap.size ≤ q → A q := fun q h => by rw [← hAe]; exact Or.inr h
  have hS : va_S A s.heap s.heap [] := va_S.rf
  have hl := lv_entry ([.ref (ad 0), .int p1]) (n := 2) (Nat.le_of_ble_eq_true rfl)
  rw [lg_entry_eq]
  generalize (lg_sl ([.ref (ad 0), .int p1]) ++ List.replicate (2 - (lg_sl ([.ref (ad 0), .int p1])).length) Slot.unset).toArray = ls at hl ⊢
  replace hl : lv_has ls 2 [(0, .ref (ad 0)), (1, .int p1)] := hl
  unfold fX6_isPainted at hf
  refine lv_aload_n hx hb dX6_isPainted_0 rfl (lv_at hl 0 rfl) ?_
  refine lv_iconst (v := (-1)) hx hb dX6_isPainted_1 (by decide) ?_
  refine lv_iconst (v := (-1)) hx hb dX6_isPainted_2 (by decide) ?_
  obtain ⟨u3, hc1, hf⟩ := sg_b_s hf
  refine sg_cv (va_runV (As := [.int ((-1)), .int ((-1))]) (rest := []) ⟨hx, hb, hml, hown, hts⟩ (c_X6_paints l D cA ad N _ _ _ _ hc1 _) (cwV 2 hts gX6_isPainted_X6_paints rfl rfl rfl (by decide +kernel) ⟨Nat.le_of_ble_eq_true rfl, Nat.le_of_ble_eq_true rfl⟩) (sg_pre hK hP hD (ci := 8) (q0 := 0) rfl rfl) rfl rfl hl.1 rfl (lv_room (Nat.le_of_ble_eq_true rfl)) dX6_isPainted_3 ⟨Nat.zero_le _, Nat.zero_le _⟩) hD hS hA (fun H locs hP hD hS => ?_)
  refine lv_aload_n hx hb dX6_isPainted_6 rfl (lv_at hl 0 rfl) ?_
  refine lv_aload_n hx hb dX6_isPainted_7 rfl (lv_at hl 0 rfl) ?_
  refine lv_iload_n hx hb dX6_isPainted_8 rfl (lv_at hl 1 rfl) ?_
  obtain ⟨r5, hc4, hf⟩ := sg_b_s hf
  refine sg_ci (va_runV (As := [.int p1]) (rest := [.ref (ad 0)]) ⟨hx, hb, hml, hown, hts⟩ (c_X6_isNode l D cA ad N _ _ _ hc4 _) (cwV 1 hts gX6_isPainted_X6_isNode rfl rfl rfl (by decide +kernel) ⟨Nat.le_of_ble_eq_true rfl, Nat.le_of_ble_eq_true rfl⟩) (sg_pre hK hP hD (ci := 8) (q0 := 0) rfl rfl) rfl rfl hl.1 rfl (lv_room (Nat.le_of_ble_eq_true rfl)) dX6_isPainted_9 ⟨Nat.zero_le _, Nat.zero_le _⟩) hD hS hA (fun H locs hP hD hS => ?_)
  obtain ⟨r8, u9, hc7, hf⟩ := sg_b2_s hf
  refine sg_ci (va_runV (As := [.int r5]) (rest := []) ⟨hx, hb, hml, hown, hts⟩ (c_X6_isThere l D cA ad N _ _ _ _ hc7 _) (cwV 1 hts gX6_isPainted_X6_isThere rfl rfl rfl (by decide +kernel) ⟨Nat.le_of_ble_eq_true rfl, Nat.le_of_ble_eq_true rfl⟩) (sg_pre hK hP hD (ci := 8) (q0 := 0) rfl rfl) rfl rfl hl.1 rfl (lv_room (Nat.le_of_ble_eq_true rfl)) dX6_isPainted_12 ⟨Nat.zero_le _, Nat.zero_le _⟩) hD hS hA (fun H locs hP hD hS => ?_)
  obtain ⟨hg10, hf⟩ := sg_g_s hf
  have hq := Option.some.inj hf
  exact sg_zret hx hb hr (sg_nz hg10) hP hD hS dX6_isPainted_15 (congrArg Prod.fst hq) (congrArg Prod.snd hq) hlocks
set_option maxRecDepth 100000 in
set_option maxHeartbeats 4000000 in
theorem c_X6_isLive (l : Launch) (D : va_G) (cA : Nat → ClassId) (ad : Nat → Nat) (N : Nat) (u : sg_St) (p1 : Int32) (r : Int32) (u' : sg_St) (hf : fX6_isLive N u p1 = some (r, u')) : sg_CI l D cA (sg_WM cA ad) yX6_isLive wsX6_isLive ({ frames := 3, cells := 0, slots := 0, locals := 64 }) [.ref (ad 0), .int p1] u r u' := by
  intro sz
  refine Met.ofW (cc := cX6_isLive) (maxL := 2) (ret := (some .boolean)) (by decide) rfl ?_
  intro p e s m args below meth c s₁ B hml hv
  obtain ⟨rfl, hsz, hP, hK, hD0⟩ := hv
  have hx := B.exec
  have hb := B.bytes
  have hr := B.returns
  have hts := atoms_spec (ws := wsX6_isLive) B.pre
  have hown : s.vm.findClass RX6 = some m.cls := findClass_of_methodNamed B.named
  have hlocks := B.notSynchronized
  subst hsz
  have hD := hD0.self (sz := s.heap.size)
  generalize hAe : va_A (sg_WM cA ad u) s.heap.size = A at hD ⊢
  have hA : ∀ q : Nat, s.heap.size ≤ q → A q := fun q h => by rw [← hAe]; exact Or.inr h
  have hS : va_S A s.heap s.heap [] := va_S.rf
  have hl := lv_entry ([.ref (ad 0), .int p1]) (n := 2) (Nat.le_of_ble_eq_true rfl)
  rw [lg_entry_eq]
  generalize (lg_sl ([.ref (ad 0), .int p1]) ++ List.replicate (2 - (lg_sl ([.ref (ad 0), .int p1])).length) Slot.unset).toArray = ls at hl ⊢
  replace hl : lv_has ls 2 [(0, .ref (ad 0)), (1, .int p1)] := hl
  have hinX6 : ∀ w ∈ u_ws RX6 TX6 27, w ∈ wsX6_isLive := by decide +kernel
  have hJ26 : ∀ (u : sg_St) (H : Heap) (locs : List Loc) (ls : Array Slot), fX6_isLive_j26 N u  = some (r, u') → va_P D vwCl (sg_WM cA ad u) H → va_D A (sg_WM cA ad u) → va_S A s.heap H locs → lv_has ls 2 [(0, .ref (ad 0))] → W p l e (headSpec wsX6_isLive ({ frames := 3, cells := 0, slots := 0, locals := 64 })).room s m ([.ref (ad 0), .int p1] : List Value).toArray below meth c H locs 0 0 (MQ below (va_Qi (fun x y => x = r ∧ y = u') (sg_BX D (sg_WM cA ad) A) A) ([.ref (ad 0), .int p1] : List Value).toArray s 0 0 A) (F0 m 26 ls []) := by
    intro u H locs ls hf hP hD hS hl
    unfold fX6_isLive_j26 at hf
    refine lv_iconst (v := 0) hx hb dX6_isLive_26 (by decide) ?_
    have hq := Option.some.inj hf
    exact sg_zret hx hb hr rfl hP hD hS dX6_isLive_27 (congrArg Prod.fst hq) (congrArg Prod.snd hq) hlocks
  unfold fX6_isLive at hf
  refine lv_aload_n hx hb dX6_isLive_0 rfl (lv_at hl 0 rfl) ?_
  refine lv_iload_n hx hb dX6_isLive_1 rfl (lv_at hl 1 rfl) ?_
  obtain ⟨r2, u3, hc1, hf⟩ := sg_b2_s hf
  refine sg_ci (va_runV (As := [.int p1]) (rest := []) ⟨hx, hb, hml, hown, hts⟩ (c_X6_isPainted l D cA ad N _ _ _ _ hc1 _) (cwV 1 hts gX6_isLive_X6_isPainted rfl rfl rfl (by decide +kernel) ⟨Nat.le_of_ble_eq_true rfl, Nat.le_of_ble_eq_true rfl⟩) (sg_pre hK hP hD (ci := 8) (q0 := 0) rfl rfl) rfl rfl hl.1 rfl (lv_room (Nat.le_of_ble_eq_true rfl)) dX6_isLive_2 ⟨Nat.zero_le _, Nat.zero_le _⟩) hD hS hA (fun H locs hP hD hS => ?_)
  refine lv_if_eq (tgt := 26) hx hb dX6_isLive_5 (by decide) (fun c9 => ?_) (fun c9 => ?_)
  · have hf := sg_ip c9 hf
    exact hJ26 _ _ _ _ hf hP hD hS (lv_sub hl [0] rfl)
  · have hf := sg_in c9 hf
    refine lv_aload_n hx hb dX6_isLive_8 rfl (lv_at hl 0 rfl) ?_
    refine lv_aload_n hx hb dX6_isLive_9 rfl (lv_at hl 0 rfl) ?_
    refine va_get (D := D) (ci := 8) (C := RX6) (T := TX6) (N := 27) hx hb hts hinX6 hown hK.1 hP 0 rfl rfl 18 (by decide) (hts (.fieldLink RX6 53 "SwitchgearModel" "island" "[I") (by decide +kernel)) (fun _ h9 => h9) rfl dX6_isLive_10 ?_
    refine lv_iload_n hx hb dX6_isLive_13 rfl (lv_at hl 1 rfl) ?_
    obtain ⟨hg4, hf⟩ := sg_g_s hf
    refine va_iald hx hb hK.1 hP 15 0 rfl rfl (sg_inb_s hg4) dX6_isLive_14 ?_
    obtain ⟨r6, hc5, hf⟩ := sg_b_s hf
    refine sg_ci (va_runV (As := [.int (u3 22 (p1).toNatClampNeg)]) (rest := []) ⟨hx, hb, hml, hown, hts⟩ (c_X6_source l D cA ad N _ _ _ hc5 _) (cwV 1 hts gX6_isLive_X6_source rfl rfl rfl (by decide +kernel) ⟨Nat.le_of_ble_eq_true rfl, Nat.le_of_ble_eq_true rfl⟩) (sg_pre hK hP hD (ci := 8) (q0 := 0) rfl rfl) rfl rfl hl.1 rfl (lv_room (Nat.le_of_ble_eq_true rfl)) dX6_isLive_15 ⟨Nat.zero_le _, Nat.zero_le _⟩) hD hS hA (fun H locs hP hD hS => ?_)
    refine lv_iconst (v := (-1)) hx hb dX6_isLive_18 (by decide) ?_
    refine lv_icmp_eq (tgt := 26) hx hb dX6_isLive_19 (by decide) (fun c8 => ?_) (fun c8 => ?_)
    · have hf := sg_ip c8 hf
      exact hJ26 _ _ _ _ hf hP hD hS (lv_sub hl [0] rfl)
    · have hf := sg_in c8 hf
      refine lv_iconst (v := 1) hx hb dX6_isLive_22 (by decide) ?_
      refine lv_goto (tgt := 27) hx hb dX6_isLive_23 (by decide) ?_
      have hq := Option.some.inj hf
      exact sg_zret hx hb hr rfl hP hD hS dX6_isLive_27 (congrArg Prod.fst hq) (congrArg Prod.snd hq) hlocks
set_option maxRecDepth 100000 in
set_option maxHeartbeats 4000000 in
theorem c_X6_isLocked (l : Launch) (D : va_G) (cA : Nat → ClassId) (ad : Nat → Nat) (N : Nat) (u : sg_St) (p1 : Int32) (r : Int32) (u' : sg_St) (hf : fX6_isLocked N u p1 = some (r, u')) : sg_CI l D cA (sg_WM cA ad) yX6_isLocked wsX6_isLocked ({ frames := 2, cells := 0, slots := 0, locals := 43 }) [.ref (ad 0), .int p1] u r u' := by
  intro sz
  refine Met.ofW (cc := cX6_isLocked) (maxL := 2) (ret := (some .boolean)) (by decide) rfl ?_
  intro p e s m args below meth c s₁ B hml hv
  obtain ⟨rfl, hsz, hP, hK, hD0⟩ := hv
  have hx := B.exec
  have hb := B.bytes
  have hr := B.returns
  have hts := atoms_spec (ws := wsX6_isLocked) B.pre
  have hown : s.vm.findClass RX6 = some m.cls := findClass_of_methodNamed B.named
  have hlocks := B.notSynchronized
  subst hsz
  have hD := hD0.self (sz := s.heap.size)
  generalize hAe : va_A (sg_WM cA ad u) s.heap.size = A at hD ⊢
  have hA : ∀ q : Nat, s.heap.size ≤ q → A q := fun q h => by rw [← hAe]; exact Or.inr h
  have hS : va_S A s.heap s.heap [] := va_S.rf
  have hl := lv_entry ([.ref (ad 0), .int p1]) (n := 2) (Nat.le_of_ble_eq_true rfl)
  rw [lg_entry_eq]
  generalize (lg_sl ([.ref (ad 0), .int p1]) ++ List.replicate (2 - (lg_sl ([.ref (ad 0), .int p1])).length) Slot.unset).toArray = ls at hl ⊢
  replace hl : lv_has ls 2 [(0, .ref (ad 0)), (1, .int p1)] := hl
  have hinX6 : ∀ w ∈ u_ws RX6 TX6 27, w ∈ wsX6_isLocked := by decide +kernel
  have hJ25 : ∀ (u : sg_St) (H : Heap) (locs : List Loc) (ls : Array Slot), fX6_isLocked_j25 N u  = some (r, u') → va_P D vwCl (sg_WM cA ad u) H → va_D A (sg_WM cA ad u) → va_S A s.heap H locs → lv_has ls 2 [(0, .ref (ad 0))] → W p l e (headSpec wsX6_isLocked ({ frames := 2, cells := 0, slots := 0, locals := 43 })).room s m ([.ref (ad 0), .int p1] : List Value).toArray below meth c H locs 0 0 (MQ below (va_Qi (fun x y => x = r ∧ y = u') (sg_BX D (sg_WM cA ad) A) A) ([.ref (ad 0), .int p1] : List Value).toArray s 0 0 A) (F0 m 25 ls []) := by
    intro u H locs ls hf hP hD hS hl
    unfold fX6_isLocked_j25 at hf
    refine lv_iconst (v := 0) hx hb dX6_isLocked_25 (by decide) ?_
    have hq := Option.some.inj hf
    exact sg_zret hx hb hr rfl hP hD hS dX6_isLocked_26 (congrArg Prod.fst hq) (congrArg Prod.snd hq) hlocks
  unfold fX6_isLocked at hf
  refine lv_aload_n hx hb dX6_isLocked_0 rfl (lv_at hl 0 rfl) ?_
  refine lv_aload_n hx hb dX6_isLocked_1 rfl (lv_at hl 0 rfl) ?_
  refine lv_iload_n hx hb dX6_isLocked_2 rfl (lv_at hl 1 rfl) ?_
  obtain ⟨r2, hc1, hf⟩ := sg_b_s hf
  refine sg_ci (va_runV (As := [.int p1]) (rest := [.ref (ad 0)]) ⟨hx, hb, hml, hown, hts⟩ (c_X6_isLine l D cA ad N _ _ _ hc1 _) (cwV 1 hts gX6_isLocked_X6_isLine rfl rfl rfl (by decide +kernel) ⟨Nat.le_of_ble_eq_true rfl, Nat.le_of_ble_eq_true rfl⟩) (sg_pre hK hP hD (ci := 8) (q0 := 0) rfl rfl) rfl rfl hl.1 rfl (lv_room (Nat.le_of_ble_eq_true rfl)) dX6_isLocked_3 ⟨Nat.zero_le _, Nat.zero_le _⟩) hD hS hA (fun H locs hP hD hS => ?_)
  obtain ⟨r5, u6, hc4, hf⟩ := sg_b2_s hf
  refine sg_ci (va_runV (As := [.int r2]) (rest := []) ⟨hx, hb, hml, hown, hts⟩ (c_X6_isThere l D cA ad N _ _ _ _ hc4 _) (cwV 1 hts gX6_isLocked_X6_isThere rfl rfl rfl (by decide +kernel) ⟨Nat.le_of_ble_eq_true rfl, Nat.le_of_ble_eq_true rfl⟩) (sg_pre hK hP hD (ci := 8) (q0 := 0) rfl rfl) rfl rfl hl.1 rfl (lv_room (Nat.le_of_ble_eq_true rfl)) dX6_isLocked_6 ⟨Nat.zero_le _, Nat.zero_le _⟩) hD hS hA (fun H locs hP hD hS => ?_)
  refine lv_if_eq (tgt := 25) hx hb dX6_isLocked_9 (by decide) (fun c9 => ?_) (fun c9 => ?_)
  · have hf := sg_ip c9 hf
    exact hJ25 _ _ _ _ hf hP hD hS (lv_sub hl [0] rfl)
  · have hf := sg_in c9 hf
    refine lv_aload_n hx hb dX6_isLocked_12 rfl (lv_at hl 0 rfl) ?_
    refine va_get (D := D) (ci := 8) (C := RX6) (T := TX6) (N := 27) hx hb hts hinX6 hown hK.1 hP 0 rfl rfl 16 (by decide) (hts (.fieldLink RX6 47 "SwitchgearModel" "isLocked" "[Z") (by decide +kernel)) (fun _ h9 => h9) rfl dX6_isLocked_13 ?_
    refine lv_iload_n hx hb dX6_isLocked_16 rfl (lv_at hl 1 rfl) ?_
    obtain ⟨hg7, hf⟩ := sg_g_s hf
    refine va_zald hx hb hK.1 hP 13 1 rfl rfl (sg_inb_s hg7) dX6_isLocked_17 ?_
    refine lv_if_eq (tgt := 25) hx hb dX6_isLocked_18 (by decide) (fun c8 => ?_) (fun c8 => ?_)
    · have hf := sg_ip c8 hf
      exact hJ25 _ _ _ _ hf hP hD hS (lv_sub hl [0] rfl)
    · have hf := sg_in c8 hf
      refine lv_iconst (v := 1) hx hb dX6_isLocked_21 (by decide) ?_
      refine lv_goto (tgt := 26) hx hb dX6_isLocked_22 (by decide) ?_
      have hq := Option.some.inj hf
      exact sg_zret hx hb hr rfl hP hD hS dX6_isLocked_26 (congrArg Prod.fst hq) (congrArg Prod.snd hq) hlocks
set_option maxRecDepth 100000 in
set_option maxHeartbeats 4000000 in
theorem c_X6_tripsItself (l : Launch) (D : va_G) (cA : Nat → ClassId) (ad : Nat → Nat) (N : Nat) (u : sg_St) (p1 : Int32) (r : Int32) (u' : sg_St) (hf : fX6_tripsItself N u p1 = some (r, u')) : sg_CI l D cA (sg_WM cA ad) yX6_tripsItself wsX6_tripsItself ({ frames := 3, cells := 0, slots := 0, locals := 76 }) [.ref (ad 0), .int p1] u r u' := by
  intro sz
  refine Met.ofW (cc := cX6_tripsItself) (maxL := 2) (ret := (some .boolean)) (by decide) rfl ?_
  intro p e s m args below meth c s₁ B hml hv
  obtain ⟨rfl, hsz, hP, hK, hD0⟩ := hv
  have hx := B.exec
  have hb := B.bytes
  have hr := B.returns
  have hts := atoms_spec (ws := wsX6_tripsItself) B.pre
  have hown : s.vm.findClass RX6 = some m.cls := findClass_of_methodNamed B.named
  have hlocks := B.notSynchronized
  subst hsz
  have hD := hD0.self (sz := s.heap.size)
  generalize hAe : va_A (sg_WM cA ad u) s.heap.size = A at hD ⊢
  have hA : ∀ q : Nat, s.heap.size ≤ q → A q := fun q h => by rw [← hAe]; exact Or.inr h
  have hS : va_S A s.heap s.heap [] := va_S.rf
  have hl := lv_entry ([.ref (ad 0), .int p1]) (n := 2) (Nat.le_of_ble_eq_true rfl)
  rw [lg_entry_eq]
  generalize (lg_sl ([.ref (ad 0), .int p1]) ++ List.replicate (2 - (lg_sl ([.ref (ad 0), .int p1])).length) Slot.unset).toArray = ls at hl ⊢
  replace hl : lv_has ls 2 [(0, .ref (ad 0)), (1, .int p1)] := hl
  have hinX6 : ∀ w ∈ u_ws RX6 TX6 27, w ∈ wsX6_tripsItself := by decide +kernel
  have hJ22 : ∀ (u : sg_St) (H : Heap) (locs : List Loc) (ls : Array Slot), fX6_tripsItself_j22 N u  = some (r, u') → va_P D vwCl (sg_WM cA ad u) H → va_D A (sg_WM cA ad u) → va_S A s.heap H locs → lv_has ls 2 [(0, .ref (ad 0))] → W p l e (headSpec wsX6_tripsItself ({ frames := 3, cells := 0, slots := 0, locals := 76 })).room s m ([.ref (ad 0), .int p1] : List Value).toArray below meth c H locs 0 0 (MQ below (va_Qi (fun x y => x = r ∧ y = u') (sg_BX D (sg_WM cA ad) A) A) ([.ref (ad 0), .int p1] : List Value).toArray s 0 0 A) (F0 m 22 ls []) := by
    intro u H locs ls hf hP hD hS hl
    unfold fX6_tripsItself_j22 at hf
    refine lv_iconst (v := 0) hx hb dX6_tripsItself_22 (by decide) ?_
    have hq := Option.some.inj hf
    exact sg_zret hx hb hr rfl hP hD hS dX6_tripsItself_23 (congrArg Prod.fst hq) (congrArg Prod.snd hq) hlocks
  unfold fX6_tripsItself at hf
  refine lv_aload_n hx hb dX6_tripsItself_0 rfl (lv_at hl 0 rfl) ?_
  refine va_get (D := D) (ci := 8) (C := RX6) (T := TX6) (N := 27) hx hb hts hinX6 hown hK.1 hP 0 rfl rfl 14 (by decide) (hts (.fieldLink RX6 41 "SwitchgearModel" "isBreaker" "[Z") (by decide +kernel)) (fun _ h9 => h9) rfl dX6_tripsItself_1 ?_
  refine lv_iload_n hx hb dX6_tripsItself_4 rfl (lv_at hl 1 rfl) ?_
  obtain ⟨hg1, hf⟩ := sg_g_s hf
  refine va_zald hx hb hK.1 hP 11 1 rfl rfl (sg_inb_s hg1) dX6_tripsItself_5 ?_
  refine lv_if_eq (tgt := 22) hx hb dX6_tripsItself_6 (by decide) (fun c6 => ?_) (fun c6 => ?_)
  · have hf := sg_ip c6 hf
    exact hJ22 _ _ _ _ hf hP hD hS (lv_sub hl [0] rfl)
  · have hf := sg_in c6 hf
    refine lv_aload_n hx hb dX6_tripsItself_9 rfl (lv_at hl 0 rfl) ?_
    refine lv_iload_n hx hb dX6_tripsItself_10 rfl (lv_at hl 1 rfl) ?_
    obtain ⟨r3, u4, hc2, hf⟩ := sg_b2_s hf
    refine sg_ci (va_runV (As := [.int p1]) (rest := []) ⟨hx, hb, hml, hown, hts⟩ (c_X6_tripped l D cA ad N _ _ _ _ hc2 _) (cwV 1 hts gX6_tripsItself_X6_tripped rfl rfl rfl (by decide +kernel) ⟨Nat.le_of_ble_eq_true rfl, Nat.le_of_ble_eq_true rfl⟩) (sg_pre hK hP hD (ci := 8) (q0 := 0) rfl rfl) rfl rfl hl.1 rfl (lv_room (Nat.le_of_ble_eq_true rfl)) dX6_tripsItself_11 ⟨Nat.zero_le _, Nat.zero_le _⟩) hD hS hA (fun H locs hP hD hS => ?_)
    refine lv_iload_n hx hb dX6_tripsItself_14 rfl (lv_at hl 1 rfl) ?_
    refine lv_icmp_ne (tgt := 22) hx hb dX6_tripsItself_15 (by decide) (fun c5 => ?_) (fun c5 => ?_)
    · have hf := sg_in c5 hf
      exact hJ22 _ _ _ _ hf hP hD hS (lv_sub hl [0] rfl)
    · have hf := sg_ip c5 hf
      refine lv_iconst (v := 1) hx hb dX6_tripsItself_18 (by decide) ?_
      refine lv_goto (tgt := 23) hx hb dX6_tripsItself_19 (by decide) ?_
      have hq := Option.some.inj hf
      exact sg_zret hx hb hr rfl hP hD hS dX6_tripsItself_23 (congrArg Prod.fst hq) (congrArg Prod.snd hq) hlocks
set_option maxRecDepth 100000 in
set_option maxHeartbeats 4000000 in
theorem c_X6_isSelective (l : Launch) (D : va_G) (cA : Nat → ClassId) (ad : Nat → Nat) (N : Nat) (u : sg_St) (p1 : Int32) (r : Int32) (u' : sg_St) (hf : fX6_isSelective N u p1 = some (r, u')) : sg_CI l D cA (sg_WM cA ad) yX6_isSelective wsX6_isSelective ({ frames := 4, cells := 0, slots := 0, locals := 97 }) [.ref (ad 0), .int p1] u r u' := by
  intro sz
  refine Met.ofW (cc := cX6_isSelective) (maxL := 2) (ret := (some .boolean)) (by decide) rfl ?_
  intro p e s m args below meth c s₁ B hml hv
  obtain ⟨rfl, hsz, hP, hK, hD0⟩ := hv
  have hx := B.exec
  have hb := B.bytes
  have hr := B.returns
  have hts := atoms_spec (ws := wsX6_isSelective) B.pre
  have hown : s.vm.findClass RX6 = some m.cls := findClass_of_methodNamed B.named
  have hlocks := B.notSynchronized
  subst hsz
  have hD := hD0.self (sz := s.heap.size)
  generalize hAe : va_A (sg_WM cA ad u) s.heap.size = A at hD ⊢
  have hA : ∀ q : Nat, s.heap.size ≤ q → A q := fun q h => by rw [← hAe]; exact Or.inr h
  have hS : va_S A s.heap s.heap [] := va_S.rf
  have hl := lv_entry ([.ref (ad 0), .int p1]) (n := 2) (Nat.le_of_ble_eq_true rfl)
  rw [lg_entry_eq]
  generalize (lg_sl ([.ref (ad 0), .int p1]) ++ List.replicate (2 - (lg_sl ([.ref (ad 0), .int p1])).length) Slot.unset).toArray = ls at hl ⊢
  replace hl : lv_has ls 2 [(0, .ref (ad 0)), (1, .int p1)] := hl
  have hJ24 : ∀ (u : sg_St) (H : Heap) (locs : List Loc) (ls : Array Slot), fX6_isSelective_j24 N u  = some (r, u') → va_P D vwCl (sg_WM cA ad u) H → va_D A (sg_WM cA ad u) → va_S A s.heap H locs → lv_has ls 2 [(0, .ref (ad 0))] → W p l e (headSpec wsX6_isSelective ({ frames := 4, cells := 0, slots := 0, locals := 97 })).room s m ([.ref (ad 0), .int p1] : List Value).toArray below meth c H locs 0 0 (MQ below (va_Qi (fun x y => x = r ∧ y = u') (sg_BX D (sg_WM cA ad) A) A) ([.ref (ad 0), .int p1] : List Value).toArray s 0 0 A) (F0 m 24 ls []) := by
    intro u H locs ls hf hP hD hS hl
    unfold fX6_isSelective_j24 at hf
    refine lv_iconst (v := 0) hx hb dX6_isSelective_24 (by decide) ?_
    have hq := Option.some.inj hf
    exact sg_zret hx hb hr rfl hP hD hS dX6_isSelective_25 (congrArg Prod.fst hq) (congrArg Prod.snd hq) hlocks
  unfold fX6_isSelective at hf
  refine lv_aload_n hx hb dX6_isSelective_0 rfl (lv_at hl 0 rfl) ?_
  refine lv_aload_n hx hb dX6_isSelective_1 rfl (lv_at hl 0 rfl) ?_
  refine lv_iload_n hx hb dX6_isSelective_2 rfl (lv_at hl 1 rfl) ?_
  obtain ⟨r2, hc1, hf⟩ := sg_b_s hf
  refine sg_ci (va_runV (As := [.int p1]) (rest := [.ref (ad 0)]) ⟨hx, hb, hml, hown, hts⟩ (c_X6_isLine l D cA ad N _ _ _ hc1 _) (cwV 1 hts gX6_isSelective_X6_isLine rfl rfl rfl (by decide +kernel) ⟨Nat.le_of_ble_eq_true rfl, Nat.le_of_ble_eq_true rfl⟩) (sg_pre hK hP hD (ci := 8) (q0 := 0) rfl rfl) rfl rfl hl.1 rfl (lv_room (Nat.le_of_ble_eq_true rfl)) dX6_isSelective_3 ⟨Nat.zero_le _, Nat.zero_le _⟩) hD hS hA (fun H locs hP hD hS => ?_)
  obtain ⟨r5, u6, hc4, hf⟩ := sg_b2_s hf
  refine sg_ci (va_runV (As := [.int r2]) (rest := []) ⟨hx, hb, hml, hown, hts⟩ (c_X6_isThere l D cA ad N _ _ _ _ hc4 _) (cwV 1 hts gX6_isSelective_X6_isThere rfl rfl rfl (by decide +kernel) ⟨Nat.le_of_ble_eq_true rfl, Nat.le_of_ble_eq_true rfl⟩) (sg_pre hK hP hD (ci := 8) (q0 := 0) rfl rfl) rfl rfl hl.1 rfl (lv_room (Nat.le_of_ble_eq_true rfl)) dX6_isSelective_6 ⟨Nat.zero_le _, Nat.zero_le _⟩) hD hS hA (fun H locs hP hD hS => ?_)
  refine lv_if_eq (tgt := 24) hx hb dX6_isSelective_9 (by decide) (fun c11 => ?_) (fun c11 => ?_)
  · have hf := sg_ip c11 hf
    exact hJ24 _ _ _ _ hf hP hD hS (lv_sub hl [0] rfl)
  · have hf := sg_in c11 hf
    refine lv_aload_n hx hb dX6_isSelective_12 rfl (lv_at hl 0 rfl) ?_
    refine lv_iload_n hx hb dX6_isSelective_13 rfl (lv_at hl 1 rfl) ?_
    obtain ⟨r8, u9, hc7, hf⟩ := sg_b2_s hf
    refine sg_ci (va_runV (As := [.int p1]) (rest := []) ⟨hx, hb, hml, hown, hts⟩ (c_X6_tripsItself l D cA ad N _ _ _ _ hc7 _) (cwV 1 hts gX6_isSelective_X6_tripsItself rfl rfl rfl (by decide +kernel) ⟨Nat.le_of_ble_eq_true rfl, Nat.le_of_ble_eq_true rfl⟩) (sg_pre hK hP hD (ci := 8) (q0 := 0) rfl rfl) rfl rfl hl.1 rfl (lv_room (Nat.le_of_ble_eq_true rfl)) dX6_isSelective_14 ⟨Nat.zero_le _, Nat.zero_le _⟩) hD hS hA (fun H locs hP hD hS => ?_)
    refine lv_if_eq (tgt := 24) hx hb dX6_isSelective_17 (by decide) (fun c10 => ?_) (fun c10 => ?_)
    · have hf := sg_ip c10 hf
      exact hJ24 _ _ _ _ hf hP hD hS (lv_sub hl [0] rfl)
    · have hf := sg_in c10 hf
      refine lv_iconst (v := 1) hx hb dX6_isSelective_20 (by decide) ?_
      refine lv_goto (tgt := 25) hx hb dX6_isSelective_21 (by decide) ?_
      have hq := Option.some.inj hf
      exact sg_zret hx hb hr rfl hP hD hS dX6_isSelective_25 (congrArg Prod.fst hq) (congrArg Prod.snd hq) hlocks
