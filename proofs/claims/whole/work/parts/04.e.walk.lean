set_option maxRecDepth 100000 in
set_option maxHeartbeats 4000000 in
theorem c_X6_in (l : Launch) (D : va_G) (cA : Nat → ClassId) (N : Nat) (p0 p1 p2 : Int32) (r : Int32) (hf : fX6_in N p0 p1 p2 = some r) : sg_CI l D cA (sg_W0) yX6_in wsX6_in ({ frames := 0, cells := 0, slots := 0, locals := 0 }) [.int p0, .int p1, .int p2] sg_u0 r sg_u0 := by
  intro sz
  refine Met.ofW (cc := cX6_in) (maxL := 3) (ret := (some .boolean)) (by decide) rfl ?_
  intro p e s m args below meth c s₁ B hml hv
  obtain ⟨rfl, hsz, hP, hK, hD0⟩ := hv
  have hx := B.exec
  have hb := B.bytes
  have hr := B.returns
  have hts := atoms_spec (ws := wsX6_in) B.pre
  have hown : s.vm.findClass RX6 = some m.cls := findClass_of_methodNamed B.named
  have hlocks := B.notSynchronized
  subst hsz
  have hD := hD0.self (sz := s.heap.size)
  generalize hAe : va_A (sg_W0 sg_u0) s.heap.size = A at hD ⊢
  have hA : ∀ q : Nat, s.heap.size ≤ q → A q := fun q h => by rw [← hAe]; exact Or.inr h
  have hS : va_S A s.heap s.heap [] := va_S.rf
  have hl := lv_entry ([.int p0, .int p1, .int p2]) (n := 3) (Nat.le_of_ble_eq_true rfl)
  rw [lg_entry_eq]
  generalize (lg_sl ([.int p0, .int p1, .int p2]) ++ List.replicate (3 - (lg_sl ([.int p0, .int p1, .int p2])).length) Slot.unset).toArray = ls at hl ⊢
  replace hl : lv_has ls 3 [(0, .int p0), (1, .int p1), (2, .int p2)] := hl
  have hJ14 : ∀ (H : Heap) (locs : List Loc) (ls : Array Slot), fX6_in_j14 N  = some r → va_P D vwCl (sg_W0 sg_u0) H → va_D A (sg_W0 sg_u0) → va_S A s.heap H locs → lv_has ls 3 [] → W p l e (headSpec wsX6_in ({ frames := 0, cells := 0, slots := 0, locals := 0 })).room s m ([.int p0, .int p1, .int p2] : List Value).toArray below meth c H locs 0 0 (MQ below (va_Qi (fun x y => x = r ∧ y = sg_u0) (sg_BX D (sg_W0) A) A) ([.int p0, .int p1, .int p2] : List Value).toArray s 0 0 A) (F0 m 14 ls []) := by
    intro H locs ls hf hP hD hS hl
    unfold fX6_in_j14 at hf
    refine lv_iconst (v := 0) hx hb dX6_in_14 (by decide) ?_
    have hq := Option.some.inj hf
    exact sg_zret hx hb hr rfl hP hD hS dX6_in_15 hq rfl hlocks
  unfold fX6_in at hf
  refine lv_iload_n hx hb dX6_in_0 rfl (lv_at hl 0 rfl) ?_
  refine lv_iload_n hx hb dX6_in_1 rfl (lv_at hl 1 rfl) ?_
  refine lv_icmp_lt (tgt := 14) hx hb dX6_in_2 (by decide) (fun c2 => ?_) (fun c2 => ?_)
  · have hf := sg_ip c2 hf
    exact hJ14 _ _ _ hf hP hD hS (lv_sub hl [] rfl)
  · have hf := sg_in c2 hf
    refine lv_iload_n hx hb dX6_in_5 rfl (lv_at hl 0 rfl) ?_
    refine lv_iload_n hx hb dX6_in_6 rfl (lv_at hl 2 rfl) ?_
    refine lv_icmp_gt (tgt := 14) hx hb dX6_in_7 (by decide) (fun c1 => ?_) (fun c1 => ?_)
    · have hf := sg_ip c1 hf
      exact hJ14 _ _ _ hf hP hD hS (lv_sub hl [] rfl)
    · have hf := sg_in c1 hf
      refine lv_iconst (v := 1) hx hb dX6_in_10 (by decide) ?_
      refine lv_goto (tgt := 15) hx hb dX6_in_11 (by decide) ?_
      have hq := Option.some.inj hf
      exact sg_zret hx hb hr rfl hP hD hS dX6_in_15 hq rfl hlocks
set_option maxRecDepth 100000 in
set_option maxHeartbeats 4000000 in
theorem c_X6_fails (l : Launch) (D : va_G) (cA : Nat → ClassId) (ad : Nat → Nat) (N : Nat) (u : sg_St) (p1 : Int32) (r : Int32) (u' : sg_St) (hf : fX6_fails N u p1 = some (r, u')) : sg_CI l D cA (sg_WM cA ad) yX6_fails wsX6_fails ({ frames := 0, cells := 0, slots := 0, locals := 0 }) [.ref (ad 0), .int p1] u r u' := by
  intro sz
  refine Met.ofW (cc := cX6_fails) (maxL := 2) (ret := (some .int)) (by decide) rfl ?_
  intro p e s m args below meth c s₁ B hml hv
  obtain ⟨rfl, hsz, hP, hK, hD0⟩ := hv
  have hx := B.exec
  have hb := B.bytes
  have hr := B.returns
  have hts := atoms_spec (ws := wsX6_fails) B.pre
  have hown : s.vm.findClass RX6 = some m.cls := findClass_of_methodNamed B.named
  have hlocks := B.notSynchronized
  subst hsz
  have hD := hD0.self (sz := s.heap.size)
  generalize hAe : va_A (sg_WM cA ad u) s.heap.size = A at hD ⊢
  have hA : ∀ q : Nat, s.heap.size ≤ q → A q := fun q h => by rw [← hAe]; exact Or.inr h
  have hS : va_S A s.heap s.heap [] := va_S.rf
  have hl := lv_entry ([.ref (ad 0), .int p1]) (n := 2) (Nat.le_of_ble_eq_true rfl)
  rw [lg_entry_eq]
  generalize (lg_sl ([.ref (ad 0), .int p1]) ++ List.replicate (2 - (lg_sl ([.ref (ad 0), .int p1])).length) Slot.unset).toArray = ls at hl ⊢
  replace hl : lv_has ls 2 [(0, .ref (ad 0)), (1, .int p1)] := hl
  have hinX6 : ∀ w ∈ u_ws RX6 TX6 27, w ∈ wsX6_fails := by decide +kernel
  unfold fX6_fails at hf
  refine lv_aload_n hx hb dX6_fails_0 rfl (lv_at hl 0 rfl) ?_
  refine lv_iload_n hx hb dX6_fails_1 rfl (lv_at hl 1 rfl) ?_
  refine va_put (D := D) (ci := 8) (v := .int p1) (ty := .int) (C := RX6) (T := TX6) (N := 27) hx hb hts hinX6 tyX6 tyX6_ok nmX6 hown hK.1 hP hD hS 0 rfl rfl 0 (by decide) (hts (.fieldLink RX6 68 "SwitchgearModel" "thrown" "I") (by decide +kernel)) (fun _ h9 => h9) rfl (by decide +kernel) rfl rfl (Nat.le_of_ble_eq_true rfl) dX6_fails_2 (fun H locs hP hD hS => ?_)
  replace hP : va_P D vwCl (sg_WM cA ad (sg_set u 0 0 p1)) H := by rw [← sg_WM_0]; exact hP
  replace hD : va_D A (sg_WM cA ad (sg_set u 0 0 p1)) := by rw [← sg_WM_0]; exact hD
  refine lv_iconst (v := 0) hx hb dX6_fails_5 (by decide) ?_
  have hq := Option.some.inj hf
  exact sg_iret hx hb hr hP hD hS dX6_fails_6 (congrArg Prod.fst hq) (congrArg Prod.snd hq) hlocks
set_option maxRecDepth 100000 in
set_option maxHeartbeats 4000000 in
theorem c_X6_addBus (l : Launch) (D : va_G) (cA : Nat → ClassId) (ad : Nat → Nat) (N : Nat) (u : sg_St) (p1 p2 : Int32) (r : Int32) (u' : sg_St) (hf : fX6_addBus N u p1 p2 = some (r, u')) : sg_CI l D cA (sg_WM cA ad) yX6_addBus wsX6_addBus ({ frames := 1, cells := 0, slots := 0, locals := 22 }) [.ref (ad 0), .int p1, .int p2] u r u' := by
  intro sz
  refine Met.ofW (cc := cX6_addBus) (maxL := 3) (ret := (some .int)) (by decide) rfl ?_
  intro p e s m args below meth c s₁ B hml hv
  obtain ⟨rfl, hsz, hP, hK, hD0⟩ := hv
  have hx := B.exec
  have hb := B.bytes
  have hr := B.returns
  have hts := atoms_spec (ws := wsX6_addBus) B.pre
  have hown : s.vm.findClass RX6 = some m.cls := findClass_of_methodNamed B.named
  have hlocks := B.notSynchronized
  subst hsz
  have hD := hD0.self (sz := s.heap.size)
  generalize hAe : va_A (sg_WM cA ad u) s.heap.size = A at hD ⊢
  have hA : ∀ q : Nat, s.heap.size ≤ q → A q := fun q h => by rw [← hAe]; exact Or.inr h
  have hS : va_S A s.heap s.heap [] := va_S.rf
  have hl := lv_entry ([.ref (ad 0), .int p1, .int p2]) (n := 3) (Nat.le_of_ble_eq_true rfl)
  rw [lg_entry_eq]
  generalize (lg_sl ([.ref (ad 0), .int p1, .int p2]) ++ List.replicate (3 - (lg_sl ([.ref (ad 0), .int p1, .int p2])).length) Slot.unset).toArray = ls at hl ⊢
  replace hl : lv_has ls 3 [(0, .ref (ad 0)), (1, .int p1), (2, .int p2)] := hl
  have hinX6 : ∀ w ∈ u_ws RX6 TX6 27, w ∈ wsX6_addBus := by decide +kernel
  have hJ20 : ∀ (u : sg_St) (H : Heap) (locs : List Loc) (ls : Array Slot), fX6_addBus_j20 N u  = some (r, u') → va_P D vwCl (sg_WM cA ad u) H → va_D A (sg_WM cA ad u) → va_S A s.heap H locs → lv_has ls 3 [(0, .ref (ad 0))] → W p l e (headSpec wsX6_addBus ({ frames := 1, cells := 0, slots := 0, locals := 22 })).room s m ([.ref (ad 0), .int p1, .int p2] : List Value).toArray below meth c H locs 0 0 (MQ below (va_Qi (fun x y => x = r ∧ y = u') (sg_BX D (sg_WM cA ad) A) A) ([.ref (ad 0), .int p1, .int p2] : List Value).toArray s 0 0 A) (F0 m 20 ls []) := by
    intro u H locs ls hf hP hD hS hl
    unfold fX6_addBus_j20 at hf
    refine lv_aload_n hx hb dX6_addBus_20 rfl (lv_at hl 0 rfl) ?_
    refine lv_iconst (v := 1) hx hb dX6_addBus_21 (by decide) ?_
    obtain ⟨r2, u3, hc1, hf⟩ := sg_b2_s hf
    refine sg_ci (va_runV (As := [.int 1]) (rest := []) ⟨hx, hb, hml, hown, hts⟩ (c_X6_fails l D cA ad N _ _ _ _ hc1 _) (cwV 1 hts gX6_addBus_X6_fails rfl rfl rfl (by decide +kernel) ⟨Nat.le_of_ble_eq_true rfl, Nat.le_of_ble_eq_true rfl⟩) (sg_pre hK hP hD (ci := 8) (q0 := 0) rfl rfl) rfl rfl hl.1 rfl (lv_room (Nat.le_of_ble_eq_true rfl)) dX6_addBus_22 ⟨Nat.zero_le _, Nat.zero_le _⟩) hD hS hA (fun H locs hP hD hS => ?_)
    have hq := Option.some.inj hf
    exact sg_iret hx hb hr hP hD hS dX6_addBus_25 (congrArg Prod.fst hq) (congrArg Prod.snd hq) hlocks
  unfold fX6_addBus at hf
  refine lv_iload_n hx hb dX6_addBus_0 rfl (lv_at hl 1 rfl) ?_
  refine lv_iconst (v := 0) hx hb dX6_addBus_1 (by decide) ?_
  refine lv_bipush (v := 99) hx hb dX6_addBus_2 (by decide) ?_
  obtain ⟨r2, hc1, hf⟩ := sg_b_s hf
  refine sg_ci0 (va_runS (As := [.int p1, .int 0, .int 99]) (rest := []) ⟨hx, hb, hml, hown, hts⟩ (c_X6_in l D cA N _ _ _ _ hc1 _) (va_cwS 3 hts gX6_addBus_X6_in rfl rfl rfl (by decide +kernel) ⟨Nat.le_of_ble_eq_true rfl, Nat.le_of_ble_eq_true rfl⟩) (sg_pre0 hK) rfl rfl hl.1 rfl (lv_room (Nat.le_of_ble_eq_true rfl)) dX6_addBus_4 ⟨Nat.zero_le _, Nat.zero_le _⟩) hP hS hA (fun H locs hP hS => ?_)
  refine lv_if_eq (tgt := 20) hx hb dX6_addBus_7 (by decide) (fun c15 => ?_) (fun c15 => ?_)
  · have hf := sg_ip c15 hf
    exact hJ20 _ _ _ _ hf hP hD hS (lv_sub hl [0] rfl)
  · have hf := sg_in c15 hf
    refine lv_iload_n hx hb dX6_addBus_10 rfl (lv_at hl 2 rfl) ?_
    refine lv_iconst (v := 0) hx hb dX6_addBus_11 (by decide) ?_
    refine lv_bipush (v := 9) hx hb dX6_addBus_12 (by decide) ?_
    obtain ⟨r5, hc4, hf⟩ := sg_b_s hf
    refine sg_ci0 (va_runS (As := [.int p2, .int 0, .int 9]) (rest := []) ⟨hx, hb, hml, hown, hts⟩ (c_X6_in l D cA N _ _ _ _ hc4 _) (va_cwS 3 hts gX6_addBus_X6_in rfl rfl rfl (by decide +kernel) ⟨Nat.le_of_ble_eq_true rfl, Nat.le_of_ble_eq_true rfl⟩) (sg_pre0 hK) rfl rfl hl.1 rfl (lv_room (Nat.le_of_ble_eq_true rfl)) dX6_addBus_14 ⟨Nat.zero_le _, Nat.zero_le _⟩) hP hS hA (fun H locs hP hS => ?_)
    refine lv_if_ne (tgt := 26) hx hb dX6_addBus_17 (by decide) (fun c14 => ?_) (fun c14 => ?_)
    · have hf := sg_in c14 hf
      refine lv_aload_n hx hb dX6_addBus_26 rfl (lv_at hl 0 rfl) ?_
      refine va_get (D := D) (ci := 8) (C := RX6) (T := TX6) (N := 27) hx hb hts hinX6 hown hK.1 hP 0 rfl rfl 1 (by decide) (hts (.fieldLink RX6 72 "SwitchgearModel" "nodes" "I") (by decide +kernel)) (fun _ h9 => h9) rfl dX6_addBus_27 ?_
      refine lv_bipush (v := 10) hx hb dX6_addBus_30 (by decide) ?_
      refine lv_icmp_ne (tgt := 41) hx hb dX6_addBus_32 (by decide) (fun c13 => ?_) (fun c13 => ?_)
      · have hf := sg_in c13 hf
        refine lv_aload_n hx hb dX6_addBus_41 rfl (lv_at hl 0 rfl) ?_
        refine lv_iconst (v := 0) hx hb dX6_addBus_42 (by decide) ?_
        refine va_put (D := D) (ci := 8) (v := .int 0) (ty := .int) (C := RX6) (T := TX6) (N := 27) hx hb hts hinX6 tyX6 tyX6_ok nmX6 hown hK.1 hP hD hS 0 rfl rfl 0 (by decide) (hts (.fieldLink RX6 68 "SwitchgearModel" "thrown" "I") (by decide +kernel)) (fun _ h9 => h9) rfl (by decide +kernel) rfl rfl (Nat.le_of_ble_eq_true rfl) dX6_addBus_43 (fun H locs hP hD hS => ?_)
        replace hP : va_P D vwCl (sg_WM cA ad (sg_set u 0 0 0)) H := by rw [← sg_WM_0]; exact hP
        replace hD : va_D A (sg_WM cA ad (sg_set u 0 0 0)) := by rw [← sg_WM_0]; exact hD
        refine lv_aload_n hx hb dX6_addBus_46 rfl (lv_at hl 0 rfl) ?_
        refine va_get (D := D) (ci := 8) (C := RX6) (T := TX6) (N := 27) hx hb hts hinX6 hown hK.1 hP 0 rfl rfl 6 (by decide) (hts (.fieldLink RX6 17 "SwitchgearModel" "load" "[I") (by decide +kernel)) (fun _ h9 => h9) rfl dX6_addBus_47 ?_
        refine lv_aload_n hx hb dX6_addBus_50 rfl (lv_at hl 0 rfl) ?_
        refine va_get (D := D) (ci := 8) (C := RX6) (T := TX6) (N := 27) hx hb hts hinX6 hown hK.1 hP 0 rfl rfl 1 (by decide) (hts (.fieldLink RX6 72 "SwitchgearModel" "nodes" "I") (by decide +kernel)) (fun _ h9 => h9) rfl dX6_addBus_51 ?_
        refine lv_iload_n hx hb dX6_addBus_54 rfl (lv_at hl 1 rfl) ?_
        obtain ⟨hg7, hf⟩ := sg_g_s hf
        refine va_iast hx hb hK.1 hP hD hS 3 0 rfl rfl (sg_inb_s hg7) dX6_addBus_55 (fun H locs hP hD hS => ?_)
        replace hP : va_P D vwCl (sg_WM cA ad (sg_set (sg_set u 0 0 0) 10 ((sg_set u 0 0 0) 1 0).toNatClampNeg p1)) H := by rw [← sg_WM_10]; exact hP
        replace hD : va_D A (sg_WM cA ad (sg_set (sg_set u 0 0 0) 10 ((sg_set u 0 0 0) 1 0).toNatClampNeg p1)) := by rw [← sg_WM_10]; exact hD
        refine lv_aload_n hx hb dX6_addBus_56 rfl (lv_at hl 0 rfl) ?_
        refine va_get (D := D) (ci := 8) (C := RX6) (T := TX6) (N := 27) hx hb hts hinX6 hown hK.1 hP 0 rfl rfl 7 (by decide) (hts (.fieldLink RX6 20 "SwitchgearModel" "priority" "[I") (by decide +kernel)) (fun _ h9 => h9) rfl dX6_addBus_57 ?_
        refine lv_aload_n hx hb dX6_addBus_60 rfl (lv_at hl 0 rfl) ?_
        refine va_get (D := D) (ci := 8) (C := RX6) (T := TX6) (N := 27) hx hb hts hinX6 hown hK.1 hP 0 rfl rfl 1 (by decide) (hts (.fieldLink RX6 72 "SwitchgearModel" "nodes" "I") (by decide +kernel)) (fun _ h9 => h9) rfl dX6_addBus_61 ?_
        refine lv_iload_n hx hb dX6_addBus_64 rfl (lv_at hl 2 rfl) ?_
        obtain ⟨hg8, hf⟩ := sg_g_s hf
        refine va_iast hx hb hK.1 hP hD hS 4 0 rfl rfl (sg_inb_s hg8) dX6_addBus_65 (fun H locs hP hD hS => ?_)
        replace hP : va_P D vwCl (sg_WM cA ad (sg_set (sg_set (sg_set u 0 0 0) 10 ((sg_set u 0 0 0) 1 0).toNatClampNeg p1) 11 ((sg_set (sg_set u 0 0 0) 10 ((sg_set u 0 0 0) 1 0).toNatClampNeg p1) 1 0).toNatClampNeg p2)) H := by rw [← sg_WM_11]; exact hP
        replace hD : va_D A (sg_WM cA ad (sg_set (sg_set (sg_set u 0 0 0) 10 ((sg_set u 0 0 0) 1 0).toNatClampNeg p1) 11 ((sg_set (sg_set u 0 0 0) 10 ((sg_set u 0 0 0) 1 0).toNatClampNeg p1) 1 0).toNatClampNeg p2)) := by rw [← sg_WM_11]; exact hD
        refine lv_aload_n hx hb dX6_addBus_66 rfl (lv_at hl 0 rfl) ?_
        refine lv_dup hx hb dX6_addBus_67 rfl ?_
        refine va_get (D := D) (ci := 8) (C := RX6) (T := TX6) (N := 27) hx hb hts hinX6 hown hK.1 hP 0 rfl rfl 1 (by decide) (hts (.fieldLink RX6 72 "SwitchgearModel" "nodes" "I") (by decide +kernel)) (fun _ h9 => h9) rfl dX6_addBus_68 ?_
        refine lv_iconst (v := 1) hx hb dX6_addBus_71 (by decide) ?_
        refine lv_iadd hx hb dX6_addBus_72 ?_
        refine lv_topi (fun x9 ex9 => ?_)
        have hf := sg_l_s ex9 hf
        refine va_put (D := D) (ci := 8) (v := .int x9) (ty := .int) (C := RX6) (T := TX6) (N := 27) hx hb hts hinX6 tyX6 tyX6_ok nmX6 hown hK.1 hP hD hS 0 rfl rfl 1 (by decide) (hts (.fieldLink RX6 72 "SwitchgearModel" "nodes" "I") (by decide +kernel)) (fun _ h9 => h9) rfl (by decide +kernel) rfl rfl (Nat.le_of_ble_eq_true rfl) dX6_addBus_73 (fun H locs hP hD hS => ?_)
        replace hP : va_P D vwCl (sg_WM cA ad (sg_set (sg_set (sg_set (sg_set u 0 0 0) 10 ((sg_set u 0 0 0) 1 0).toNatClampNeg p1) 11 ((sg_set (sg_set u 0 0 0) 10 ((sg_set u 0 0 0) 1 0).toNatClampNeg p1) 1 0).toNatClampNeg p2) 1 0 x9)) H := by rw [← sg_WM_1]; exact hP
        replace hD : va_D A (sg_WM cA ad (sg_set (sg_set (sg_set (sg_set u 0 0 0) 10 ((sg_set u 0 0 0) 1 0).toNatClampNeg p1) 11 ((sg_set (sg_set u 0 0 0) 10 ((sg_set u 0 0 0) 1 0).toNatClampNeg p1) 1 0).toNatClampNeg p2) 1 0 x9)) := by rw [← sg_WM_1]; exact hD
        refine lv_aload_n hx hb dX6_addBus_76 rfl (lv_at hl 0 rfl) ?_
        refine va_get (D := D) (ci := 8) (C := RX6) (T := TX6) (N := 27) hx hb hts hinX6 hown hK.1 hP 0 rfl rfl 1 (by decide) (hts (.fieldLink RX6 72 "SwitchgearModel" "nodes" "I") (by decide +kernel)) (fun _ h9 => h9) rfl dX6_addBus_77 ?_
        refine lv_iconst (v := 1) hx hb dX6_addBus_80 (by decide) ?_
        refine lv_isub hx hb dX6_addBus_81 ?_
        have hq := Option.some.inj hf
        exact sg_iret hx hb hr hP hD hS dX6_addBus_82 (congrArg Prod.fst hq) (congrArg Prod.snd hq) hlocks
      · have hf := sg_ip c13 hf
        refine lv_aload_n hx hb dX6_addBus_35 rfl (lv_at hl 0 rfl) ?_
        refine lv_iconst (v := 2) hx hb dX6_addBus_36 (by decide) ?_
        obtain ⟨r11, u12, hc10, hf⟩ := sg_b2_s hf
        refine sg_ci (va_runV (As := [.int 2]) (rest := []) ⟨hx, hb, hml, hown, hts⟩ (c_X6_fails l D cA ad N _ _ _ _ hc10 _) (cwV 1 hts gX6_addBus_X6_fails rfl rfl rfl (by decide +kernel) ⟨Nat.le_of_ble_eq_true rfl, Nat.le_of_ble_eq_true rfl⟩) (sg_pre hK hP hD (ci := 8) (q0 := 0) rfl rfl) rfl rfl hl.1 rfl (lv_room (Nat.le_of_ble_eq_true rfl)) dX6_addBus_37 ⟨Nat.zero_le _, Nat.zero_le _⟩) hD hS hA (fun H locs hP hD hS => ?_)
        have hq := Option.some.inj hf
        exact sg_iret hx hb hr hP hD hS dX6_addBus_40 (congrArg Prod.fst hq) (congrArg Prod.snd hq) hlocks
    · have hf := sg_ip c14 hf
      exact hJ20 _ _ _ _ hf hP hD hS (lv_sub hl [0] rfl)
set_option maxRecDepth 100000 in
set_option maxHeartbeats 4000000 in
theorem c_X6_isNode (l : Launch) (D : va_G) (cA : Nat → ClassId) (ad : Nat → Nat) (N : Nat) (u : sg_St) (p1 : Int32) (r : Int32) (hf : fX6_isNode N u p1 = some r) : sg_CI l D cA (sg_WM cA ad) yX6_isNode wsX6_isNode ({ frames := 1, cells := 0, slots := 0, locals := 22 }) [.ref (ad 0), .int p1] u r u := by
  intro sz
  refine Met.ofW (cc := cX6_isNode) (maxL := 2) (ret := (some .boolean)) (by decide) rfl ?_
  intro p e s m args below meth c s₁ B hml hv
  obtain ⟨rfl, hsz, hP, hK, hD0⟩ := hv
  have hx := B.exec
  have hb := B.bytes
  have hr := B.returns
  have hts := atoms_spec (ws := wsX6_isNode) B.pre
  have hown : s.vm.findClass RX6 = some m.cls := findClass_of_methodNamed B.named
  have hlocks := B.notSynchronized
  subst hsz
  have hD := hD0.self (sz := s.heap.size)
  generalize hAe : va_A (sg_WM cA ad u) s.heap.size = A at hD ⊢
  have hA : ∀ q : Nat, s.heap.size ≤ q → A q := fun q h => by rw [← hAe]; exact Or.inr h
  have hS : va_S A s.heap s.heap [] := va_S.rf
  have hl := lv_entry ([.ref (ad 0), .int p1]) (n := 2) (Nat.le_of_ble_eq_true rfl)
  rw [lg_entry_eq]
  generalize (lg_sl ([.ref (ad 0), .int p1]) ++ List.replicate (2 - (lg_sl ([.ref (ad 0), .int p1])).length) Slot.unset).toArray = ls at hl ⊢
  replace hl : lv_has ls 2 [(0, .ref (ad 0)), (1, .int p1)] := hl
  have hinX6 : ∀ w ∈ u_ws RX6 TX6 27, w ∈ wsX6_isNode := by decide +kernel
  unfold fX6_isNode at hf
  refine lv_iload_n hx hb dX6_isNode_0 rfl (lv_at hl 1 rfl) ?_
  refine lv_iconst (v := 0) hx hb dX6_isNode_1 (by decide) ?_
  refine lv_aload_n hx hb dX6_isNode_2 rfl (lv_at hl 0 rfl) ?_
  refine va_get (D := D) (ci := 8) (C := RX6) (T := TX6) (N := 27) hx hb hts hinX6 hown hK.1 hP 0 rfl rfl 1 (by decide) (hts (.fieldLink RX6 72 "SwitchgearModel" "nodes" "I") (by decide +kernel)) (fun _ h9 => h9) rfl dX6_isNode_3 ?_
  refine lv_iconst (v := 1) hx hb dX6_isNode_6 (by decide) ?_
  refine lv_isub hx hb dX6_isNode_7 ?_
  obtain ⟨r2, hc1, hf⟩ := sg_b_s hf
  refine sg_ci0 (va_runS (As := [.int p1, .int 0, .int ((u 1 0) - 1)]) (rest := []) ⟨hx, hb, hml, hown, hts⟩ (c_X6_in l D cA N _ _ _ _ hc1 _) (va_cwS 3 hts gX6_isNode_X6_in rfl rfl rfl (by decide +kernel) ⟨Nat.le_of_ble_eq_true rfl, Nat.le_of_ble_eq_true rfl⟩) (sg_pre0 hK) rfl rfl hl.1 rfl (lv_room (Nat.le_of_ble_eq_true rfl)) dX6_isNode_8 ⟨Nat.zero_le _, Nat.zero_le _⟩) hP hS hA (fun H locs hP hS => ?_)
  obtain ⟨hg4, hf⟩ := sg_g_s hf
  have hq := Option.some.inj hf
  exact sg_zret hx hb hr (sg_nz hg4) hP hD hS dX6_isNode_11 hq rfl hlocks
set_option maxRecDepth 100000 in
set_option maxHeartbeats 4000000 in
theorem c_X6_addLine (l : Launch) (D : va_G) (cA : Nat → ClassId) (ad : Nat → Nat) (N : Nat) (u : sg_St) (p1 p2 p3 p4 : Int32) (r : Int32) (u' : sg_St) (hf : fX6_addLine N u p1 p2 p3 p4 = some (r, u')) : sg_CI l D cA (sg_WM cA ad) yX6_addLine wsX6_addLine ({ frames := 2, cells := 0, slots := 0, locals := 43 }) [.ref (ad 0), .int p1, .int p2, .int p3, .int p4] u r u' := by
  intro sz
  refine Met.ofW (cc := cX6_addLine) (maxL := 5) (ret := (some .int)) (by decide) rfl ?_
  intro p e s m args below meth c s₁ B hml hv
  obtain ⟨rfl, hsz, hP, hK, hD0⟩ := hv
  have hx := B.exec
  have hb := B.bytes
  have hr := B.returns
  have hts := atoms_spec (ws := wsX6_addLine) B.pre
  have hown : s.vm.findClass RX6 = some m.cls := findClass_of_methodNamed B.named
  have hlocks := B.notSynchronized
  subst hsz
  have hD := hD0.self (sz := s.heap.size)
  generalize hAe : va_A (sg_WM cA ad u) s.heap.size = A at hD ⊢
  have hA : ∀ q : Nat, s.heap.size ≤ q → A q := fun q h => by rw [← hAe]; exact Or.inr h
  have hS : va_S A s.heap s.heap [] := va_S.rf
  have hl := lv_entry ([.ref (ad 0), .int p1, .int p2, .int p3, .int p4]) (n := 5) (Nat.le_of_ble_eq_true rfl)
  rw [lg_entry_eq]
  generalize (lg_sl ([.ref (ad 0), .int p1, .int p2, .int p3, .int p4]) ++ List.replicate (5 - (lg_sl ([.ref (ad 0), .int p1, .int p2, .int p3, .int p4])).length) Slot.unset).toArray = ls at hl ⊢
  replace hl : lv_has ls 5 [(0, .ref (ad 0)), (1, .int p1), (2, .int p2), (3, .int p3), (4, .int p4)] := hl
  have hinX6 : ∀ w ∈ u_ws RX6 TX6 27, w ∈ wsX6_addLine := by decide +kernel
  have hJ38 : ∀ (u : sg_St) (H : Heap) (locs : List Loc) (ls : Array Slot), fX6_addLine_j38 N u  = some (r, u') → va_P D vwCl (sg_WM cA ad u) H → va_D A (sg_WM cA ad u) → va_S A s.heap H locs → lv_has ls 5 [(0, .ref (ad 0))] → W p l e (headSpec wsX6_addLine ({ frames := 2, cells := 0, slots := 0, locals := 43 })).room s m ([.ref (ad 0), .int p1, .int p2, .int p3, .int p4] : List Value).toArray below meth c H locs 0 0 (MQ below (va_Qi (fun x y => x = r ∧ y = u') (sg_BX D (sg_WM cA ad) A) A) ([.ref (ad 0), .int p1, .int p2, .int p3, .int p4] : List Value).toArray s 0 0 A) (F0 m 38 ls []) := by
    intro u H locs ls hf hP hD hS hl
    unfold fX6_addLine_j38 at hf
    refine lv_aload_n hx hb dX6_addLine_38 rfl (lv_at hl 0 rfl) ?_
    refine lv_iconst (v := 2) hx hb dX6_addLine_39 (by decide) ?_
    obtain ⟨r2, u3, hc1, hf⟩ := sg_b2_s hf
    refine sg_ci (va_runV (As := [.int 2]) (rest := []) ⟨hx, hb, hml, hown, hts⟩ (c_X6_fails l D cA ad N _ _ _ _ hc1 _) (cwV 1 hts gX6_addLine_X6_fails rfl rfl rfl (by decide +kernel) ⟨Nat.le_of_ble_eq_true rfl, Nat.le_of_ble_eq_true rfl⟩) (sg_pre hK hP hD (ci := 8) (q0 := 0) rfl rfl) rfl rfl hl.1 rfl (lv_room (Nat.le_of_ble_eq_true rfl)) dX6_addLine_40 ⟨Nat.zero_le _, Nat.zero_le _⟩) hD hS hA (fun H locs hP hD hS => ?_)
    have hq := Option.some.inj hf
    exact sg_iret hx hb hr hP hD hS dX6_addLine_43 (congrArg Prod.fst hq) (congrArg Prod.snd hq) hlocks
  have hJ16 : ∀ (u : sg_St) (H : Heap) (locs : List Loc) (ls : Array Slot), fX6_addLine_j16 N u  = some (r, u') → va_P D vwCl (sg_WM cA ad u) H → va_D A (sg_WM cA ad u) → va_S A s.heap H locs → lv_has ls 5 [(0, .ref (ad 0))] → W p l e (headSpec wsX6_addLine ({ frames := 2, cells := 0, slots := 0, locals := 43 })).room s m ([.ref (ad 0), .int p1, .int p2, .int p3, .int p4] : List Value).toArray below meth c H locs 0 0 (MQ below (va_Qi (fun x y => x = r ∧ y = u') (sg_BX D (sg_WM cA ad) A) A) ([.ref (ad 0), .int p1, .int p2, .int p3, .int p4] : List Value).toArray s 0 0 A) (F0 m 16 ls []) := by
    intro u H locs ls hf hP hD hS hl
    unfold fX6_addLine_j16 at hf
    refine lv_aload_n hx hb dX6_addLine_16 rfl (lv_at hl 0 rfl) ?_
    refine lv_iconst (v := 1) hx hb dX6_addLine_17 (by decide) ?_
    obtain ⟨r2, u3, hc1, hf⟩ := sg_b2_s hf
    refine sg_ci (va_runV (As := [.int 1]) (rest := []) ⟨hx, hb, hml, hown, hts⟩ (c_X6_fails l D cA ad N _ _ _ _ hc1 _) (cwV 1 hts gX6_addLine_X6_fails rfl rfl rfl (by decide +kernel) ⟨Nat.le_of_ble_eq_true rfl, Nat.le_of_ble_eq_true rfl⟩) (sg_pre hK hP hD (ci := 8) (q0 := 0) rfl rfl) rfl rfl hl.1 rfl (lv_room (Nat.le_of_ble_eq_true rfl)) dX6_addLine_18 ⟨Nat.zero_le _, Nat.zero_le _⟩) hD hS hA (fun H locs hP hD hS => ?_)
    have hq := Option.some.inj hf
    exact sg_iret hx hb hr hP hD hS dX6_addLine_21 (congrArg Prod.fst hq) (congrArg Prod.snd hq) hlocks
  unfold fX6_addLine at hf
  refine lv_aload_n hx hb dX6_addLine_0 rfl (lv_at hl 0 rfl) ?_
  refine lv_iload_n hx hb dX6_addLine_1 rfl (lv_at hl 1 rfl) ?_
  obtain ⟨r2, hc1, hf⟩ := sg_b_s hf
  refine sg_ci (va_runV (As := [.int p1]) (rest := []) ⟨hx, hb, hml, hown, hts⟩ (c_X6_isNode l D cA ad N _ _ _ hc1 _) (cwV 1 hts gX6_addLine_X6_isNode rfl rfl rfl (by decide +kernel) ⟨Nat.le_of_ble_eq_true rfl, Nat.le_of_ble_eq_true rfl⟩) (sg_pre hK hP hD (ci := 8) (q0 := 0) rfl rfl) rfl rfl hl.1 rfl (lv_room (Nat.le_of_ble_eq_true rfl)) dX6_addLine_2 ⟨Nat.zero_le _, Nat.zero_le _⟩) hD hS hA (fun H locs hP hD hS => ?_)
  refine lv_if_eq (tgt := 16) hx hb dX6_addLine_5 (by decide) (fun c24 => ?_) (fun c24 => ?_)
  · have hf := sg_ip c24 hf
    exact hJ16 _ _ _ _ hf hP hD hS (lv_sub hl [0] rfl)
  · have hf := sg_in c24 hf
    refine lv_aload_n hx hb dX6_addLine_8 rfl (lv_at hl 0 rfl) ?_
    refine lv_iload_n hx hb dX6_addLine_9 rfl (lv_at hl 2 rfl) ?_
    obtain ⟨r5, hc4, hf⟩ := sg_b_s hf
    refine sg_ci (va_runV (As := [.int p2]) (rest := []) ⟨hx, hb, hml, hown, hts⟩ (c_X6_isNode l D cA ad N _ _ _ hc4 _) (cwV 1 hts gX6_addLine_X6_isNode rfl rfl rfl (by decide +kernel) ⟨Nat.le_of_ble_eq_true rfl, Nat.le_of_ble_eq_true rfl⟩) (sg_pre hK hP hD (ci := 8) (q0 := 0) rfl rfl) rfl rfl hl.1 rfl (lv_room (Nat.le_of_ble_eq_true rfl)) dX6_addLine_10 ⟨Nat.zero_le _, Nat.zero_le _⟩) hD hS hA (fun H locs hP hD hS => ?_)
    refine lv_if_ne (tgt := 22) hx hb dX6_addLine_13 (by decide) (fun c23 => ?_) (fun c23 => ?_)
    · have hf := sg_in c23 hf
      refine lv_iload_n hx hb dX6_addLine_22 rfl (lv_at hl 1 rfl) ?_
      refine lv_iload_n hx hb dX6_addLine_23 rfl (lv_at hl 2 rfl) ?_
      refine lv_icmp_eq (tgt := 38) hx hb dX6_addLine_24 (by decide) (fun c22 => ?_) (fun c22 => ?_)
      · have hf := sg_ip c22 hf
        exact hJ38 _ _ _ _ hf hP hD hS (lv_sub hl [0] rfl)
      · have hf := sg_in c22 hf
        refine lv_iload_n hx hb dX6_addLine_27 rfl (lv_at hl 3 rfl) ?_
        refine lv_iconst (v := 1) hx hb dX6_addLine_28 (by decide) ?_
        refine lv_sipush (v := 999) hx hb dX6_addLine_29 (by decide) ?_
        obtain ⟨r8, hc7, hf⟩ := sg_b_s hf
        refine sg_ci0 (va_runS (As := [.int p3, .int 1, .int 999]) (rest := []) ⟨hx, hb, hml, hown, hts⟩ (c_X6_in l D cA N _ _ _ _ hc7 _) (va_cwS 3 hts gX6_addLine_X6_in rfl rfl rfl (by decide +kernel) ⟨Nat.le_of_ble_eq_true rfl, Nat.le_of_ble_eq_true rfl⟩) (sg_pre0 hK) rfl rfl hl.1 rfl (lv_room (Nat.le_of_ble_eq_true rfl)) dX6_addLine_32 ⟨Nat.zero_le _, Nat.zero_le _⟩) hP hS hA (fun H locs hP hS => ?_)
        refine lv_if_ne (tgt := 44) hx hb dX6_addLine_35 (by decide) (fun c21 => ?_) (fun c21 => ?_)
        · have hf := sg_in c21 hf
          refine lv_aload_n hx hb dX6_addLine_44 rfl (lv_at hl 0 rfl) ?_
          refine va_get (D := D) (ci := 8) (C := RX6) (T := TX6) (N := 27) hx hb hts hinX6 hown hK.1 hP 0 rfl rfl 2 (by decide) (hts (.fieldLink RX6 79 "SwitchgearModel" "lines" "I") (by decide +kernel)) (fun _ h9 => h9) rfl dX6_addLine_45 ?_
          refine lv_bipush (v := 12) hx hb dX6_addLine_48 (by decide) ?_
          refine lv_icmp_ne (tgt := 59) hx hb dX6_addLine_50 (by decide) (fun c20 => ?_) (fun c20 => ?_)
          · have hf := sg_in c20 hf
            refine lv_aload_n hx hb dX6_addLine_59 rfl (lv_at hl 0 rfl) ?_
            refine lv_iconst (v := 0) hx hb dX6_addLine_60 (by decide) ?_
            refine va_put (D := D) (ci := 8) (v := .int 0) (ty := .int) (C := RX6) (T := TX6) (N := 27) hx hb hts hinX6 tyX6 tyX6_ok nmX6 hown hK.1 hP hD hS 0 rfl rfl 0 (by decide) (hts (.fieldLink RX6 68 "SwitchgearModel" "thrown" "I") (by decide +kernel)) (fun _ h9 => h9) rfl (by decide +kernel) rfl rfl (Nat.le_of_ble_eq_true rfl) dX6_addLine_61 (fun H locs hP hD hS => ?_)
            replace hP : va_P D vwCl (sg_WM cA ad (sg_set u 0 0 0)) H := by rw [← sg_WM_0]; exact hP
            replace hD : va_D A (sg_WM cA ad (sg_set u 0 0 0)) := by rw [← sg_WM_0]; exact hD
            refine lv_aload_n hx hb dX6_addLine_64 rfl (lv_at hl 0 rfl) ?_
            refine va_get (D := D) (ci := 8) (C := RX6) (T := TX6) (N := 27) hx hb hts hinX6 hown hK.1 hP 0 rfl rfl 8 (by decide) (hts (.fieldLink RX6 23 "SwitchgearModel" "one" "[I") (by decide +kernel)) (fun _ h9 => h9) rfl dX6_addLine_65 ?_
            refine lv_aload_n hx hb dX6_addLine_68 rfl (lv_at hl 0 rfl) ?_
            refine va_get (D := D) (ci := 8) (C := RX6) (T := TX6) (N := 27) hx hb hts hinX6 hown hK.1 hP 0 rfl rfl 2 (by decide) (hts (.fieldLink RX6 79 "SwitchgearModel" "lines" "I") (by decide +kernel)) (fun _ h9 => h9) rfl dX6_addLine_69 ?_
            refine lv_iload_n hx hb dX6_addLine_72 rfl (lv_at hl 1 rfl) ?_
            obtain ⟨hg10, hf⟩ := sg_g_s hf
            refine va_iast hx hb hK.1 hP hD hS 5 0 rfl rfl (sg_inb_s hg10) dX6_addLine_73 (fun H locs hP hD hS => ?_)
            replace hP : va_P D vwCl (sg_WM cA ad (sg_set (sg_set u 0 0 0) 12 ((sg_set u 0 0 0) 2 0).toNatClampNeg p1)) H := by rw [← sg_WM_12]; exact hP
            replace hD : va_D A (sg_WM cA ad (sg_set (sg_set u 0 0 0) 12 ((sg_set u 0 0 0) 2 0).toNatClampNeg p1)) := by rw [← sg_WM_12]; exact hD
            refine lv_aload_n hx hb dX6_addLine_74 rfl (lv_at hl 0 rfl) ?_
            refine va_get (D := D) (ci := 8) (C := RX6) (T := TX6) (N := 27) hx hb hts hinX6 hown hK.1 hP 0 rfl rfl 9 (by decide) (hts (.fieldLink RX6 26 "SwitchgearModel" "other" "[I") (by decide +kernel)) (fun _ h9 => h9) rfl dX6_addLine_75 ?_
            refine lv_aload_n hx hb dX6_addLine_78 rfl (lv_at hl 0 rfl) ?_
            refine va_get (D := D) (ci := 8) (C := RX6) (T := TX6) (N := 27) hx hb hts hinX6 hown hK.1 hP 0 rfl rfl 2 (by decide) (hts (.fieldLink RX6 79 "SwitchgearModel" "lines" "I") (by decide +kernel)) (fun _ h9 => h9) rfl dX6_addLine_79 ?_
            refine lv_iload_n hx hb dX6_addLine_82 rfl (lv_at hl 2 rfl) ?_
            obtain ⟨hg11, hf⟩ := sg_g_s hf
            refine va_iast hx hb hK.1 hP hD hS 6 0 rfl rfl (sg_inb_s hg11) dX6_addLine_83 (fun H locs hP hD hS => ?_)
            replace hP : va_P D vwCl (sg_WM cA ad (sg_set (sg_set (sg_set u 0 0 0) 12 ((sg_set u 0 0 0) 2 0).toNatClampNeg p1) 13 ((sg_set (sg_set u 0 0 0) 12 ((sg_set u 0 0 0) 2 0).toNatClampNeg p1) 2 0).toNatClampNeg p2)) H := by rw [← sg_WM_13]; exact hP
            replace hD : va_D A (sg_WM cA ad (sg_set (sg_set (sg_set u 0 0 0) 12 ((sg_set u 0 0 0) 2 0).toNatClampNeg p1) 13 ((sg_set (sg_set u 0 0 0) 12 ((sg_set u 0 0 0) 2 0).toNatClampNeg p1) 2 0).toNatClampNeg p2)) := by rw [← sg_WM_13]; exact hD
            refine lv_aload_n hx hb dX6_addLine_84 rfl (lv_at hl 0 rfl) ?_
            refine va_get (D := D) (ci := 8) (C := RX6) (T := TX6) (N := 27) hx hb hts hinX6 hown hK.1 hP 0 rfl rfl 10 (by decide) (hts (.fieldLink RX6 29 "SwitchgearModel" "rating" "[I") (by decide +kernel)) (fun _ h9 => h9) rfl dX6_addLine_85 ?_
            refine lv_aload_n hx hb dX6_addLine_88 rfl (lv_at hl 0 rfl) ?_
            refine va_get (D := D) (ci := 8) (C := RX6) (T := TX6) (N := 27) hx hb hts hinX6 hown hK.1 hP 0 rfl rfl 2 (by decide) (hts (.fieldLink RX6 79 "SwitchgearModel" "lines" "I") (by decide +kernel)) (fun _ h9 => h9) rfl dX6_addLine_89 ?_
            refine lv_iload_n hx hb dX6_addLine_92 rfl (lv_at hl 3 rfl) ?_
            obtain ⟨hg12, hf⟩ := sg_g_s hf
            refine va_iast hx hb hK.1 hP hD hS 7 0 rfl rfl (sg_inb_s hg12) dX6_addLine_93 (fun H locs hP hD hS => ?_)
            replace hP : va_P D vwCl (sg_WM cA ad (sg_set (sg_set (sg_set (sg_set u 0 0 0) 12 ((sg_set u 0 0 0) 2 0).toNatClampNeg p1) 13 ((sg_set (sg_set u 0 0 0) 12 ((sg_set u 0 0 0) 2 0).toNatClampNeg p1) 2 0).toNatClampNeg p2) 14 ((sg_set (sg_set (sg_set u 0 0 0) 12 ((sg_set u 0 0 0) 2 0).toNatClampNeg p1) 13 ((sg_set (sg_set u 0 0 0) 12 ((sg_set u 0 0 0) 2 0).toNatClampNeg p1) 2 0).toNatClampNeg p2) 2 0).toNatClampNeg p3)) H := by rw [← sg_WM_14]; exact hP
            replace hD : va_D A (sg_WM cA ad (sg_set (sg_set (sg_set (sg_set u 0 0 0) 12 ((sg_set u 0 0 0) 2 0).toNatClampNeg p1) 13 ((sg_set (sg_set u 0 0 0) 12 ((sg_set u 0 0 0) 2 0).toNatClampNeg p1) 2 0).toNatClampNeg p2) 14 ((sg_set (sg_set (sg_set u 0 0 0) 12 ((sg_set u 0 0 0) 2 0).toNatClampNeg p1) 13 ((sg_set (sg_set u 0 0 0) 12 ((sg_set u 0 0 0) 2 0).toNatClampNeg p1) 2 0).toNatClampNeg p2) 2 0).toNatClampNeg p3)) := by rw [← sg_WM_14]; exact hD
            refine lv_aload_n hx hb dX6_addLine_94 rfl (lv_at hl 0 rfl) ?_
            refine va_get (D := D) (ci := 8) (C := RX6) (T := TX6) (N := 27) hx hb hts hinX6 hown hK.1 hP 0 rfl rfl 14 (by decide) (hts (.fieldLink RX6 41 "SwitchgearModel" "isBreaker" "[Z") (by decide +kernel)) (fun _ h9 => h9) rfl dX6_addLine_95 ?_
            refine lv_aload_n hx hb dX6_addLine_98 rfl (lv_at hl 0 rfl) ?_
            refine va_get (D := D) (ci := 8) (C := RX6) (T := TX6) (N := 27) hx hb hts hinX6 hown hK.1 hP 0 rfl rfl 2 (by decide) (hts (.fieldLink RX6 79 "SwitchgearModel" "lines" "I") (by decide +kernel)) (fun _ h9 => h9) rfl dX6_addLine_99 ?_
            refine lv_iload hx hb dX6_addLine_102 (lv_at hl 4 rfl) ?_
            obtain ⟨hg13, hf⟩ := sg_g_s hf
            refine va_zast hx hb hK.1 hP hD hS 11 1 rfl rfl (sg_inb_s hg13) dX6_addLine_104 (fun H locs hP hD hS => ?_)
            replace hP : va_P D vwCl (sg_WM cA ad (sg_set (sg_set (sg_set (sg_set (sg_set u 0 0 0) 12 ((sg_set u 0 0 0) 2 0).toNatClampNeg p1) 13 ((sg_set (sg_set u 0 0 0) 12 ((sg_set u 0 0 0) 2 0).toNatClampNeg p1) 2 0).toNatClampNeg p2) 14 ((sg_set (sg_set (sg_set u 0 0 0) 12 ((sg_set u 0 0 0) 2 0).toNatClampNeg p1) 13 ((sg_set (sg_set u 0 0 0) 12 ((sg_set u 0 0 0) 2 0).toNatClampNeg p1) 2 0).toNatClampNeg p2) 2 0).toNatClampNeg p3) 18 ((sg_set (sg_set (sg_set (sg_set u 0 0 0) 12 ((sg_set u 0 0 0) 2 0).toNatClampNeg p1) 13 ((sg_set (sg_set u 0 0 0) 12 ((sg_set u 0 0 0) 2 0).toNatClampNeg p1) 2 0).toNatClampNeg p2) 14 ((sg_set (sg_set (sg_set u 0 0 0) 12 ((sg_set u 0 0 0) 2 0).toNatClampNeg p1) 13 ((sg_set (sg_set u 0 0 0) 12 ((sg_set u 0 0 0) 2 0).toNatClampNeg p1) 2 0).toNatClampNeg p2) 2 0).toNatClampNeg p3) 2 0).toNatClampNeg (vp_nar .boolean p4))) H := by rw [← sg_WM_18]; exact hP
            replace hD : va_D A (sg_WM cA ad (sg_set (sg_set (sg_set (sg_set (sg_set u 0 0 0) 12 ((sg_set u 0 0 0) 2 0).toNatClampNeg p1) 13 ((sg_set (sg_set u 0 0 0) 12 ((sg_set u 0 0 0) 2 0).toNatClampNeg p1) 2 0).toNatClampNeg p2) 14 ((sg_set (sg_set (sg_set u 0 0 0) 12 ((sg_set u 0 0 0) 2 0).toNatClampNeg p1) 13 ((sg_set (sg_set u 0 0 0) 12 ((sg_set u 0 0 0) 2 0).toNatClampNeg p1) 2 0).toNatClampNeg p2) 2 0).toNatClampNeg p3) 18 ((sg_set (sg_set (sg_set (sg_set u 0 0 0) 12 ((sg_set u 0 0 0) 2 0).toNatClampNeg p1) 13 ((sg_set (sg_set u 0 0 0) 12 ((sg_set u 0 0 0) 2 0).toNatClampNeg p1) 2 0).toNatClampNeg p2) 14 ((sg_set (sg_set (sg_set u 0 0 0) 12 ((sg_set u 0 0 0) 2 0).toNatClampNeg p1) 13 ((sg_set (sg_set u 0 0 0) 12 ((sg_set u 0 0 0) 2 0).toNatClampNeg p1) 2 0).toNatClampNeg p2) 2 0).toNatClampNeg p3) 2 0).toNatClampNeg (vp_nar .boolean p4))) := by rw [← sg_WM_18]; exact hD
            refine lv_aload_n hx hb dX6_addLine_105 rfl (lv_at hl 0 rfl) ?_
            refine va_get (D := D) (ci := 8) (C := RX6) (T := TX6) (N := 27) hx hb hts hinX6 hown hK.1 hP 0 rfl rfl 11 (by decide) (hts (.fieldLink RX6 32 "SwitchgearModel" "pickup" "[I") (by decide +kernel)) (fun _ h9 => h9) rfl dX6_addLine_106 ?_
            refine lv_aload_n hx hb dX6_addLine_109 rfl (lv_at hl 0 rfl) ?_
            refine va_get (D := D) (ci := 8) (C := RX6) (T := TX6) (N := 27) hx hb hts hinX6 hown hK.1 hP 0 rfl rfl 2 (by decide) (hts (.fieldLink RX6 79 "SwitchgearModel" "lines" "I") (by decide +kernel)) (fun _ h9 => h9) rfl dX6_addLine_110 ?_
            refine lv_iload_n hx hb dX6_addLine_113 rfl (lv_at hl 3 rfl) ?_
            obtain ⟨hg14, hf⟩ := sg_g_s hf
            refine va_iast hx hb hK.1 hP hD hS 8 0 rfl rfl (sg_inb_s hg14) dX6_addLine_114 (fun H locs hP hD hS => ?_)
            replace hP : va_P D vwCl (sg_WM cA ad (sg_set (sg_set (sg_set (sg_set (sg_set (sg_set u 0 0 0) 12 ((sg_set u 0 0 0) 2 0).toNatClampNeg p1) 13 ((sg_set (sg_set u 0 0 0) 12 ((sg_set u 0 0 0) 2 0).toNatClampNeg p1) 2 0).toNatClampNeg p2) 14 ((sg_set (sg_set (sg_set u 0 0 0) 12 ((sg_set u 0 0 0) 2 0).toNatClampNeg p1) 13 ((sg_set (sg_set u 0 0 0) 12 ((sg_set u 0 0 0) 2 0).toNatClampNeg p1) 2 0).toNatClampNeg p2) 2 0).toNatClampNeg p3) 18 ((sg_set (sg_set (sg_set (sg_set u 0 0 0) 12 ((sg_set u 0 0 0) 2 0).toNatClampNeg p1) 13 ((sg_set (sg_set u 0 0 0) 12 ((sg_set u 0 0 0) 2 0).toNatClampNeg p1) 2 0).toNatClampNeg p2) 14 ((sg_set (sg_set (sg_set u 0 0 0) 12 ((sg_set u 0 0 0) 2 0).toNatClampNeg p1) 13 ((sg_set (sg_set u 0 0 0) 12 ((sg_set u 0 0 0) 2 0).toNatClampNeg p1) 2 0).toNatClampNeg p2) 2 0).toNatClampNeg p3) 2 0).toNatClampNeg (vp_nar .boolean p4)) 15 ((sg_set (sg_set (sg_set (sg_set (sg_set u 0 0 0) 12 ((sg_set u 0 0 0) 2 0).toNatClampNeg p1) 13 ((sg_set (sg_set u 0 0 0) 12 ((sg_set u 0 0 0) 2 0).toNatClampNeg p1) 2 0).toNatClampNeg p2) 14 ((sg_set (sg_set (sg_set u 0 0 0) 12 ((sg_set u 0 0 0) 2 0).toNatClampNeg p1) 13 ((sg_set (sg_set u 0 0 0) 12 ((sg_set u 0 0 0) 2 0).toNatClampNeg p1) 2 0).toNatClampNeg p2) 2 0).toNatClampNeg p3) 18 ((sg_set (sg_set (sg_set (sg_set u 0 0 0) 12 ((sg_set u 0 0 0) 2 0).toNatClampNeg p1) 13 ((sg_set (sg_set u 0 0 0) 12 ((sg_set u 0 0 0) 2 0).toNatClampNeg p1) 2 0).toNatClampNeg p2) 14 ((sg_set (sg_set (sg_set u 0 0 0) 12 ((sg_set u 0 0 0) 2 0).toNatClampNeg p1) 13 ((sg_set (sg_set u 0 0 0) 12 ((sg_set u 0 0 0) 2 0).toNatClampNeg p1) 2 0).toNatClampNeg p2) 2 0).toNatClampNeg p3) 2 0).toNatClampNeg (vp_nar .boolean p4)) 2 0).toNatClampNeg p3)) H := by rw [← sg_WM_15]; exact hP
            replace hD : va_D A (sg_WM cA ad (sg_set (sg_set (sg_set (sg_set (sg_set (sg_set u 0 0 0) 12 ((sg_set u 0 0 0) 2 0).toNatClampNeg p1) 13 ((sg_set (sg_set u 0 0 0) 12 ((sg_set u 0 0 0) 2 0).toNatClampNeg p1) 2 0).toNatClampNeg p2) 14 ((sg_set (sg_set (sg_set u 0 0 0) 12 ((sg_set u 0 0 0) 2 0).toNatClampNeg p1) 13 ((sg_set (sg_set u 0 0 0) 12 ((sg_set u 0 0 0) 2 0).toNatClampNeg p1) 2 0).toNatClampNeg p2) 2 0).toNatClampNeg p3) 18 ((sg_set (sg_set (sg_set (sg_set u 0 0 0) 12 ((sg_set u 0 0 0) 2 0).toNatClampNeg p1) 13 ((sg_set (sg_set u 0 0 0) 12 ((sg_set u 0 0 0) 2 0).toNatClampNeg p1) 2 0).toNatClampNeg p2) 14 ((sg_set (sg_set (sg_set u 0 0 0) 12 ((sg_set u 0 0 0) 2 0).toNatClampNeg p1) 13 ((sg_set (sg_set u 0 0 0) 12 ((sg_set u 0 0 0) 2 0).toNatClampNeg p1) 2 0).toNatClampNeg p2) 2 0).toNatClampNeg p3) 2 0).toNatClampNeg (vp_nar .boolean p4)) 15 ((sg_set (sg_set (sg_set (sg_set (sg_set u 0 0 0) 12 ((sg_set u 0 0 0) 2 0).toNatClampNeg p1) 13 ((sg_set (sg_set u 0 0 0) 12 ((sg_set u 0 0 0) 2 0).toNatClampNeg p1) 2 0).toNatClampNeg p2) 14 ((sg_set (sg_set (sg_set u 0 0 0) 12 ((sg_set u 0 0 0) 2 0).toNatClampNeg p1) 13 ((sg_set (sg_set u 0 0 0) 12 ((sg_set u 0 0 0) 2 0).toNatClampNeg p1) 2 0).toNatClampNeg p2) 2 0).toNatClampNeg p3) 18 ((sg_set (sg_set (sg_set (sg_set u 0 0 0) 12 ((sg_set u 0 0 0) 2 0).toNatClampNeg p1) 13 ((sg_set (sg_set u 0 0 0) 12 ((sg_set u 0 0 0) 2 0).toNatClampNeg p1) 2 0).toNatClampNeg p2) 14 ((sg_set (sg_set (sg_set u 0 0 0) 12 ((sg_set u 0 0 0) 2 0).toNatClampNeg p1) 13 ((sg_set (sg_set u 0 0 0) 12 ((sg_set u 0 0 0) 2 0).toNatClampNeg p1) 2 0).toNatClampNeg p2) 2 0).toNatClampNeg p3) 2 0).toNatClampNeg (vp_nar .boolean p4)) 2 0).toNatClampNeg p3)) := by rw [← sg_WM_15]; exact hD
            refine lv_aload_n hx hb dX6_addLine_115 rfl (lv_at hl 0 rfl) ?_
            refine va_get (D := D) (ci := 8) (C := RX6) (T := TX6) (N := 27) hx hb hts hinX6 hown hK.1 hP 0 rfl rfl 12 (by decide) (hts (.fieldLink RX6 35 "SwitchgearModel" "multiplier" "[I") (by decide +kernel)) (fun _ h9 => h9) rfl dX6_addLine_116 ?_
            refine lv_aload_n hx hb dX6_addLine_119 rfl (lv_at hl 0 rfl) ?_
            refine va_get (D := D) (ci := 8) (C := RX6) (T := TX6) (N := 27) hx hb hts hinX6 hown hK.1 hP 0 rfl rfl 2 (by decide) (hts (.fieldLink RX6 79 "SwitchgearModel" "lines" "I") (by decide +kernel)) (fun _ h9 => h9) rfl dX6_addLine_120 ?_
            refine lv_iconst (v := 1) hx hb dX6_addLine_123 (by decide) ?_
            obtain ⟨hg15, hf⟩ := sg_g_s hf
            refine va_iast hx hb hK.1 hP hD hS 9 0 rfl rfl (sg_inb_s hg15) dX6_addLine_124 (fun H locs hP hD hS => ?_)
            replace hP : va_P D vwCl (sg_WM cA ad (sg_set (sg_set (sg_set (sg_set (sg_set (sg_set (sg_set u 0 0 0) 12 ((sg_set u 0 0 0) 2 0).toNatClampNeg p1) 13 ((sg_set (sg_set u 0 0 0) 12 ((sg_set u 0 0 0) 2 0).toNatClampNeg p1) 2 0).toNatClampNeg p2) 14 ((sg_set (sg_set (sg_set u 0 0 0) 12 ((sg_set u 0 0 0) 2 0).toNatClampNeg p1) 13 ((sg_set (sg_set u 0 0 0) 12 ((sg_set u 0 0 0) 2 0).toNatClampNeg p1) 2 0).toNatClampNeg p2) 2 0).toNatClampNeg p3) 18 ((sg_set (sg_set (sg_set (sg_set u 0 0 0) 12 ((sg_set u 0 0 0) 2 0).toNatClampNeg p1) 13 ((sg_set (sg_set u 0 0 0) 12 ((sg_set u 0 0 0) 2 0).toNatClampNeg p1) 2 0).toNatClampNeg p2) 14 ((sg_set (sg_set (sg_set u 0 0 0) 12 ((sg_set u 0 0 0) 2 0).toNatClampNeg p1) 13 ((sg_set (sg_set u 0 0 0) 12 ((sg_set u 0 0 0) 2 0).toNatClampNeg p1) 2 0).toNatClampNeg p2) 2 0).toNatClampNeg p3) 2 0).toNatClampNeg (vp_nar .boolean p4)) 15 ((sg_set (sg_set (sg_set (sg_set (sg_set u 0 0 0) 12 ((sg_set u 0 0 0) 2 0).toNatClampNeg p1) 13 ((sg_set (sg_set u 0 0 0) 12 ((sg_set u 0 0 0) 2 0).toNatClampNeg p1) 2 0).toNatClampNeg p2) 14 ((sg_set (sg_set (sg_set u 0 0 0) 12 ((sg_set u 0 0 0) 2 0).toNatClampNeg p1) 13 ((sg_set (sg_set u 0 0 0) 12 ((sg_set u 0 0 0) 2 0).toNatClampNeg p1) 2 0).toNatClampNeg p2) 2 0).toNatClampNeg p3) 18 ((sg_set (sg_set (sg_set (sg_set u 0 0 0) 12 ((sg_set u 0 0 0) 2 0).toNatClampNeg p1) 13 ((sg_set (sg_set u 0 0 0) 12 ((sg_set u 0 0 0) 2 0).toNatClampNeg p1) 2 0).toNatClampNeg p2) 14 ((sg_set (sg_set (sg_set u 0 0 0) 12 ((sg_set u 0 0 0) 2 0).toNatClampNeg p1) 13 ((sg_set (sg_set u 0 0 0) 12 ((sg_set u 0 0 0) 2 0).toNatClampNeg p1) 2 0).toNatClampNeg p2) 2 0).toNatClampNeg p3) 2 0).toNatClampNeg (vp_nar .boolean p4)) 2 0).toNatClampNeg p3) 16 ((sg_set (sg_set (sg_set (sg_set (sg_set (sg_set u 0 0 0) 12 ((sg_set u 0 0 0) 2 0).toNatClampNeg p1) 13 ((sg_set (sg_set u 0 0 0) 12 ((sg_set u 0 0 0) 2 0).toNatClampNeg p1) 2 0).toNatClampNeg p2) 14 ((sg_set (sg_set (sg_set u 0 0 0) 12 ((sg_set u 0 0 0) 2 0).toNatClampNeg p1) 13 ((sg_set (sg_set u 0 0 0) 12 ((sg_set u 0 0 0) 2 0).toNatClampNeg p1) 2 0).toNatClampNeg p2) 2 0).toNatClampNeg p3) 18 ((sg_set (sg_set (sg_set (sg_set u 0 0 0) 12 ((sg_set u 0 0 0) 2 0).toNatClampNeg p1) 13 ((sg_set (sg_set u 0 0 0) 12 ((sg_set u 0 0 0) 2 0).toNatClampNeg p1) 2 0).toNatClampNeg p2) 14 ((sg_set (sg_set (sg_set u 0 0 0) 12 ((sg_set u 0 0 0) 2 0).toNatClampNeg p1) 13 ((sg_set (sg_set u 0 0 0) 12 ((sg_set u 0 0 0) 2 0).toNatClampNeg p1) 2 0).toNatClampNeg p2) 2 0).toNatClampNeg p3) 2 0).toNatClampNeg (vp_nar .boolean p4)) 15 ((sg_set (sg_set (sg_set (sg_set (sg_set u 0 0 0) 12 ((sg_set u 0 0 0) 2 0).toNatClampNeg p1) 13 ((sg_set (sg_set u 0 0 0) 12 ((sg_set u 0 0 0) 2 0).toNatClampNeg p1) 2 0).toNatClampNeg p2) 14 ((sg_set (sg_set (sg_set u 0 0 0) 12 ((sg_set u 0 0 0) 2 0).toNatClampNeg p1) 13 ((sg_set (sg_set u 0 0 0) 12 ((sg_set u 0 0 0) 2 0).toNatClampNeg p1) 2 0).toNatClampNeg p2) 2 0).toNatClampNeg p3) 18 ((sg_set (sg_set (sg_set (sg_set u 0 0 0) 12 ((sg_set u 0 0 0) 2 0).toNatClampNeg p1) 13 ((sg_set (sg_set u 0 0 0) 12 ((sg_set u 0 0 0) 2 0).toNatClampNeg p1) 2 0).toNatClampNeg p2) 14 ((sg_set (sg_set (sg_set u 0 0 0) 12 ((sg_set u 0 0 0) 2 0).toNatClampNeg p1) 13 ((sg_set (sg_set u 0 0 0) 12 ((sg_set u 0 0 0) 2 0).toNatClampNeg p1) 2 0).toNatClampNeg p2) 2 0).toNatClampNeg p3) 2 0).toNatClampNeg (vp_nar .boolean p4)) 2 0).toNatClampNeg p3) 2 0).toNatClampNeg 1)) H := by rw [← sg_WM_16]; exact hP
            replace hD : va_D A (sg_WM cA ad (sg_set (sg_set (sg_set (sg_set (sg_set (sg_set (sg_set u 0 0 0) 12 ((sg_set u 0 0 0) 2 0).toNatClampNeg p1) 13 ((sg_set (sg_set u 0 0 0) 12 ((sg_set u 0 0 0) 2 0).toNatClampNeg p1) 2 0).toNatClampNeg p2) 14 ((sg_set (sg_set (sg_set u 0 0 0) 12 ((sg_set u 0 0 0) 2 0).toNatClampNeg p1) 13 ((sg_set (sg_set u 0 0 0) 12 ((sg_set u 0 0 0) 2 0).toNatClampNeg p1) 2 0).toNatClampNeg p2) 2 0).toNatClampNeg p3) 18 ((sg_set (sg_set (sg_set (sg_set u 0 0 0) 12 ((sg_set u 0 0 0) 2 0).toNatClampNeg p1) 13 ((sg_set (sg_set u 0 0 0) 12 ((sg_set u 0 0 0) 2 0).toNatClampNeg p1) 2 0).toNatClampNeg p2) 14 ((sg_set (sg_set (sg_set u 0 0 0) 12 ((sg_set u 0 0 0) 2 0).toNatClampNeg p1) 13 ((sg_set (sg_set u 0 0 0) 12 ((sg_set u 0 0 0) 2 0).toNatClampNeg p1) 2 0).toNatClampNeg p2) 2 0).toNatClampNeg p3) 2 0).toNatClampNeg (vp_nar .boolean p4)) 15 ((sg_set (sg_set (sg_set (sg_set (sg_set u 0 0 0) 12 ((sg_set u 0 0 0) 2 0).toNatClampNeg p1) 13 ((sg_set (sg_set u 0 0 0) 12 ((sg_set u 0 0 0) 2 0).toNatClampNeg p1) 2 0).toNatClampNeg p2) 14 ((sg_set (sg_set (sg_set u 0 0 0) 12 ((sg_set u 0 0 0) 2 0).toNatClampNeg p1) 13 ((sg_set (sg_set u 0 0 0) 12 ((sg_set u 0 0 0) 2 0).toNatClampNeg p1) 2 0).toNatClampNeg p2) 2 0).toNatClampNeg p3) 18 ((sg_set (sg_set (sg_set (sg_set u 0 0 0) 12 ((sg_set u 0 0 0) 2 0).toNatClampNeg p1) 13 ((sg_set (sg_set u 0 0 0) 12 ((sg_set u 0 0 0) 2 0).toNatClampNeg p1) 2 0).toNatClampNeg p2) 14 ((sg_set (sg_set (sg_set u 0 0 0) 12 ((sg_set u 0 0 0) 2 0).toNatClampNeg p1) 13 ((sg_set (sg_set u 0 0 0) 12 ((sg_set u 0 0 0) 2 0).toNatClampNeg p1) 2 0).toNatClampNeg p2) 2 0).toNatClampNeg p3) 2 0).toNatClampNeg (vp_nar .boolean p4)) 2 0).toNatClampNeg p3) 16 ((sg_set (sg_set (sg_set (sg_set (sg_set (sg_set u 0 0 0) 12 ((sg_set u 0 0 0) 2 0).toNatClampNeg p1) 13 ((sg_set (sg_set u 0 0 0) 12 ((sg_set u 0 0 0) 2 0).toNatClampNeg p1) 2 0).toNatClampNeg p2) 14 ((sg_set (sg_set (sg_set u 0 0 0) 12 ((sg_set u 0 0 0) 2 0).toNatClampNeg p1) 13 ((sg_set (sg_set u 0 0 0) 12 ((sg_set u 0 0 0) 2 0).toNatClampNeg p1) 2 0).toNatClampNeg p2) 2 0).toNatClampNeg p3) 18 ((sg_set (sg_set (sg_set (sg_set u 0 0 0) 12 ((sg_set u 0 0 0) 2 0).toNatClampNeg p1) 13 ((sg_set (sg_set u 0 0 0) 12 ((sg_set u 0 0 0) 2 0).toNatClampNeg p1) 2 0).toNatClampNeg p2) 14 ((sg_set (sg_set (sg_set u 0 0 0) 12 ((sg_set u 0 0 0) 2 0).toNatClampNeg p1) 13 ((sg_set (sg_set u 0 0 0) 12 ((sg_set u 0 0 0) 2 0).toNatClampNeg p1) 2 0).toNatClampNeg p2) 2 0).toNatClampNeg p3) 2 0).toNatClampNeg (vp_nar .boolean p4)) 15 ((sg_set (sg_set (sg_set (sg_set (sg_set u 0 0 0) 12 ((sg_set u 0 0 0) 2 0).toNatClampNeg p1) 13 ((sg_set (sg_set u 0 0 0) 12 ((sg_set u 0 0 0) 2 0).toNatClampNeg p1) 2 0).toNatClampNeg p2) 14 ((sg_set (sg_set (sg_set u 0 0 0) 12 ((sg_set u 0 0 0) 2 0).toNatClampNeg p1) 13 ((sg_set (sg_set u 0 0 0) 12 ((sg_set u 0 0 0) 2 0).toNatClampNeg p1) 2 0).toNatClampNeg p2) 2 0).toNatClampNeg p3) 18 ((sg_set (sg_set (sg_set (sg_set u 0 0 0) 12 ((sg_set u 0 0 0) 2 0).toNatClampNeg p1) 13 ((sg_set (sg_set u 0 0 0) 12 ((sg_set u 0 0 0) 2 0).toNatClampNeg p1) 2 0).toNatClampNeg p2) 14 ((sg_set (sg_set (sg_set u 0 0 0) 12 ((sg_set u 0 0 0) 2 0).toNatClampNeg p1) 13 ((sg_set (sg_set u 0 0 0) 12 ((sg_set u 0 0 0) 2 0).toNatClampNeg p1) 2 0).toNatClampNeg p2) 2 0).toNatClampNeg p3) 2 0).toNatClampNeg (vp_nar .boolean p4)) 2 0).toNatClampNeg p3) 2 0).toNatClampNeg 1)) := by rw [← sg_WM_16]; exact hD
            refine lv_aload_n hx hb dX6_addLine_125 rfl (lv_at hl 0 rfl) ?_
            refine lv_dup hx hb dX6_addLine_126 rfl ?_
            refine va_get (D := D) (ci := 8) (C := RX6) (T := TX6) (N := 27) hx hb hts hinX6 hown hK.1 hP 0 rfl rfl 2 (by decide) (hts (.fieldLink RX6 79 "SwitchgearModel" "lines" "I") (by decide +kernel)) (fun _ h9 => h9) rfl dX6_addLine_127 ?_
            refine lv_iconst (v := 1) hx hb dX6_addLine_130 (by decide) ?_
            refine lv_iadd hx hb dX6_addLine_131 ?_
            refine lv_topi (fun x16 ex16 => ?_)
            have hf := sg_l_s ex16 hf
            refine va_put (D := D) (ci := 8) (v := .int x16) (ty := .int) (C := RX6) (T := TX6) (N := 27) hx hb hts hinX6 tyX6 tyX6_ok nmX6 hown hK.1 hP hD hS 0 rfl rfl 2 (by decide) (hts (.fieldLink RX6 79 "SwitchgearModel" "lines" "I") (by decide +kernel)) (fun _ h9 => h9) rfl (by decide +kernel) rfl rfl (Nat.le_of_ble_eq_true rfl) dX6_addLine_132 (fun H locs hP hD hS => ?_)
            replace hP : va_P D vwCl (sg_WM cA ad (sg_set (sg_set (sg_set (sg_set (sg_set (sg_set (sg_set (sg_set u 0 0 0) 12 ((sg_set u 0 0 0) 2 0).toNatClampNeg p1) 13 ((sg_set (sg_set u 0 0 0) 12 ((sg_set u 0 0 0) 2 0).toNatClampNeg p1) 2 0).toNatClampNeg p2) 14 ((sg_set (sg_set (sg_set u 0 0 0) 12 ((sg_set u 0 0 0) 2 0).toNatClampNeg p1) 13 ((sg_set (sg_set u 0 0 0) 12 ((sg_set u 0 0 0) 2 0).toNatClampNeg p1) 2 0).toNatClampNeg p2) 2 0).toNatClampNeg p3) 18 ((sg_set (sg_set (sg_set (sg_set u 0 0 0) 12 ((sg_set u 0 0 0) 2 0).toNatClampNeg p1) 13 ((sg_set (sg_set u 0 0 0) 12 ((sg_set u 0 0 0) 2 0).toNatClampNeg p1) 2 0).toNatClampNeg p2) 14 ((sg_set (sg_set (sg_set u 0 0 0) 12 ((sg_set u 0 0 0) 2 0).toNatClampNeg p1) 13 ((sg_set (sg_set u 0 0 0) 12 ((sg_set u 0 0 0) 2 0).toNatClampNeg p1) 2 0).toNatClampNeg p2) 2 0).toNatClampNeg p3) 2 0).toNatClampNeg (vp_nar .boolean p4)) 15 ((sg_set (sg_set (sg_set (sg_set (sg_set u 0 0 0) 12 ((sg_set u 0 0 0) 2 0).toNatClampNeg p1) 13 ((sg_set (sg_set u 0 0 0) 12 ((sg_set u 0 0 0) 2 0).toNatClampNeg p1) 2 0).toNatClampNeg p2) 14 ((sg_set (sg_set (sg_set u 0 0 0) 12 ((sg_set u 0 0 0) 2 0).toNatClampNeg p1) 13 ((sg_set (sg_set u 0 0 0) 12 ((sg_set u 0 0 0) 2 0).toNatClampNeg p1) 2 0).toNatClampNeg p2) 2 0).toNatClampNeg p3) 18 ((sg_set (sg_set (sg_set (sg_set u 0 0 0) 12 ((sg_set u 0 0 0) 2 0).toNatClampNeg p1) 13 ((sg_set (sg_set u 0 0 0) 12 ((sg_set u 0 0 0) 2 0).toNatClampNeg p1) 2 0).toNatClampNeg p2) 14 ((sg_set (sg_set (sg_set u 0 0 0) 12 ((sg_set u 0 0 0) 2 0).toNatClampNeg p1) 13 ((sg_set (sg_set u 0 0 0) 12 ((sg_set u 0 0 0) 2 0).toNatClampNeg p1) 2 0).toNatClampNeg p2) 2 0).toNatClampNeg p3) 2 0).toNatClampNeg (vp_nar .boolean p4)) 2 0).toNatClampNeg p3) 16 ((sg_set (sg_set (sg_set (sg_set (sg_set (sg_set u 0 0 0) 12 ((sg_set u 0 0 0) 2 0).toNatClampNeg p1) 13 ((sg_set (sg_set u 0 0 0) 12 ((sg_set u 0 0 0) 2 0).toNatClampNeg p1) 2 0).toNatClampNeg p2) 14 ((sg_set (sg_set (sg_set u 0 0 0) 12 ((sg_set u 0 0 0) 2 0).toNatClampNeg p1) 13 ((sg_set (sg_set u 0 0 0) 12 ((sg_set u 0 0 0) 2 0).toNatClampNeg p1) 2 0).toNatClampNeg p2) 2 0).toNatClampNeg p3) 18 ((sg_set (sg_set (sg_set (sg_set u 0 0 0) 12 ((sg_set u 0 0 0) 2 0).toNatClampNeg p1) 13 ((sg_set (sg_set u 0 0 0) 12 ((sg_set u 0 0 0) 2 0).toNatClampNeg p1) 2 0).toNatClampNeg p2) 14 ((sg_set (sg_set (sg_set u 0 0 0) 12 ((sg_set u 0 0 0) 2 0).toNatClampNeg p1) 13 ((sg_set (sg_set u 0 0 0) 12 ((sg_set u 0 0 0) 2 0).toNatClampNeg p1) 2 0).toNatClampNeg p2) 2 0).toNatClampNeg p3) 2 0).toNatClampNeg (vp_nar .boolean p4)) 15 ((sg_set (sg_set (sg_set (sg_set (sg_set u 0 0 0) 12 ((sg_set u 0 0 0) 2 0).toNatClampNeg p1) 13 ((sg_set (sg_set u 0 0 0) 12 ((sg_set u 0 0 0) 2 0).toNatClampNeg p1) 2 0).toNatClampNeg p2) 14 ((sg_set (sg_set (sg_set u 0 0 0) 12 ((sg_set u 0 0 0) 2 0).toNatClampNeg p1) 13 ((sg_set (sg_set u 0 0 0) 12 ((sg_set u 0 0 0) 2 0).toNatClampNeg p1) 2 0).toNatClampNeg p2) 2 0).toNatClampNeg p3) 18 ((sg_set (sg_set (sg_set (sg_set u 0 0 0) 12 ((sg_set u 0 0 0) 2 0).toNatClampNeg p1) 13 ((sg_set (sg_set u 0 0 0) 12 ((sg_set u 0 0 0) 2 0).toNatClampNeg p1) 2 0).toNatClampNeg p2) 14 ((sg_set (sg_set (sg_set u 0 0 0) 12 ((sg_set u 0 0 0) 2 0).toNatClampNeg p1) 13 ((sg_set (sg_set u 0 0 0) 12 ((sg_set u 0 0 0) 2 0).toNatClampNeg p1) 2 0).toNatClampNeg p2) 2 0).toNatClampNeg p3) 2 0).toNatClampNeg (vp_nar .boolean p4)) 2 0).toNatClampNeg p3) 2 0).toNatClampNeg 1) 2 0 x16)) H := by rw [← sg_WM_2]; exact hP
            replace hD : va_D A (sg_WM cA ad (sg_set (sg_set (sg_set (sg_set (sg_set (sg_set (sg_set (sg_set u 0 0 0) 12 ((sg_set u 0 0 0) 2 0).toNatClampNeg p1) 13 ((sg_set (sg_set u 0 0 0) 12 ((sg_set u 0 0 0) 2 0).toNatClampNeg p1) 2 0).toNatClampNeg p2) 14 ((sg_set (sg_set (sg_set u 0 0 0) 12 ((sg_set u 0 0 0) 2 0).toNatClampNeg p1) 13 ((sg_set (sg_set u 0 0 0) 12 ((sg_set u 0 0 0) 2 0).toNatClampNeg p1) 2 0).toNatClampNeg p2) 2 0).toNatClampNeg p3) 18 ((sg_set (sg_set (sg_set (sg_set u 0 0 0) 12 ((sg_set u 0 0 0) 2 0).toNatClampNeg p1) 13 ((sg_set (sg_set u 0 0 0) 12 ((sg_set u 0 0 0) 2 0).toNatClampNeg p1) 2 0).toNatClampNeg p2) 14 ((sg_set (sg_set (sg_set u 0 0 0) 12 ((sg_set u 0 0 0) 2 0).toNatClampNeg p1) 13 ((sg_set (sg_set u 0 0 0) 12 ((sg_set u 0 0 0) 2 0).toNatClampNeg p1) 2 0).toNatClampNeg p2) 2 0).toNatClampNeg p3) 2 0).toNatClampNeg (vp_nar .boolean p4)) 15 ((sg_set (sg_set (sg_set (sg_set (sg_set u 0 0 0) 12 ((sg_set u 0 0 0) 2 0).toNatClampNeg p1) 13 ((sg_set (sg_set u 0 0 0) 12 ((sg_set u 0 0 0) 2 0).toNatClampNeg p1) 2 0).toNatClampNeg p2) 14 ((sg_set (sg_set (sg_set u 0 0 0) 12 ((sg_set u 0 0 0) 2 0).toNatClampNeg p1) 13 ((sg_set (sg_set u 0 0 0) 12 ((sg_set u 0 0 0) 2 0).toNatClampNeg p1) 2 0).toNatClampNeg p2) 2 0).toNatClampNeg p3) 18 ((sg_set (sg_set (sg_set (sg_set u 0 0 0) 12 ((sg_set u 0 0 0) 2 0).toNatClampNeg p1) 13 ((sg_set (sg_set u 0 0 0) 12 ((sg_set u 0 0 0) 2 0).toNatClampNeg p1) 2 0).toNatClampNeg p2) 14 ((sg_set (sg_set (sg_set u 0 0 0) 12 ((sg_set u 0 0 0) 2 0).toNatClampNeg p1) 13 ((sg_set (sg_set u 0 0 0) 12 ((sg_set u 0 0 0) 2 0).toNatClampNeg p1) 2 0).toNatClampNeg p2) 2 0).toNatClampNeg p3) 2 0).toNatClampNeg (vp_nar .boolean p4)) 2 0).toNatClampNeg p3) 16 ((sg_set (sg_set (sg_set (sg_set (sg_set (sg_set u 0 0 0) 12 ((sg_set u 0 0 0) 2 0).toNatClampNeg p1) 13 ((sg_set (sg_set u 0 0 0) 12 ((sg_set u 0 0 0) 2 0).toNatClampNeg p1) 2 0).toNatClampNeg p2) 14 ((sg_set (sg_set (sg_set u 0 0 0) 12 ((sg_set u 0 0 0) 2 0).toNatClampNeg p1) 13 ((sg_set (sg_set u 0 0 0) 12 ((sg_set u 0 0 0) 2 0).toNatClampNeg p1) 2 0).toNatClampNeg p2) 2 0).toNatClampNeg p3) 18 ((sg_set (sg_set (sg_set (sg_set u 0 0 0) 12 ((sg_set u 0 0 0) 2 0).toNatClampNeg p1) 13 ((sg_set (sg_set u 0 0 0) 12 ((sg_set u 0 0 0) 2 0).toNatClampNeg p1) 2 0).toNatClampNeg p2) 14 ((sg_set (sg_set (sg_set u 0 0 0) 12 ((sg_set u 0 0 0) 2 0).toNatClampNeg p1) 13 ((sg_set (sg_set u 0 0 0) 12 ((sg_set u 0 0 0) 2 0).toNatClampNeg p1) 2 0).toNatClampNeg p2) 2 0).toNatClampNeg p3) 2 0).toNatClampNeg (vp_nar .boolean p4)) 15 ((sg_set (sg_set (sg_set (sg_set (sg_set u 0 0 0) 12 ((sg_set u 0 0 0) 2 0).toNatClampNeg p1) 13 ((sg_set (sg_set u 0 0 0) 12 ((sg_set u 0 0 0) 2 0).toNatClampNeg p1) 2 0).toNatClampNeg p2) 14 ((sg_set (sg_set (sg_set u 0 0 0) 12 ((sg_set u 0 0 0) 2 0).toNatClampNeg p1) 13 ((sg_set (sg_set u 0 0 0) 12 ((sg_set u 0 0 0) 2 0).toNatClampNeg p1) 2 0).toNatClampNeg p2) 2 0).toNatClampNeg p3) 18 ((sg_set (sg_set (sg_set (sg_set u 0 0 0) 12 ((sg_set u 0 0 0) 2 0).toNatClampNeg p1) 13 ((sg_set (sg_set u 0 0 0) 12 ((sg_set u 0 0 0) 2 0).toNatClampNeg p1) 2 0).toNatClampNeg p2) 14 ((sg_set (sg_set (sg_set u 0 0 0) 12 ((sg_set u 0 0 0) 2 0).toNatClampNeg p1) 13 ((sg_set (sg_set u 0 0 0) 12 ((sg_set u 0 0 0) 2 0).toNatClampNeg p1) 2 0).toNatClampNeg p2) 2 0).toNatClampNeg p3) 2 0).toNatClampNeg (vp_nar .boolean p4)) 2 0).toNatClampNeg p3) 2 0).toNatClampNeg 1) 2 0 x16)) := by rw [← sg_WM_2]; exact hD
            refine lv_aload_n hx hb dX6_addLine_135 rfl (lv_at hl 0 rfl) ?_
            refine va_get (D := D) (ci := 8) (C := RX6) (T := TX6) (N := 27) hx hb hts hinX6 hown hK.1 hP 0 rfl rfl 2 (by decide) (hts (.fieldLink RX6 79 "SwitchgearModel" "lines" "I") (by decide +kernel)) (fun _ h9 => h9) rfl dX6_addLine_136 ?_
            refine lv_iconst (v := 1) hx hb dX6_addLine_139 (by decide) ?_
            refine lv_isub hx hb dX6_addLine_140 ?_
            have hq := Option.some.inj hf
            exact sg_iret hx hb hr hP hD hS dX6_addLine_141 (congrArg Prod.fst hq) (congrArg Prod.snd hq) hlocks
          · have hf := sg_ip c20 hf
            refine lv_aload_n hx hb dX6_addLine_53 rfl (lv_at hl 0 rfl) ?_
            refine lv_iconst (v := 3) hx hb dX6_addLine_54 (by decide) ?_
            obtain ⟨r18, u19, hc17, hf⟩ := sg_b2_s hf
            refine sg_ci (va_runV (As := [.int 3]) (rest := []) ⟨hx, hb, hml, hown, hts⟩ (c_X6_fails l D cA ad N _ _ _ _ hc17 _) (cwV 1 hts gX6_addLine_X6_fails rfl rfl rfl (by decide +kernel) ⟨Nat.le_of_ble_eq_true rfl, Nat.le_of_ble_eq_true rfl⟩) (sg_pre hK hP hD (ci := 8) (q0 := 0) rfl rfl) rfl rfl hl.1 rfl (lv_room (Nat.le_of_ble_eq_true rfl)) dX6_addLine_55 ⟨Nat.zero_le _, Nat.zero_le _⟩) hD hS hA (fun H locs hP hD hS => ?_)
            have hq := Option.some.inj hf
            exact sg_iret hx hb hr hP hD hS dX6_addLine_58 (congrArg Prod.fst hq) (congrArg Prod.snd hq) hlocks
        · have hf := sg_ip c21 hf
          exact hJ38 _ _ _ _ hf hP hD hS (lv_sub hl [0] rfl)
    · have hf := sg_ip c23 hf
      exact hJ16 _ _ _ _ hf hP hD hS (lv_sub hl [0] rfl)
set_option maxRecDepth 100000 in
set_option maxHeartbeats 4000000 in
theorem c_X6_addSource (l : Launch) (D : va_G) (cA : Nat → ClassId) (ad : Nat → Nat) (N : Nat) (u : sg_St) (p1 : Int32) (r : Int32) (u' : sg_St) (hf : fX6_addSource N u p1 = some (r, u')) : sg_CI l D cA (sg_WM cA ad) yX6_addSource wsX6_addSource ({ frames := 1, cells := 0, slots := 0, locals := 22 }) [.ref (ad 0), .int p1] u r u' := by
  intro sz
  refine Met.ofW (cc := cX6_addSource) (maxL := 2) (ret := (some .int)) (by decide) rfl ?_
  intro p e s m args below meth c s₁ B hml hv
  obtain ⟨rfl, hsz, hP, hK, hD0⟩ := hv
  have hx := B.exec
  have hb := B.bytes
  have hr := B.returns
  have hts := atoms_spec (ws := wsX6_addSource) B.pre
  have hown : s.vm.findClass RX6 = some m.cls := findClass_of_methodNamed B.named
  have hlocks := B.notSynchronized
  subst hsz
  have hD := hD0.self (sz := s.heap.size)
  generalize hAe : va_A (sg_WM cA ad u) s.heap.size = A at hD ⊢
  have hA : ∀ q : Nat, s.heap.size ≤ q → A q := fun q h => by rw [← hAe]; exact Or.inr h
  have hS : va_S A s.heap s.heap [] := va_S.rf
  have hl := lv_entry ([.ref (ad 0), .int p1]) (n := 2) (Nat.le_of_ble_eq_true rfl)
  rw [lg_entry_eq]
  generalize (lg_sl ([.ref (ad 0), .int p1]) ++ List.replicate (2 - (lg_sl ([.ref (ad 0), .int p1])).length) Slot.unset).toArray = ls at hl ⊢
  replace hl : lv_has ls 2 [(0, .ref (ad 0)), (1, .int p1)] := hl
  have hinX6 : ∀ w ∈ u_ws RX6 TX6 27, w ∈ wsX6_addSource := by decide +kernel
  unfold fX6_addSource at hf
  refine lv_iload_n hx hb dX6_addSource_0 rfl (lv_at hl 1 rfl) ?_
  refine lv_iconst (v := 1) hx hb dX6_addSource_1 (by decide) ?_
  refine lv_sipush (v := 999) hx hb dX6_addSource_2 (by decide) ?_
  obtain ⟨r2, hc1, hf⟩ := sg_b_s hf
  refine sg_ci0 (va_runS (As := [.int p1, .int 1, .int 999]) (rest := []) ⟨hx, hb, hml, hown, hts⟩ (c_X6_in l D cA N _ _ _ _ hc1 _) (va_cwS 3 hts gX6_addSource_X6_in rfl rfl rfl (by decide +kernel) ⟨Nat.le_of_ble_eq_true rfl, Nat.le_of_ble_eq_true rfl⟩) (sg_pre0 hK) rfl rfl hl.1 rfl (lv_room (Nat.le_of_ble_eq_true rfl)) dX6_addSource_5 ⟨Nat.zero_le _, Nat.zero_le _⟩) hP hS hA (fun H locs hP hS => ?_)
  refine lv_if_ne (tgt := 17) hx hb dX6_addSource_8 (by decide) (fun c14 => ?_) (fun c14 => ?_)
  · have hf := sg_in c14 hf
    refine lv_aload_n hx hb dX6_addSource_17 rfl (lv_at hl 0 rfl) ?_
    refine va_get (D := D) (ci := 8) (C := RX6) (T := TX6) (N := 27) hx hb hts hinX6 hown hK.1 hP 0 rfl rfl 1 (by decide) (hts (.fieldLink RX6 72 "SwitchgearModel" "nodes" "I") (by decide +kernel)) (fun _ h9 => h9) rfl dX6_addSource_18 ?_
    refine lv_bipush (v := 10) hx hb dX6_addSource_21 (by decide) ?_
    refine lv_icmp_ne (tgt := 32) hx hb dX6_addSource_23 (by decide) (fun c10 => ?_) (fun c10 => ?_)
    · have hf := sg_in c10 hf
      refine lv_aload_n hx hb dX6_addSource_32 rfl (lv_at hl 0 rfl) ?_
      refine lv_iconst (v := 0) hx hb dX6_addSource_33 (by decide) ?_
      refine va_put (D := D) (ci := 8) (v := .int 0) (ty := .int) (C := RX6) (T := TX6) (N := 27) hx hb hts hinX6 tyX6 tyX6_ok nmX6 hown hK.1 hP hD hS 0 rfl rfl 0 (by decide) (hts (.fieldLink RX6 68 "SwitchgearModel" "thrown" "I") (by decide +kernel)) (fun _ h9 => h9) rfl (by decide +kernel) rfl rfl (Nat.le_of_ble_eq_true rfl) dX6_addSource_34 (fun H locs hP hD hS => ?_)
      replace hP : va_P D vwCl (sg_WM cA ad (sg_set u 0 0 0)) H := by rw [← sg_WM_0]; exact hP
      replace hD : va_D A (sg_WM cA ad (sg_set u 0 0 0)) := by rw [← sg_WM_0]; exact hD
      refine lv_aload_n hx hb dX6_addSource_37 rfl (lv_at hl 0 rfl) ?_
      refine va_get (D := D) (ci := 8) (C := RX6) (T := TX6) (N := 27) hx hb hts hinX6 hown hK.1 hP 0 rfl rfl 4 (by decide) (hts (.fieldLink RX6 7 "SwitchgearModel" "isSource" "[Z") (by decide +kernel)) (fun _ h9 => h9) rfl dX6_addSource_38 ?_
      refine lv_aload_n hx hb dX6_addSource_41 rfl (lv_at hl 0 rfl) ?_
      refine va_get (D := D) (ci := 8) (C := RX6) (T := TX6) (N := 27) hx hb hts hinX6 hown hK.1 hP 0 rfl rfl 1 (by decide) (hts (.fieldLink RX6 72 "SwitchgearModel" "nodes" "I") (by decide +kernel)) (fun _ h9 => h9) rfl dX6_addSource_42 ?_
      refine lv_iconst (v := 1) hx hb dX6_addSource_45 (by decide) ?_
      obtain ⟨hg4, hf⟩ := sg_g_s hf
      refine va_zast hx hb hK.1 hP hD hS 1 1 rfl rfl (sg_inb_s hg4) dX6_addSource_46 (fun H locs hP hD hS => ?_)
      replace hP : va_P D vwCl (sg_WM cA ad (sg_set (sg_set u 0 0 0) 8 ((sg_set u 0 0 0) 1 0).toNatClampNeg (vp_nar .boolean 1))) H := by rw [← sg_WM_8]; exact hP
      replace hD : va_D A (sg_WM cA ad (sg_set (sg_set u 0 0 0) 8 ((sg_set u 0 0 0) 1 0).toNatClampNeg (vp_nar .boolean 1))) := by rw [← sg_WM_8]; exact hD
      refine lv_aload_n hx hb dX6_addSource_47 rfl (lv_at hl 0 rfl) ?_
      refine va_get (D := D) (ci := 8) (C := RX6) (T := TX6) (N := 27) hx hb hts hinX6 hown hK.1 hP 0 rfl rfl 5 (by decide) (hts (.fieldLink RX6 13 "SwitchgearModel" "capacity" "[I") (by decide +kernel)) (fun _ h9 => h9) rfl dX6_addSource_48 ?_
      refine lv_aload_n hx hb dX6_addSource_51 rfl (lv_at hl 0 rfl) ?_
      refine va_get (D := D) (ci := 8) (C := RX6) (T := TX6) (N := 27) hx hb hts hinX6 hown hK.1 hP 0 rfl rfl 1 (by decide) (hts (.fieldLink RX6 72 "SwitchgearModel" "nodes" "I") (by decide +kernel)) (fun _ h9 => h9) rfl dX6_addSource_52 ?_
      refine lv_iload_n hx hb dX6_addSource_55 rfl (lv_at hl 1 rfl) ?_
      obtain ⟨hg5, hf⟩ := sg_g_s hf
      refine va_iast hx hb hK.1 hP hD hS 2 0 rfl rfl (sg_inb_s hg5) dX6_addSource_56 (fun H locs hP hD hS => ?_)
      replace hP : va_P D vwCl (sg_WM cA ad (sg_set (sg_set (sg_set u 0 0 0) 8 ((sg_set u 0 0 0) 1 0).toNatClampNeg (vp_nar .boolean 1)) 9 ((sg_set (sg_set u 0 0 0) 8 ((sg_set u 0 0 0) 1 0).toNatClampNeg (vp_nar .boolean 1)) 1 0).toNatClampNeg p1)) H := by rw [← sg_WM_9]; exact hP
      replace hD : va_D A (sg_WM cA ad (sg_set (sg_set (sg_set u 0 0 0) 8 ((sg_set u 0 0 0) 1 0).toNatClampNeg (vp_nar .boolean 1)) 9 ((sg_set (sg_set u 0 0 0) 8 ((sg_set u 0 0 0) 1 0).toNatClampNeg (vp_nar .boolean 1)) 1 0).toNatClampNeg p1)) := by rw [← sg_WM_9]; exact hD
      refine lv_aload_n hx hb dX6_addSource_57 rfl (lv_at hl 0 rfl) ?_
      refine lv_dup hx hb dX6_addSource_58 rfl ?_
      refine va_get (D := D) (ci := 8) (C := RX6) (T := TX6) (N := 27) hx hb hts hinX6 hown hK.1 hP 0 rfl rfl 1 (by decide) (hts (.fieldLink RX6 72 "SwitchgearModel" "nodes" "I") (by decide +kernel)) (fun _ h9 => h9) rfl dX6_addSource_59 ?_
      refine lv_iconst (v := 1) hx hb dX6_addSource_62 (by decide) ?_
      refine lv_iadd hx hb dX6_addSource_63 ?_
      refine lv_topi (fun x6 ex6 => ?_)
      have hf := sg_l_s ex6 hf
      refine va_put (D := D) (ci := 8) (v := .int x6) (ty := .int) (C := RX6) (T := TX6) (N := 27) hx hb hts hinX6 tyX6 tyX6_ok nmX6 hown hK.1 hP hD hS 0 rfl rfl 1 (by decide) (hts (.fieldLink RX6 72 "SwitchgearModel" "nodes" "I") (by decide +kernel)) (fun _ h9 => h9) rfl (by decide +kernel) rfl rfl (Nat.le_of_ble_eq_true rfl) dX6_addSource_64 (fun H locs hP hD hS => ?_)
      replace hP : va_P D vwCl (sg_WM cA ad (sg_set (sg_set (sg_set (sg_set u 0 0 0) 8 ((sg_set u 0 0 0) 1 0).toNatClampNeg (vp_nar .boolean 1)) 9 ((sg_set (sg_set u 0 0 0) 8 ((sg_set u 0 0 0) 1 0).toNatClampNeg (vp_nar .boolean 1)) 1 0).toNatClampNeg p1) 1 0 x6)) H := by rw [← sg_WM_1]; exact hP
      replace hD : va_D A (sg_WM cA ad (sg_set (sg_set (sg_set (sg_set u 0 0 0) 8 ((sg_set u 0 0 0) 1 0).toNatClampNeg (vp_nar .boolean 1)) 9 ((sg_set (sg_set u 0 0 0) 8 ((sg_set u 0 0 0) 1 0).toNatClampNeg (vp_nar .boolean 1)) 1 0).toNatClampNeg p1) 1 0 x6)) := by rw [← sg_WM_1]; exact hD
      refine lv_aload_n hx hb dX6_addSource_67 rfl (lv_at hl 0 rfl) ?_
      refine va_get (D := D) (ci := 8) (C := RX6) (T := TX6) (N := 27) hx hb hts hinX6 hown hK.1 hP 0 rfl rfl 1 (by decide) (hts (.fieldLink RX6 72 "SwitchgearModel" "nodes" "I") (by decide +kernel)) (fun _ h9 => h9) rfl dX6_addSource_68 ?_
      refine lv_iconst (v := 1) hx hb dX6_addSource_71 (by decide) ?_
      refine lv_isub hx hb dX6_addSource_72 ?_
      have hq := Option.some.inj hf
      exact sg_iret hx hb hr hP hD hS dX6_addSource_73 (congrArg Prod.fst hq) (congrArg Prod.snd hq) hlocks
    · have hf := sg_ip c10 hf
      refine lv_aload_n hx hb dX6_addSource_26 rfl (lv_at hl 0 rfl) ?_
      refine lv_iconst (v := 2) hx hb dX6_addSource_27 (by decide) ?_
      obtain ⟨r8, u9, hc7, hf⟩ := sg_b2_s hf
      refine sg_ci (va_runV (As := [.int 2]) (rest := []) ⟨hx, hb, hml, hown, hts⟩ (c_X6_fails l D cA ad N _ _ _ _ hc7 _) (cwV 1 hts gX6_addSource_X6_fails rfl rfl rfl (by decide +kernel) ⟨Nat.le_of_ble_eq_true rfl, Nat.le_of_ble_eq_true rfl⟩) (sg_pre hK hP hD (ci := 8) (q0 := 0) rfl rfl) rfl rfl hl.1 rfl (lv_room (Nat.le_of_ble_eq_true rfl)) dX6_addSource_28 ⟨Nat.zero_le _, Nat.zero_le _⟩) hD hS hA (fun H locs hP hD hS => ?_)
      have hq := Option.some.inj hf
      exact sg_iret hx hb hr hP hD hS dX6_addSource_31 (congrArg Prod.fst hq) (congrArg Prod.snd hq) hlocks
  · have hf := sg_ip c14 hf
    refine lv_aload_n hx hb dX6_addSource_11 rfl (lv_at hl 0 rfl) ?_
    refine lv_iconst (v := 1) hx hb dX6_addSource_12 (by decide) ?_
    obtain ⟨r12, u13, hc11, hf⟩ := sg_b2_s hf
    refine sg_ci (va_runV (As := [.int 1]) (rest := []) ⟨hx, hb, hml, hown, hts⟩ (c_X6_fails l D cA ad N _ _ _ _ hc11 _) (cwV 1 hts gX6_addSource_X6_fails rfl rfl rfl (by decide +kernel) ⟨Nat.le_of_ble_eq_true rfl, Nat.le_of_ble_eq_true rfl⟩) (sg_pre hK hP hD (ci := 8) (q0 := 0) rfl rfl) rfl rfl hl.1 rfl (lv_room (Nat.le_of_ble_eq_true rfl)) dX6_addSource_13 ⟨Nat.zero_le _, Nat.zero_le _⟩) hD hS hA (fun H locs hP hD hS => ?_)
    have hq := Option.some.inj hf
    exact sg_iret hx hb hr hP hD hS dX6_addSource_16 (congrArg Prod.fst hq) (congrArg Prod.snd hq) hlocks
set_option maxRecDepth 100000 in
set_option maxHeartbeats 4000000 in
theorem c_X6_paints (l : Launch) (D : va_G) (cA : Nat → ClassId) (ad : Nat → Nat) (N : Nat) (u : sg_St) (p1 p2 : Int32) (u' : sg_St) (hf : fX6_paints N u p1 p2 = some u') : sg_CV l D cA (sg_WM cA ad) yX6_paints wsX6_paints ({ frames := 0, cells := 0, slots := 0, locals := 0 }) [.ref (ad 0), .int p1, .int p2] u u' := by
  intro sz
  refine Met.ofW (cc := cX6_paints) (maxL := 6) (ret := none) (by decide) rfl ?_
  intro p e s m args below meth c s₁ B hml hv
  obtain ⟨rfl, hsz, hP, hK, hD0⟩ := hv
  have hx := B.exec
  have hb := B.bytes
  have hr := B.returns
  have hts := atoms_spec (ws := wsX6_paints) B.pre
  have hown : s.vm.findClass RX6 = some m.cls := findClass_of_methodNamed B.named
  have hlocks := B.notSynchronized
  subst hsz
  have hD := hD0.self (sz := s.heap.size)
  generalize hAe : va_A (sg_WM cA ad u) s.heap.size = A at hD ⊢
  have hA : ∀ q : Nat, s.heap.size ≤ q → A q := fun q h => by rw [← hAe]; exact Or.inr h
  have hS : va_S A s.heap s.heap [] := va_S.rf
  have hl := lv_entry ([.ref (ad 0), .int p1, .int p2]) (n := 6) (Nat.le_of_ble_eq_true rfl)
  rw [lg_entry_eq]
  generalize (lg_sl ([.ref (ad 0), .int p1, .int p2]) ++ List.replicate (6 - (lg_sl ([.ref (ad 0), .int p1, .int p2])).length) Slot.unset).toArray = ls at hl ⊢
  replace hl : lv_has ls 6 [(0, .ref (ad 0)), (1, .int p1), (2, .int p2)] := hl
  have hinX6 : ∀ w ∈ u_ws RX6 TX6 27, w ∈ wsX6_paints := by decide +kernel
  have hL2 : ∀ (v1 v2 : Int32) (n : Nat) (x : sg_St × Int32) (r9 : sg_St), sg_it (fun x => fX6_paints_L2 N x.1 v1 v2 x.2) n x = some r9 → ∀ (H : Heap) (locs : List Loc) (ls : Array Slot), va_P D vwCl (sg_WM cA ad x.1) H → va_D A (sg_WM cA ad x.1) → va_S A s.heap H locs → lv_has ls 6 [(0, .ref (ad 0)), (1, .int v1), (2, .int v2), (3, .int x.2)] → (∀ (H : Heap) (locs : List Loc) (ls : Array Slot), va_P D vwCl (sg_WM cA ad r9) H → va_D A (sg_WM cA ad r9) → va_S A s.heap H locs → lv_has ls 6 [(0, .ref (ad 0)), (1, .int v1), (2, .int v2)] → W p l e (headSpec wsX6_paints ({ frames := 0, cells := 0, slots := 0, locals := 0 })).room s m ([.ref (ad 0), .int p1, .int p2] : List Value).toArray below meth c H locs 0 0 (MQ below (va_Qv (fun y => y = u') (sg_BX D (sg_WM cA ad) A) A) ([.ref (ad 0), .int p1, .int p2] : List Value).toArray s 0 0 A) (F0 m 23 ls [])) → W p l e (headSpec wsX6_paints ({ frames := 0, cells := 0, slots := 0, locals := 0 })).room s m ([.ref (ad 0), .int p1, .int p2] : List Value).toArray below meth c H locs 0 0 (MQ below (va_Qv (fun y => y = u') (sg_BX D (sg_WM cA ad) A) A) ([.ref (ad 0), .int p1, .int p2] : List Value).toArray s 0 0 A) (F0 m 2 ls []) := by
    intro v1 v2
    refine sg_loop _ ?_
    intro x y r9 hf hI hy H locs ls hP hD hS hl hk
    replace hf : fX6_paints_L2 N x.1 v1 v2 x.2 = some y := hf
    unfold fX6_paints_L2 at hf
    refine lv_iload_n hx hb dX6_paints_2 rfl (lv_at hl 3 rfl) ?_
    refine lv_aload_n hx hb dX6_paints_3 rfl (lv_at hl 0 rfl) ?_
    refine va_get (D := D) (ci := 8) (C := RX6) (T := TX6) (N := 27) hx hb hts hinX6 hown hK.1 hP 0 rfl rfl 1 (by decide) (hts (.fieldLink RX6 72 "SwitchgearModel" "nodes" "I") (by decide +kernel)) (fun _ h9 => h9) rfl dX6_paints_4 ?_
    refine lv_icmp_ge (tgt := 23) hx hb dX6_paints_7 (by decide) (fun c2 => ?_) (fun c2 => ?_)
    · have hf := sg_ip c2 hf
      have hq := hy _ (Option.some.inj hf).symm
      subst hq
      exact hk _ _ _ hP hD hS (lv_sub hl [0, 1, 2] rfl)
    · have hf := sg_in c2 hf
      refine lv_aload_n hx hb dX6_paints_10 rfl (lv_at hl 0 rfl) ?_
      refine va_get (D := D) (ci := 8) (C := RX6) (T := TX6) (N := 27) hx hb hts hinX6 hown hK.1 hP 0 rfl rfl 18 (by decide) (hts (.fieldLink RX6 53 "SwitchgearModel" "island" "[I") (by decide +kernel)) (fun _ h9 => h9) rfl dX6_paints_11 ?_
      refine lv_iload_n hx hb dX6_paints_14 rfl (lv_at hl 3 rfl) ?_
      refine lv_iload_n hx hb dX6_paints_15 rfl (lv_at hl 3 rfl) ?_
      obtain ⟨hg1, hf⟩ := sg_g_s hf
      refine va_iast hx hb hK.1 hP hD hS 15 0 rfl rfl (sg_inb_s hg1) dX6_paints_16 (fun H locs hP hD hS => ?_)
      replace hP : va_P D vwCl (sg_WM cA ad (sg_set x.1 22 (x.2).toNatClampNeg x.2)) H := by rw [← sg_WM_22]; exact hP
      replace hD : va_D A (sg_WM cA ad (sg_set x.1 22 (x.2).toNatClampNeg x.2)) := by rw [← sg_WM_22]; exact hD
      refine lv_iinc (v := x.2 + 1) (lv' := [(3, .int (x.2 + 1)), (0, .ref (ad 0)), (1, .int v1), (2, .int v2)]) hx hb dX6_paints_17 hl (k := 3) rfl rfl (by decide) rfl (fun ls hl => ?_)
      refine lv_goto (tgt := 2) hx hb dX6_paints_20 (by decide) ?_
      exact hI _ (Option.some.inj hf).symm _ _ _ hP hD hS (lv_sub hl [1, 2, 3, 0] rfl) hk
  have hL34 : ∀ (v1 v2 : Int32) (n : Nat) (x : sg_St × Int32 × Int32) (r9 : sg_St × Int32), sg_it (fun x => fX6_paints_L34 N x.1 v1 v2 x.2.1 x.2.2) n x = some r9 → ∀ (H : Heap) (locs : List Loc) (ls : Array Slot), va_P D vwCl (sg_WM cA ad x.1) H → va_D A (sg_WM cA ad x.1) → va_S A s.heap H locs → lv_has ls 6 [(0, .ref (ad 0)), (1, .int v1), (2, .int v2), (3, .int x.2.1), (4, .int x.2.2)] → (∀ (H : Heap) (locs : List Loc) (ls : Array Slot), va_P D vwCl (sg_WM cA ad r9.1) H → va_D A (sg_WM cA ad r9.1) → va_S A s.heap H locs → lv_has ls 6 [(0, .ref (ad 0)), (1, .int v1), (2, .int v2), (3, .int r9.2)] → W p l e (headSpec wsX6_paints ({ frames := 0, cells := 0, slots := 0, locals := 0 })).room s m ([.ref (ad 0), .int p1, .int p2] : List Value).toArray below meth c H locs 0 0 (MQ below (va_Qv (fun y => y = u') (sg_BX D (sg_WM cA ad) A) A) ([.ref (ad 0), .int p1, .int p2] : List Value).toArray s 0 0 A) (F0 m 187 ls [])) → W p l e (headSpec wsX6_paints ({ frames := 0, cells := 0, slots := 0, locals := 0 })).room s m ([.ref (ad 0), .int p1, .int p2] : List Value).toArray below meth c H locs 0 0 (MQ below (va_Qv (fun y => y = u') (sg_BX D (sg_WM cA ad) A) A) ([.ref (ad 0), .int p1, .int p2] : List Value).toArray s 0 0 A) (F0 m 34 ls []) := by
    intro v1 v2
    refine sg_loop _ ?_
    intro x y r9 hf hI hy H locs ls hP hD hS hl hk
    replace hf : fX6_paints_L34 N x.1 v1 v2 x.2.1 x.2.2 = some y := hf
    have hJ149 : ∀ (u : sg_St) (v4 k0 : Int32) (H : Heap) (locs : List Loc) (ls : Array Slot), fX6_paints_j149 N u v1 v2 v4 k0 = some y → va_P D vwCl (sg_WM cA ad u) H → va_D A (sg_WM cA ad u) → va_S A s.heap H locs → lv_has ls 6 [(0, .ref (ad 0)), (1, .int v1), (2, .int v2), (4, .int v4)] → W p l e (headSpec wsX6_paints ({ frames := 0, cells := 0, slots := 0, locals := 0 })).room s m ([.ref (ad 0), .int p1, .int p2] : List Value).toArray below meth c H locs 0 0 (MQ below (va_Qv (fun y => y = u') (sg_BX D (sg_WM cA ad) A) A) ([.ref (ad 0), .int p1, .int p2] : List Value).toArray s 0 0 A) (F0 m 149 ls [.int k0]) := by
      intro u v4 k0 H locs ls hf hP hD hS hl
      unfold fX6_paints_j149 at hf
      refine lv_istore (lv' := [(5, .int k0), (0, .ref (ad 0)), (1, .int v1), (2, .int v2), (4, .int v4)]) hx hb dX6_paints_149 hl (by decide) rfl (fun ls hl => ?_)
      refine lv_aload_n hx hb dX6_paints_151 rfl (lv_at hl 1 rfl) ?_
      refine va_get (D := D) (ci := 8) (C := RX6) (T := TX6) (N := 27) hx hb hts hinX6 hown hK.1 hP 0 rfl rfl 18 (by decide) (hts (.fieldLink RX6 53 "SwitchgearModel" "island" "[I") (by decide +kernel)) (fun _ h9 => h9) rfl dX6_paints_152 ?_
      refine lv_aload_n hx hb dX6_paints_155 rfl (lv_at hl 1 rfl) ?_
      refine va_get (D := D) (ci := 8) (C := RX6) (T := TX6) (N := 27) hx hb hts hinX6 hown hK.1 hP 0 rfl rfl 8 (by decide) (hts (.fieldLink RX6 23 "SwitchgearModel" "one" "[I") (by decide +kernel)) (fun _ h9 => h9) rfl dX6_paints_156 ?_
      refine lv_iload hx hb dX6_paints_159 (lv_at hl 4 rfl) ?_
      obtain ⟨hg1, hf⟩ := sg_g_s hf
      refine va_iald hx hb hK.1 hP 5 0 rfl rfl (sg_inb_s hg1) dX6_paints_161 ?_
      refine lv_iload hx hb dX6_paints_162 (lv_at hl 0 rfl) ?_
      obtain ⟨hg2, hf⟩ := sg_g_s hf
      refine va_iast hx hb hK.1 hP hD hS 15 0 rfl rfl (sg_inb_s hg2) dX6_paints_164 (fun H locs hP hD hS => ?_)
      replace hP : va_P D vwCl (sg_WM cA ad (sg_set u 22 (u 12 (v4).toNatClampNeg).toNatClampNeg k0)) H := by rw [← sg_WM_22]; exact hP
      replace hD : va_D A (sg_WM cA ad (sg_set u 22 (u 12 (v4).toNatClampNeg).toNatClampNeg k0)) := by rw [← sg_WM_22]; exact hD
      refine lv_aload_n hx hb dX6_paints_165 rfl (lv_at hl 1 rfl) ?_
      refine va_get (D := D) (ci := 8) (C := RX6) (T := TX6) (N := 27) hx hb hts hinX6 hown hK.1 hP 0 rfl rfl 18 (by decide) (hts (.fieldLink RX6 53 "SwitchgearModel" "island" "[I") (by decide +kernel)) (fun _ h9 => h9) rfl dX6_paints_166 ?_
      refine lv_aload_n hx hb dX6_paints_169 rfl (lv_at hl 1 rfl) ?_
      refine va_get (D := D) (ci := 8) (C := RX6) (T := TX6) (N := 27) hx hb hts hinX6 hown hK.1 hP 0 rfl rfl 9 (by decide) (hts (.fieldLink RX6 26 "SwitchgearModel" "other" "[I") (by decide +kernel)) (fun _ h9 => h9) rfl dX6_paints_170 ?_
      refine lv_iload hx hb dX6_paints_173 (lv_at hl 4 rfl) ?_
      obtain ⟨hg3, hf⟩ := sg_g_s hf
      refine va_iald hx hb hK.1 hP 6 0 rfl rfl (sg_inb_s hg3) dX6_paints_175 ?_
      refine lv_iload hx hb dX6_paints_176 (lv_at hl 0 rfl) ?_
      obtain ⟨hg4, hf⟩ := sg_g_s hf
      refine va_iast hx hb hK.1 hP hD hS 15 0 rfl rfl (sg_inb_s hg4) dX6_paints_178 (fun H locs hP hD hS => ?_)
      replace hP : va_P D vwCl (sg_WM cA ad (sg_set (sg_set u 22 (u 12 (v4).toNatClampNeg).toNatClampNeg k0) 22 ((sg_set u 22 (u 12 (v4).toNatClampNeg).toNatClampNeg k0) 13 (v4).toNatClampNeg).toNatClampNeg k0)) H := by rw [← sg_WM_22]; exact hP
      replace hD : va_D A (sg_WM cA ad (sg_set (sg_set u 22 (u 12 (v4).toNatClampNeg).toNatClampNeg k0) 22 ((sg_set u 22 (u 12 (v4).toNatClampNeg).toNatClampNeg k0) 13 (v4).toNatClampNeg).toNatClampNeg k0)) := by rw [← sg_WM_22]; exact hD
      refine lv_iconst (v := 1) hx hb dX6_paints_179 (by decide) ?_
      refine lv_istore_n (lv' := [(3, .int 1), (5, .int k0), (0, .ref (ad 0)), (1, .int v1), (2, .int v2), (4, .int v4)]) hx hb dX6_paints_180 rfl hl (by decide) rfl (fun ls hl => ?_)
      refine lv_iinc (v := v4 + 1) (lv' := [(4, .int (v4 + 1)), (3, .int 1), (5, .int k0), (0, .ref (ad 0)), (1, .int v1), (2, .int v2)]) hx hb dX6_paints_181 hl (k := 5) rfl rfl (by decide) rfl (fun ls hl => ?_)
      refine lv_goto (tgt := 34) hx hb dX6_paints_184 (by decide) ?_
      exact hI _ (Option.some.inj hf).symm _ _ _ hP hD hS (lv_sub hl [3, 4, 5, 1, 0] rfl) hk
    have hJ65 : ∀ (u : sg_St) (v3 v4 : Int32) (H : Heap) (locs : List Loc) (ls : Array Slot), fX6_paints_j65 N u v1 v2 v3 v4 = some y → va_P D vwCl (sg_WM cA ad u) H → va_D A (sg_WM cA ad u) → va_S A s.heap H locs → lv_has ls 6 [(0, .ref (ad 0)), (1, .int v1), (2, .int v2), (3, .int v3), (4, .int v4)] → W p l e (headSpec wsX6_paints ({ frames := 0, cells := 0, slots := 0, locals := 0 })).room s m ([.ref (ad 0), .int p1, .int p2] : List Value).toArray below meth c H locs 0 0 (MQ below (va_Qv (fun y => y = u') (sg_BX D (sg_WM cA ad) A) A) ([.ref (ad 0), .int p1, .int p2] : List Value).toArray s 0 0 A) (F0 m 65 ls []) := by
      intro u v3 v4 H locs ls hf hP hD hS hl
      unfold fX6_paints_j65 at hf
      refine lv_aload_n hx hb dX6_paints_65 rfl (lv_at hl 0 rfl) ?_
      refine va_get (D := D) (ci := 8) (C := RX6) (T := TX6) (N := 27) hx hb hts hinX6 hown hK.1 hP 0 rfl rfl 18 (by decide) (hts (.fieldLink RX6 53 "SwitchgearModel" "island" "[I") (by decide +kernel)) (fun _ h9 => h9) rfl dX6_paints_66 ?_
      refine lv_aload_n hx hb dX6_paints_69 rfl (lv_at hl 0 rfl) ?_
      refine va_get (D := D) (ci := 8) (C := RX6) (T := TX6) (N := 27) hx hb hts hinX6 hown hK.1 hP 0 rfl rfl 8 (by decide) (hts (.fieldLink RX6 23 "SwitchgearModel" "one" "[I") (by decide +kernel)) (fun _ h9 => h9) rfl dX6_paints_70 ?_
      refine lv_iload hx hb dX6_paints_73 (lv_at hl 4 rfl) ?_
      obtain ⟨hg1, hf⟩ := sg_g_s hf
      refine va_iald hx hb hK.1 hP 5 0 rfl rfl (sg_inb_s hg1) dX6_paints_75 ?_
      obtain ⟨hg2, hf⟩ := sg_g_s hf
      refine va_iald hx hb hK.1 hP 15 0 rfl rfl (sg_inb_s hg2) dX6_paints_76 ?_
      refine lv_aload_n hx hb dX6_paints_77 rfl (lv_at hl 0 rfl) ?_
      refine va_get (D := D) (ci := 8) (C := RX6) (T := TX6) (N := 27) hx hb hts hinX6 hown hK.1 hP 0 rfl rfl 18 (by decide) (hts (.fieldLink RX6 53 "SwitchgearModel" "island" "[I") (by decide +kernel)) (fun _ h9 => h9) rfl dX6_paints_78 ?_
      refine lv_aload_n hx hb dX6_paints_81 rfl (lv_at hl 0 rfl) ?_
      refine va_get (D := D) (ci := 8) (C := RX6) (T := TX6) (N := 27) hx hb hts hinX6 hown hK.1 hP 0 rfl rfl 9 (by decide) (hts (.fieldLink RX6 26 "SwitchgearModel" "other" "[I") (by decide +kernel)) (fun _ h9 => h9) rfl dX6_paints_82 ?_
      refine lv_iload hx hb dX6_paints_85 (lv_at hl 4 rfl) ?_
      obtain ⟨hg3, hf⟩ := sg_g_s hf
      refine va_iald hx hb hK.1 hP 6 0 rfl rfl (sg_inb_s hg3) dX6_paints_87 ?_
      obtain ⟨hg4, hf⟩ := sg_g_s hf
      refine va_iald hx hb hK.1 hP 15 0 rfl rfl (sg_inb_s hg4) dX6_paints_88 ?_
      refine lv_icmp_ne (tgt := 95) hx hb dX6_paints_89 (by decide) (fun c14 => ?_) (fun c14 => ?_)
      · have hf := sg_in c14 hf
        refine lv_aload_n hx hb dX6_paints_95 rfl (lv_at hl 0 rfl) ?_
        refine va_get (D := D) (ci := 8) (C := RX6) (T := TX6) (N := 27) hx hb hts hinX6 hown hK.1 hP 0 rfl rfl 18 (by decide) (hts (.fieldLink RX6 53 "SwitchgearModel" "island" "[I") (by decide +kernel)) (fun _ h9 => h9) rfl dX6_paints_96 ?_
        refine lv_aload_n hx hb dX6_paints_99 rfl (lv_at hl 0 rfl) ?_
        refine va_get (D := D) (ci := 8) (C := RX6) (T := TX6) (N := 27) hx hb hts hinX6 hown hK.1 hP 0 rfl rfl 8 (by decide) (hts (.fieldLink RX6 23 "SwitchgearModel" "one" "[I") (by decide +kernel)) (fun _ h9 => h9) rfl dX6_paints_100 ?_
        refine lv_iload hx hb dX6_paints_103 (lv_at hl 4 rfl) ?_
        obtain ⟨hg5, hf⟩ := sg_g_s hf
        refine va_iald hx hb hK.1 hP 5 0 rfl rfl (sg_inb_s hg5) dX6_paints_105 ?_
        obtain ⟨hg6, hf⟩ := sg_g_s hf
        refine va_iald hx hb hK.1 hP 15 0 rfl rfl (sg_inb_s hg6) dX6_paints_106 ?_
        refine lv_aload_n hx hb dX6_paints_107 rfl (lv_at hl 0 rfl) ?_
        refine va_get (D := D) (ci := 8) (C := RX6) (T := TX6) (N := 27) hx hb hts hinX6 hown hK.1 hP 0 rfl rfl 18 (by decide) (hts (.fieldLink RX6 53 "SwitchgearModel" "island" "[I") (by decide +kernel)) (fun _ h9 => h9) rfl dX6_paints_108 ?_
        refine lv_aload_n hx hb dX6_paints_111 rfl (lv_at hl 0 rfl) ?_
        refine va_get (D := D) (ci := 8) (C := RX6) (T := TX6) (N := 27) hx hb hts hinX6 hown hK.1 hP 0 rfl rfl 9 (by decide) (hts (.fieldLink RX6 26 "SwitchgearModel" "other" "[I") (by decide +kernel)) (fun _ h9 => h9) rfl dX6_paints_112 ?_
        refine lv_iload hx hb dX6_paints_115 (lv_at hl 4 rfl) ?_
        obtain ⟨hg7, hf⟩ := sg_g_s hf
        refine va_iald hx hb hK.1 hP 6 0 rfl rfl (sg_inb_s hg7) dX6_paints_117 ?_
        obtain ⟨hg8, hf⟩ := sg_g_s hf
        refine va_iald hx hb hK.1 hP 15 0 rfl rfl (sg_inb_s hg8) dX6_paints_118 ?_
        refine lv_icmp_ge (tgt := 137) hx hb dX6_paints_119 (by decide) (fun c13 => ?_) (fun c13 => ?_)
        · have hf := sg_ip c13 hf
          refine lv_aload_n hx hb dX6_paints_137 rfl (lv_at hl 0 rfl) ?_
          refine va_get (D := D) (ci := 8) (C := RX6) (T := TX6) (N := 27) hx hb hts hinX6 hown hK.1 hP 0 rfl rfl 18 (by decide) (hts (.fieldLink RX6 53 "SwitchgearModel" "island" "[I") (by decide +kernel)) (fun _ h9 => h9) rfl dX6_paints_138 ?_
          refine lv_aload_n hx hb dX6_paints_141 rfl (lv_at hl 0 rfl) ?_
          refine va_get (D := D) (ci := 8) (C := RX6) (T := TX6) (N := 27) hx hb hts hinX6 hown hK.1 hP 0 rfl rfl 9 (by decide) (hts (.fieldLink RX6 26 "SwitchgearModel" "other" "[I") (by decide +kernel)) (fun _ h9 => h9) rfl dX6_paints_142 ?_
          refine lv_iload hx hb dX6_paints_145 (lv_at hl 4 rfl) ?_
          obtain ⟨hg9, hf⟩ := sg_g_s hf
          refine va_iald hx hb hK.1 hP 6 0 rfl rfl (sg_inb_s hg9) dX6_paints_147 ?_
          obtain ⟨hg10, hf⟩ := sg_g_s hf
          refine va_iald hx hb hK.1 hP 15 0 rfl rfl (sg_inb_s hg10) dX6_paints_148 ?_
          exact hJ149 _ _ _ _ _ _ hf hP hD hS (lv_sub hl [0, 1, 2, 4] rfl)
        · have hf := sg_in c13 hf
          refine lv_aload_n hx hb dX6_paints_122 rfl (lv_at hl 0 rfl) ?_
          refine va_get (D := D) (ci := 8) (C := RX6) (T := TX6) (N := 27) hx hb hts hinX6 hown hK.1 hP 0 rfl rfl 18 (by decide) (hts (.fieldLink RX6 53 "SwitchgearModel" "island" "[I") (by decide +kernel)) (fun _ h9 => h9) rfl dX6_paints_123 ?_
          refine lv_aload_n hx hb dX6_paints_126 rfl (lv_at hl 0 rfl) ?_
          refine va_get (D := D) (ci := 8) (C := RX6) (T := TX6) (N := 27) hx hb hts hinX6 hown hK.1 hP 0 rfl rfl 8 (by decide) (hts (.fieldLink RX6 23 "SwitchgearModel" "one" "[I") (by decide +kernel)) (fun _ h9 => h9) rfl dX6_paints_127 ?_
          refine lv_iload hx hb dX6_paints_130 (lv_at hl 4 rfl) ?_
          obtain ⟨hg11, hf⟩ := sg_g_s hf
          refine va_iald hx hb hK.1 hP 5 0 rfl rfl (sg_inb_s hg11) dX6_paints_132 ?_
          obtain ⟨hg12, hf⟩ := sg_g_s hf
          refine va_iald hx hb hK.1 hP 15 0 rfl rfl (sg_inb_s hg12) dX6_paints_133 ?_
          refine lv_goto (tgt := 149) hx hb dX6_paints_134 (by decide) ?_
          exact hJ149 _ _ _ _ _ _ hf hP hD hS (lv_sub hl [0, 1, 2, 4] rfl)
      · have hf := sg_ip c14 hf
        refine lv_goto (tgt := 181) hx hb dX6_paints_92 (by decide) ?_
        refine lv_iinc (v := v4 + 1) (lv' := [(4, .int (v4 + 1)), (0, .ref (ad 0)), (1, .int v1), (2, .int v2), (3, .int v3)]) hx hb dX6_paints_181 hl (k := 4) rfl rfl (by decide) rfl (fun ls hl => ?_)
        refine lv_goto (tgt := 34) hx hb dX6_paints_184 (by decide) ?_
        exact hI _ (Option.some.inj hf).symm _ _ _ hP hD hS (lv_sub hl [1, 2, 3, 4, 0] rfl) hk
    unfold fX6_paints_L34 at hf
    refine lv_iload hx hb dX6_paints_34 (lv_at hl 4 rfl) ?_
    refine lv_aload_n hx hb dX6_paints_36 rfl (lv_at hl 0 rfl) ?_
    refine va_get (D := D) (ci := 8) (C := RX6) (T := TX6) (N := 27) hx hb hts hinX6 hown hK.1 hP 0 rfl rfl 2 (by decide) (hts (.fieldLink RX6 79 "SwitchgearModel" "lines" "I") (by decide +kernel)) (fun _ h9 => h9) rfl dX6_paints_37 ?_
    refine lv_icmp_ge (tgt := 187) hx hb dX6_paints_40 (by decide) (fun c5 => ?_) (fun c5 => ?_)
    · have hf := sg_ip c5 hf
      have hq := hy _ (Option.some.inj hf).symm
      subst hq
      exact hk _ _ _ hP hD hS (lv_sub hl [0, 1, 2, 3] rfl)
    · have hf := sg_in c5 hf
      refine lv_iload hx hb dX6_paints_43 (lv_at hl 4 rfl) ?_
      refine lv_iload_n hx hb dX6_paints_45 rfl (lv_at hl 1 rfl) ?_
      refine lv_icmp_eq (tgt := 181) hx hb dX6_paints_46 (by decide) (fun c4 => ?_) (fun c4 => ?_)
      · have hf := sg_ip c4 hf
        refine lv_iinc (v := x.2.2 + 1) (lv' := [(4, .int (x.2.2 + 1)), (0, .ref (ad 0)), (1, .int v1), (2, .int v2), (3, .int x.2.1)]) hx hb dX6_paints_181 hl (k := 4) rfl rfl (by decide) rfl (fun ls hl => ?_)
        refine lv_goto (tgt := 34) hx hb dX6_paints_184 (by decide) ?_
        exact hI _ (Option.some.inj hf).symm _ _ _ hP hD hS (lv_sub hl [1, 2, 3, 4, 0] rfl) hk
      · have hf := sg_in c4 hf
        refine lv_aload_n hx hb dX6_paints_49 rfl (lv_at hl 0 rfl) ?_
        refine va_get (D := D) (ci := 8) (C := RX6) (T := TX6) (N := 27) hx hb hts hinX6 hown hK.1 hP 0 rfl rfl 15 (by decide) (hts (.fieldLink RX6 44 "SwitchgearModel" "isClosed" "[Z") (by decide +kernel)) (fun _ h9 => h9) rfl dX6_paints_50 ?_
        refine lv_iload hx hb dX6_paints_53 (lv_at hl 4 rfl) ?_
        obtain ⟨hg1, hf⟩ := sg_g_s hf
        refine va_zald hx hb hK.1 hP 12 1 rfl rfl (sg_inb_s hg1) dX6_paints_55 ?_
        refine lv_if_ne (tgt := 65) hx hb dX6_paints_56 (by decide) (fun c3 => ?_) (fun c3 => ?_)
        · have hf := sg_in c3 hf
          exact hJ65 _ _ _ _ _ _ hf hP hD hS (lv_sub hl [0, 1, 2, 3, 4] rfl)
        · have hf := sg_ip c3 hf
          refine lv_iload hx hb dX6_paints_59 (lv_at hl 4 rfl) ?_
          refine lv_iload_n hx hb dX6_paints_61 rfl (lv_at hl 2 rfl) ?_
          refine lv_icmp_ne (tgt := 181) hx hb dX6_paints_62 (by decide) (fun c2 => ?_) (fun c2 => ?_)
          · have hf := sg_in c2 hf
            refine lv_iinc (v := x.2.2 + 1) (lv' := [(4, .int (x.2.2 + 1)), (0, .ref (ad 0)), (1, .int v1), (2, .int v2), (3, .int x.2.1)]) hx hb dX6_paints_181 hl (k := 4) rfl rfl (by decide) rfl (fun ls hl => ?_)
            refine lv_goto (tgt := 34) hx hb dX6_paints_184 (by decide) ?_
            exact hI _ (Option.some.inj hf).symm _ _ _ hP hD hS (lv_sub hl [1, 2, 3, 4, 0] rfl) hk
          · have hf := sg_ip c2 hf
            exact hJ65 _ _ _ _ _ _ hf hP hD hS (lv_sub hl [0, 1, 2, 3, 4] rfl)
  have hL25 : ∀ (v1 v2 : Int32) (n : Nat) (x : sg_St × Int32) (r9 : sg_St), sg_it (fun x => fX6_paints_L25 N x.1 v1 v2 x.2) n x = some r9 → ∀ (H : Heap) (locs : List Loc) (ls : Array Slot), va_P D vwCl (sg_WM cA ad x.1) H → va_D A (sg_WM cA ad x.1) → va_S A s.heap H locs → lv_has ls 6 [(0, .ref (ad 0)), (1, .int v1), (2, .int v2), (3, .int x.2)] → (∀ (H : Heap) (locs : List Loc) (ls : Array Slot), va_P D vwCl (sg_WM cA ad r9) H → va_D A (sg_WM cA ad r9) → va_S A s.heap H locs → lv_has ls 6 [(0, .ref (ad 0))] → W p l e (headSpec wsX6_paints ({ frames := 0, cells := 0, slots := 0, locals := 0 })).room s m ([.ref (ad 0), .int p1, .int p2] : List Value).toArray below meth c H locs 0 0 (MQ below (va_Qv (fun y => y = u') (sg_BX D (sg_WM cA ad) A) A) ([.ref (ad 0), .int p1, .int p2] : List Value).toArray s 0 0 A) (F0 m 190 ls [])) → W p l e (headSpec wsX6_paints ({ frames := 0, cells := 0, slots := 0, locals := 0 })).room s m ([.ref (ad 0), .int p1, .int p2] : List Value).toArray below meth c H locs 0 0 (MQ below (va_Qv (fun y => y = u') (sg_BX D (sg_WM cA ad) A) A) ([.ref (ad 0), .int p1, .int p2] : List Value).toArray s 0 0 A) (F0 m 25 ls []) := by
    intro v1 v2
    refine sg_loop _ ?_
    intro x y r9 hf hI hy H locs ls hP hD hS hl hk
    replace hf : fX6_paints_L25 N x.1 v1 v2 x.2 = some y := hf
    unfold fX6_paints_L25 at hf
    refine lv_iload_n hx hb dX6_paints_25 rfl (lv_at hl 3 rfl) ?_
    refine lv_if_eq (tgt := 190) hx hb dX6_paints_26 (by decide) (fun c3 => ?_) (fun c3 => ?_)
    · have hf := sg_ip c3 hf
      have hq := hy _ (Option.some.inj hf).symm
      subst hq
      exact hk _ _ _ hP hD hS (lv_sub hl [0] rfl)
    · have hf := sg_in c3 hf
      refine lv_iconst (v := 0) hx hb dX6_paints_29 (by decide) ?_
      refine lv_istore_n (lv' := [(3, .int 0), (0, .ref (ad 0)), (1, .int v1), (2, .int v2)]) hx hb dX6_paints_30 rfl hl (by decide) rfl (fun ls hl => ?_)
      refine lv_iconst (v := 0) hx hb dX6_paints_31 (by decide) ?_
      refine lv_istore (lv' := [(4, .int 0), (3, .int 0), (0, .ref (ad 0)), (1, .int v1), (2, .int v2)]) hx hb dX6_paints_32 hl (by decide) rfl (fun ls hl => ?_)
      obtain ⟨e1, hc2, hf⟩ := sg_b_s hf
      refine hL34 _ _ _ _ e1 hc2 _ _ _ hP hD hS (lv_sub hl [2, 3, 4, 1, 0] rfl) (fun H locs ls hP hD hS hl => ?_)
      refine lv_goto (tgt := 25) hx hb dX6_paints_187 (by decide) ?_
      exact hI _ (Option.some.inj hf).symm _ _ _ hP hD hS (lv_sub hl [0, 1, 2, 3] rfl) hk
  unfold fX6_paints at hf
  refine lv_iconst (v := 0) hx hb dX6_paints_0 (by decide) ?_
  refine lv_istore_n (lv' := [(3, .int 0), (0, .ref (ad 0)), (1, .int p1), (2, .int p2)]) hx hb dX6_paints_1 rfl hl (by decide) rfl (fun ls hl => ?_)
  obtain ⟨e1, hc2, hf⟩ := sg_b_s hf
  refine hL2 _ _ _ _ e1 hc2 _ _ _ hP hD hS (lv_sub hl [1, 2, 3, 0] rfl) (fun H locs ls hP hD hS hl => ?_)
  refine lv_iconst (v := 1) hx hb dX6_paints_23 (by decide) ?_
  refine lv_istore_n (lv' := [(3, .int 1), (0, .ref (ad 0)), (1, .int p1), (2, .int p2)]) hx hb dX6_paints_24 rfl hl (by decide) rfl (fun ls hl => ?_)
  obtain ⟨e3, hc4, hf⟩ := sg_b_s hf
  refine hL25 _ _ _ _ e3 hc4 _ _ _ hP hD hS (lv_sub hl [1, 2, 3, 0] rfl) (fun H locs ls hP hD hS hl => ?_)
  have hq := Option.some.inj hf
  exact sg_vret hx hb hr hP hD hS dX6_paints_190 hq hlocks
set_option maxRecDepth 100000 in
set_option maxHeartbeats 4000000 in
theorem c_X6_source (l : Launch) (D : va_G) (cA : Nat → ClassId) (ad : Nat → Nat) (N : Nat) (u : sg_St) (p1 : Int32) (r : Int32) (hf : fX6_source N u p1 = some r) : sg_CI l D cA (sg_WM cA ad) yX6_source wsX6_source ({ frames := 0, cells := 0, slots := 0, locals := 0 }) [.ref (ad 0), .int p1] u r u := by
  intro sz
  refine Met.ofW (cc := cX6_source) (maxL := 3) (ret := (some .int)) (by decide) rfl ?_
  intro p e s m args below meth c s₁ B hml hv
  obtain ⟨rfl, hsz, hP, hK, hD0⟩ := hv
  have hx := B.exec
  have hb := B.bytes
  have hr := B.returns
  have hts := atoms_spec (ws := wsX6_source) B.pre
  have hown : s.vm.findClass RX6 = some m.cls := findClass_of_methodNamed B.named
  have hlocks := B.notSynchronized
  subst hsz
  have hD := hD0.self (sz := s.heap.size)
  generalize hAe : va_A (sg_WM cA ad u) s.heap.size = A at hD ⊢
  have hA : ∀ q : Nat, s.heap.size ≤ q → A q := fun q h => by rw [← hAe]; exact Or.inr h
  have hS : va_S A s.heap s.heap [] := va_S.rf
  have hl := lv_entry ([.ref (ad 0), .int p1]) (n := 3) (Nat.le_of_ble_eq_true rfl)
  rw [lg_entry_eq]
  generalize (lg_sl ([.ref (ad 0), .int p1]) ++ List.replicate (3 - (lg_sl ([.ref (ad 0), .int p1])).length) Slot.unset).toArray = ls at hl ⊢
  replace hl : lv_has ls 3 [(0, .ref (ad 0)), (1, .int p1)] := hl
  have hinX6 : ∀ w ∈ u_ws RX6 TX6 27, w ∈ wsX6_source := by decide +kernel
  have hL2 : ∀ (v1 : Int32) (n : Nat) (x : Int32) (r9 : Int32), sg_it (fun x => fX6_source_L2 N u v1 x) n x = some r9 → r9 = r → ∀ (H : Heap) (locs : List Loc) (ls : Array Slot), va_P D vwCl (sg_WM cA ad u) H → va_D A (sg_WM cA ad u) → va_S A s.heap H locs → lv_has ls 3 [(0, .ref (ad 0)), (1, .int v1), (2, .int x)] → W p l e (headSpec wsX6_source ({ frames := 0, cells := 0, slots := 0, locals := 0 })).room s m ([.ref (ad 0), .int p1] : List Value).toArray below meth c H locs 0 0 (MQ below (va_Qi (fun x y => x = r ∧ y = u) (sg_BX D (sg_WM cA ad) A) A) ([.ref (ad 0), .int p1] : List Value).toArray s 0 0 A) (F0 m 2 ls []) := by
    intro v1
    refine sg_loop _ ?_
    intro x y r9 hf hI hy hr9 H locs ls hP hD hS hl
    replace hf : fX6_source_L2 N u v1 x = some y := hf
    unfold fX6_source_L2 at hf
    refine lv_iload_n hx hb dX6_source_2 rfl (lv_at hl 2 rfl) ?_
    refine lv_aload_n hx hb dX6_source_3 rfl (lv_at hl 0 rfl) ?_
    refine va_get (D := D) (ci := 8) (C := RX6) (T := TX6) (N := 27) hx hb hts hinX6 hown hK.1 hP 0 rfl rfl 1 (by decide) (hts (.fieldLink RX6 72 "SwitchgearModel" "nodes" "I") (by decide +kernel)) (fun _ h9 => h9) rfl dX6_source_4 ?_
    refine lv_icmp_ge (tgt := 37) hx hb dX6_source_7 (by decide) (fun c5 => ?_) (fun c5 => ?_)
    · have hf := sg_ip c5 hf
      refine lv_iconst (v := (-1)) hx hb dX6_source_37 (by decide) ?_
      have hq := (hy _ (Option.some.inj hf).symm).trans hr9
      exact sg_iret hx hb hr hP hD hS dX6_source_38 hq rfl hlocks
    · have hf := sg_in c5 hf
      refine lv_aload_n hx hb dX6_source_10 rfl (lv_at hl 0 rfl) ?_
      refine va_get (D := D) (ci := 8) (C := RX6) (T := TX6) (N := 27) hx hb hts hinX6 hown hK.1 hP 0 rfl rfl 4 (by decide) (hts (.fieldLink RX6 7 "SwitchgearModel" "isSource" "[Z") (by decide +kernel)) (fun _ h9 => h9) rfl dX6_source_11 ?_
      refine lv_iload_n hx hb dX6_source_14 rfl (lv_at hl 2 rfl) ?_
      obtain ⟨hg1, hf⟩ := sg_g_s hf
      refine va_zald hx hb hK.1 hP 1 1 rfl rfl (sg_inb_s hg1) dX6_source_15 ?_
      refine lv_if_eq (tgt := 31) hx hb dX6_source_16 (by decide) (fun c4 => ?_) (fun c4 => ?_)
      · have hf := sg_ip c4 hf
        refine lv_iinc (v := x + 1) (lv' := [(2, .int (x + 1)), (0, .ref (ad 0)), (1, .int v1)]) hx hb dX6_source_31 hl (k := 2) rfl rfl (by decide) rfl (fun ls hl => ?_)
        refine lv_goto (tgt := 2) hx hb dX6_source_34 (by decide) ?_
        exact hI _ (Option.some.inj hf).symm hr9 _ _ _ hP hD hS (lv_sub hl [1, 2, 0] rfl)
      · have hf := sg_in c4 hf
        refine lv_aload_n hx hb dX6_source_19 rfl (lv_at hl 0 rfl) ?_
        refine va_get (D := D) (ci := 8) (C := RX6) (T := TX6) (N := 27) hx hb hts hinX6 hown hK.1 hP 0 rfl rfl 18 (by decide) (hts (.fieldLink RX6 53 "SwitchgearModel" "island" "[I") (by decide +kernel)) (fun _ h9 => h9) rfl dX6_source_20 ?_
        refine lv_iload_n hx hb dX6_source_23 rfl (lv_at hl 2 rfl) ?_
        obtain ⟨hg2, hf⟩ := sg_g_s hf
        refine va_iald hx hb hK.1 hP 15 0 rfl rfl (sg_inb_s hg2) dX6_source_24 ?_
        refine lv_iload_n hx hb dX6_source_25 rfl (lv_at hl 1 rfl) ?_
        refine lv_icmp_ne (tgt := 31) hx hb dX6_source_26 (by decide) (fun c3 => ?_) (fun c3 => ?_)
        · have hf := sg_in c3 hf
          refine lv_iinc (v := x + 1) (lv' := [(2, .int (x + 1)), (0, .ref (ad 0)), (1, .int v1)]) hx hb dX6_source_31 hl (k := 2) rfl rfl (by decide) rfl (fun ls hl => ?_)
          refine lv_goto (tgt := 2) hx hb dX6_source_34 (by decide) ?_
          exact hI _ (Option.some.inj hf).symm hr9 _ _ _ hP hD hS (lv_sub hl [1, 2, 0] rfl)
        · have hf := sg_ip c3 hf
          refine lv_iload_n hx hb dX6_source_29 rfl (lv_at hl 2 rfl) ?_
          have hq := (hy _ (Option.some.inj hf).symm).trans hr9
          exact sg_iret hx hb hr hP hD hS dX6_source_30 hq rfl hlocks
  unfold fX6_source at hf
  refine lv_iconst (v := 0) hx hb dX6_source_0 (by decide) ?_
  refine lv_istore_n (lv' := [(2, .int 0), (0, .ref (ad 0)), (1, .int p1)]) hx hb dX6_source_1 rfl hl (by decide) rfl (fun ls hl => ?_)
  exact hL2 _ _ _ _ hf rfl _ _ _ hP hD hS (lv_sub hl [1, 2, 0] rfl)
set_option maxRecDepth 100000 in
set_option maxHeartbeats 4000000 in
theorem c_X6_worth (l : Launch) (D : va_G) (cA : Nat → ClassId) (ad : Nat → Nat) (N : Nat) (u : sg_St) (r : Int32) (u' : sg_St) (hf : fX6_worth N u = some (r, u')) : sg_CI l D cA (sg_WM cA ad) yX6_worth wsX6_worth ({ frames := 1, cells := 0, slots := 0, locals := 25 }) [.ref (ad 0)] u r u' := by
  intro sz
  refine Met.ofW (cc := cX6_worth) (maxL := 3) (ret := (some .int)) (by decide) rfl ?_
  intro p e s m args below meth c s₁ B hml hv
  obtain ⟨rfl, hsz, hP, hK, hD0⟩ := hv
  have hx := B.exec
  have hb := B.bytes
  have hr := B.returns
  have hts := atoms_spec (ws := wsX6_worth) B.pre
  have hown : s.vm.findClass RX6 = some m.cls := findClass_of_methodNamed B.named
  have hlocks := B.notSynchronized
  subst hsz
  have hD := hD0.self (sz := s.heap.size)
  generalize hAe : va_A (sg_WM cA ad u) s.heap.size = A at hD ⊢
  have hA : ∀ q : Nat, s.heap.size ≤ q → A q := fun q h => by rw [← hAe]; exact Or.inr h
  have hS : va_S A s.heap s.heap [] := va_S.rf
  have hl := lv_entry ([.ref (ad 0)]) (n := 3) (Nat.le_of_ble_eq_true rfl)
  rw [lg_entry_eq]
  generalize (lg_sl ([.ref (ad 0)]) ++ List.replicate (3 - (lg_sl ([.ref (ad 0)])).length) Slot.unset).toArray = ls at hl ⊢
  replace hl : lv_has ls 3 [(0, .ref (ad 0))] := hl
  have hinX6 : ∀ w ∈ u_ws RX6 TX6 27, w ∈ wsX6_worth := by decide +kernel
  have hL10 : ∀ (u : sg_St) (n : Nat) (x : Int32 × Int32) (r9 : Int32), sg_it (fun x => fX6_worth_L10 N u x.1 x.2) n x = some r9 → ∀ (H : Heap) (locs : List Loc) (ls : Array Slot), va_P D vwCl (sg_WM cA ad u) H → va_D A (sg_WM cA ad u) → va_S A s.heap H locs → lv_has ls 3 [(0, .ref (ad 0)), (1, .int x.1), (2, .int x.2)] → (∀ (H : Heap) (locs : List Loc) (ls : Array Slot), va_P D vwCl (sg_WM cA ad u) H → va_D A (sg_WM cA ad u) → va_S A s.heap H locs → lv_has ls 3 [(0, .ref (ad 0)), (1, .int r9)] → W p l e (headSpec wsX6_worth ({ frames := 1, cells := 0, slots := 0, locals := 25 })).room s m ([.ref (ad 0)] : List Value).toArray below meth c H locs 0 0 (MQ below (va_Qi (fun x y => x = r ∧ y = u') (sg_BX D (sg_WM cA ad) A) A) ([.ref (ad 0)] : List Value).toArray s 0 0 A) (F0 m 67 ls [])) → W p l e (headSpec wsX6_worth ({ frames := 1, cells := 0, slots := 0, locals := 25 })).room s m ([.ref (ad 0)] : List Value).toArray below meth c H locs 0 0 (MQ below (va_Qi (fun x y => x = r ∧ y = u') (sg_BX D (sg_WM cA ad) A) A) ([.ref (ad 0)] : List Value).toArray s 0 0 A) (F0 m 10 ls []) := by
    intro u
    refine sg_loop _ ?_
    intro x y r9 hf hI hy H locs ls hP hD hS hl hk
    replace hf : fX6_worth_L10 N u x.1 x.2 = some y := hf
    have hJ59 : ∀ (v2 k0 k1 : Int32) (H : Heap) (locs : List Loc) (ls : Array Slot), fX6_worth_j59 N u v2 k0 k1 = some y → va_P D vwCl (sg_WM cA ad u) H → va_D A (sg_WM cA ad u) → va_S A s.heap H locs → lv_has ls 3 [(0, .ref (ad 0)), (2, .int v2)] → W p l e (headSpec wsX6_worth ({ frames := 1, cells := 0, slots := 0, locals := 25 })).room s m ([.ref (ad 0)] : List Value).toArray below meth c H locs 0 0 (MQ below (va_Qi (fun x y => x = r ∧ y = u') (sg_BX D (sg_WM cA ad) A) A) ([.ref (ad 0)] : List Value).toArray s 0 0 A) (F0 m 59 ls [.int k1, .int k0]) := by
      intro v2 k0 k1 H locs ls hf hP hD hS hl
      unfold fX6_worth_j59 at hf
      refine lv_iadd hx hb dX6_worth_59 ?_
      refine lv_istore_n (lv' := [(1, .int (k0 + k1)), (0, .ref (ad 0)), (2, .int v2)]) hx hb dX6_worth_60 rfl hl (by decide) rfl (fun ls hl => ?_)
      refine lv_iinc (v := v2 + 1) (lv' := [(2, .int (v2 + 1)), (1, .int (k0 + k1)), (0, .ref (ad 0))]) hx hb dX6_worth_61 hl (k := 2) rfl rfl (by decide) rfl (fun ls hl => ?_)
      refine lv_goto (tgt := 10) hx hb dX6_worth_64 (by decide) ?_
      exact hI _ (Option.some.inj hf).symm _ _ _ hP hD hS (lv_sub hl [2, 1, 0] rfl) hk
    have hJ58 : ∀ (v2 k0 : Int32) (H : Heap) (locs : List Loc) (ls : Array Slot), fX6_worth_j58 N u v2 k0 = some y → va_P D vwCl (sg_WM cA ad u) H → va_D A (sg_WM cA ad u) → va_S A s.heap H locs → lv_has ls 3 [(0, .ref (ad 0)), (2, .int v2)] → W p l e (headSpec wsX6_worth ({ frames := 1, cells := 0, slots := 0, locals := 25 })).room s m ([.ref (ad 0)] : List Value).toArray below meth c H locs 0 0 (MQ below (va_Qi (fun x y => x = r ∧ y = u') (sg_BX D (sg_WM cA ad) A) A) ([.ref (ad 0)] : List Value).toArray s 0 0 A) (F0 m 58 ls [.int k0]) := by
      intro v2 k0 H locs ls hf hP hD hS hl
      unfold fX6_worth_j58 at hf
      refine lv_iconst (v := 0) hx hb dX6_worth_58 (by decide) ?_
      exact hJ59 _ _ _ _ _ _ hf hP hD hS (lv_sub hl [0, 1] rfl)
    unfold fX6_worth_L10 at hf
    refine lv_iload_n hx hb dX6_worth_10 rfl (lv_at hl 2 rfl) ?_
    refine lv_aload_n hx hb dX6_worth_11 rfl (lv_at hl 0 rfl) ?_
    refine va_get (D := D) (ci := 8) (C := RX6) (T := TX6) (N := 27) hx hb hts hinX6 hown hK.1 hP 0 rfl rfl 1 (by decide) (hts (.fieldLink RX6 72 "SwitchgearModel" "nodes" "I") (by decide +kernel)) (fun _ h9 => h9) rfl dX6_worth_12 ?_
    refine lv_icmp_ge (tgt := 67) hx hb dX6_worth_15 (by decide) (fun c10 => ?_) (fun c10 => ?_)
    · have hf := sg_ip c10 hf
      have hq := hy _ (Option.some.inj hf).symm
      subst hq
      exact hk _ _ _ hP hD hS (lv_sub hl [0, 1] rfl)
    · have hf := sg_in c10 hf
      refine lv_iload_n hx hb dX6_worth_18 rfl (lv_at hl 1 rfl) ?_
      refine lv_aload_n hx hb dX6_worth_19 rfl (lv_at hl 0 rfl) ?_
      refine va_get (D := D) (ci := 8) (C := RX6) (T := TX6) (N := 27) hx hb hts hinX6 hown hK.1 hP 0 rfl rfl 4 (by decide) (hts (.fieldLink RX6 7 "SwitchgearModel" "isSource" "[Z") (by decide +kernel)) (fun _ h9 => h9) rfl dX6_worth_20 ?_
      refine lv_iload_n hx hb dX6_worth_23 rfl (lv_at hl 2 rfl) ?_
      obtain ⟨hg1, hf⟩ := sg_g_s hf
      refine va_zald hx hb hK.1 hP 1 1 rfl rfl (sg_inb_s hg1) dX6_worth_24 ?_
      refine lv_if_ne (tgt := 58) hx hb dX6_worth_25 (by decide) (fun c9 => ?_) (fun c9 => ?_)
      · have hf := sg_in c9 hf
        exact hJ58 _ _ _ _ _ hf hP hD hS (lv_sub hl [0, 2] rfl)
      · have hf := sg_ip c9 hf
        refine lv_aload_n hx hb dX6_worth_28 rfl (lv_at hl 0 rfl) ?_
        refine lv_aload_n hx hb dX6_worth_29 rfl (lv_at hl 0 rfl) ?_
        refine va_get (D := D) (ci := 8) (C := RX6) (T := TX6) (N := 27) hx hb hts hinX6 hown hK.1 hP 0 rfl rfl 18 (by decide) (hts (.fieldLink RX6 53 "SwitchgearModel" "island" "[I") (by decide +kernel)) (fun _ h9 => h9) rfl dX6_worth_30 ?_
        refine lv_iload_n hx hb dX6_worth_33 rfl (lv_at hl 2 rfl) ?_
        obtain ⟨hg2, hf⟩ := sg_g_s hf
        refine va_iald hx hb hK.1 hP 15 0 rfl rfl (sg_inb_s hg2) dX6_worth_34 ?_
        obtain ⟨r4, hc3, hf⟩ := sg_b_s hf
        refine sg_ci (va_runV (As := [.int (u 22 (x.2).toNatClampNeg)]) (rest := [.int x.1]) ⟨hx, hb, hml, hown, hts⟩ (c_X6_source l D cA ad N _ _ _ hc3 _) (cwV 1 hts gX6_worth_X6_source rfl rfl rfl (by decide +kernel) ⟨Nat.le_of_ble_eq_true rfl, Nat.le_of_ble_eq_true rfl⟩) (sg_pre hK hP hD (ci := 8) (q0 := 0) rfl rfl) rfl rfl hl.1 rfl (lv_room (Nat.le_of_ble_eq_true rfl)) dX6_worth_35 ⟨Nat.zero_le _, Nat.zero_le _⟩) hD hS hA (fun H locs hP hD hS => ?_)
        refine lv_iconst (v := (-1)) hx hb dX6_worth_38 (by decide) ?_
        refine lv_icmp_eq (tgt := 58) hx hb dX6_worth_39 (by decide) (fun c8 => ?_) (fun c8 => ?_)
        · have hf := sg_ip c8 hf
          exact hJ58 _ _ _ _ _ hf hP hD hS (lv_sub hl [0, 2] rfl)
        · have hf := sg_in c8 hf
          refine lv_aload_n hx hb dX6_worth_42 rfl (lv_at hl 0 rfl) ?_
          refine va_get (D := D) (ci := 8) (C := RX6) (T := TX6) (N := 27) hx hb hts hinX6 hown hK.1 hP 0 rfl rfl 6 (by decide) (hts (.fieldLink RX6 17 "SwitchgearModel" "load" "[I") (by decide +kernel)) (fun _ h9 => h9) rfl dX6_worth_43 ?_
          refine lv_iload_n hx hb dX6_worth_46 rfl (lv_at hl 2 rfl) ?_
          obtain ⟨hg6, hf⟩ := sg_g_s hf
          refine va_iald hx hb hK.1 hP 3 0 rfl rfl (sg_inb_s hg6) dX6_worth_47 ?_
          refine lv_aload_n hx hb dX6_worth_48 rfl (lv_at hl 0 rfl) ?_
          refine va_get (D := D) (ci := 8) (C := RX6) (T := TX6) (N := 27) hx hb hts hinX6 hown hK.1 hP 0 rfl rfl 7 (by decide) (hts (.fieldLink RX6 20 "SwitchgearModel" "priority" "[I") (by decide +kernel)) (fun _ h9 => h9) rfl dX6_worth_49 ?_
          refine lv_iload_n hx hb dX6_worth_52 rfl (lv_at hl 2 rfl) ?_
          obtain ⟨hg7, hf⟩ := sg_g_s hf
          refine va_iald hx hb hK.1 hP 4 0 rfl rfl (sg_inb_s hg7) dX6_worth_53 ?_
          refine lv_imul hx hb dX6_worth_54 ?_
          refine lv_goto (tgt := 59) hx hb dX6_worth_55 (by decide) ?_
          exact hJ59 _ _ _ _ _ _ hf hP hD hS (lv_sub hl [0, 2] rfl)
  unfold fX6_worth at hf
  refine lv_aload_n hx hb dX6_worth_0 rfl (lv_at hl 0 rfl) ?_
  refine lv_iconst (v := (-1)) hx hb dX6_worth_1 (by decide) ?_
  refine lv_iconst (v := (-1)) hx hb dX6_worth_2 (by decide) ?_
  obtain ⟨u3, hc1, hf⟩ := sg_b_s hf
  refine sg_cv (va_runV (As := [.int ((-1)), .int ((-1))]) (rest := []) ⟨hx, hb, hml, hown, hts⟩ (c_X6_paints l D cA ad N _ _ _ _ hc1 _) (cwV 2 hts gX6_worth_X6_paints rfl rfl rfl (by decide +kernel) ⟨Nat.le_of_ble_eq_true rfl, Nat.le_of_ble_eq_true rfl⟩) (sg_pre hK hP hD (ci := 8) (q0 := 0) rfl rfl) rfl rfl hl.1 rfl (lv_room (Nat.le_of_ble_eq_true rfl)) dX6_worth_3 ⟨Nat.zero_le _, Nat.zero_le _⟩) hD hS hA (fun H locs hP hD hS => ?_)
  refine lv_iconst (v := 0) hx hb dX6_worth_6 (by decide) ?_
  refine lv_istore_n (lv' := [(1, .int 0), (0, .ref (ad 0))]) hx hb dX6_worth_7 rfl hl (by decide) rfl (fun ls hl => ?_)
  refine lv_iconst (v := 0) hx hb dX6_worth_8 (by decide) ?_
  refine lv_istore_n (lv' := [(2, .int 0), (1, .int 0), (0, .ref (ad 0))]) hx hb dX6_worth_9 rfl hl (by decide) rfl (fun ls hl => ?_)
  obtain ⟨e4, hc5, hf⟩ := sg_b_s hf
  refine hL10 _ _ _ e4 hc5 _ _ _ hP hD hS (lv_sub hl [2, 1, 0] rfl) (fun H locs ls hP hD hS hl => ?_)
  refine lv_iload_n hx hb dX6_worth_67 rfl (lv_at hl 1 rfl) ?_
  have hq := Option.some.inj hf
  exact sg_iret hx hb hr hP hD hS dX6_worth_68 (congrArg Prod.fst hq) (congrArg Prod.snd hq) hlocks
set_option maxRecDepth 100000 in
set_option maxHeartbeats 4000000 in
theorem c_X6_isEarlier (l : Launch) (D : va_G) (cA : Nat → ClassId) (ad : Nat → Nat) (N : Nat) (u : sg_St) (r : Int32) (hf : fX6_isEarlier N u = some r) : sg_CI l D cA (sg_WM cA ad) yX6_isEarlier wsX6_isEarlier ({ frames := 0, cells := 0, slots := 0, locals := 0 }) [.ref (ad 0)] u r u := by
  intro sz
  refine Met.ofW (cc := cX6_isEarlier) (maxL := 2) (ret := (some .boolean)) (by decide) rfl ?_
  intro p e s m args below meth c s₁ B hml hv
  obtain ⟨rfl, hsz, hP, hK, hD0⟩ := hv
  have hx := B.exec
  have hb := B.bytes
  have hr := B.returns
  have hts := atoms_spec (ws := wsX6_isEarlier) B.pre
  have hown : s.vm.findClass RX6 = some m.cls := findClass_of_methodNamed B.named
  have hlocks := B.notSynchronized
  subst hsz
  have hD := hD0.self (sz := s.heap.size)
  generalize hAe : va_A (sg_WM cA ad u) s.heap.size = A at hD ⊢
  have hA : ∀ q : Nat, s.heap.size ≤ q → A q := fun q h => by rw [← hAe]; exact Or.inr h
  have hS : va_S A s.heap s.heap [] := va_S.rf
  have hl := lv_entry ([.ref (ad 0)]) (n := 2) (Nat.le_of_ble_eq_true rfl)
  rw [lg_entry_eq]
  generalize (lg_sl ([.ref (ad 0)]) ++ List.replicate (2 - (lg_sl ([.ref (ad 0)])).length) Slot.unset).toArray = ls at hl ⊢
  replace hl : lv_has ls 2 [(0, .ref (ad 0))] := hl
  have hinX6 : ∀ w ∈ u_ws RX6 TX6 27, w ∈ wsX6_isEarlier := by decide +kernel
  have hL2 : ∀ (n : Nat) (x : Int32) (r9 : Int32), sg_it (fun x => fX6_isEarlier_L2 N u x) n x = some r9 → r9 = r → ∀ (H : Heap) (locs : List Loc) (ls : Array Slot), va_P D vwCl (sg_WM cA ad u) H → va_D A (sg_WM cA ad u) → va_S A s.heap H locs → lv_has ls 2 [(0, .ref (ad 0)), (1, .int x)] → W p l e (headSpec wsX6_isEarlier ({ frames := 0, cells := 0, slots := 0, locals := 0 })).room s m ([.ref (ad 0)] : List Value).toArray below meth c H locs 0 0 (MQ below (va_Qi (fun x y => x = r ∧ y = u) (sg_BX D (sg_WM cA ad) A) A) ([.ref (ad 0)] : List Value).toArray s 0 0 A) (F0 m 2 ls []) := by
    refine sg_loop _ ?_
    intro x y r9 hf hI hy hr9 H locs ls hP hD hS hl
    replace hf : fX6_isEarlier_L2 N u x = some y := hf
    unfold fX6_isEarlier_L2 at hf
    refine lv_iload_n hx hb dX6_isEarlier_2 rfl (lv_at hl 1 rfl) ?_
    refine lv_aload_n hx hb dX6_isEarlier_3 rfl (lv_at hl 0 rfl) ?_
    refine va_get (D := D) (ci := 8) (C := RX6) (T := TX6) (N := 27) hx hb hts hinX6 hown hK.1 hP 0 rfl rfl 24 (by decide) (hts (.fieldLink RX6 173 "SwitchgearModel" "planned" "I") (by decide +kernel)) (fun _ h9 => h9) rfl dX6_isEarlier_4 ?_
    refine lv_icmp_ge (tgt := 52) hx hb dX6_isEarlier_7 (by decide) (fun c7 => ?_) (fun c7 => ?_)
    · have hf := sg_ip c7 hf
      refine lv_iconst (v := 0) hx hb dX6_isEarlier_52 (by decide) ?_
      have hq := (hy _ (Option.some.inj hf).symm).trans hr9
      exact sg_zret hx hb hr rfl hP hD hS dX6_isEarlier_53 hq rfl hlocks
    · have hf := sg_in c7 hf
      refine lv_aload_n hx hb dX6_isEarlier_10 rfl (lv_at hl 0 rfl) ?_
      refine va_get (D := D) (ci := 8) (C := RX6) (T := TX6) (N := 27) hx hb hts hinX6 hown hK.1 hP 0 rfl rfl 22 (by decide) (hts (.fieldLink RX6 62 "SwitchgearModel" "plan" "[I") (by decide +kernel)) (fun _ h9 => h9) rfl dX6_isEarlier_11 ?_
      refine lv_iload_n hx hb dX6_isEarlier_14 rfl (lv_at hl 1 rfl) ?_
      obtain ⟨hg1, hf⟩ := sg_g_s hf
      refine va_iald hx hb hK.1 hP 18 0 rfl rfl (sg_inb_s hg1) dX6_isEarlier_15 ?_
      refine lv_aload_n hx hb dX6_isEarlier_16 rfl (lv_at hl 0 rfl) ?_
      refine va_get (D := D) (ci := 8) (C := RX6) (T := TX6) (N := 27) hx hb hts hinX6 hown hK.1 hP 0 rfl rfl 23 (by decide) (hts (.fieldLink RX6 65 "SwitchgearModel" "best" "[I") (by decide +kernel)) (fun _ h9 => h9) rfl dX6_isEarlier_17 ?_
      refine lv_iload_n hx hb dX6_isEarlier_20 rfl (lv_at hl 1 rfl) ?_
      obtain ⟨hg2, hf⟩ := sg_g_s hf
      refine va_iald hx hb hK.1 hP 19 0 rfl rfl (sg_inb_s hg2) dX6_isEarlier_21 ?_
      refine lv_icmp_eq (tgt := 46) hx hb dX6_isEarlier_22 (by decide) (fun c6 => ?_) (fun c6 => ?_)
      · have hf := sg_ip c6 hf
        refine lv_iinc (v := x + 1) (lv' := [(1, .int (x + 1)), (0, .ref (ad 0))]) hx hb dX6_isEarlier_46 hl (k := 1) rfl rfl (by decide) rfl (fun ls hl => ?_)
        refine lv_goto (tgt := 2) hx hb dX6_isEarlier_49 (by decide) ?_
        exact hI _ (Option.some.inj hf).symm hr9 _ _ _ hP hD hS (lv_sub hl [1, 0] rfl)
      · have hf := sg_in c6 hf
        refine lv_aload_n hx hb dX6_isEarlier_25 rfl (lv_at hl 0 rfl) ?_
        refine va_get (D := D) (ci := 8) (C := RX6) (T := TX6) (N := 27) hx hb hts hinX6 hown hK.1 hP 0 rfl rfl 22 (by decide) (hts (.fieldLink RX6 62 "SwitchgearModel" "plan" "[I") (by decide +kernel)) (fun _ h9 => h9) rfl dX6_isEarlier_26 ?_
        refine lv_iload_n hx hb dX6_isEarlier_29 rfl (lv_at hl 1 rfl) ?_
        obtain ⟨hg3, hf⟩ := sg_g_s hf
        refine va_iald hx hb hK.1 hP 18 0 rfl rfl (sg_inb_s hg3) dX6_isEarlier_30 ?_
        refine lv_aload_n hx hb dX6_isEarlier_31 rfl (lv_at hl 0 rfl) ?_
        refine va_get (D := D) (ci := 8) (C := RX6) (T := TX6) (N := 27) hx hb hts hinX6 hown hK.1 hP 0 rfl rfl 23 (by decide) (hts (.fieldLink RX6 65 "SwitchgearModel" "best" "[I") (by decide +kernel)) (fun _ h9 => h9) rfl dX6_isEarlier_32 ?_
        refine lv_iload_n hx hb dX6_isEarlier_35 rfl (lv_at hl 1 rfl) ?_
        obtain ⟨hg4, hf⟩ := sg_g_s hf
        refine va_iald hx hb hK.1 hP 19 0 rfl rfl (sg_inb_s hg4) dX6_isEarlier_36 ?_
        refine lv_icmp_ge (tgt := 44) hx hb dX6_isEarlier_37 (by decide) (fun c5 => ?_) (fun c5 => ?_)
        · have hf := sg_ip c5 hf
          refine lv_iconst (v := 0) hx hb dX6_isEarlier_44 (by decide) ?_
          have hq := (hy _ (Option.some.inj hf).symm).trans hr9
          exact sg_zret hx hb hr rfl hP hD hS dX6_isEarlier_45 hq rfl hlocks
        · have hf := sg_in c5 hf
          refine lv_iconst (v := 1) hx hb dX6_isEarlier_40 (by decide) ?_
          refine lv_goto (tgt := 45) hx hb dX6_isEarlier_41 (by decide) ?_
          have hq := (hy _ (Option.some.inj hf).symm).trans hr9
          exact sg_zret hx hb hr rfl hP hD hS dX6_isEarlier_45 hq rfl hlocks
  unfold fX6_isEarlier at hf
  refine lv_iconst (v := 0) hx hb dX6_isEarlier_0 (by decide) ?_
  refine lv_istore_n (lv' := [(1, .int 0), (0, .ref (ad 0))]) hx hb dX6_isEarlier_1 rfl hl (by decide) rfl (fun ls hl => ?_)
  exact hL2 _ _ _ hf rfl _ _ _ hP hD hS (lv_sub hl [1, 0] rfl)
set_option maxRecDepth 100000 in
set_option maxHeartbeats 4000000 in
theorem c_X6_isChoice (l : Launch) (D : va_G) (cA : Nat → ClassId) (ad : Nat → Nat) (N : Nat) (u : sg_St) (p1 : Int32) (r : Int32) (hf : fX6_isChoice N u p1 = some r) : sg_CI l D cA (sg_WM cA ad) yX6_isChoice wsX6_isChoice ({ frames := 0, cells := 0, slots := 0, locals := 0 }) [.ref (ad 0), .int p1] u r u := by
  intro sz
  refine Met.ofW (cc := cX6_isChoice) (maxL := 2) (ret := (some .boolean)) (by decide) rfl ?_
  intro p e s m args below meth c s₁ B hml hv
  obtain ⟨rfl, hsz, hP, hK, hD0⟩ := hv
  have hx := B.exec
  have hb := B.bytes
  have hr := B.returns
  have hts := atoms_spec (ws := wsX6_isChoice) B.pre
  have hown : s.vm.findClass RX6 = some m.cls := findClass_of_methodNamed B.named
  have hlocks := B.notSynchronized
  subst hsz
  have hD := hD0.self (sz := s.heap.size)
  generalize hAe : va_A (sg_WM cA ad u) s.heap.size = A at hD ⊢
  have hA : ∀ q : Nat, s.heap.size ≤ q → A q := fun q h => by rw [← hAe]; exact Or.inr h
  have hS : va_S A s.heap s.heap [] := va_S.rf
  have hl := lv_entry ([.ref (ad 0), .int p1]) (n := 2) (Nat.le_of_ble_eq_true rfl)
  rw [lg_entry_eq]
  generalize (lg_sl ([.ref (ad 0), .int p1]) ++ List.replicate (2 - (lg_sl ([.ref (ad 0), .int p1])).length) Slot.unset).toArray = ls at hl ⊢
  replace hl : lv_has ls 2 [(0, .ref (ad 0)), (1, .int p1)] := hl
  have hinX6 : ∀ w ∈ u_ws RX6 TX6 27, w ∈ wsX6_isChoice := by decide +kernel
  have hJ40 : ∀ (H : Heap) (locs : List Loc) (ls : Array Slot), fX6_isChoice_j40 N u  = some r → va_P D vwCl (sg_WM cA ad u) H → va_D A (sg_WM cA ad u) → va_S A s.heap H locs → lv_has ls 2 [(0, .ref (ad 0))] → W p l e (headSpec wsX6_isChoice ({ frames := 0, cells := 0, slots := 0, locals := 0 })).room s m ([.ref (ad 0), .int p1] : List Value).toArray below meth c H locs 0 0 (MQ below (va_Qi (fun x y => x = r ∧ y = u) (sg_BX D (sg_WM cA ad) A) A) ([.ref (ad 0), .int p1] : List Value).toArray s 0 0 A) (F0 m 40 ls []) := by
    intro H locs ls hf hP hD hS hl
    unfold fX6_isChoice_j40 at hf
    refine lv_iconst (v := 0) hx hb dX6_isChoice_40 (by decide) ?_
    have hq := Option.some.inj hf
    exact sg_zret hx hb hr rfl hP hD hS dX6_isChoice_41 hq rfl hlocks
  unfold fX6_isChoice at hf
  refine lv_aload_n hx hb dX6_isChoice_0 rfl (lv_at hl 0 rfl) ?_
  refine va_get (D := D) (ci := 8) (C := RX6) (T := TX6) (N := 27) hx hb hts hinX6 hown hK.1 hP 0 rfl rfl 15 (by decide) (hts (.fieldLink RX6 44 "SwitchgearModel" "isClosed" "[Z") (by decide +kernel)) (fun _ h9 => h9) rfl dX6_isChoice_1 ?_
  refine lv_iload_n hx hb dX6_isChoice_4 rfl (lv_at hl 1 rfl) ?_
  obtain ⟨hg1, hf⟩ := sg_g_s hf
  refine va_zald hx hb hK.1 hP 12 1 rfl rfl (sg_inb_s hg1) dX6_isChoice_5 ?_
  refine lv_if_ne (tgt := 40) hx hb dX6_isChoice_6 (by decide) (fun c8 => ?_) (fun c8 => ?_)
  · have hf := sg_in c8 hf
    exact hJ40 _ _ _ hf hP hD hS (lv_sub hl [0] rfl)
  · have hf := sg_ip c8 hf
    refine lv_aload_n hx hb dX6_isChoice_9 rfl (lv_at hl 0 rfl) ?_
    refine va_get (D := D) (ci := 8) (C := RX6) (T := TX6) (N := 27) hx hb hts hinX6 hown hK.1 hP 0 rfl rfl 16 (by decide) (hts (.fieldLink RX6 47 "SwitchgearModel" "isLocked" "[Z") (by decide +kernel)) (fun _ h9 => h9) rfl dX6_isChoice_10 ?_
    refine lv_iload_n hx hb dX6_isChoice_13 rfl (lv_at hl 1 rfl) ?_
    obtain ⟨hg2, hf⟩ := sg_g_s hf
    refine va_zald hx hb hK.1 hP 13 1 rfl rfl (sg_inb_s hg2) dX6_isChoice_14 ?_
    refine lv_if_ne (tgt := 40) hx hb dX6_isChoice_15 (by decide) (fun c7 => ?_) (fun c7 => ?_)
    · have hf := sg_in c7 hf
      exact hJ40 _ _ _ hf hP hD hS (lv_sub hl [0] rfl)
    · have hf := sg_ip c7 hf
      refine lv_aload_n hx hb dX6_isChoice_18 rfl (lv_at hl 0 rfl) ?_
      refine va_get (D := D) (ci := 8) (C := RX6) (T := TX6) (N := 27) hx hb hts hinX6 hown hK.1 hP 0 rfl rfl 17 (by decide) (hts (.fieldLink RX6 50 "SwitchgearModel" "isFaulty" "[Z") (by decide +kernel)) (fun _ h9 => h9) rfl dX6_isChoice_19 ?_
      refine lv_iload_n hx hb dX6_isChoice_22 rfl (lv_at hl 1 rfl) ?_
      obtain ⟨hg3, hf⟩ := sg_g_s hf
      refine va_zald hx hb hK.1 hP 14 1 rfl rfl (sg_inb_s hg3) dX6_isChoice_23 ?_
      refine lv_if_ne (tgt := 40) hx hb dX6_isChoice_24 (by decide) (fun c6 => ?_) (fun c6 => ?_)
      · have hf := sg_in c6 hf
        exact hJ40 _ _ _ hf hP hD hS (lv_sub hl [0] rfl)
      · have hf := sg_ip c6 hf
        refine lv_aload_n hx hb dX6_isChoice_27 rfl (lv_at hl 0 rfl) ?_
        refine va_get (D := D) (ci := 8) (C := RX6) (T := TX6) (N := 27) hx hb hts hinX6 hown hK.1 hP 0 rfl rfl 14 (by decide) (hts (.fieldLink RX6 41 "SwitchgearModel" "isBreaker" "[Z") (by decide +kernel)) (fun _ h9 => h9) rfl dX6_isChoice_28 ?_
        refine lv_iload_n hx hb dX6_isChoice_31 rfl (lv_at hl 1 rfl) ?_
        obtain ⟨hg4, hf⟩ := sg_g_s hf
        refine va_zald hx hb hK.1 hP 11 1 rfl rfl (sg_inb_s hg4) dX6_isChoice_32 ?_
        refine lv_if_eq (tgt := 40) hx hb dX6_isChoice_33 (by decide) (fun c5 => ?_) (fun c5 => ?_)
        · have hf := sg_ip c5 hf
          exact hJ40 _ _ _ hf hP hD hS (lv_sub hl [0] rfl)
        · have hf := sg_in c5 hf
          refine lv_iconst (v := 1) hx hb dX6_isChoice_36 (by decide) ?_
          refine lv_goto (tgt := 41) hx hb dX6_isChoice_37 (by decide) ?_
          have hq := Option.some.inj hf
          exact sg_zret hx hb hr rfl hP hD hS dX6_isChoice_41 hq rfl hlocks
set_option maxRecDepth 100000 in
set_option maxHeartbeats 4000000 in
theorem c_X6_hasFaultIn (l : Launch) (D : va_G) (cA : Nat → ClassId) (ad : Nat → Nat) (N : Nat) (u : sg_St) (p1 : Int32) (r : Int32) (hf : fX6_hasFaultIn N u p1 = some r) : sg_CI l D cA (sg_WM cA ad) yX6_hasFaultIn wsX6_hasFaultIn ({ frames := 0, cells := 0, slots := 0, locals := 0 }) [.ref (ad 0), .int p1] u r u := by
  intro sz
  refine Met.ofW (cc := cX6_hasFaultIn) (maxL := 3) (ret := (some .boolean)) (by decide) rfl ?_
  intro p e s m args below meth c s₁ B hml hv
  obtain ⟨rfl, hsz, hP, hK, hD0⟩ := hv
  have hx := B.exec
  have hb := B.bytes
  have hr := B.returns
  have hts := atoms_spec (ws := wsX6_hasFaultIn) B.pre
  have hown : s.vm.findClass RX6 = some m.cls := findClass_of_methodNamed B.named
  have hlocks := B.notSynchronized
  subst hsz
  have hD := hD0.self (sz := s.heap.size)
  generalize hAe : va_A (sg_WM cA ad u) s.heap.size = A at hD ⊢
  have hA : ∀ q : Nat, s.heap.size ≤ q → A q := fun q h => by rw [← hAe]; exact Or.inr h
  have hS : va_S A s.heap s.heap [] := va_S.rf
  have hl := lv_entry ([.ref (ad 0), .int p1]) (n := 3) (Nat.le_of_ble_eq_true rfl)
  rw [lg_entry_eq]
  generalize (lg_sl ([.ref (ad 0), .int p1]) ++ List.replicate (3 - (lg_sl ([.ref (ad 0), .int p1])).length) Slot.unset).toArray = ls at hl ⊢
  replace hl : lv_has ls 3 [(0, .ref (ad 0)), (1, .int p1)] := hl
  have hinX6 : ∀ w ∈ u_ws RX6 TX6 27, w ∈ wsX6_hasFaultIn := by decide +kernel
  have hL2 : ∀ (v1 : Int32) (n : Nat) (x : Int32) (r9 : Int32), sg_it (fun x => fX6_hasFaultIn_L2 N u v1 x) n x = some r9 → r9 = r → ∀ (H : Heap) (locs : List Loc) (ls : Array Slot), va_P D vwCl (sg_WM cA ad u) H → va_D A (sg_WM cA ad u) → va_S A s.heap H locs → lv_has ls 3 [(0, .ref (ad 0)), (1, .int v1), (2, .int x)] → W p l e (headSpec wsX6_hasFaultIn ({ frames := 0, cells := 0, slots := 0, locals := 0 })).room s m ([.ref (ad 0), .int p1] : List Value).toArray below meth c H locs 0 0 (MQ below (va_Qi (fun x y => x = r ∧ y = u) (sg_BX D (sg_WM cA ad) A) A) ([.ref (ad 0), .int p1] : List Value).toArray s 0 0 A) (F0 m 2 ls []) := by
    intro v1
    refine sg_loop _ ?_
    intro x y r9 hf hI hy hr9 H locs ls hP hD hS hl
    replace hf : fX6_hasFaultIn_L2 N u v1 x = some y := hf
    unfold fX6_hasFaultIn_L2 at hf
    refine lv_iload_n hx hb dX6_hasFaultIn_2 rfl (lv_at hl 2 rfl) ?_
    refine lv_aload_n hx hb dX6_hasFaultIn_3 rfl (lv_at hl 0 rfl) ?_
    refine va_get (D := D) (ci := 8) (C := RX6) (T := TX6) (N := 27) hx hb hts hinX6 hown hK.1 hP 0 rfl rfl 2 (by decide) (hts (.fieldLink RX6 79 "SwitchgearModel" "lines" "I") (by decide +kernel)) (fun _ h9 => h9) rfl dX6_hasFaultIn_4 ?_
    refine lv_icmp_ge (tgt := 51) hx hb dX6_hasFaultIn_7 (by decide) (fun c8 => ?_) (fun c8 => ?_)
    · have hf := sg_ip c8 hf
      refine lv_iconst (v := 0) hx hb dX6_hasFaultIn_51 (by decide) ?_
      have hq := (hy _ (Option.some.inj hf).symm).trans hr9
      exact sg_zret hx hb hr rfl hP hD hS dX6_hasFaultIn_52 hq rfl hlocks
    · have hf := sg_in c8 hf
      refine lv_aload_n hx hb dX6_hasFaultIn_10 rfl (lv_at hl 0 rfl) ?_
      refine va_get (D := D) (ci := 8) (C := RX6) (T := TX6) (N := 27) hx hb hts hinX6 hown hK.1 hP 0 rfl rfl 15 (by decide) (hts (.fieldLink RX6 44 "SwitchgearModel" "isClosed" "[Z") (by decide +kernel)) (fun _ h9 => h9) rfl dX6_hasFaultIn_11 ?_
      refine lv_iload_n hx hb dX6_hasFaultIn_14 rfl (lv_at hl 2 rfl) ?_
      obtain ⟨hg1, hf⟩ := sg_g_s hf
      refine va_zald hx hb hK.1 hP 12 1 rfl rfl (sg_inb_s hg1) dX6_hasFaultIn_15 ?_
      refine lv_if_eq (tgt := 45) hx hb dX6_hasFaultIn_16 (by decide) (fun c7 => ?_) (fun c7 => ?_)
      · have hf := sg_ip c7 hf
        refine lv_iinc (v := x + 1) (lv' := [(2, .int (x + 1)), (0, .ref (ad 0)), (1, .int v1)]) hx hb dX6_hasFaultIn_45 hl (k := 2) rfl rfl (by decide) rfl (fun ls hl => ?_)
        refine lv_goto (tgt := 2) hx hb dX6_hasFaultIn_48 (by decide) ?_
        exact hI _ (Option.some.inj hf).symm hr9 _ _ _ hP hD hS (lv_sub hl [1, 2, 0] rfl)
      · have hf := sg_in c7 hf
        refine lv_aload_n hx hb dX6_hasFaultIn_19 rfl (lv_at hl 0 rfl) ?_
        refine va_get (D := D) (ci := 8) (C := RX6) (T := TX6) (N := 27) hx hb hts hinX6 hown hK.1 hP 0 rfl rfl 17 (by decide) (hts (.fieldLink RX6 50 "SwitchgearModel" "isFaulty" "[Z") (by decide +kernel)) (fun _ h9 => h9) rfl dX6_hasFaultIn_20 ?_
        refine lv_iload_n hx hb dX6_hasFaultIn_23 rfl (lv_at hl 2 rfl) ?_
        obtain ⟨hg2, hf⟩ := sg_g_s hf
        refine va_zald hx hb hK.1 hP 14 1 rfl rfl (sg_inb_s hg2) dX6_hasFaultIn_24 ?_
        refine lv_if_eq (tgt := 45) hx hb dX6_hasFaultIn_25 (by decide) (fun c6 => ?_) (fun c6 => ?_)
        · have hf := sg_ip c6 hf
          refine lv_iinc (v := x + 1) (lv' := [(2, .int (x + 1)), (0, .ref (ad 0)), (1, .int v1)]) hx hb dX6_hasFaultIn_45 hl (k := 2) rfl rfl (by decide) rfl (fun ls hl => ?_)
          refine lv_goto (tgt := 2) hx hb dX6_hasFaultIn_48 (by decide) ?_
          exact hI _ (Option.some.inj hf).symm hr9 _ _ _ hP hD hS (lv_sub hl [1, 2, 0] rfl)
        · have hf := sg_in c6 hf
          refine lv_aload_n hx hb dX6_hasFaultIn_28 rfl (lv_at hl 0 rfl) ?_
          refine va_get (D := D) (ci := 8) (C := RX6) (T := TX6) (N := 27) hx hb hts hinX6 hown hK.1 hP 0 rfl rfl 18 (by decide) (hts (.fieldLink RX6 53 "SwitchgearModel" "island" "[I") (by decide +kernel)) (fun _ h9 => h9) rfl dX6_hasFaultIn_29 ?_
          refine lv_aload_n hx hb dX6_hasFaultIn_32 rfl (lv_at hl 0 rfl) ?_
          refine va_get (D := D) (ci := 8) (C := RX6) (T := TX6) (N := 27) hx hb hts hinX6 hown hK.1 hP 0 rfl rfl 8 (by decide) (hts (.fieldLink RX6 23 "SwitchgearModel" "one" "[I") (by decide +kernel)) (fun _ h9 => h9) rfl dX6_hasFaultIn_33 ?_
          refine lv_iload_n hx hb dX6_hasFaultIn_36 rfl (lv_at hl 2 rfl) ?_
          obtain ⟨hg3, hf⟩ := sg_g_s hf
          refine va_iald hx hb hK.1 hP 5 0 rfl rfl (sg_inb_s hg3) dX6_hasFaultIn_37 ?_
          obtain ⟨hg4, hf⟩ := sg_g_s hf
          refine va_iald hx hb hK.1 hP 15 0 rfl rfl (sg_inb_s hg4) dX6_hasFaultIn_38 ?_
          refine lv_iload_n hx hb dX6_hasFaultIn_39 rfl (lv_at hl 1 rfl) ?_
          refine lv_icmp_ne (tgt := 45) hx hb dX6_hasFaultIn_40 (by decide) (fun c5 => ?_) (fun c5 => ?_)
          · have hf := sg_in c5 hf
            refine lv_iinc (v := x + 1) (lv' := [(2, .int (x + 1)), (0, .ref (ad 0)), (1, .int v1)]) hx hb dX6_hasFaultIn_45 hl (k := 2) rfl rfl (by decide) rfl (fun ls hl => ?_)
            refine lv_goto (tgt := 2) hx hb dX6_hasFaultIn_48 (by decide) ?_
            exact hI _ (Option.some.inj hf).symm hr9 _ _ _ hP hD hS (lv_sub hl [1, 2, 0] rfl)
          · have hf := sg_ip c5 hf
            refine lv_iconst (v := 1) hx hb dX6_hasFaultIn_43 (by decide) ?_
            have hq := (hy _ (Option.some.inj hf).symm).trans hr9
            exact sg_zret hx hb hr rfl hP hD hS dX6_hasFaultIn_44 hq rfl hlocks
  unfold fX6_hasFaultIn at hf
  refine lv_iconst (v := 0) hx hb dX6_hasFaultIn_0 (by decide) ?_
  refine lv_istore_n (lv' := [(2, .int 0), (0, .ref (ad 0)), (1, .int p1)]) hx hb dX6_hasFaultIn_1 rfl hl (by decide) rfl (fun ls hl => ?_)
  exact hL2 _ _ _ _ hf rfl _ _ _ hP hD hS (lv_sub hl [1, 2, 0] rfl)
set_option maxRecDepth 100000 in
set_option maxHeartbeats 4000000 in
theorem c_X6_sum (l : Launch) (D : va_G) (cA : Nat → ClassId) (ad : Nat → Nat) (N : Nat) (u : sg_St) (p1 : Int32) (r : Int32) (hf : fX6_sum N u p1 = some r) : sg_CI l D cA (sg_WM cA ad) yX6_sum wsX6_sum ({ frames := 0, cells := 0, slots := 0, locals := 0 }) [.ref (ad 0), .int p1] u r u := by
  intro sz
  refine Met.ofW (cc := cX6_sum) (maxL := 4) (ret := (some .int)) (by decide) rfl ?_
  intro p e s m args below meth c s₁ B hml hv
  obtain ⟨rfl, hsz, hP, hK, hD0⟩ := hv
  have hx := B.exec
  have hb := B.bytes
  have hr := B.returns
  have hts := atoms_spec (ws := wsX6_sum) B.pre
  have hown : s.vm.findClass RX6 = some m.cls := findClass_of_methodNamed B.named
  have hlocks := B.notSynchronized
  subst hsz
  have hD := hD0.self (sz := s.heap.size)
  generalize hAe : va_A (sg_WM cA ad u) s.heap.size = A at hD ⊢
  have hA : ∀ q : Nat, s.heap.size ≤ q → A q := fun q h => by rw [← hAe]; exact Or.inr h
  have hS : va_S A s.heap s.heap [] := va_S.rf
  have hl := lv_entry ([.ref (ad 0), .int p1]) (n := 4) (Nat.le_of_ble_eq_true rfl)
  rw [lg_entry_eq]
  generalize (lg_sl ([.ref (ad 0), .int p1]) ++ List.replicate (4 - (lg_sl ([.ref (ad 0), .int p1])).length) Slot.unset).toArray = ls at hl ⊢
  replace hl : lv_has ls 4 [(0, .ref (ad 0)), (1, .int p1)] := hl
  have hinX6 : ∀ w ∈ u_ws RX6 TX6 27, w ∈ wsX6_sum := by decide +kernel
  have hL4 : ∀ (v1 : Int32) (n : Nat) (x : Int32 × Int32) (r9 : Int32), sg_it (fun x => fX6_sum_L4 N u v1 x.1 x.2) n x = some r9 → ∀ (H : Heap) (locs : List Loc) (ls : Array Slot), va_P D vwCl (sg_WM cA ad u) H → va_D A (sg_WM cA ad u) → va_S A s.heap H locs → lv_has ls 4 [(0, .ref (ad 0)), (1, .int v1), (2, .int x.1), (3, .int x.2)] → (∀ (H : Heap) (locs : List Loc) (ls : Array Slot), va_P D vwCl (sg_WM cA ad u) H → va_D A (sg_WM cA ad u) → va_S A s.heap H locs → lv_has ls 4 [(0, .ref (ad 0)), (2, .int r9)] → W p l e (headSpec wsX6_sum ({ frames := 0, cells := 0, slots := 0, locals := 0 })).room s m ([.ref (ad 0), .int p1] : List Value).toArray below meth c H locs 0 0 (MQ below (va_Qi (fun x y => x = r ∧ y = u) (sg_BX D (sg_WM cA ad) A) A) ([.ref (ad 0), .int p1] : List Value).toArray s 0 0 A) (F0 m 41 ls [])) → W p l e (headSpec wsX6_sum ({ frames := 0, cells := 0, slots := 0, locals := 0 })).room s m ([.ref (ad 0), .int p1] : List Value).toArray below meth c H locs 0 0 (MQ below (va_Qi (fun x y => x = r ∧ y = u) (sg_BX D (sg_WM cA ad) A) A) ([.ref (ad 0), .int p1] : List Value).toArray s 0 0 A) (F0 m 4 ls []) := by
    intro v1
    refine sg_loop _ ?_
    intro x y r9 hf hI hy H locs ls hP hD hS hl hk
    replace hf : fX6_sum_L4 N u v1 x.1 x.2 = some y := hf
    have hJ33 : ∀ (v3 k0 k1 : Int32) (H : Heap) (locs : List Loc) (ls : Array Slot), fX6_sum_j33 N u v1 v3 k0 k1 = some y → va_P D vwCl (sg_WM cA ad u) H → va_D A (sg_WM cA ad u) → va_S A s.heap H locs → lv_has ls 4 [(0, .ref (ad 0)), (1, .int v1), (3, .int v3)] → W p l e (headSpec wsX6_sum ({ frames := 0, cells := 0, slots := 0, locals := 0 })).room s m ([.ref (ad 0), .int p1] : List Value).toArray below meth c H locs 0 0 (MQ below (va_Qi (fun x y => x = r ∧ y = u) (sg_BX D (sg_WM cA ad) A) A) ([.ref (ad 0), .int p1] : List Value).toArray s 0 0 A) (F0 m 33 ls [.int k1, .int k0]) := by
      intro v3 k0 k1 H locs ls hf hP hD hS hl
      unfold fX6_sum_j33 at hf
      refine lv_iadd hx hb dX6_sum_33 ?_
      refine lv_istore_n (lv' := [(2, .int (k0 + k1)), (0, .ref (ad 0)), (1, .int v1), (3, .int v3)]) hx hb dX6_sum_34 rfl hl (by decide) rfl (fun ls hl => ?_)
      refine lv_iinc (v := v3 + 1) (lv' := [(3, .int (v3 + 1)), (2, .int (k0 + k1)), (0, .ref (ad 0)), (1, .int v1)]) hx hb dX6_sum_35 hl (k := 3) rfl rfl (by decide) rfl (fun ls hl => ?_)
      refine lv_goto (tgt := 4) hx hb dX6_sum_38 (by decide) ?_
      exact hI _ (Option.some.inj hf).symm _ _ _ hP hD hS (lv_sub hl [2, 3, 1, 0] rfl) hk
    unfold fX6_sum_L4 at hf
    refine lv_iload_n hx hb dX6_sum_4 rfl (lv_at hl 3 rfl) ?_
    refine lv_aload_n hx hb dX6_sum_5 rfl (lv_at hl 0 rfl) ?_
    refine va_get (D := D) (ci := 8) (C := RX6) (T := TX6) (N := 27) hx hb hts hinX6 hown hK.1 hP 0 rfl rfl 1 (by decide) (hts (.fieldLink RX6 72 "SwitchgearModel" "nodes" "I") (by decide +kernel)) (fun _ h9 => h9) rfl dX6_sum_6 ?_
    refine lv_icmp_ge (tgt := 41) hx hb dX6_sum_9 (by decide) (fun c4 => ?_) (fun c4 => ?_)
    · have hf := sg_ip c4 hf
      have hq := hy _ (Option.some.inj hf).symm
      subst hq
      exact hk _ _ _ hP hD hS (lv_sub hl [0, 2] rfl)
    · have hf := sg_in c4 hf
      refine lv_iload_n hx hb dX6_sum_12 rfl (lv_at hl 2 rfl) ?_
      refine lv_aload_n hx hb dX6_sum_13 rfl (lv_at hl 0 rfl) ?_
      refine va_get (D := D) (ci := 8) (C := RX6) (T := TX6) (N := 27) hx hb hts hinX6 hown hK.1 hP 0 rfl rfl 18 (by decide) (hts (.fieldLink RX6 53 "SwitchgearModel" "island" "[I") (by decide +kernel)) (fun _ h9 => h9) rfl dX6_sum_14 ?_
      refine lv_iload_n hx hb dX6_sum_17 rfl (lv_at hl 3 rfl) ?_
      obtain ⟨hg1, hf⟩ := sg_g_s hf
      refine va_iald hx hb hK.1 hP 15 0 rfl rfl (sg_inb_s hg1) dX6_sum_18 ?_
      refine lv_iload_n hx hb dX6_sum_19 rfl (lv_at hl 1 rfl) ?_
      refine lv_icmp_ne (tgt := 32) hx hb dX6_sum_20 (by decide) (fun c3 => ?_) (fun c3 => ?_)
      · have hf := sg_in c3 hf
        refine lv_iconst (v := 0) hx hb dX6_sum_32 (by decide) ?_
        exact hJ33 _ _ _ _ _ _ hf hP hD hS (lv_sub hl [0, 1, 3] rfl)
      · have hf := sg_ip c3 hf
        refine lv_aload_n hx hb dX6_sum_23 rfl (lv_at hl 0 rfl) ?_
        refine va_get (D := D) (ci := 8) (C := RX6) (T := TX6) (N := 27) hx hb hts hinX6 hown hK.1 hP 0 rfl rfl 6 (by decide) (hts (.fieldLink RX6 17 "SwitchgearModel" "load" "[I") (by decide +kernel)) (fun _ h9 => h9) rfl dX6_sum_24 ?_
        refine lv_iload_n hx hb dX6_sum_27 rfl (lv_at hl 3 rfl) ?_
        obtain ⟨hg2, hf⟩ := sg_g_s hf
        refine va_iald hx hb hK.1 hP 3 0 rfl rfl (sg_inb_s hg2) dX6_sum_28 ?_
        refine lv_goto (tgt := 33) hx hb dX6_sum_29 (by decide) ?_
        exact hJ33 _ _ _ _ _ _ hf hP hD hS (lv_sub hl [0, 1, 3] rfl)
  unfold fX6_sum at hf
  refine lv_iconst (v := 0) hx hb dX6_sum_0 (by decide) ?_
  refine lv_istore_n (lv' := [(2, .int 0), (0, .ref (ad 0)), (1, .int p1)]) hx hb dX6_sum_1 rfl hl (by decide) rfl (fun ls hl => ?_)
  refine lv_iconst (v := 0) hx hb dX6_sum_2 (by decide) ?_
  refine lv_istore_n (lv' := [(3, .int 0), (2, .int 0), (0, .ref (ad 0)), (1, .int p1)]) hx hb dX6_sum_3 rfl hl (by decide) rfl (fun ls hl => ?_)
  obtain ⟨e1, hc2, hf⟩ := sg_b_s hf
  refine hL4 _ _ _ e1 hc2 _ _ _ hP hD hS (lv_sub hl [2, 3, 1, 0] rfl) (fun H locs ls hP hD hS hl => ?_)
  refine lv_iload_n hx hb dX6_sum_41 rfl (lv_at hl 1 rfl) ?_
  have hq := Option.some.inj hf
  exact sg_iret hx hb hr hP hD hS dX6_sum_42 hq rfl hlocks
set_option maxRecDepth 100000 in
set_option maxHeartbeats 4000000 in
theorem c_X6_flow (l : Launch) (D : va_G) (cA : Nat → ClassId) (ad : Nat → Nat) (N : Nat) (u : sg_St) (p1 p2 : Int32) (r : Int32) (u' : sg_St) (hf : fX6_flow N u p1 p2 = some (r, u')) : sg_CI l D cA (sg_WM cA ad) yX6_flow wsX6_flow ({ frames := 1, cells := 0, slots := 0, locals := 25 }) [.ref (ad 0), .int p1, .int p2] u r u' := by
  intro sz
  refine Met.ofW (cc := cX6_flow) (maxL := 3) (ret := (some .int)) (by decide) rfl ?_
  intro p e s m args below meth c s₁ B hml hv
  obtain ⟨rfl, hsz, hP, hK, hD0⟩ := hv
  have hx := B.exec
  have hb := B.bytes
  have hr := B.returns
  have hts := atoms_spec (ws := wsX6_flow) B.pre
  have hown : s.vm.findClass RX6 = some m.cls := findClass_of_methodNamed B.named
  have hlocks := B.notSynchronized
  subst hsz
  have hD := hD0.self (sz := s.heap.size)
  generalize hAe : va_A (sg_WM cA ad u) s.heap.size = A at hD ⊢
  have hA : ∀ q : Nat, s.heap.size ≤ q → A q := fun q h => by rw [← hAe]; exact Or.inr h
  have hS : va_S A s.heap s.heap [] := va_S.rf
  have hl := lv_entry ([.ref (ad 0), .int p1, .int p2]) (n := 3) (Nat.le_of_ble_eq_true rfl)
  rw [lg_entry_eq]
  generalize (lg_sl ([.ref (ad 0), .int p1, .int p2]) ++ List.replicate (3 - (lg_sl ([.ref (ad 0), .int p1, .int p2])).length) Slot.unset).toArray = ls at hl ⊢
  replace hl : lv_has ls 3 [(0, .ref (ad 0)), (1, .int p1), (2, .int p2)] := hl
  have hinX6 : ∀ w ∈ u_ws RX6 TX6 27, w ∈ wsX6_flow := by decide +kernel
  unfold fX6_flow at hf
  refine lv_aload_n hx hb dX6_flow_0 rfl (lv_at hl 0 rfl) ?_
  refine lv_iload_n hx hb dX6_flow_1 rfl (lv_at hl 1 rfl) ?_
  refine lv_iload_n hx hb dX6_flow_2 rfl (lv_at hl 2 rfl) ?_
  obtain ⟨u3, hc1, hf⟩ := sg_b_s hf
  refine sg_cv (va_runV (As := [.int p1, .int p2]) (rest := []) ⟨hx, hb, hml, hown, hts⟩ (c_X6_paints l D cA ad N _ _ _ _ hc1 _) (cwV 2 hts gX6_flow_X6_paints rfl rfl rfl (by decide +kernel) ⟨Nat.le_of_ble_eq_true rfl, Nat.le_of_ble_eq_true rfl⟩) (sg_pre hK hP hD (ci := 8) (q0 := 0) rfl rfl) rfl rfl hl.1 rfl (lv_room (Nat.le_of_ble_eq_true rfl)) dX6_flow_3 ⟨Nat.zero_le _, Nat.zero_le _⟩) hD hS hA (fun H locs hP hD hS => ?_)
  refine lv_aload_n hx hb dX6_flow_6 rfl (lv_at hl 0 rfl) ?_
  refine lv_aload_n hx hb dX6_flow_7 rfl (lv_at hl 0 rfl) ?_
  refine va_get (D := D) (ci := 8) (C := RX6) (T := TX6) (N := 27) hx hb hts hinX6 hown hK.1 hP 0 rfl rfl 18 (by decide) (hts (.fieldLink RX6 53 "SwitchgearModel" "island" "[I") (by decide +kernel)) (fun _ h9 => h9) rfl dX6_flow_8 ?_
  refine lv_aload_n hx hb dX6_flow_11 rfl (lv_at hl 0 rfl) ?_
  refine va_get (D := D) (ci := 8) (C := RX6) (T := TX6) (N := 27) hx hb hts hinX6 hown hK.1 hP 0 rfl rfl 8 (by decide) (hts (.fieldLink RX6 23 "SwitchgearModel" "one" "[I") (by decide +kernel)) (fun _ h9 => h9) rfl dX6_flow_12 ?_
  refine lv_iload_n hx hb dX6_flow_15 rfl (lv_at hl 1 rfl) ?_
  obtain ⟨hg4, hf⟩ := sg_g_s hf
  refine va_iald hx hb hK.1 hP 5 0 rfl rfl (sg_inb_s hg4) dX6_flow_16 ?_
  obtain ⟨hg5, hf⟩ := sg_g_s hf
  refine va_iald hx hb hK.1 hP 15 0 rfl rfl (sg_inb_s hg5) dX6_flow_17 ?_
  obtain ⟨r7, hc6, hf⟩ := sg_b_s hf
  refine sg_ci (va_runV (As := [.int (u3 22 (u3 12 (p1).toNatClampNeg).toNatClampNeg)]) (rest := []) ⟨hx, hb, hml, hown, hts⟩ (c_X6_source l D cA ad N _ _ _ hc6 _) (cwV 1 hts gX6_flow_X6_source rfl rfl rfl (by decide +kernel) ⟨Nat.le_of_ble_eq_true rfl, Nat.le_of_ble_eq_true rfl⟩) (sg_pre hK hP hD (ci := 8) (q0 := 0) rfl rfl) rfl rfl hl.1 rfl (lv_room (Nat.le_of_ble_eq_true rfl)) dX6_flow_18 ⟨Nat.zero_le _, Nat.zero_le _⟩) hD hS hA (fun H locs hP hD hS => ?_)
  refine lv_iconst (v := (-1)) hx hb dX6_flow_21 (by decide) ?_
  refine lv_icmp_eq (tgt := 43) hx hb dX6_flow_22 (by decide) (fun c25 => ?_) (fun c25 => ?_)
  · have hf := sg_ip c25 hf
    refine lv_aload_n hx hb dX6_flow_43 rfl (lv_at hl 0 rfl) ?_
    refine lv_aload_n hx hb dX6_flow_44 rfl (lv_at hl 0 rfl) ?_
    refine va_get (D := D) (ci := 8) (C := RX6) (T := TX6) (N := 27) hx hb hts hinX6 hown hK.1 hP 0 rfl rfl 18 (by decide) (hts (.fieldLink RX6 53 "SwitchgearModel" "island" "[I") (by decide +kernel)) (fun _ h9 => h9) rfl dX6_flow_45 ?_
    refine lv_aload_n hx hb dX6_flow_48 rfl (lv_at hl 0 rfl) ?_
    refine va_get (D := D) (ci := 8) (C := RX6) (T := TX6) (N := 27) hx hb hts hinX6 hown hK.1 hP 0 rfl rfl 9 (by decide) (hts (.fieldLink RX6 26 "SwitchgearModel" "other" "[I") (by decide +kernel)) (fun _ h9 => h9) rfl dX6_flow_49 ?_
    refine lv_iload_n hx hb dX6_flow_52 rfl (lv_at hl 1 rfl) ?_
    obtain ⟨hg9, hf⟩ := sg_g_s hf
    refine va_iald hx hb hK.1 hP 6 0 rfl rfl (sg_inb_s hg9) dX6_flow_53 ?_
    obtain ⟨hg10, hf⟩ := sg_g_s hf
    refine va_iald hx hb hK.1 hP 15 0 rfl rfl (sg_inb_s hg10) dX6_flow_54 ?_
    obtain ⟨r12, hc11, hf⟩ := sg_b_s hf
    refine sg_ci (va_runV (As := [.int (u3 22 (u3 13 (p1).toNatClampNeg).toNatClampNeg)]) (rest := []) ⟨hx, hb, hml, hown, hts⟩ (c_X6_source l D cA ad N _ _ _ hc11 _) (cwV 1 hts gX6_flow_X6_source rfl rfl rfl (by decide +kernel) ⟨Nat.le_of_ble_eq_true rfl, Nat.le_of_ble_eq_true rfl⟩) (sg_pre hK hP hD (ci := 8) (q0 := 0) rfl rfl) rfl rfl hl.1 rfl (lv_room (Nat.le_of_ble_eq_true rfl)) dX6_flow_55 ⟨Nat.zero_le _, Nat.zero_le _⟩) hD hS hA (fun H locs hP hD hS => ?_)
    refine lv_iconst (v := (-1)) hx hb dX6_flow_58 (by decide) ?_
    refine lv_icmp_eq (tgt := 80) hx hb dX6_flow_59 (by decide) (fun c19 => ?_) (fun c19 => ?_)
    · have hf := sg_ip c19 hf
      refine lv_iconst (v := 0) hx hb dX6_flow_80 (by decide) ?_
      have hq := Option.some.inj hf
      exact sg_iret hx hb hr hP hD hS dX6_flow_81 (congrArg Prod.fst hq) (congrArg Prod.snd hq) hlocks
    · have hf := sg_in c19 hf
      refine lv_aload_n hx hb dX6_flow_62 rfl (lv_at hl 0 rfl) ?_
      refine lv_aload_n hx hb dX6_flow_63 rfl (lv_at hl 0 rfl) ?_
      refine va_get (D := D) (ci := 8) (C := RX6) (T := TX6) (N := 27) hx hb hts hinX6 hown hK.1 hP 0 rfl rfl 18 (by decide) (hts (.fieldLink RX6 53 "SwitchgearModel" "island" "[I") (by decide +kernel)) (fun _ h9 => h9) rfl dX6_flow_64 ?_
      refine lv_aload_n hx hb dX6_flow_67 rfl (lv_at hl 0 rfl) ?_
      refine va_get (D := D) (ci := 8) (C := RX6) (T := TX6) (N := 27) hx hb hts hinX6 hown hK.1 hP 0 rfl rfl 8 (by decide) (hts (.fieldLink RX6 23 "SwitchgearModel" "one" "[I") (by decide +kernel)) (fun _ h9 => h9) rfl dX6_flow_68 ?_
      refine lv_iload_n hx hb dX6_flow_71 rfl (lv_at hl 1 rfl) ?_
      obtain ⟨hg14, hf⟩ := sg_g_s hf
      refine va_iald hx hb hK.1 hP 5 0 rfl rfl (sg_inb_s hg14) dX6_flow_72 ?_
      obtain ⟨hg15, hf⟩ := sg_g_s hf
      refine va_iald hx hb hK.1 hP 15 0 rfl rfl (sg_inb_s hg15) dX6_flow_73 ?_
      obtain ⟨r17, hc16, hf⟩ := sg_b_s hf
      refine sg_ci (va_runV (As := [.int (u3 22 (u3 12 (p1).toNatClampNeg).toNatClampNeg)]) (rest := []) ⟨hx, hb, hml, hown, hts⟩ (c_X6_sum l D cA ad N _ _ _ hc16 _) (cwV 1 hts gX6_flow_X6_sum rfl rfl rfl (by decide +kernel) ⟨Nat.le_of_ble_eq_true rfl, Nat.le_of_ble_eq_true rfl⟩) (sg_pre hK hP hD (ci := 8) (q0 := 0) rfl rfl) rfl rfl hl.1 rfl (lv_room (Nat.le_of_ble_eq_true rfl)) dX6_flow_74 ⟨Nat.zero_le _, Nat.zero_le _⟩) hD hS hA (fun H locs hP hD hS => ?_)
      refine lv_goto (tgt := 81) hx hb dX6_flow_77 (by decide) ?_
      have hq := Option.some.inj hf
      exact sg_iret hx hb hr hP hD hS dX6_flow_81 (congrArg Prod.fst hq) (congrArg Prod.snd hq) hlocks
  · have hf := sg_in c25 hf
    refine lv_aload_n hx hb dX6_flow_25 rfl (lv_at hl 0 rfl) ?_
    refine lv_aload_n hx hb dX6_flow_26 rfl (lv_at hl 0 rfl) ?_
    refine va_get (D := D) (ci := 8) (C := RX6) (T := TX6) (N := 27) hx hb hts hinX6 hown hK.1 hP 0 rfl rfl 18 (by decide) (hts (.fieldLink RX6 53 "SwitchgearModel" "island" "[I") (by decide +kernel)) (fun _ h9 => h9) rfl dX6_flow_27 ?_
    refine lv_aload_n hx hb dX6_flow_30 rfl (lv_at hl 0 rfl) ?_
    refine va_get (D := D) (ci := 8) (C := RX6) (T := TX6) (N := 27) hx hb hts hinX6 hown hK.1 hP 0 rfl rfl 9 (by decide) (hts (.fieldLink RX6 26 "SwitchgearModel" "other" "[I") (by decide +kernel)) (fun _ h9 => h9) rfl dX6_flow_31 ?_
    refine lv_iload_n hx hb dX6_flow_34 rfl (lv_at hl 1 rfl) ?_
    obtain ⟨hg20, hf⟩ := sg_g_s hf
    refine va_iald hx hb hK.1 hP 6 0 rfl rfl (sg_inb_s hg20) dX6_flow_35 ?_
    obtain ⟨hg21, hf⟩ := sg_g_s hf
    refine va_iald hx hb hK.1 hP 15 0 rfl rfl (sg_inb_s hg21) dX6_flow_36 ?_
    obtain ⟨r23, hc22, hf⟩ := sg_b_s hf
    refine sg_ci (va_runV (As := [.int (u3 22 (u3 13 (p1).toNatClampNeg).toNatClampNeg)]) (rest := []) ⟨hx, hb, hml, hown, hts⟩ (c_X6_sum l D cA ad N _ _ _ hc22 _) (cwV 1 hts gX6_flow_X6_sum rfl rfl rfl (by decide +kernel) ⟨Nat.le_of_ble_eq_true rfl, Nat.le_of_ble_eq_true rfl⟩) (sg_pre hK hP hD (ci := 8) (q0 := 0) rfl rfl) rfl rfl hl.1 rfl (lv_room (Nat.le_of_ble_eq_true rfl)) dX6_flow_37 ⟨Nat.zero_le _, Nat.zero_le _⟩) hD hS hA (fun H locs hP hD hS => ?_)
    refine lv_goto (tgt := 81) hx hb dX6_flow_40 (by decide) ?_
    have hq := Option.some.inj hf
    exact sg_iret hx hb hr hP hD hS dX6_flow_81 (congrArg Prod.fst hq) (congrArg Prod.snd hq) hlocks
set_option maxRecDepth 100000 in
set_option maxHeartbeats 4000000 in
theorem c_X6_tooMuch (l : Launch) (D : va_G) (cA : Nat → ClassId) (ad : Nat → Nat) (N : Nat) (u : sg_St) (p1 : Int32) (r : Int32) (u' : sg_St) (hf : fX6_tooMuch N u p1 = some (r, u')) : sg_CI l D cA (sg_WM cA ad) yX6_tooMuch wsX6_tooMuch ({ frames := 2, cells := 0, slots := 0, locals := 47 }) [.ref (ad 0), .int p1] u r u' := by
  intro sz
  refine Met.ofW (cc := cX6_tooMuch) (maxL := 3) (ret := (some .int)) (by decide) rfl ?_
  intro p e s m args below meth c s₁ B hml hv
  obtain ⟨rfl, hsz, hP, hK, hD0⟩ := hv
  have hx := B.exec
  have hb := B.bytes
  have hr := B.returns
  have hts := atoms_spec (ws := wsX6_tooMuch) B.pre
  have hown : s.vm.findClass RX6 = some m.cls := findClass_of_methodNamed B.named
  have hlocks := B.notSynchronized
  subst hsz
  have hD := hD0.self (sz := s.heap.size)
  generalize hAe : va_A (sg_WM cA ad u) s.heap.size = A at hD ⊢
  have hA : ∀ q : Nat, s.heap.size ≤ q → A q := fun q h => by rw [← hAe]; exact Or.inr h
  have hS : va_S A s.heap s.heap [] := va_S.rf
  have hl := lv_entry ([.ref (ad 0), .int p1]) (n := 3) (Nat.le_of_ble_eq_true rfl)
  rw [lg_entry_eq]
  generalize (lg_sl ([.ref (ad 0), .int p1]) ++ List.replicate (3 - (lg_sl ([.ref (ad 0), .int p1])).length) Slot.unset).toArray = ls at hl ⊢
  replace hl : lv_has ls 3 [(0, .ref (ad 0)), (1, .int p1)] := hl
  have hinX6 : ∀ w ∈ u_ws RX6 TX6 27, w ∈ wsX6_tooMuch := by decide +kernel
  have hL2 : ∀ (v1 : Int32) (n : Nat) (x : sg_St × Int32) (r9 : (Int32 × sg_St)), sg_it (fun x => fX6_tooMuch_L2 N x.1 v1 x.2) n x = some r9 → r9 = (r, u') → ∀ (H : Heap) (locs : List Loc) (ls : Array Slot), va_P D vwCl (sg_WM cA ad x.1) H → va_D A (sg_WM cA ad x.1) → va_S A s.heap H locs → lv_has ls 3 [(0, .ref (ad 0)), (1, .int v1), (2, .int x.2)] → W p l e (headSpec wsX6_tooMuch ({ frames := 2, cells := 0, slots := 0, locals := 47 })).room s m ([.ref (ad 0), .int p1] : List Value).toArray below meth c H locs 0 0 (MQ below (va_Qi (fun x y => x = r ∧ y = u') (sg_BX D (sg_WM cA ad) A) A) ([.ref (ad 0), .int p1] : List Value).toArray s 0 0 A) (F0 m 2 ls []) := by
    intro v1
    refine sg_loop _ ?_
    intro x y r9 hf hI hy hr9 H locs ls hP hD hS hl
    replace hf : fX6_tooMuch_L2 N x.1 v1 x.2 = some y := hf
    have hJ24 : ∀ (u : sg_St) (v2 : Int32) (H : Heap) (locs : List Loc) (ls : Array Slot), fX6_tooMuch_j24 N u v1 v2 = some y → va_P D vwCl (sg_WM cA ad u) H → va_D A (sg_WM cA ad u) → va_S A s.heap H locs → lv_has ls 3 [(0, .ref (ad 0)), (1, .int v1), (2, .int v2)] → W p l e (headSpec wsX6_tooMuch ({ frames := 2, cells := 0, slots := 0, locals := 47 })).room s m ([.ref (ad 0), .int p1] : List Value).toArray below meth c H locs 0 0 (MQ below (va_Qi (fun x y => x = r ∧ y = u') (sg_BX D (sg_WM cA ad) A) A) ([.ref (ad 0), .int p1] : List Value).toArray s 0 0 A) (F0 m 24 ls []) := by
      intro u v2 H locs ls hf hP hD hS hl
      unfold fX6_tooMuch_j24 at hf
      refine lv_aload_n hx hb dX6_tooMuch_24 rfl (lv_at hl 0 rfl) ?_
      refine lv_iload_n hx hb dX6_tooMuch_25 rfl (lv_at hl 2 rfl) ?_
      refine lv_iload_n hx hb dX6_tooMuch_26 rfl (lv_at hl 1 rfl) ?_
      obtain ⟨r2, u3, hc1, hf⟩ := sg_b2_s hf
      refine sg_ci (va_runV (As := [.int v2, .int v1]) (rest := []) ⟨hx, hb, hml, hown, hts⟩ (c_X6_flow l D cA ad N _ _ _ _ _ hc1 _) (cwV 2 hts gX6_tooMuch_X6_flow rfl rfl rfl (by decide +kernel) ⟨Nat.le_of_ble_eq_true rfl, Nat.le_of_ble_eq_true rfl⟩) (sg_pre hK hP hD (ci := 8) (q0 := 0) rfl rfl) rfl rfl hl.1 rfl (lv_room (Nat.le_of_ble_eq_true rfl)) dX6_tooMuch_27 ⟨Nat.zero_le _, Nat.zero_le _⟩) hD hS hA (fun H locs hP hD hS => ?_)
      refine lv_aload_n hx hb dX6_tooMuch_30 rfl (lv_at hl 0 rfl) ?_
      refine va_get (D := D) (ci := 8) (C := RX6) (T := TX6) (N := 27) hx hb hts hinX6 hown hK.1 hP 0 rfl rfl 10 (by decide) (hts (.fieldLink RX6 29 "SwitchgearModel" "rating" "[I") (by decide +kernel)) (fun _ h9 => h9) rfl dX6_tooMuch_31 ?_
      refine lv_iload_n hx hb dX6_tooMuch_34 rfl (lv_at hl 2 rfl) ?_
      obtain ⟨hg4, hf⟩ := sg_g_s hf
      refine va_iald hx hb hK.1 hP 7 0 rfl rfl (sg_inb_s hg4) dX6_tooMuch_35 ?_
      refine lv_icmp_le (tgt := 41) hx hb dX6_tooMuch_36 (by decide) (fun c5 => ?_) (fun c5 => ?_)
      · have hf := sg_ip c5 hf
        refine lv_iinc (v := v2 + 1) (lv' := [(2, .int (v2 + 1)), (0, .ref (ad 0)), (1, .int v1)]) hx hb dX6_tooMuch_41 hl (k := 2) rfl rfl (by decide) rfl (fun ls hl => ?_)
        refine lv_goto (tgt := 2) hx hb dX6_tooMuch_44 (by decide) ?_
        exact hI _ (Option.some.inj hf).symm hr9 _ _ _ hP hD hS (lv_sub hl [1, 2, 0] rfl)
      · have hf := sg_in c5 hf
        refine lv_iload_n hx hb dX6_tooMuch_39 rfl (lv_at hl 2 rfl) ?_
        have hq := (hy _ (Option.some.inj hf).symm).trans hr9
        exact sg_iret hx hb hr hP hD hS dX6_tooMuch_40 (congrArg Prod.fst hq) (congrArg Prod.snd hq) hlocks
    unfold fX6_tooMuch_L2 at hf
    refine lv_iload_n hx hb dX6_tooMuch_2 rfl (lv_at hl 2 rfl) ?_
    refine lv_aload_n hx hb dX6_tooMuch_3 rfl (lv_at hl 0 rfl) ?_
    refine va_get (D := D) (ci := 8) (C := RX6) (T := TX6) (N := 27) hx hb hts hinX6 hown hK.1 hP 0 rfl rfl 2 (by decide) (hts (.fieldLink RX6 79 "SwitchgearModel" "lines" "I") (by decide +kernel)) (fun _ h9 => h9) rfl dX6_tooMuch_4 ?_
    refine lv_icmp_ge (tgt := 47) hx hb dX6_tooMuch_7 (by decide) (fun c4 => ?_) (fun c4 => ?_)
    · have hf := sg_ip c4 hf
      refine lv_iconst (v := (-1)) hx hb dX6_tooMuch_47 (by decide) ?_
      have hq := (hy _ (Option.some.inj hf).symm).trans hr9
      exact sg_iret hx hb hr hP hD hS dX6_tooMuch_48 (congrArg Prod.fst hq) (congrArg Prod.snd hq) hlocks
    · have hf := sg_in c4 hf
      refine lv_aload_n hx hb dX6_tooMuch_10 rfl (lv_at hl 0 rfl) ?_
      refine va_get (D := D) (ci := 8) (C := RX6) (T := TX6) (N := 27) hx hb hts hinX6 hown hK.1 hP 0 rfl rfl 15 (by decide) (hts (.fieldLink RX6 44 "SwitchgearModel" "isClosed" "[Z") (by decide +kernel)) (fun _ h9 => h9) rfl dX6_tooMuch_11 ?_
      refine lv_iload_n hx hb dX6_tooMuch_14 rfl (lv_at hl 2 rfl) ?_
      obtain ⟨hg1, hf⟩ := sg_g_s hf
      refine va_zald hx hb hK.1 hP 12 1 rfl rfl (sg_inb_s hg1) dX6_tooMuch_15 ?_
      refine lv_if_ne (tgt := 24) hx hb dX6_tooMuch_16 (by decide) (fun c3 => ?_) (fun c3 => ?_)
      · have hf := sg_in c3 hf
        exact hJ24 _ _ _ _ _ hf hP hD hS (lv_sub hl [0, 1, 2] rfl)
      · have hf := sg_ip c3 hf
        refine lv_iload_n hx hb dX6_tooMuch_19 rfl (lv_at hl 2 rfl) ?_
        refine lv_iload_n hx hb dX6_tooMuch_20 rfl (lv_at hl 1 rfl) ?_
        refine lv_icmp_ne (tgt := 41) hx hb dX6_tooMuch_21 (by decide) (fun c2 => ?_) (fun c2 => ?_)
        · have hf := sg_in c2 hf
          refine lv_iinc (v := x.2 + 1) (lv' := [(2, .int (x.2 + 1)), (0, .ref (ad 0)), (1, .int v1)]) hx hb dX6_tooMuch_41 hl (k := 2) rfl rfl (by decide) rfl (fun ls hl => ?_)
          refine lv_goto (tgt := 2) hx hb dX6_tooMuch_44 (by decide) ?_
          exact hI _ (Option.some.inj hf).symm hr9 _ _ _ hP hD hS (lv_sub hl [1, 2, 0] rfl)
        · have hf := sg_ip c2 hf
          exact hJ24 _ _ _ _ _ hf hP hD hS (lv_sub hl [0, 1, 2] rfl)
  unfold fX6_tooMuch at hf
  refine lv_iconst (v := 0) hx hb dX6_tooMuch_0 (by decide) ?_
  refine lv_istore_n (lv' := [(2, .int 0), (0, .ref (ad 0)), (1, .int p1)]) hx hb dX6_tooMuch_1 rfl hl (by decide) rfl (fun ls hl => ?_)
  exact hL2 _ _ _ _ hf rfl _ _ _ hP hD hS (lv_sub hl [1, 2, 0] rfl)
set_option maxRecDepth 100000 in
set_option maxHeartbeats 4000000 in
theorem c_X6_reason (l : Launch) (D : va_G) (cA : Nat → ClassId) (ad : Nat → Nat) (N : Nat) (u : sg_St) (p1 : Int32) (r : Int32) (u' : sg_St) (hf : fX6_reason N u p1 = some (r, u')) : sg_CI l D cA (sg_WM cA ad) yX6_reason wsX6_reason ({ frames := 3, cells := 0, slots := 0, locals := 69 }) [.ref (ad 0), .int p1] u r u' := by
  intro sz
  refine Met.ofW (cc := cX6_reason) (maxL := 8) (ret := (some .char)) (by decide) rfl ?_
  intro p e s m args below meth c s₁ B hml hv
  obtain ⟨rfl, hsz, hP, hK, hD0⟩ := hv
  have hx := B.exec
  have hb := B.bytes
  have hr := B.returns
  have hts := atoms_spec (ws := wsX6_reason) B.pre
  have hown : s.vm.findClass RX6 = some m.cls := findClass_of_methodNamed B.named
  have hlocks := B.notSynchronized
  subst hsz
  have hD := hD0.self (sz := s.heap.size)
  generalize hAe : va_A (sg_WM cA ad u) s.heap.size = A at hD ⊢
  have hA : ∀ q : Nat, s.heap.size ≤ q → A q := fun q h => by rw [← hAe]; exact Or.inr h
  have hS : va_S A s.heap s.heap [] := va_S.rf
  have hl := lv_entry ([.ref (ad 0), .int p1]) (n := 8) (Nat.le_of_ble_eq_true rfl)
  rw [lg_entry_eq]
  generalize (lg_sl ([.ref (ad 0), .int p1]) ++ List.replicate (8 - (lg_sl ([.ref (ad 0), .int p1])).length) Slot.unset).toArray = ls at hl ⊢
  replace hl : lv_has ls 8 [(0, .ref (ad 0)), (1, .int p1)] := hl
  have hinX6 : ∀ w ∈ u_ws RX6 TX6 27, w ∈ wsX6_reason := by decide +kernel
  have hJ228 : ∀ (u : sg_St) (v1 : Int32) (H : Heap) (locs : List Loc) (ls : Array Slot), fX6_reason_j228 N u v1 = some (r, u') → va_P D vwCl (sg_WM cA ad u) H → va_D A (sg_WM cA ad u) → va_S A s.heap H locs → lv_has ls 8 [(0, .ref (ad 0)), (1, .int v1)] → W p l e (headSpec wsX6_reason ({ frames := 3, cells := 0, slots := 0, locals := 69 })).room s m ([.ref (ad 0), .int p1] : List Value).toArray below meth c H locs 0 0 (MQ below (va_Qi (fun x y => x = r ∧ y = u') (sg_BX D (sg_WM cA ad) A) A) ([.ref (ad 0), .int p1] : List Value).toArray s 0 0 A) (F0 m 228 ls []) := by
    intro u v1 H locs ls hf hP hD hS hl
    unfold fX6_reason_j228 at hf
    refine lv_aload_n hx hb dX6_reason_228 rfl (lv_at hl 0 rfl) ?_
    refine lv_iload_n hx hb dX6_reason_229 rfl (lv_at hl 1 rfl) ?_
    obtain ⟨r2, u3, hc1, hf⟩ := sg_b2_s hf
    refine sg_ci (va_runV (As := [.int v1]) (rest := []) ⟨hx, hb, hml, hown, hts⟩ (c_X6_tooMuch l D cA ad N _ _ _ _ hc1 _) (cwV 1 hts gX6_reason_X6_tooMuch rfl rfl rfl (by decide +kernel) ⟨Nat.le_of_ble_eq_true rfl, Nat.le_of_ble_eq_true rfl⟩) (sg_pre hK hP hD (ci := 8) (q0 := 0) rfl rfl) rfl rfl hl.1 rfl (lv_room (Nat.le_of_ble_eq_true rfl)) dX6_reason_230 ⟨Nat.zero_le _, Nat.zero_le _⟩) hD hS hA (fun H locs hP hD hS => ?_)
    refine lv_iconst (v := (-1)) hx hb dX6_reason_233 (by decide) ?_
    refine lv_icmp_ne (tgt := 242) hx hb dX6_reason_234 (by decide) (fun c4 => ?_) (fun c4 => ?_)
    · have hf := sg_in c4 hf
      refine lv_bipush (v := 108) hx hb dX6_reason_242 (by decide) ?_
      have hq := Option.some.inj hf
      exact sg_zret hx hb hr rfl hP hD hS dX6_reason_244 (congrArg Prod.fst hq) (congrArg Prod.snd hq) hlocks
    · have hf := sg_ip c4 hf
      refine lv_bipush (v := 110) hx hb dX6_reason_237 (by decide) ?_
      refine lv_goto (tgt := 244) hx hb dX6_reason_239 (by decide) ?_
      have hq := Option.some.inj hf
      exact sg_zret hx hb hr rfl hP hD hS dX6_reason_244 (congrArg Prod.fst hq) (congrArg Prod.snd hq) hlocks
  have hJ221 : ∀ (u : sg_St) (v1 k0 k1 : Int32) (H : Heap) (locs : List Loc) (ls : Array Slot), fX6_reason_j221 N u v1 k0 k1 = some (r, u') → va_P D vwCl (sg_WM cA ad u) H → va_D A (sg_WM cA ad u) → va_S A s.heap H locs → lv_has ls 8 [(0, .ref (ad 0)), (1, .int v1)] → W p l e (headSpec wsX6_reason ({ frames := 3, cells := 0, slots := 0, locals := 69 })).room s m ([.ref (ad 0), .int p1] : List Value).toArray below meth c H locs 0 0 (MQ below (va_Qi (fun x y => x = r ∧ y = u') (sg_BX D (sg_WM cA ad) A) A) ([.ref (ad 0), .int p1] : List Value).toArray s 0 0 A) (F0 m 221 ls [.int k1, .ref (ad 2), .int k0]) := by
    intro u v1 k0 k1 H locs ls hf hP hD hS hl
    unfold fX6_reason_j221 at hf
    obtain ⟨hg1, hf⟩ := sg_g_s hf
    refine va_iald hx hb hK.1 hP 2 0 rfl rfl (sg_inb_s hg1) dX6_reason_221 ?_
    refine lv_icmp_le (tgt := 228) hx hb dX6_reason_222 (by decide) (fun c2 => ?_) (fun c2 => ?_)
    · have hf := sg_ip c2 hf
      exact hJ228 _ _ _ _ _ hf hP hD hS (lv_sub hl [0, 1] rfl)
    · have hf := sg_in c2 hf
      refine lv_bipush (v := 115) hx hb dX6_reason_225 (by decide) ?_
      have hq := Option.some.inj hf
      exact sg_zret hx hb hr rfl hP hD hS dX6_reason_227 (congrArg Prod.fst hq) (congrArg Prod.snd hq) hlocks
  have hJ188 : ∀ (u : sg_St) (v1 v2 v3 v4 v5 v6 : Int32) (H : Heap) (locs : List Loc) (ls : Array Slot), fX6_reason_j188 N u v1 v2 v3 v4 v5 v6 = some (r, u') → va_P D vwCl (sg_WM cA ad u) H → va_D A (sg_WM cA ad u) → va_S A s.heap H locs → lv_has ls 8 [(0, .ref (ad 0)), (1, .int v1), (2, .int v2), (3, .int v3), (4, .int v4), (5, .int v5), (6, .int v6)] → W p l e (headSpec wsX6_reason ({ frames := 3, cells := 0, slots := 0, locals := 69 })).room s m ([.ref (ad 0), .int p1] : List Value).toArray below meth c H locs 0 0 (MQ below (va_Qi (fun x y => x = r ∧ y = u') (sg_BX D (sg_WM cA ad) A) A) ([.ref (ad 0), .int p1] : List Value).toArray s 0 0 A) (F0 m 188 ls []) := by
    intro u v1 v2 v3 v4 v5 v6 H locs ls hf hP hD hS hl
    unfold fX6_reason_j188 at hf
    refine lv_iload hx hb dX6_reason_188 (lv_at hl 6 rfl) ?_
    refine lv_if_eq (tgt := 228) hx hb dX6_reason_190 (by decide) (fun c8 => ?_) (fun c8 => ?_)
    · have hf := sg_ip c8 hf
      exact hJ228 _ _ _ _ _ hf hP hD hS (lv_sub hl [0, 1] rfl)
    · have hf := sg_in c8 hf
      refine lv_aload_n hx hb dX6_reason_193 rfl (lv_at hl 0 rfl) ?_
      refine lv_iload_n hx hb dX6_reason_194 rfl (lv_at hl 2 rfl) ?_
      obtain ⟨r2, hc1, hf⟩ := sg_b_s hf
      refine sg_ci (va_runV (As := [.int v2]) (rest := []) ⟨hx, hb, hml, hown, hts⟩ (c_X6_sum l D cA ad N _ _ _ hc1 _) (cwV 1 hts gX6_reason_X6_sum rfl rfl rfl (by decide +kernel) ⟨Nat.le_of_ble_eq_true rfl, Nat.le_of_ble_eq_true rfl⟩) (sg_pre hK hP hD (ci := 8) (q0 := 0) rfl rfl) rfl rfl hl.1 rfl (lv_room (Nat.le_of_ble_eq_true rfl)) dX6_reason_195 ⟨Nat.zero_le _, Nat.zero_le _⟩) hD hS hA (fun H locs hP hD hS => ?_)
      refine lv_aload_n hx hb dX6_reason_198 rfl (lv_at hl 0 rfl) ?_
      refine lv_iload_n hx hb dX6_reason_199 rfl (lv_at hl 3 rfl) ?_
      obtain ⟨r5, hc4, hf⟩ := sg_b_s hf
      refine sg_ci (va_runV (As := [.int v3]) (rest := [.int r2]) ⟨hx, hb, hml, hown, hts⟩ (c_X6_sum l D cA ad N _ _ _ hc4 _) (cwV 1 hts gX6_reason_X6_sum rfl rfl rfl (by decide +kernel) ⟨Nat.le_of_ble_eq_true rfl, Nat.le_of_ble_eq_true rfl⟩) (sg_pre hK hP hD (ci := 8) (q0 := 0) rfl rfl) rfl rfl hl.1 rfl (lv_room (Nat.le_of_ble_eq_true rfl)) dX6_reason_200 ⟨Nat.zero_le _, Nat.zero_le _⟩) hD hS hA (fun H locs hP hD hS => ?_)
      refine lv_iadd hx hb dX6_reason_203 ?_
      refine lv_aload_n hx hb dX6_reason_204 rfl (lv_at hl 0 rfl) ?_
      refine va_get (D := D) (ci := 8) (C := RX6) (T := TX6) (N := 27) hx hb hts hinX6 hown hK.1 hP 0 rfl rfl 5 (by decide) (hts (.fieldLink RX6 13 "SwitchgearModel" "capacity" "[I") (by decide +kernel)) (fun _ h9 => h9) rfl dX6_reason_205 ?_
      refine lv_iload hx hb dX6_reason_208 (lv_at hl 4 rfl) ?_
      refine lv_iconst (v := (-1)) hx hb dX6_reason_210 (by decide) ?_
      refine lv_icmp_ne (tgt := 219) hx hb dX6_reason_211 (by decide) (fun c7 => ?_) (fun c7 => ?_)
      · have hf := sg_in c7 hf
        refine lv_iload hx hb dX6_reason_219 (lv_at hl 4 rfl) ?_
        exact hJ221 _ _ _ _ _ _ _ hf hP hD hS (lv_sub hl [0, 1] rfl)
      · have hf := sg_ip c7 hf
        refine lv_iload hx hb dX6_reason_214 (lv_at hl 5 rfl) ?_
        refine lv_goto (tgt := 221) hx hb dX6_reason_216 (by decide) ?_
        exact hJ221 _ _ _ _ _ _ _ hf hP hD hS (lv_sub hl [0, 1] rfl)
  have hJ162 : ∀ (u : sg_St) (v1 v2 v3 v4 v5 v6 v7 : Int32) (H : Heap) (locs : List Loc) (ls : Array Slot), fX6_reason_j162 N u v1 v2 v3 v4 v5 v6 v7 = some (r, u') → va_P D vwCl (sg_WM cA ad u) H → va_D A (sg_WM cA ad u) → va_S A s.heap H locs → lv_has ls 8 [(0, .ref (ad 0)), (1, .int v1), (2, .int v2), (3, .int v3), (4, .int v4), (5, .int v5), (6, .int v6), (7, .int v7)] → W p l e (headSpec wsX6_reason ({ frames := 3, cells := 0, slots := 0, locals := 69 })).room s m ([.ref (ad 0), .int p1] : List Value).toArray below meth c H locs 0 0 (MQ below (va_Qi (fun x y => x = r ∧ y = u') (sg_BX D (sg_WM cA ad) A) A) ([.ref (ad 0), .int p1] : List Value).toArray s 0 0 A) (F0 m 162 ls []) := by
    intro u v1 v2 v3 v4 v5 v6 v7 H locs ls hf hP hD hS hl
    unfold fX6_reason_j162 at hf
    refine lv_iload hx hb dX6_reason_162 (lv_at hl 6 rfl) ?_
    refine lv_if_eq (tgt := 188) hx hb dX6_reason_164 (by decide) (fun c7 => ?_) (fun c7 => ?_)
    · have hf := sg_ip c7 hf
      exact hJ188 _ _ _ _ _ _ _ _ _ _ hf hP hD hS (lv_sub hl [0, 1, 2, 3, 4, 5, 6] rfl)
    · have hf := sg_in c7 hf
      refine lv_aload_n hx hb dX6_reason_167 rfl (lv_at hl 0 rfl) ?_
      refine va_get (D := D) (ci := 8) (C := RX6) (T := TX6) (N := 27) hx hb hts hinX6 hown hK.1 hP 0 rfl rfl 14 (by decide) (hts (.fieldLink RX6 41 "SwitchgearModel" "isBreaker" "[Z") (by decide +kernel)) (fun _ h9 => h9) rfl dX6_reason_168 ?_
      refine lv_iload_n hx hb dX6_reason_171 rfl (lv_at hl 1 rfl) ?_
      obtain ⟨hg1, hf⟩ := sg_g_s hf
      refine va_zald hx hb hK.1 hP 11 1 rfl rfl (sg_inb_s hg1) dX6_reason_172 ?_
      refine lv_if_ne (tgt := 188) hx hb dX6_reason_173 (by decide) (fun c6 => ?_) (fun c6 => ?_)
      · have hf := sg_in c6 hf
        exact hJ188 _ _ _ _ _ _ _ _ _ _ hf hP hD hS (lv_sub hl [0, 1, 2, 3, 4, 5, 6] rfl)
      · have hf := sg_ip c6 hf
        refine lv_aload_n hx hb dX6_reason_176 rfl (lv_at hl 0 rfl) ?_
        refine lv_iload hx hb dX6_reason_177 (lv_at hl 7 rfl) ?_
        obtain ⟨r3, hc2, hf⟩ := sg_b_s hf
        refine sg_ci (va_runV (As := [.int v7]) (rest := []) ⟨hx, hb, hml, hown, hts⟩ (c_X6_sum l D cA ad N _ _ _ hc2 _) (cwV 1 hts gX6_reason_X6_sum rfl rfl rfl (by decide +kernel) ⟨Nat.le_of_ble_eq_true rfl, Nat.le_of_ble_eq_true rfl⟩) (sg_pre hK hP hD (ci := 8) (q0 := 0) rfl rfl) rfl rfl hl.1 rfl (lv_room (Nat.le_of_ble_eq_true rfl)) dX6_reason_179 ⟨Nat.zero_le _, Nat.zero_le _⟩) hD hS hA (fun H locs hP hD hS => ?_)
        refine lv_if_le (tgt := 188) hx hb dX6_reason_182 (by decide) (fun c5 => ?_) (fun c5 => ?_)
        · have hf := sg_ip c5 hf
          exact hJ188 _ _ _ _ _ _ _ _ _ _ hf hP hD hS (lv_sub hl [0, 1, 2, 3, 4, 5, 6] rfl)
        · have hf := sg_in c5 hf
          refine lv_bipush (v := 100) hx hb dX6_reason_185 (by decide) ?_
          have hq := Option.some.inj hf
          exact sg_zret hx hb hr rfl hP hD hS dX6_reason_187 (congrArg Prod.fst hq) (congrArg Prod.snd hq) hlocks
  have hJ142 : ∀ (u : sg_St) (v1 v2 v3 v4 v5 v6 v7 : Int32) (H : Heap) (locs : List Loc) (ls : Array Slot), fX6_reason_j142 N u v1 v2 v3 v4 v5 v6 v7 = some (r, u') → va_P D vwCl (sg_WM cA ad u) H → va_D A (sg_WM cA ad u) → va_S A s.heap H locs → lv_has ls 8 [(0, .ref (ad 0)), (1, .int v1), (2, .int v2), (3, .int v3), (4, .int v4), (5, .int v5), (6, .int v6), (7, .int v7)] → W p l e (headSpec wsX6_reason ({ frames := 3, cells := 0, slots := 0, locals := 69 })).room s m ([.ref (ad 0), .int p1] : List Value).toArray below meth c H locs 0 0 (MQ below (va_Qi (fun x y => x = r ∧ y = u') (sg_BX D (sg_WM cA ad) A) A) ([.ref (ad 0), .int p1] : List Value).toArray s 0 0 A) (F0 m 142 ls []) := by
    intro u v1 v2 v3 v4 v5 v6 v7 H locs ls hf hP hD hS hl
    unfold fX6_reason_j142 at hf
    refine lv_iload_n hx hb dX6_reason_142 rfl (lv_at hl 2 rfl) ?_
    refine lv_iload_n hx hb dX6_reason_143 rfl (lv_at hl 3 rfl) ?_
    refine lv_icmp_eq (tgt := 159) hx hb dX6_reason_144 (by decide) (fun c3 => ?_) (fun c3 => ?_)
    · have hf := sg_ip c3 hf
      refine lv_bipush (v := 114) hx hb dX6_reason_159 (by decide) ?_
      have hq := Option.some.inj hf
      exact sg_zret hx hb hr rfl hP hD hS dX6_reason_161 (congrArg Prod.fst hq) (congrArg Prod.snd hq) hlocks
    · have hf := sg_in c3 hf
      refine lv_iload hx hb dX6_reason_147 (lv_at hl 4 rfl) ?_
      refine lv_iconst (v := (-1)) hx hb dX6_reason_149 (by decide) ?_
      refine lv_icmp_eq (tgt := 162) hx hb dX6_reason_150 (by decide) (fun c2 => ?_) (fun c2 => ?_)
      · have hf := sg_ip c2 hf
        exact hJ162 _ _ _ _ _ _ _ _ _ _ _ hf hP hD hS (lv_sub hl [0, 1, 2, 3, 4, 5, 6, 7] rfl)
      · have hf := sg_in c2 hf
        refine lv_iload hx hb dX6_reason_153 (lv_at hl 5 rfl) ?_
        refine lv_iconst (v := (-1)) hx hb dX6_reason_155 (by decide) ?_
        refine lv_icmp_eq (tgt := 162) hx hb dX6_reason_156 (by decide) (fun c1 => ?_) (fun c1 => ?_)
        · have hf := sg_ip c1 hf
          exact hJ162 _ _ _ _ _ _ _ _ _ _ _ hf hP hD hS (lv_sub hl [0, 1, 2, 3, 4, 5, 6, 7] rfl)
        · have hf := sg_in c1 hf
          refine lv_bipush (v := 114) hx hb dX6_reason_159 (by decide) ?_
          have hq := Option.some.inj hf
          exact sg_zret hx hb hr rfl hP hD hS dX6_reason_161 (congrArg Prod.fst hq) (congrArg Prod.snd hq) hlocks
  have hJ123 : ∀ (u : sg_St) (v1 v2 v3 v4 v5 v6 k0 : Int32) (H : Heap) (locs : List Loc) (ls : Array Slot), fX6_reason_j123 N u v1 v2 v3 v4 v5 v6 k0 = some (r, u') → va_P D vwCl (sg_WM cA ad u) H → va_D A (sg_WM cA ad u) → va_S A s.heap H locs → lv_has ls 8 [(0, .ref (ad 0)), (1, .int v1), (2, .int v2), (3, .int v3), (4, .int v4), (5, .int v5), (6, .int v6)] → W p l e (headSpec wsX6_reason ({ frames := 3, cells := 0, slots := 0, locals := 69 })).room s m ([.ref (ad 0), .int p1] : List Value).toArray below meth c H locs 0 0 (MQ below (va_Qi (fun x y => x = r ∧ y = u') (sg_BX D (sg_WM cA ad) A) A) ([.ref (ad 0), .int p1] : List Value).toArray s 0 0 A) (F0 m 123 ls [.int k0]) := by
    intro u v1 v2 v3 v4 v5 v6 k0 H locs ls hf hP hD hS hl
    unfold fX6_reason_j123 at hf
    refine lv_istore (lv' := [(7, .int k0), (0, .ref (ad 0)), (1, .int v1), (2, .int v2), (3, .int v3), (4, .int v4), (5, .int v5), (6, .int v6)]) hx hb dX6_reason_123 hl (by decide) rfl (fun ls hl => ?_)
    refine lv_iload hx hb dX6_reason_125 (lv_at hl 7 rfl) ?_
    refine lv_if_eq (tgt := 142) hx hb dX6_reason_127 (by decide) (fun c5 => ?_) (fun c5 => ?_)
    · have hf := sg_ip c5 hf
      exact hJ142 _ _ _ _ _ _ _ _ _ _ _ hf hP hD hS (lv_sub hl [1, 2, 3, 4, 5, 6, 7, 0] rfl)
    · have hf := sg_in c5 hf
      refine lv_aload_n hx hb dX6_reason_130 rfl (lv_at hl 1 rfl) ?_
      refine lv_iload hx hb dX6_reason_131 (lv_at hl 0 rfl) ?_
      obtain ⟨r2, hc1, hf⟩ := sg_b_s hf
      refine sg_ci (va_runV (As := [.int k0]) (rest := []) ⟨hx, hb, hml, hown, hts⟩ (c_X6_hasFaultIn l D cA ad N _ _ _ hc1 _) (cwV 1 hts gX6_reason_X6_hasFaultIn rfl rfl rfl (by decide +kernel) ⟨Nat.le_of_ble_eq_true rfl, Nat.le_of_ble_eq_true rfl⟩) (sg_pre hK hP hD (ci := 8) (q0 := 0) rfl rfl) rfl rfl hl.1 rfl (lv_room (Nat.le_of_ble_eq_true rfl)) dX6_reason_133 ⟨Nat.zero_le _, Nat.zero_le _⟩) hD hS hA (fun H locs hP hD hS => ?_)
      refine lv_if_eq (tgt := 142) hx hb dX6_reason_136 (by decide) (fun c4 => ?_) (fun c4 => ?_)
      · have hf := sg_ip c4 hf
        exact hJ142 _ _ _ _ _ _ _ _ _ _ _ hf hP hD hS (lv_sub hl [1, 2, 3, 4, 5, 6, 7, 0] rfl)
      · have hf := sg_in c4 hf
        refine lv_bipush (v := 102) hx hb dX6_reason_139 (by decide) ?_
        have hq := Option.some.inj hf
        exact sg_zret hx hb hr rfl hP hD hS dX6_reason_141 (congrArg Prod.fst hq) (congrArg Prod.snd hq) hlocks
  have hJ110 : ∀ (u : sg_St) (v1 v2 v3 v4 v5 k0 : Int32) (H : Heap) (locs : List Loc) (ls : Array Slot), fX6_reason_j110 N u v1 v2 v3 v4 v5 k0 = some (r, u') → va_P D vwCl (sg_WM cA ad u) H → va_D A (sg_WM cA ad u) → va_S A s.heap H locs → lv_has ls 8 [(0, .ref (ad 0)), (1, .int v1), (2, .int v2), (3, .int v3), (4, .int v4), (5, .int v5)] → W p l e (headSpec wsX6_reason ({ frames := 3, cells := 0, slots := 0, locals := 69 })).room s m ([.ref (ad 0), .int p1] : List Value).toArray below meth c H locs 0 0 (MQ below (va_Qi (fun x y => x = r ∧ y = u') (sg_BX D (sg_WM cA ad) A) A) ([.ref (ad 0), .int p1] : List Value).toArray s 0 0 A) (F0 m 110 ls [.int k0]) := by
    intro u v1 v2 v3 v4 v5 k0 H locs ls hf hP hD hS hl
    unfold fX6_reason_j110 at hf
    refine lv_istore (lv' := [(6, .int k0), (0, .ref (ad 0)), (1, .int v1), (2, .int v2), (3, .int v3), (4, .int v4), (5, .int v5)]) hx hb dX6_reason_110 hl (by decide) rfl (fun ls hl => ?_)
    refine lv_iload hx hb dX6_reason_112 (lv_at hl 5 rfl) ?_
    refine lv_iconst (v := (-1)) hx hb dX6_reason_114 (by decide) ?_
    refine lv_icmp_ne (tgt := 122) hx hb dX6_reason_115 (by decide) (fun c1 => ?_) (fun c1 => ?_)
    · have hf := sg_in c1 hf
      refine lv_iload_n hx hb dX6_reason_122 rfl (lv_at hl 4 rfl) ?_
      exact hJ123 _ _ _ _ _ _ _ _ _ _ _ hf hP hD hS (lv_sub hl [1, 2, 3, 4, 5, 6, 0] rfl)
    · have hf := sg_ip c1 hf
      refine lv_iload_n hx hb dX6_reason_118 rfl (lv_at hl 3 rfl) ?_
      refine lv_goto (tgt := 123) hx hb dX6_reason_119 (by decide) ?_
      exact hJ123 _ _ _ _ _ _ _ _ _ _ _ hf hP hD hS (lv_sub hl [1, 2, 3, 4, 5, 6, 0] rfl)
  have hJ102 : ∀ (u : sg_St) (v1 v2 v3 v4 v5 k0 k1 : Int32) (H : Heap) (locs : List Loc) (ls : Array Slot), fX6_reason_j102 N u v1 v2 v3 v4 v5 k0 k1 = some (r, u') → va_P D vwCl (sg_WM cA ad u) H → va_D A (sg_WM cA ad u) → va_S A s.heap H locs → lv_has ls 8 [(0, .ref (ad 0)), (1, .int v1), (2, .int v2), (3, .int v3), (4, .int v4), (5, .int v5)] → W p l e (headSpec wsX6_reason ({ frames := 3, cells := 0, slots := 0, locals := 69 })).room s m ([.ref (ad 0), .int p1] : List Value).toArray below meth c H locs 0 0 (MQ below (va_Qi (fun x y => x = r ∧ y = u') (sg_BX D (sg_WM cA ad) A) A) ([.ref (ad 0), .int p1] : List Value).toArray s 0 0 A) (F0 m 102 ls [.int k1, .int k0]) := by
    intro u v1 v2 v3 v4 v5 k0 k1 H locs ls hf hP hD hS hl
    unfold fX6_reason_j102 at hf
    refine lv_icmp_eq (tgt := 109) hx hb dX6_reason_102 (by decide) (fun c1 => ?_) (fun c1 => ?_)
    · have hf := sg_ip c1 hf
      refine lv_iconst (v := 0) hx hb dX6_reason_109 (by decide) ?_
      exact hJ110 _ _ _ _ _ _ _ _ _ _ hf hP hD hS (lv_sub hl [0, 1, 2, 3, 4, 5] rfl)
    · have hf := sg_in c1 hf
      refine lv_iconst (v := 1) hx hb dX6_reason_105 (by decide) ?_
      refine lv_goto (tgt := 110) hx hb dX6_reason_106 (by decide) ?_
      exact hJ110 _ _ _ _ _ _ _ _ _ _ hf hP hD hS (lv_sub hl [0, 1, 2, 3, 4, 5] rfl)
  have hJ91 : ∀ (u : sg_St) (v1 v2 v3 v4 v5 k0 : Int32) (H : Heap) (locs : List Loc) (ls : Array Slot), fX6_reason_j91 N u v1 v2 v3 v4 v5 k0 = some (r, u') → va_P D vwCl (sg_WM cA ad u) H → va_D A (sg_WM cA ad u) → va_S A s.heap H locs → lv_has ls 8 [(0, .ref (ad 0)), (1, .int v1), (2, .int v2), (3, .int v3), (4, .int v4), (5, .int v5)] → W p l e (headSpec wsX6_reason ({ frames := 3, cells := 0, slots := 0, locals := 69 })).room s m ([.ref (ad 0), .int p1] : List Value).toArray below meth c H locs 0 0 (MQ below (va_Qi (fun x y => x = r ∧ y = u') (sg_BX D (sg_WM cA ad) A) A) ([.ref (ad 0), .int p1] : List Value).toArray s 0 0 A) (F0 m 91 ls [.int k0]) := by
    intro u v1 v2 v3 v4 v5 k0 H locs ls hf hP hD hS hl
    unfold fX6_reason_j91 at hf
    refine lv_iload hx hb dX6_reason_91 (lv_at hl 5 rfl) ?_
    refine lv_iconst (v := (-1)) hx hb dX6_reason_93 (by decide) ?_
    refine lv_icmp_ne (tgt := 101) hx hb dX6_reason_94 (by decide) (fun c1 => ?_) (fun c1 => ?_)
    · have hf := sg_in c1 hf
      refine lv_iconst (v := 0) hx hb dX6_reason_101 (by decide) ?_
      exact hJ102 _ _ _ _ _ _ _ _ _ _ _ hf hP hD hS (lv_sub hl [0, 1, 2, 3, 4, 5] rfl)
    · have hf := sg_ip c1 hf
      refine lv_iconst (v := 1) hx hb dX6_reason_97 (by decide) ?_
      refine lv_goto (tgt := 102) hx hb dX6_reason_98 (by decide) ?_
      exact hJ102 _ _ _ _ _ _ _ _ _ _ _ hf hP hD hS (lv_sub hl [0, 1, 2, 3, 4, 5] rfl)
  unfold fX6_reason at hf
  refine lv_aload_n hx hb dX6_reason_0 rfl (lv_at hl 0 rfl) ?_
  refine va_get (D := D) (ci := 8) (C := RX6) (T := TX6) (N := 27) hx hb hts hinX6 hown hK.1 hP 0 rfl rfl 15 (by decide) (hts (.fieldLink RX6 44 "SwitchgearModel" "isClosed" "[Z") (by decide +kernel)) (fun _ h9 => h9) rfl dX6_reason_1 ?_
  refine lv_iload_n hx hb dX6_reason_4 rfl (lv_at hl 1 rfl) ?_
  obtain ⟨hg1, hf⟩ := sg_g_s hf
  refine va_zald hx hb hK.1 hP 12 1 rfl rfl (sg_inb_s hg1) dX6_reason_5 ?_
  refine lv_if_eq (tgt := 12) hx hb dX6_reason_6 (by decide) (fun c20 => ?_) (fun c20 => ?_)
  · have hf := sg_ip c20 hf
    refine lv_aload_n hx hb dX6_reason_12 rfl (lv_at hl 0 rfl) ?_
    refine va_get (D := D) (ci := 8) (C := RX6) (T := TX6) (N := 27) hx hb hts hinX6 hown hK.1 hP 0 rfl rfl 16 (by decide) (hts (.fieldLink RX6 47 "SwitchgearModel" "isLocked" "[Z") (by decide +kernel)) (fun _ h9 => h9) rfl dX6_reason_13 ?_
    refine lv_iload_n hx hb dX6_reason_16 rfl (lv_at hl 1 rfl) ?_
    obtain ⟨hg2, hf⟩ := sg_g_s hf
    refine va_zald hx hb hK.1 hP 13 1 rfl rfl (sg_inb_s hg2) dX6_reason_17 ?_
    refine lv_if_eq (tgt := 24) hx hb dX6_reason_18 (by decide) (fun c19 => ?_) (fun c19 => ?_)
    · have hf := sg_ip c19 hf
      refine lv_aload_n hx hb dX6_reason_24 rfl (lv_at hl 0 rfl) ?_
      refine va_get (D := D) (ci := 8) (C := RX6) (T := TX6) (N := 27) hx hb hts hinX6 hown hK.1 hP 0 rfl rfl 17 (by decide) (hts (.fieldLink RX6 50 "SwitchgearModel" "isFaulty" "[Z") (by decide +kernel)) (fun _ h9 => h9) rfl dX6_reason_25 ?_
      refine lv_iload_n hx hb dX6_reason_28 rfl (lv_at hl 1 rfl) ?_
      obtain ⟨hg3, hf⟩ := sg_g_s hf
      refine va_zald hx hb hK.1 hP 14 1 rfl rfl (sg_inb_s hg3) dX6_reason_29 ?_
      refine lv_if_eq (tgt := 36) hx hb dX6_reason_30 (by decide) (fun c18 => ?_) (fun c18 => ?_)
      · have hf := sg_ip c18 hf
        refine lv_aload_n hx hb dX6_reason_36 rfl (lv_at hl 0 rfl) ?_
        refine lv_iconst (v := (-1)) hx hb dX6_reason_37 (by decide) ?_
        refine lv_iconst (v := (-1)) hx hb dX6_reason_38 (by decide) ?_
        obtain ⟨u6, hc4, hf⟩ := sg_b_s hf
        refine sg_cv (va_runV (As := [.int ((-1)), .int ((-1))]) (rest := []) ⟨hx, hb, hml, hown, hts⟩ (c_X6_paints l D cA ad N _ _ _ _ hc4 _) (cwV 2 hts gX6_reason_X6_paints rfl rfl rfl (by decide +kernel) ⟨Nat.le_of_ble_eq_true rfl, Nat.le_of_ble_eq_true rfl⟩) (sg_pre hK hP hD (ci := 8) (q0 := 0) rfl rfl) rfl rfl hl.1 rfl (lv_room (Nat.le_of_ble_eq_true rfl)) dX6_reason_39 ⟨Nat.zero_le _, Nat.zero_le _⟩) hD hS hA (fun H locs hP hD hS => ?_)
        refine lv_aload_n hx hb dX6_reason_42 rfl (lv_at hl 0 rfl) ?_
        refine va_get (D := D) (ci := 8) (C := RX6) (T := TX6) (N := 27) hx hb hts hinX6 hown hK.1 hP 0 rfl rfl 18 (by decide) (hts (.fieldLink RX6 53 "SwitchgearModel" "island" "[I") (by decide +kernel)) (fun _ h9 => h9) rfl dX6_reason_43 ?_
        refine lv_aload_n hx hb dX6_reason_46 rfl (lv_at hl 0 rfl) ?_
        refine va_get (D := D) (ci := 8) (C := RX6) (T := TX6) (N := 27) hx hb hts hinX6 hown hK.1 hP 0 rfl rfl 8 (by decide) (hts (.fieldLink RX6 23 "SwitchgearModel" "one" "[I") (by decide +kernel)) (fun _ h9 => h9) rfl dX6_reason_47 ?_
        refine lv_iload_n hx hb dX6_reason_50 rfl (lv_at hl 1 rfl) ?_
        obtain ⟨hg7, hf⟩ := sg_g_s hf
        refine va_iald hx hb hK.1 hP 5 0 rfl rfl (sg_inb_s hg7) dX6_reason_51 ?_
        obtain ⟨hg8, hf⟩ := sg_g_s hf
        refine va_iald hx hb hK.1 hP 15 0 rfl rfl (sg_inb_s hg8) dX6_reason_52 ?_
        refine lv_istore_n (lv' := [(2, .int (u6 22 (u6 12 (p1).toNatClampNeg).toNatClampNeg)), (0, .ref (ad 0)), (1, .int p1)]) hx hb dX6_reason_53 rfl hl (by decide) rfl (fun ls hl => ?_)
        refine lv_aload_n hx hb dX6_reason_54 rfl (lv_at hl 1 rfl) ?_
        refine va_get (D := D) (ci := 8) (C := RX6) (T := TX6) (N := 27) hx hb hts hinX6 hown hK.1 hP 0 rfl rfl 18 (by decide) (hts (.fieldLink RX6 53 "SwitchgearModel" "island" "[I") (by decide +kernel)) (fun _ h9 => h9) rfl dX6_reason_55 ?_
        refine lv_aload_n hx hb dX6_reason_58 rfl (lv_at hl 1 rfl) ?_
        refine va_get (D := D) (ci := 8) (C := RX6) (T := TX6) (N := 27) hx hb hts hinX6 hown hK.1 hP 0 rfl rfl 9 (by decide) (hts (.fieldLink RX6 26 "SwitchgearModel" "other" "[I") (by decide +kernel)) (fun _ h9 => h9) rfl dX6_reason_59 ?_
        refine lv_iload_n hx hb dX6_reason_62 rfl (lv_at hl 2 rfl) ?_
        obtain ⟨hg9, hf⟩ := sg_g_s hf
        refine va_iald hx hb hK.1 hP 6 0 rfl rfl (sg_inb_s hg9) dX6_reason_63 ?_
        obtain ⟨hg10, hf⟩ := sg_g_s hf
        refine va_iald hx hb hK.1 hP 15 0 rfl rfl (sg_inb_s hg10) dX6_reason_64 ?_
        refine lv_istore_n (lv' := [(3, .int (u6 22 (u6 13 (p1).toNatClampNeg).toNatClampNeg)), (2, .int (u6 22 (u6 12 (p1).toNatClampNeg).toNatClampNeg)), (0, .ref (ad 0)), (1, .int p1)]) hx hb dX6_reason_65 rfl hl (by decide) rfl (fun ls hl => ?_)
        refine lv_aload_n hx hb dX6_reason_66 rfl (lv_at hl 2 rfl) ?_
        refine lv_iload_n hx hb dX6_reason_67 rfl (lv_at hl 1 rfl) ?_
        obtain ⟨r12, hc11, hf⟩ := sg_b_s hf
        refine sg_ci (va_runV (As := [.int (u6 22 (u6 12 (p1).toNatClampNeg).toNatClampNeg)]) (rest := []) ⟨hx, hb, hml, hown, hts⟩ (c_X6_source l D cA ad N _ _ _ hc11 _) (cwV 1 hts gX6_reason_X6_source rfl rfl rfl (by decide +kernel) ⟨Nat.le_of_ble_eq_true rfl, Nat.le_of_ble_eq_true rfl⟩) (sg_pre hK hP hD (ci := 8) (q0 := 0) rfl rfl) rfl rfl hl.1 rfl (lv_room (Nat.le_of_ble_eq_true rfl)) dX6_reason_68 ⟨Nat.zero_le _, Nat.zero_le _⟩) hD hS hA (fun H locs hP hD hS => ?_)
        refine lv_istore (lv' := [(4, .int r12), (3, .int (u6 22 (u6 13 (p1).toNatClampNeg).toNatClampNeg)), (2, .int (u6 22 (u6 12 (p1).toNatClampNeg).toNatClampNeg)), (0, .ref (ad 0)), (1, .int p1)]) hx hb dX6_reason_71 hl (by decide) rfl (fun ls hl => ?_)
        refine lv_aload_n hx hb dX6_reason_73 rfl (lv_at hl 3 rfl) ?_
        refine lv_iload_n hx hb dX6_reason_74 rfl (lv_at hl 1 rfl) ?_
        obtain ⟨r15, hc14, hf⟩ := sg_b_s hf
        refine sg_ci (va_runV (As := [.int (u6 22 (u6 13 (p1).toNatClampNeg).toNatClampNeg)]) (rest := []) ⟨hx, hb, hml, hown, hts⟩ (c_X6_source l D cA ad N _ _ _ hc14 _) (cwV 1 hts gX6_reason_X6_source rfl rfl rfl (by decide +kernel) ⟨Nat.le_of_ble_eq_true rfl, Nat.le_of_ble_eq_true rfl⟩) (sg_pre hK hP hD (ci := 8) (q0 := 0) rfl rfl) rfl rfl hl.1 rfl (lv_room (Nat.le_of_ble_eq_true rfl)) dX6_reason_75 ⟨Nat.zero_le _, Nat.zero_le _⟩) hD hS hA (fun H locs hP hD hS => ?_)
        refine lv_istore (lv' := [(5, .int r15), (4, .int r12), (3, .int (u6 22 (u6 13 (p1).toNatClampNeg).toNatClampNeg)), (2, .int (u6 22 (u6 12 (p1).toNatClampNeg).toNatClampNeg)), (0, .ref (ad 0)), (1, .int p1)]) hx hb dX6_reason_78 hl (by decide) rfl (fun ls hl => ?_)
        refine lv_iload hx hb dX6_reason_80 (lv_at hl 1 rfl) ?_
        refine lv_iconst (v := (-1)) hx hb dX6_reason_82 (by decide) ?_
        refine lv_icmp_ne (tgt := 90) hx hb dX6_reason_83 (by decide) (fun c17 => ?_) (fun c17 => ?_)
        · have hf := sg_in c17 hf
          refine lv_iconst (v := 0) hx hb dX6_reason_90 (by decide) ?_
          exact hJ91 _ _ _ _ _ _ _ _ _ _ hf hP hD hS (lv_sub hl [4, 5, 3, 2, 1, 0] rfl)
        · have hf := sg_ip c17 hf
          refine lv_iconst (v := 1) hx hb dX6_reason_86 (by decide) ?_
          refine lv_goto (tgt := 91) hx hb dX6_reason_87 (by decide) ?_
          exact hJ91 _ _ _ _ _ _ _ _ _ _ hf hP hD hS (lv_sub hl [4, 5, 3, 2, 1, 0] rfl)
      · have hf := sg_in c18 hf
        refine lv_bipush (v := 102) hx hb dX6_reason_33 (by decide) ?_
        have hq := Option.some.inj hf
        exact sg_zret hx hb hr rfl hP hD hS dX6_reason_35 (congrArg Prod.fst hq) (congrArg Prod.snd hq) hlocks
    · have hf := sg_in c19 hf
      refine lv_bipush (v := 111) hx hb dX6_reason_21 (by decide) ?_
      have hq := Option.some.inj hf
      exact sg_zret hx hb hr rfl hP hD hS dX6_reason_23 (congrArg Prod.fst hq) (congrArg Prod.snd hq) hlocks
  · have hf := sg_in c20 hf
    refine lv_bipush (v := 99) hx hb dX6_reason_9 (by decide) ?_
    have hq := Option.some.inj hf
    exact sg_zret hx hb hr rfl hP hD hS dX6_reason_11 (congrArg Prod.fst hq) (congrArg Prod.snd hq) hlocks
set_option maxRecDepth 100000 in
set_option maxHeartbeats 4000000 in
theorem c_X6_tries (l : Launch) (D : va_G) (cA : Nat → ClassId) (ad : Nat → Nat) (N : Nat) : ∀ (d : Nat) (u : sg_St) (p1 : Int32) (u' : sg_St), fX6_tries N d u p1 = some u' → sg_CV l D cA (sg_WM cA ad) yX6_tries wsX6_tries ({ frames := 4 + d, cells := 0, slots := 0, locals := 96 + d * 23 }) [.ref (ad 0), .int p1] u u' := by
  intro d
  induction d with
  | zero => intros; rename_i hf; cases hf
  | succ d ih =>
  intro u p1 u' hf
  intro sz
  refine Met.ofW (cc := cX6_tries) (maxL := 4) (ret := none) (by decide) rfl ?_
  intro p e s m args below meth c s₁ B hml hv
  obtain ⟨rfl, hsz, hP, hK, hD0⟩ := hv
  have hx := B.exec
  have hb := B.bytes
  have hr := B.returns
  have hts := atoms_spec (ws := wsX6_tries) B.pre
  have hown : s.vm.findClass RX6 = some m.cls := findClass_of_methodNamed B.named
  have hlocks := B.notSynchronized
  subst hsz
  have hD := hD0.self (sz := s.heap.size)
  generalize hAe : va_A (sg_WM cA ad u) s.heap.size = A at hD ⊢
  have hA : ∀ q : Nat, s.heap.size ≤ q → A q := fun q h => by rw [← hAe]; exact Or.inr h
  have hS : va_S A s.heap s.heap [] := va_S.rf
  have hl := lv_entry ([.ref (ad 0), .int p1]) (n := 4) (Nat.le_of_ble_eq_true rfl)
  rw [lg_entry_eq]
  generalize (lg_sl ([.ref (ad 0), .int p1]) ++ List.replicate (4 - (lg_sl ([.ref (ad 0), .int p1])).length) Slot.unset).toArray = ls at hl ⊢
  replace hl : lv_has ls 4 [(0, .ref (ad 0)), (1, .int p1)] := hl
  have hinX6 : ∀ w ∈ u_ws RX6 TX6 27, w ∈ wsX6_tries := by decide +kernel
  have hL74 : ∀ (n : Nat) (x : sg_St × Int32) (r9 : sg_St), sg_it (fun x => fX6_tries_L74 N (fX6_tries N d) x.1 x.2) n x = some r9 → ∀ (H : Heap) (locs : List Loc) (ls : Array Slot), va_P D vwCl (sg_WM cA ad x.1) H → va_D A (sg_WM cA ad x.1) → va_S A s.heap H locs → lv_has ls 4 [(0, .ref (ad 0)), (3, .int x.2)] → (∀ (H : Heap) (locs : List Loc) (ls : Array Slot), va_P D vwCl (sg_WM cA ad r9) H → va_D A (sg_WM cA ad r9) → va_S A s.heap H locs → lv_has ls 4 [(0, .ref (ad 0))] → W p l e (headSpec wsX6_tries ({ frames := 4 + (d + 1), cells := 0, slots := 0, locals := 96 + (d + 1) * 23 })).room s m ([.ref (ad 0), .int p1] : List Value).toArray below meth c H locs 0 0 (MQ below (va_Qv (fun y => y = u') (sg_BX D (sg_WM cA ad) A) A) ([.ref (ad 0), .int p1] : List Value).toArray s 0 0 A) (F0 m 100 ls [])) → W p l e (headSpec wsX6_tries ({ frames := 4 + (d + 1), cells := 0, slots := 0, locals := 96 + (d + 1) * 23 })).room s m ([.ref (ad 0), .int p1] : List Value).toArray below meth c H locs 0 0 (MQ below (va_Qv (fun y => y = u') (sg_BX D (sg_WM cA ad) A) A) ([.ref (ad 0), .int p1] : List Value).toArray s 0 0 A) (F0 m 74 ls []) := by
    refine sg_loop _ ?_
    intro x y r9 hf hI hy H locs ls hP hD hS hl hk
    replace hf : fX6_tries_L74 N (fX6_tries N d) x.1 x.2 = some y := hf
    unfold fX6_tries_L74 at hf
    refine lv_iload_n hx hb dX6_tries_74 rfl (lv_at hl 1 rfl) ?_
    refine lv_aload_n hx hb dX6_tries_75 rfl (lv_at hl 0 rfl) ?_
    refine va_get (D := D) (ci := 8) (C := RX6) (T := TX6) (N := 27) hx hb hts hinX6 hown hK.1 hP 0 rfl rfl 24 (by decide) (hts (.fieldLink RX6 173 "SwitchgearModel" "planned" "I") (by decide +kernel)) (fun _ h9 => h9) rfl dX6_tries_76 ?_
    refine lv_icmp_ge (tgt := 100) hx hb dX6_tries_79 (by decide) (fun c3 => ?_) (fun c3 => ?_)
    · have hf := sg_ip c3 hf
      have hq := hy _ (Option.some.inj hf).symm
      subst hq
      exact hk _ _ _ hP hD hS (lv_sub hl [0] rfl)
    · have hf := sg_in c3 hf
      refine lv_aload_n hx hb dX6_tries_82 rfl (lv_at hl 0 rfl) ?_
      refine va_get (D := D) (ci := 8) (C := RX6) (T := TX6) (N := 27) hx hb hts hinX6 hown hK.1 hP 0 rfl rfl 23 (by decide) (hts (.fieldLink RX6 65 "SwitchgearModel" "best" "[I") (by decide +kernel)) (fun _ h9 => h9) rfl dX6_tries_83 ?_
      refine lv_iload_n hx hb dX6_tries_86 rfl (lv_at hl 1 rfl) ?_
      refine lv_aload_n hx hb dX6_tries_87 rfl (lv_at hl 0 rfl) ?_
      refine va_get (D := D) (ci := 8) (C := RX6) (T := TX6) (N := 27) hx hb hts hinX6 hown hK.1 hP 0 rfl rfl 22 (by decide) (hts (.fieldLink RX6 62 "SwitchgearModel" "plan" "[I") (by decide +kernel)) (fun _ h9 => h9) rfl dX6_tries_88 ?_
      refine lv_iload_n hx hb dX6_tries_91 rfl (lv_at hl 1 rfl) ?_
      obtain ⟨hg1, hf⟩ := sg_g_s hf
      refine va_iald hx hb hK.1 hP 18 0 rfl rfl (sg_inb_s hg1) dX6_tries_92 ?_
      obtain ⟨hg2, hf⟩ := sg_g_s hf
      refine va_iast hx hb hK.1 hP hD hS 19 0 rfl rfl (sg_inb_s hg2) dX6_tries_93 (fun H locs hP hD hS => ?_)
      replace hP : va_P D vwCl (sg_WM cA ad (sg_set x.1 26 (x.2).toNatClampNeg (x.1 25 (x.2).toNatClampNeg))) H := by rw [← sg_WM_26]; exact hP
      replace hD : va_D A (sg_WM cA ad (sg_set x.1 26 (x.2).toNatClampNeg (x.1 25 (x.2).toNatClampNeg))) := by rw [← sg_WM_26]; exact hD
      refine lv_iinc (v := x.2 + 1) (lv' := [(3, .int (x.2 + 1)), (0, .ref (ad 0))]) hx hb dX6_tries_94 hl (k := 1) rfl rfl (by decide) rfl (fun ls hl => ?_)
      refine lv_goto (tgt := 74) hx hb dX6_tries_97 (by decide) ?_
      exact hI _ (Option.some.inj hf).symm _ _ _ hP hD hS (lv_sub hl [1, 0] rfl) hk
  have hJ59 : ∀ (u : sg_St) (v2 : Int32) (H : Heap) (locs : List Loc) (ls : Array Slot), fX6_tries_j59 N (fX6_tries N d) u v2 = some u' → va_P D vwCl (sg_WM cA ad u) H → va_D A (sg_WM cA ad u) → va_S A s.heap H locs → lv_has ls 4 [(0, .ref (ad 0)), (2, .int v2)] → W p l e (headSpec wsX6_tries ({ frames := 4 + (d + 1), cells := 0, slots := 0, locals := 96 + (d + 1) * 23 })).room s m ([.ref (ad 0), .int p1] : List Value).toArray below meth c H locs 0 0 (MQ below (va_Qv (fun y => y = u') (sg_BX D (sg_WM cA ad) A) A) ([.ref (ad 0), .int p1] : List Value).toArray s 0 0 A) (F0 m 59 ls []) := by
    intro u v2 H locs ls hf hP hD hS hl
    unfold fX6_tries_j59 at hf
    refine lv_aload_n hx hb dX6_tries_59 rfl (lv_at hl 0 rfl) ?_
    refine lv_iload_n hx hb dX6_tries_60 rfl (lv_at hl 1 rfl) ?_
    refine va_put (D := D) (ci := 8) (v := .int v2) (ty := .int) (C := RX6) (T := TX6) (N := 27) hx hb hts hinX6 tyX6 tyX6_ok nmX6 hown hK.1 hP hD hS 0 rfl rfl 26 (by decide) (hts (.fieldLink RX6 179 "SwitchgearModel" "bestWorth" "I") (by decide +kernel)) (fun _ h9 => h9) rfl (by decide +kernel) rfl rfl (Nat.le_of_ble_eq_true rfl) dX6_tries_61 (fun H locs hP hD hS => ?_)
    replace hP : va_P D vwCl (sg_WM cA ad (sg_set u 7 0 v2)) H := by rw [← sg_WM_7]; exact hP
    replace hD : va_D A (sg_WM cA ad (sg_set u 7 0 v2)) := by rw [← sg_WM_7]; exact hD
    refine lv_aload_n hx hb dX6_tries_64 rfl (lv_at hl 0 rfl) ?_
    refine lv_aload_n hx hb dX6_tries_65 rfl (lv_at hl 0 rfl) ?_
    refine va_get (D := D) (ci := 8) (C := RX6) (T := TX6) (N := 27) hx hb hts hinX6 hown hK.1 hP 0 rfl rfl 24 (by decide) (hts (.fieldLink RX6 173 "SwitchgearModel" "planned" "I") (by decide +kernel)) (fun _ h9 => h9) rfl dX6_tries_66 ?_
    refine va_put (D := D) (ci := 8) (v := .int ((sg_set u 7 0 v2) 5 0)) (ty := .int) (C := RX6) (T := TX6) (N := 27) hx hb hts hinX6 tyX6 tyX6_ok nmX6 hown hK.1 hP hD hS 0 rfl rfl 25 (by decide) (hts (.fieldLink RX6 182 "SwitchgearModel" "bestMany" "I") (by decide +kernel)) (fun _ h9 => h9) rfl (by decide +kernel) rfl rfl (Nat.le_of_ble_eq_true rfl) dX6_tries_69 (fun H locs hP hD hS => ?_)
    replace hP : va_P D vwCl (sg_WM cA ad (sg_set (sg_set u 7 0 v2) 6 0 ((sg_set u 7 0 v2) 5 0))) H := by rw [← sg_WM_6]; exact hP
    replace hD : va_D A (sg_WM cA ad (sg_set (sg_set u 7 0 v2) 6 0 ((sg_set u 7 0 v2) 5 0))) := by rw [← sg_WM_6]; exact hD
    refine lv_iconst (v := 0) hx hb dX6_tries_72 (by decide) ?_
    refine lv_istore_n (lv' := [(3, .int 0), (0, .ref (ad 0)), (2, .int v2)]) hx hb dX6_tries_73 rfl hl (by decide) rfl (fun ls hl => ?_)
    obtain ⟨e1, hc2, hf⟩ := sg_b_s hf
    refine hL74 _ _ e1 hc2 _ _ _ hP hD hS (lv_sub hl [1, 0] rfl) (fun H locs ls hP hD hS hl => ?_)
    have hq := Option.some.inj hf
    exact sg_vret hx hb hr hP hD hS dX6_tries_100 hq hlocks
  replace hf : fX6_tries_B N (fX6_tries N d) u p1 = some u' := hf
  unfold fX6_tries_B at hf
  refine lv_iload_n hx hb dX6_tries_0 rfl (lv_at hl 1 rfl) ?_
  refine lv_aload_n hx hb dX6_tries_1 rfl (lv_at hl 0 rfl) ?_
  refine va_get (D := D) (ci := 8) (C := RX6) (T := TX6) (N := 27) hx hb hts hinX6 hown hK.1 hP 0 rfl rfl 2 (by decide) (hts (.fieldLink RX6 79 "SwitchgearModel" "lines" "I") (by decide +kernel)) (fun _ h9 => h9) rfl dX6_tries_2 ?_
  refine lv_icmp_ne (tgt := 101) hx hb dX6_tries_5 (by decide) (fun c30 => ?_) (fun c30 => ?_)
  · have hf := sg_in c30 hf
    refine lv_aload_n hx hb dX6_tries_101 rfl (lv_at hl 0 rfl) ?_
    refine lv_iload_n hx hb dX6_tries_102 rfl (lv_at hl 1 rfl) ?_
    refine lv_iconst (v := 1) hx hb dX6_tries_103 (by decide) ?_
    refine lv_iadd hx hb dX6_tries_104 ?_
    obtain ⟨u3, hc1, hf⟩ := sg_b_s hf
    refine sg_cv (va_runV (As := [.int (p1 + 1)]) (rest := []) ⟨hx, hb, hml, hown, hts⟩ (ih _ _ _ hc1 _) (cwV 1 hts gX6_tries_X6_tries rfl rfl rfl (by decide +kernel) ⟨by show 4 + d + 1 ≤ 4 + (d + 1); omega, by show 8 + (4 + 11) + (96 + d * 23) ≤ 96 + (d + 1) * 23; omega⟩) (sg_pre hK hP hD (ci := 8) (q0 := 0) rfl rfl) rfl rfl hl.1 rfl (lv_room (Nat.le_of_ble_eq_true rfl)) dX6_tries_105 ⟨Nat.zero_le _, Nat.zero_le _⟩) hD hS hA (fun H locs hP hD hS => ?_)
    refine lv_aload_n hx hb dX6_tries_108 rfl (lv_at hl 0 rfl) ?_
    refine lv_iload_n hx hb dX6_tries_109 rfl (lv_at hl 1 rfl) ?_
    obtain ⟨r5, hc4, hf⟩ := sg_b_s hf
    refine sg_ci (va_runV (As := [.int p1]) (rest := []) ⟨hx, hb, hml, hown, hts⟩ (c_X6_isChoice l D cA ad N _ _ _ hc4 _) (cwV 1 hts gX6_tries_X6_isChoice rfl rfl rfl (by decide +kernel) ⟨by show 0 + 1 ≤ 4 + (d + 1); omega, by show 8 + (2 + 11) + 0 ≤ 96 + (d + 1) * 23; omega⟩) (sg_pre hK hP hD (ci := 8) (q0 := 0) rfl rfl) rfl rfl hl.1 rfl (lv_room (Nat.le_of_ble_eq_true rfl)) dX6_tries_110 ⟨Nat.zero_le _, Nat.zero_le _⟩) hD hS hA (fun H locs hP hD hS => ?_)
    refine lv_if_eq (tgt := 126) hx hb dX6_tries_113 (by decide) (fun c18 => ?_) (fun c18 => ?_)
    · have hf := sg_ip c18 hf
      have hq := Option.some.inj hf
      exact sg_vret hx hb hr hP hD hS dX6_tries_126 hq hlocks
    · have hf := sg_in c18 hf
      refine lv_aload_n hx hb dX6_tries_116 rfl (lv_at hl 0 rfl) ?_
      refine lv_iload_n hx hb dX6_tries_117 rfl (lv_at hl 1 rfl) ?_
      obtain ⟨r8, u9, hc7, hf⟩ := sg_b2_s hf
      refine sg_ci (va_runV (As := [.int p1]) (rest := []) ⟨hx, hb, hml, hown, hts⟩ (c_X6_reason l D cA ad N _ _ _ _ hc7 _) (cwV 1 hts gX6_tries_X6_reason rfl rfl rfl (by decide +kernel) ⟨by show 3 + 1 ≤ 4 + (d + 1); omega, by show 8 + (8 + 11) + 69 ≤ 96 + (d + 1) * 23; omega⟩) (sg_pre hK hP hD (ci := 8) (q0 := 0) rfl rfl) rfl rfl hl.1 rfl (lv_room (Nat.le_of_ble_eq_true rfl)) dX6_tries_118 ⟨Nat.zero_le _, Nat.zero_le _⟩) hD hS hA (fun H locs hP hD hS => ?_)
      refine lv_bipush (v := 110) hx hb dX6_tries_121 (by decide) ?_
      refine lv_icmp_eq (tgt := 127) hx hb dX6_tries_123 (by decide) (fun c17 => ?_) (fun c17 => ?_)
      · have hf := sg_ip c17 hf
        refine lv_aload_n hx hb dX6_tries_127 rfl (lv_at hl 0 rfl) ?_
        refine va_get (D := D) (ci := 8) (C := RX6) (T := TX6) (N := 27) hx hb hts hinX6 hown hK.1 hP 0 rfl rfl 15 (by decide) (hts (.fieldLink RX6 44 "SwitchgearModel" "isClosed" "[Z") (by decide +kernel)) (fun _ h9 => h9) rfl dX6_tries_128 ?_
        refine lv_iload_n hx hb dX6_tries_131 rfl (lv_at hl 1 rfl) ?_
        refine lv_iconst (v := 1) hx hb dX6_tries_132 (by decide) ?_
        obtain ⟨hg10, hf⟩ := sg_g_s hf
        refine va_zast hx hb hK.1 hP hD hS 12 1 rfl rfl (sg_inb_s hg10) dX6_tries_133 (fun H locs hP hD hS => ?_)
        replace hP : va_P D vwCl (sg_WM cA ad (sg_set u9 19 (p1).toNatClampNeg (vp_nar .boolean 1))) H := by rw [← sg_WM_19]; exact hP
        replace hD : va_D A (sg_WM cA ad (sg_set u9 19 (p1).toNatClampNeg (vp_nar .boolean 1))) := by rw [← sg_WM_19]; exact hD
        refine lv_aload_n hx hb dX6_tries_134 rfl (lv_at hl 0 rfl) ?_
        refine va_get (D := D) (ci := 8) (C := RX6) (T := TX6) (N := 27) hx hb hts hinX6 hown hK.1 hP 0 rfl rfl 22 (by decide) (hts (.fieldLink RX6 62 "SwitchgearModel" "plan" "[I") (by decide +kernel)) (fun _ h9 => h9) rfl dX6_tries_135 ?_
        refine lv_aload_n hx hb dX6_tries_138 rfl (lv_at hl 0 rfl) ?_
        refine va_get (D := D) (ci := 8) (C := RX6) (T := TX6) (N := 27) hx hb hts hinX6 hown hK.1 hP 0 rfl rfl 24 (by decide) (hts (.fieldLink RX6 173 "SwitchgearModel" "planned" "I") (by decide +kernel)) (fun _ h9 => h9) rfl dX6_tries_139 ?_
        refine lv_iload_n hx hb dX6_tries_142 rfl (lv_at hl 1 rfl) ?_
        obtain ⟨hg11, hf⟩ := sg_g_s hf
        refine va_iast hx hb hK.1 hP hD hS 18 0 rfl rfl (sg_inb_s hg11) dX6_tries_143 (fun H locs hP hD hS => ?_)
        replace hP : va_P D vwCl (sg_WM cA ad (sg_set (sg_set u9 19 (p1).toNatClampNeg (vp_nar .boolean 1)) 25 ((sg_set u9 19 (p1).toNatClampNeg (vp_nar .boolean 1)) 5 0).toNatClampNeg p1)) H := by rw [← sg_WM_25]; exact hP
        replace hD : va_D A (sg_WM cA ad (sg_set (sg_set u9 19 (p1).toNatClampNeg (vp_nar .boolean 1)) 25 ((sg_set u9 19 (p1).toNatClampNeg (vp_nar .boolean 1)) 5 0).toNatClampNeg p1)) := by rw [← sg_WM_25]; exact hD
        refine lv_aload_n hx hb dX6_tries_144 rfl (lv_at hl 0 rfl) ?_
        refine lv_dup hx hb dX6_tries_145 rfl ?_
        refine va_get (D := D) (ci := 8) (C := RX6) (T := TX6) (N := 27) hx hb hts hinX6 hown hK.1 hP 0 rfl rfl 24 (by decide) (hts (.fieldLink RX6 173 "SwitchgearModel" "planned" "I") (by decide +kernel)) (fun _ h9 => h9) rfl dX6_tries_146 ?_
        refine lv_iconst (v := 1) hx hb dX6_tries_149 (by decide) ?_
        refine lv_iadd hx hb dX6_tries_150 ?_
        refine lv_topi (fun x12 ex12 => ?_)
        have hf := sg_l_s ex12 hf
        refine va_put (D := D) (ci := 8) (v := .int x12) (ty := .int) (C := RX6) (T := TX6) (N := 27) hx hb hts hinX6 tyX6 tyX6_ok nmX6 hown hK.1 hP hD hS 0 rfl rfl 24 (by decide) (hts (.fieldLink RX6 173 "SwitchgearModel" "planned" "I") (by decide +kernel)) (fun _ h9 => h9) rfl (by decide +kernel) rfl rfl (Nat.le_of_ble_eq_true rfl) dX6_tries_151 (fun H locs hP hD hS => ?_)
        replace hP : va_P D vwCl (sg_WM cA ad (sg_set (sg_set (sg_set u9 19 (p1).toNatClampNeg (vp_nar .boolean 1)) 25 ((sg_set u9 19 (p1).toNatClampNeg (vp_nar .boolean 1)) 5 0).toNatClampNeg p1) 5 0 x12)) H := by rw [← sg_WM_5]; exact hP
        replace hD : va_D A (sg_WM cA ad (sg_set (sg_set (sg_set u9 19 (p1).toNatClampNeg (vp_nar .boolean 1)) 25 ((sg_set u9 19 (p1).toNatClampNeg (vp_nar .boolean 1)) 5 0).toNatClampNeg p1) 5 0 x12)) := by rw [← sg_WM_5]; exact hD
        refine lv_aload_n hx hb dX6_tries_154 rfl (lv_at hl 0 rfl) ?_
        refine lv_iload_n hx hb dX6_tries_155 rfl (lv_at hl 1 rfl) ?_
        refine lv_iconst (v := 1) hx hb dX6_tries_156 (by decide) ?_
        refine lv_iadd hx hb dX6_tries_157 ?_
        obtain ⟨u15, hc13, hf⟩ := sg_b_s hf
        refine sg_cv (va_runV (As := [.int (p1 + 1)]) (rest := []) ⟨hx, hb, hml, hown, hts⟩ (ih _ _ _ hc13 _) (cwV 1 hts gX6_tries_X6_tries rfl rfl rfl (by decide +kernel) ⟨by show 4 + d + 1 ≤ 4 + (d + 1); omega, by show 8 + (4 + 11) + (96 + d * 23) ≤ 96 + (d + 1) * 23; omega⟩) (sg_pre hK hP hD (ci := 8) (q0 := 0) rfl rfl) rfl rfl hl.1 rfl (lv_room (Nat.le_of_ble_eq_true rfl)) dX6_tries_158 ⟨Nat.zero_le _, Nat.zero_le _⟩) hD hS hA (fun H locs hP hD hS => ?_)
        refine lv_aload_n hx hb dX6_tries_161 rfl (lv_at hl 0 rfl) ?_
        refine lv_dup hx hb dX6_tries_162 rfl ?_
        refine va_get (D := D) (ci := 8) (C := RX6) (T := TX6) (N := 27) hx hb hts hinX6 hown hK.1 hP 0 rfl rfl 24 (by decide) (hts (.fieldLink RX6 173 "SwitchgearModel" "planned" "I") (by decide +kernel)) (fun _ h9 => h9) rfl dX6_tries_163 ?_
        refine lv_iconst (v := 1) hx hb dX6_tries_166 (by decide) ?_
        refine lv_isub hx hb dX6_tries_167 ?_
        refine va_put (D := D) (ci := 8) (v := .int ((u15 5 0) - 1)) (ty := .int) (C := RX6) (T := TX6) (N := 27) hx hb hts hinX6 tyX6 tyX6_ok nmX6 hown hK.1 hP hD hS 0 rfl rfl 24 (by decide) (hts (.fieldLink RX6 173 "SwitchgearModel" "planned" "I") (by decide +kernel)) (fun _ h9 => h9) rfl (by decide +kernel) rfl rfl (Nat.le_of_ble_eq_true rfl) dX6_tries_168 (fun H locs hP hD hS => ?_)
        replace hP : va_P D vwCl (sg_WM cA ad (sg_set u15 5 0 ((u15 5 0) - 1))) H := by rw [← sg_WM_5]; exact hP
        replace hD : va_D A (sg_WM cA ad (sg_set u15 5 0 ((u15 5 0) - 1))) := by rw [← sg_WM_5]; exact hD
        refine lv_aload_n hx hb dX6_tries_171 rfl (lv_at hl 0 rfl) ?_
        refine va_get (D := D) (ci := 8) (C := RX6) (T := TX6) (N := 27) hx hb hts hinX6 hown hK.1 hP 0 rfl rfl 15 (by decide) (hts (.fieldLink RX6 44 "SwitchgearModel" "isClosed" "[Z") (by decide +kernel)) (fun _ h9 => h9) rfl dX6_tries_172 ?_
        refine lv_iload_n hx hb dX6_tries_175 rfl (lv_at hl 1 rfl) ?_
        refine lv_iconst (v := 0) hx hb dX6_tries_176 (by decide) ?_
        obtain ⟨hg16, hf⟩ := sg_g_s hf
        refine va_zast hx hb hK.1 hP hD hS 12 1 rfl rfl (sg_inb_s hg16) dX6_tries_177 (fun H locs hP hD hS => ?_)
        replace hP : va_P D vwCl (sg_WM cA ad (sg_set (sg_set u15 5 0 ((u15 5 0) - 1)) 19 (p1).toNatClampNeg (vp_nar .boolean 0))) H := by rw [← sg_WM_19]; exact hP
        replace hD : va_D A (sg_WM cA ad (sg_set (sg_set u15 5 0 ((u15 5 0) - 1)) 19 (p1).toNatClampNeg (vp_nar .boolean 0))) := by rw [← sg_WM_19]; exact hD
        have hq := Option.some.inj hf
        exact sg_vret hx hb hr hP hD hS dX6_tries_178 hq hlocks
      · have hf := sg_in c17 hf
        have hq := Option.some.inj hf
        exact sg_vret hx hb hr hP hD hS dX6_tries_126 hq hlocks
  · have hf := sg_ip c30 hf
    refine lv_aload_n hx hb dX6_tries_8 rfl (lv_at hl 0 rfl) ?_
    obtain ⟨r20, u21, hc19, hf⟩ := sg_b2_s hf
    refine sg_ci (va_runV (As := []) (rest := []) ⟨hx, hb, hml, hown, hts⟩ (c_X6_worth l D cA ad N _ _ _ hc19 _) (cwV 0 hts gX6_tries_X6_worth rfl rfl rfl (by decide +kernel) ⟨by show 1 + 1 ≤ 4 + (d + 1); omega, by show 8 + (3 + 11) + 25 ≤ 96 + (d + 1) * 23; omega⟩) (sg_pre hK hP hD (ci := 8) (q0 := 0) rfl rfl) rfl rfl hl.1 rfl (lv_room (Nat.le_of_ble_eq_true rfl)) dX6_tries_9 ⟨Nat.zero_le _, Nat.zero_le _⟩) hD hS hA (fun H locs hP hD hS => ?_)
    refine lv_istore_n (lv' := [(2, .int r20), (0, .ref (ad 0)), (1, .int p1)]) hx hb dX6_tries_12 rfl hl (by decide) rfl (fun ls hl => ?_)
    refine lv_iload_n hx hb dX6_tries_13 rfl (lv_at hl 0 rfl) ?_
    refine lv_aload_n hx hb dX6_tries_14 rfl (lv_at hl 1 rfl) ?_
    refine va_get (D := D) (ci := 8) (C := RX6) (T := TX6) (N := 27) hx hb hts hinX6 hown hK.1 hP 0 rfl rfl 26 (by decide) (hts (.fieldLink RX6 179 "SwitchgearModel" "bestWorth" "I") (by decide +kernel)) (fun _ h9 => h9) rfl dX6_tries_15 ?_
    refine lv_icmp_lt (tgt := 58) hx hb dX6_tries_18 (by decide) (fun c29 => ?_) (fun c29 => ?_)
    · have hf := sg_ip c29 hf
      have hq := Option.some.inj hf
      exact sg_vret hx hb hr hP hD hS dX6_tries_58 hq hlocks
    · have hf := sg_in c29 hf
      refine lv_iload_n hx hb dX6_tries_21 rfl (lv_at hl 0 rfl) ?_
      refine lv_aload_n hx hb dX6_tries_22 rfl (lv_at hl 1 rfl) ?_
      refine va_get (D := D) (ci := 8) (C := RX6) (T := TX6) (N := 27) hx hb hts hinX6 hown hK.1 hP 0 rfl rfl 26 (by decide) (hts (.fieldLink RX6 179 "SwitchgearModel" "bestWorth" "I") (by decide +kernel)) (fun _ h9 => h9) rfl dX6_tries_23 ?_
      refine lv_icmp_ne (tgt := 59) hx hb dX6_tries_26 (by decide) (fun c28 => ?_) (fun c28 => ?_)
      · have hf := sg_in c28 hf
        exact hJ59 _ _ _ _ _ hf hP hD hS (lv_sub hl [1, 0] rfl)
      · have hf := sg_ip c28 hf
        refine lv_aload_n hx hb dX6_tries_29 rfl (lv_at hl 1 rfl) ?_
        refine va_get (D := D) (ci := 8) (C := RX6) (T := TX6) (N := 27) hx hb hts hinX6 hown hK.1 hP 0 rfl rfl 24 (by decide) (hts (.fieldLink RX6 173 "SwitchgearModel" "planned" "I") (by decide +kernel)) (fun _ h9 => h9) rfl dX6_tries_30 ?_
        refine lv_aload_n hx hb dX6_tries_33 rfl (lv_at hl 1 rfl) ?_
        refine va_get (D := D) (ci := 8) (C := RX6) (T := TX6) (N := 27) hx hb hts hinX6 hown hK.1 hP 0 rfl rfl 25 (by decide) (hts (.fieldLink RX6 182 "SwitchgearModel" "bestMany" "I") (by decide +kernel)) (fun _ h9 => h9) rfl dX6_tries_34 ?_
        refine lv_icmp_gt (tgt := 58) hx hb dX6_tries_37 (by decide) (fun c27 => ?_) (fun c27 => ?_)
        · have hf := sg_ip c27 hf
          have hq := Option.some.inj hf
          exact sg_vret hx hb hr hP hD hS dX6_tries_58 hq hlocks
        · have hf := sg_in c27 hf
          refine lv_aload_n hx hb dX6_tries_40 rfl (lv_at hl 1 rfl) ?_
          refine va_get (D := D) (ci := 8) (C := RX6) (T := TX6) (N := 27) hx hb hts hinX6 hown hK.1 hP 0 rfl rfl 24 (by decide) (hts (.fieldLink RX6 173 "SwitchgearModel" "planned" "I") (by decide +kernel)) (fun _ h9 => h9) rfl dX6_tries_41 ?_
          refine lv_aload_n hx hb dX6_tries_44 rfl (lv_at hl 1 rfl) ?_
          refine va_get (D := D) (ci := 8) (C := RX6) (T := TX6) (N := 27) hx hb hts hinX6 hown hK.1 hP 0 rfl rfl 25 (by decide) (hts (.fieldLink RX6 182 "SwitchgearModel" "bestMany" "I") (by decide +kernel)) (fun _ h9 => h9) rfl dX6_tries_45 ?_
          refine lv_icmp_ne (tgt := 59) hx hb dX6_tries_48 (by decide) (fun c26 => ?_) (fun c26 => ?_)
          · have hf := sg_in c26 hf
            exact hJ59 _ _ _ _ _ hf hP hD hS (lv_sub hl [1, 0] rfl)
          · have hf := sg_ip c26 hf
            refine lv_aload_n hx hb dX6_tries_51 rfl (lv_at hl 1 rfl) ?_
            obtain ⟨r23, hc22, hf⟩ := sg_b_s hf
            refine sg_ci (va_runV (As := []) (rest := []) ⟨hx, hb, hml, hown, hts⟩ (c_X6_isEarlier l D cA ad N _ _ hc22 _) (cwV 0 hts gX6_tries_X6_isEarlier rfl rfl rfl (by decide +kernel) ⟨by show 0 + 1 ≤ 4 + (d + 1); omega, by show 8 + (2 + 11) + 0 ≤ 96 + (d + 1) * 23; omega⟩) (sg_pre hK hP hD (ci := 8) (q0 := 0) rfl rfl) rfl rfl hl.1 rfl (lv_room (Nat.le_of_ble_eq_true rfl)) dX6_tries_52 ⟨Nat.zero_le _, Nat.zero_le _⟩) hD hS hA (fun H locs hP hD hS => ?_)
            refine lv_if_ne (tgt := 59) hx hb dX6_tries_55 (by decide) (fun c25 => ?_) (fun c25 => ?_)
            · have hf := sg_in c25 hf
              exact hJ59 _ _ _ _ _ hf hP hD hS (lv_sub hl [1, 0] rfl)
            · have hf := sg_ip c25 hf
              have hq := Option.some.inj hf
              exact sg_vret hx hb hr hP hD hS dX6_tries_58 hq hlocks
set_option maxRecDepth 100000 in
set_option maxHeartbeats 4000000 in
theorem c_X6_chooses (l : Launch) (D : va_G) (cA : Nat → ClassId) (ad : Nat → Nat) (N : Nat) (u : sg_St) (u' : sg_St) (hf : fX6_chooses N u = some u') : sg_CV l D cA (sg_WM cA ad) yX6_chooses wsX6_chooses ({ frames := 20, cells := 0, slots := 0, locals := 464 }) [.ref (ad 0)] u u' := by
  intro sz
  refine Met.ofW (cc := cX6_chooses) (maxL := 1) (ret := none) (by decide) rfl ?_
  intro p e s m args below meth c s₁ B hml hv
  obtain ⟨rfl, hsz, hP, hK, hD0⟩ := hv
  have hx := B.exec
  have hb := B.bytes
  have hr := B.returns
  have hts := atoms_spec (ws := wsX6_chooses) B.pre
  have hown : s.vm.findClass RX6 = some m.cls := findClass_of_methodNamed B.named
  have hlocks := B.notSynchronized
  subst hsz
  have hD := hD0.self (sz := s.heap.size)
  generalize hAe : va_A (sg_WM cA ad u) s.heap.size = A at hD ⊢
  have hA : ∀ q : Nat, s.heap.size ≤ q → A q := fun q h => by rw [← hAe]; exact Or.inr h
  have hS : va_S A s.heap s.heap [] := va_S.rf
  have hl := lv_entry ([.ref (ad 0)]) (n := 1) (Nat.le_of_ble_eq_true rfl)
  rw [lg_entry_eq]
  generalize (lg_sl ([.ref (ad 0)]) ++ List.replicate (1 - (lg_sl ([.ref (ad 0)])).length) Slot.unset).toArray = ls at hl ⊢
  replace hl : lv_has ls 1 [(0, .ref (ad 0))] := hl
  have hinX6 : ∀ w ∈ u_ws RX6 TX6 27, w ∈ wsX6_chooses := by decide +kernel
  unfold fX6_chooses at hf
  refine lv_aload_n hx hb dX6_chooses_0 rfl (lv_at hl 0 rfl) ?_
  refine lv_iconst (v := 0) hx hb dX6_chooses_1 (by decide) ?_
  refine va_put (D := D) (ci := 8) (v := .int 0) (ty := .int) (C := RX6) (T := TX6) (N := 27) hx hb hts hinX6 tyX6 tyX6_ok nmX6 hown hK.1 hP hD hS 0 rfl rfl 0 (by decide) (hts (.fieldLink RX6 68 "SwitchgearModel" "thrown" "I") (by decide +kernel)) (fun _ h9 => h9) rfl (by decide +kernel) rfl rfl (Nat.le_of_ble_eq_true rfl) dX6_chooses_2 (fun H locs hP hD hS => ?_)
  replace hP : va_P D vwCl (sg_WM cA ad (sg_set u 0 0 0)) H := by rw [← sg_WM_0]; exact hP
  replace hD : va_D A (sg_WM cA ad (sg_set u 0 0 0)) := by rw [← sg_WM_0]; exact hD
  refine lv_aload_n hx hb dX6_chooses_5 rfl (lv_at hl 0 rfl) ?_
  refine lv_iconst (v := 0) hx hb dX6_chooses_6 (by decide) ?_
  refine va_put (D := D) (ci := 8) (v := .int 0) (ty := .int) (C := RX6) (T := TX6) (N := 27) hx hb hts hinX6 tyX6 tyX6_ok nmX6 hown hK.1 hP hD hS 0 rfl rfl 24 (by decide) (hts (.fieldLink RX6 173 "SwitchgearModel" "planned" "I") (by decide +kernel)) (fun _ h9 => h9) rfl (by decide +kernel) rfl rfl (Nat.le_of_ble_eq_true rfl) dX6_chooses_7 (fun H locs hP hD hS => ?_)
  replace hP : va_P D vwCl (sg_WM cA ad (sg_set (sg_set u 0 0 0) 5 0 0)) H := by rw [← sg_WM_5]; exact hP
  replace hD : va_D A (sg_WM cA ad (sg_set (sg_set u 0 0 0) 5 0 0)) := by rw [← sg_WM_5]; exact hD
  refine lv_aload_n hx hb dX6_chooses_10 rfl (lv_at hl 0 rfl) ?_
  refine lv_iconst (v := 0) hx hb dX6_chooses_11 (by decide) ?_
  refine va_put (D := D) (ci := 8) (v := .int 0) (ty := .int) (C := RX6) (T := TX6) (N := 27) hx hb hts hinX6 tyX6 tyX6_ok nmX6 hown hK.1 hP hD hS 0 rfl rfl 25 (by decide) (hts (.fieldLink RX6 182 "SwitchgearModel" "bestMany" "I") (by decide +kernel)) (fun _ h9 => h9) rfl (by decide +kernel) rfl rfl (Nat.le_of_ble_eq_true rfl) dX6_chooses_12 (fun H locs hP hD hS => ?_)
  replace hP : va_P D vwCl (sg_WM cA ad (sg_set (sg_set (sg_set u 0 0 0) 5 0 0) 6 0 0)) H := by rw [← sg_WM_6]; exact hP
  replace hD : va_D A (sg_WM cA ad (sg_set (sg_set (sg_set u 0 0 0) 5 0 0) 6 0 0)) := by rw [← sg_WM_6]; exact hD
  refine lv_aload_n hx hb dX6_chooses_15 rfl (lv_at hl 0 rfl) ?_
  refine lv_aload_n hx hb dX6_chooses_16 rfl (lv_at hl 0 rfl) ?_
  obtain ⟨r2, u3, hc1, hf⟩ := sg_b2_s hf
  refine sg_ci (va_runV (As := []) (rest := [.ref (ad 0)]) ⟨hx, hb, hml, hown, hts⟩ (c_X6_worth l D cA ad N _ _ _ hc1 _) (cwV 0 hts gX6_chooses_X6_worth rfl rfl rfl (by decide +kernel) ⟨Nat.le_of_ble_eq_true rfl, Nat.le_of_ble_eq_true rfl⟩) (sg_pre hK hP hD (ci := 8) (q0 := 0) rfl rfl) rfl rfl hl.1 rfl (lv_room (Nat.le_of_ble_eq_true rfl)) dX6_chooses_17 ⟨Nat.zero_le _, Nat.zero_le _⟩) hD hS hA (fun H locs hP hD hS => ?_)
  refine va_put (D := D) (ci := 8) (v := .int r2) (ty := .int) (C := RX6) (T := TX6) (N := 27) hx hb hts hinX6 tyX6 tyX6_ok nmX6 hown hK.1 hP hD hS 0 rfl rfl 26 (by decide) (hts (.fieldLink RX6 179 "SwitchgearModel" "bestWorth" "I") (by decide +kernel)) (fun _ h9 => h9) rfl (by decide +kernel) rfl rfl (Nat.le_of_ble_eq_true rfl) dX6_chooses_20 (fun H locs hP hD hS => ?_)
  replace hP : va_P D vwCl (sg_WM cA ad (sg_set u3 7 0 r2)) H := by rw [← sg_WM_7]; exact hP
  replace hD : va_D A (sg_WM cA ad (sg_set u3 7 0 r2)) := by rw [← sg_WM_7]; exact hD
  refine lv_aload_n hx hb dX6_chooses_23 rfl (lv_at hl 0 rfl) ?_
  refine lv_iconst (v := 0) hx hb dX6_chooses_24 (by decide) ?_
  obtain ⟨u6, hc4, hf⟩ := sg_b_s hf
  refine sg_cv (va_runV (As := [.int 0]) (rest := []) ⟨hx, hb, hml, hown, hts⟩ (c_X6_tries l D cA ad N 15 _ _ _ hc4 _) (cwV 1 hts gX6_chooses_X6_tries rfl rfl rfl (by decide +kernel) ⟨Nat.le_of_ble_eq_true rfl, Nat.le_of_ble_eq_true rfl⟩) (sg_pre hK hP hD (ci := 8) (q0 := 0) rfl rfl) rfl rfl hl.1 rfl (lv_room (Nat.le_of_ble_eq_true rfl)) dX6_chooses_25 ⟨Nat.zero_le _, Nat.zero_le _⟩) hD hS hA (fun H locs hP hD hS => ?_)
  have hq := Option.some.inj hf
  exact sg_vret hx hb hr hP hD hS dX6_chooses_28 hq hlocks
set_option maxRecDepth 100000 in
set_option maxHeartbeats 4000000 in
theorem c_X6_bestAt (l : Launch) (D : va_G) (cA : Nat → ClassId) (ad : Nat → Nat) (N : Nat) (u : sg_St) (p1 : Int32) (r : Int32) (u' : sg_St) (hf : fX6_bestAt N u p1 = some (r, u')) : sg_CI l D cA (sg_WM cA ad) yX6_bestAt wsX6_bestAt ({ frames := 21, cells := 0, slots := 0, locals := 484 }) [.ref (ad 0), .int p1] u r u' := by
  intro sz
  refine Met.ofW (cc := cX6_bestAt) (maxL := 2) (ret := (some .int)) (by decide) rfl ?_
  intro p e s m args below meth c s₁ B hml hv
  obtain ⟨rfl, hsz, hP, hK, hD0⟩ := hv
  have hx := B.exec
  have hb := B.bytes
  have hr := B.returns
  have hts := atoms_spec (ws := wsX6_bestAt) B.pre
  have hown : s.vm.findClass RX6 = some m.cls := findClass_of_methodNamed B.named
  have hlocks := B.notSynchronized
  subst hsz
  have hD := hD0.self (sz := s.heap.size)
  generalize hAe : va_A (sg_WM cA ad u) s.heap.size = A at hD ⊢
  have hA : ∀ q : Nat, s.heap.size ≤ q → A q := fun q h => by rw [← hAe]; exact Or.inr h
  have hS : va_S A s.heap s.heap [] := va_S.rf
  have hl := lv_entry ([.ref (ad 0), .int p1]) (n := 2) (Nat.le_of_ble_eq_true rfl)
  rw [lg_entry_eq]
  generalize (lg_sl ([.ref (ad 0), .int p1]) ++ List.replicate (2 - (lg_sl ([.ref (ad 0), .int p1])).length) Slot.unset).toArray = ls at hl ⊢
  replace hl : lv_has ls 2 [(0, .ref (ad 0)), (1, .int p1)] := hl
  have hinX6 : ∀ w ∈ u_ws RX6 TX6 27, w ∈ wsX6_bestAt := by decide +kernel
  unfold fX6_bestAt at hf
  refine lv_aload_n hx hb dX6_bestAt_0 rfl (lv_at hl 0 rfl) ?_
  obtain ⟨u3, hc1, hf⟩ := sg_b_s hf
  refine sg_cv (va_runV (As := []) (rest := []) ⟨hx, hb, hml, hown, hts⟩ (c_X6_chooses l D cA ad N _ _ hc1 _) (cwV 0 hts gX6_bestAt_X6_chooses rfl rfl rfl (by decide +kernel) ⟨Nat.le_of_ble_eq_true rfl, Nat.le_of_ble_eq_true rfl⟩) (sg_pre hK hP hD (ci := 8) (q0 := 0) rfl rfl) rfl rfl hl.1 rfl (lv_room (Nat.le_of_ble_eq_true rfl)) dX6_bestAt_1 ⟨Nat.zero_le _, Nat.zero_le _⟩) hD hS hA (fun H locs hP hD hS => ?_)
  refine lv_iload_n hx hb dX6_bestAt_4 rfl (lv_at hl 1 rfl) ?_
  refine lv_iconst (v := 0) hx hb dX6_bestAt_5 (by decide) ?_
  refine lv_aload_n hx hb dX6_bestAt_6 rfl (lv_at hl 0 rfl) ?_
  refine va_get (D := D) (ci := 8) (C := RX6) (T := TX6) (N := 27) hx hb hts hinX6 hown hK.1 hP 0 rfl rfl 25 (by decide) (hts (.fieldLink RX6 182 "SwitchgearModel" "bestMany" "I") (by decide +kernel)) (fun _ h9 => h9) rfl dX6_bestAt_7 ?_
  refine lv_iconst (v := 1) hx hb dX6_bestAt_10 (by decide) ?_
  refine lv_isub hx hb dX6_bestAt_11 ?_
  obtain ⟨r5, hc4, hf⟩ := sg_b_s hf
  refine sg_ci0 (va_runS (As := [.int p1, .int 0, .int ((u3 6 0) - 1)]) (rest := []) ⟨hx, hb, hml, hown, hts⟩ (c_X6_in l D cA N _ _ _ _ hc4 _) (va_cwS 3 hts gX6_bestAt_X6_in rfl rfl rfl (by decide +kernel) ⟨Nat.le_of_ble_eq_true rfl, Nat.le_of_ble_eq_true rfl⟩) (sg_pre0 hK) rfl rfl hl.1 rfl (lv_room (Nat.le_of_ble_eq_true rfl)) dX6_bestAt_12 ⟨Nat.zero_le _, Nat.zero_le _⟩) hP hS hA (fun H locs hP hS => ?_)
  refine lv_if_eq (tgt := 27) hx hb dX6_bestAt_15 (by decide) (fun c11 => ?_) (fun c11 => ?_)
  · have hf := sg_ip c11 hf
    refine lv_aload_n hx hb dX6_bestAt_27 rfl (lv_at hl 0 rfl) ?_
    refine lv_iconst (v := 1) hx hb dX6_bestAt_28 (by decide) ?_
    obtain ⟨r8, u9, hc7, hf⟩ := sg_b2_s hf
    refine sg_ci (va_runV (As := [.int 1]) (rest := []) ⟨hx, hb, hml, hown, hts⟩ (c_X6_fails l D cA ad N _ _ _ _ hc7 _) (cwV 1 hts gX6_bestAt_X6_fails rfl rfl rfl (by decide +kernel) ⟨Nat.le_of_ble_eq_true rfl, Nat.le_of_ble_eq_true rfl⟩) (sg_pre hK hP hD (ci := 8) (q0 := 0) rfl rfl) rfl rfl hl.1 rfl (lv_room (Nat.le_of_ble_eq_true rfl)) dX6_bestAt_29 ⟨Nat.zero_le _, Nat.zero_le _⟩) hD hS hA (fun H locs hP hD hS => ?_)
    have hq := Option.some.inj hf
    exact sg_iret hx hb hr hP hD hS dX6_bestAt_32 (congrArg Prod.fst hq) (congrArg Prod.snd hq) hlocks
  · have hf := sg_in c11 hf
    refine lv_aload_n hx hb dX6_bestAt_18 rfl (lv_at hl 0 rfl) ?_
    refine va_get (D := D) (ci := 8) (C := RX6) (T := TX6) (N := 27) hx hb hts hinX6 hown hK.1 hP 0 rfl rfl 23 (by decide) (hts (.fieldLink RX6 65 "SwitchgearModel" "best" "[I") (by decide +kernel)) (fun _ h9 => h9) rfl dX6_bestAt_19 ?_
    refine lv_iload_n hx hb dX6_bestAt_22 rfl (lv_at hl 1 rfl) ?_
    obtain ⟨hg10, hf⟩ := sg_g_s hf
    refine va_iald hx hb hK.1 hP 19 0 rfl rfl (sg_inb_s hg10) dX6_bestAt_23 ?_
    refine lv_goto (tgt := 32) hx hb dX6_bestAt_24 (by decide) ?_
    have hq := Option.some.inj hf
    exact sg_iret hx hb hr hP hD hS dX6_bestAt_32 (congrArg Prod.fst hq) (congrArg Prod.snd hq) hlocks
set_option maxRecDepth 100000 in
set_option maxHeartbeats 4000000 in
theorem c_X6_bestSize (l : Launch) (D : va_G) (cA : Nat → ClassId) (ad : Nat → Nat) (N : Nat) (u : sg_St) (r : Int32) (u' : sg_St) (hf : fX6_bestSize N u = some (r, u')) : sg_CI l D cA (sg_WM cA ad) yX6_bestSize wsX6_bestSize ({ frames := 21, cells := 0, slots := 0, locals := 484 }) [.ref (ad 0)] u r u' := by
  intro sz
  refine Met.ofW (cc := cX6_bestSize) (maxL := 1) (ret := (some .int)) (by decide) rfl ?_
  intro p e s m args below meth c s₁ B hml hv
  obtain ⟨rfl, hsz, hP, hK, hD0⟩ := hv
  have hx := B.exec
  have hb := B.bytes
  have hr := B.returns
  have hts := atoms_spec (ws := wsX6_bestSize) B.pre
  have hown : s.vm.findClass RX6 = some m.cls := findClass_of_methodNamed B.named
  have hlocks := B.notSynchronized
  subst hsz
  have hD := hD0.self (sz := s.heap.size)
  generalize hAe : va_A (sg_WM cA ad u) s.heap.size = A at hD ⊢
  have hA : ∀ q : Nat, s.heap.size ≤ q → A q := fun q h => by rw [← hAe]; exact Or.inr h
  have hS : va_S A s.heap s.heap [] := va_S.rf
  have hl := lv_entry ([.ref (ad 0)]) (n := 1) (Nat.le_of_ble_eq_true rfl)
  rw [lg_entry_eq]
  generalize (lg_sl ([.ref (ad 0)]) ++ List.replicate (1 - (lg_sl ([.ref (ad 0)])).length) Slot.unset).toArray = ls at hl ⊢
  replace hl : lv_has ls 1 [(0, .ref (ad 0))] := hl
  have hinX6 : ∀ w ∈ u_ws RX6 TX6 27, w ∈ wsX6_bestSize := by decide +kernel
  unfold fX6_bestSize at hf
  refine lv_aload_n hx hb dX6_bestSize_0 rfl (lv_at hl 0 rfl) ?_
  obtain ⟨u3, hc1, hf⟩ := sg_b_s hf
  refine sg_cv (va_runV (As := []) (rest := []) ⟨hx, hb, hml, hown, hts⟩ (c_X6_chooses l D cA ad N _ _ hc1 _) (cwV 0 hts gX6_bestSize_X6_chooses rfl rfl rfl (by decide +kernel) ⟨Nat.le_of_ble_eq_true rfl, Nat.le_of_ble_eq_true rfl⟩) (sg_pre hK hP hD (ci := 8) (q0 := 0) rfl rfl) rfl rfl hl.1 rfl (lv_room (Nat.le_of_ble_eq_true rfl)) dX6_bestSize_1 ⟨Nat.zero_le _, Nat.zero_le _⟩) hD hS hA (fun H locs hP hD hS => ?_)
  refine lv_aload_n hx hb dX6_bestSize_4 rfl (lv_at hl 0 rfl) ?_
  refine va_get (D := D) (ci := 8) (C := RX6) (T := TX6) (N := 27) hx hb hts hinX6 hown hK.1 hP 0 rfl rfl 25 (by decide) (hts (.fieldLink RX6 182 "SwitchgearModel" "bestMany" "I") (by decide +kernel)) (fun _ h9 => h9) rfl dX6_bestSize_5 ?_
  have hq := Option.some.inj hf
  exact sg_iret hx hb hr hP hD hS dX6_bestSize_8 (congrArg Prod.fst hq) (congrArg Prod.snd hq) hlocks
set_option maxRecDepth 100000 in
set_option maxHeartbeats 4000000 in
theorem c_X6_bestValue (l : Launch) (D : va_G) (cA : Nat → ClassId) (ad : Nat → Nat) (N : Nat) (u : sg_St) (r : Int32) (u' : sg_St) (hf : fX6_bestValue N u = some (r, u')) : sg_CI l D cA (sg_WM cA ad) yX6_bestValue wsX6_bestValue ({ frames := 21, cells := 0, slots := 0, locals := 484 }) [.ref (ad 0)] u r u' := by
  intro sz
  refine Met.ofW (cc := cX6_bestValue) (maxL := 1) (ret := (some .int)) (by decide) rfl ?_
  intro p e s m args below meth c s₁ B hml hv
  obtain ⟨rfl, hsz, hP, hK, hD0⟩ := hv
  have hx := B.exec
  have hb := B.bytes
  have hr := B.returns
  have hts := atoms_spec (ws := wsX6_bestValue) B.pre
  have hown : s.vm.findClass RX6 = some m.cls := findClass_of_methodNamed B.named
  have hlocks := B.notSynchronized
  subst hsz
  have hD := hD0.self (sz := s.heap.size)
  generalize hAe : va_A (sg_WM cA ad u) s.heap.size = A at hD ⊢
  have hA : ∀ q : Nat, s.heap.size ≤ q → A q := fun q h => by rw [← hAe]; exact Or.inr h
  have hS : va_S A s.heap s.heap [] := va_S.rf
  have hl := lv_entry ([.ref (ad 0)]) (n := 1) (Nat.le_of_ble_eq_true rfl)
  rw [lg_entry_eq]
  generalize (lg_sl ([.ref (ad 0)]) ++ List.replicate (1 - (lg_sl ([.ref (ad 0)])).length) Slot.unset).toArray = ls at hl ⊢
  replace hl : lv_has ls 1 [(0, .ref (ad 0))] := hl
  have hinX6 : ∀ w ∈ u_ws RX6 TX6 27, w ∈ wsX6_bestValue := by decide +kernel
  unfold fX6_bestValue at hf
  refine lv_aload_n hx hb dX6_bestValue_0 rfl (lv_at hl 0 rfl) ?_
  obtain ⟨u3, hc1, hf⟩ := sg_b_s hf
  refine sg_cv (va_runV (As := []) (rest := []) ⟨hx, hb, hml, hown, hts⟩ (c_X6_chooses l D cA ad N _ _ hc1 _) (cwV 0 hts gX6_bestValue_X6_chooses rfl rfl rfl (by decide +kernel) ⟨Nat.le_of_ble_eq_true rfl, Nat.le_of_ble_eq_true rfl⟩) (sg_pre hK hP hD (ci := 8) (q0 := 0) rfl rfl) rfl rfl hl.1 rfl (lv_room (Nat.le_of_ble_eq_true rfl)) dX6_bestValue_1 ⟨Nat.zero_le _, Nat.zero_le _⟩) hD hS hA (fun H locs hP hD hS => ?_)
  refine lv_aload_n hx hb dX6_bestValue_4 rfl (lv_at hl 0 rfl) ?_
  refine va_get (D := D) (ci := 8) (C := RX6) (T := TX6) (N := 27) hx hb hts hinX6 hown hK.1 hP 0 rfl rfl 26 (by decide) (hts (.fieldLink RX6 179 "SwitchgearModel" "bestWorth" "I") (by decide +kernel)) (fun _ h9 => h9) rfl dX6_bestValue_5 ?_
  have hq := Option.some.inj hf
  exact sg_iret hx hb hr hP hD hS dX6_bestValue_8 (congrArg Prod.fst hq) (congrArg Prod.snd hq) hlocks
set_option maxRecDepth 100000 in
set_option maxHeartbeats 4000000 in
theorem c_X6_isLine (l : Launch) (D : va_G) (cA : Nat → ClassId) (ad : Nat → Nat) (N : Nat) (u : sg_St) (p1 : Int32) (r : Int32) (hf : fX6_isLine N u p1 = some r) : sg_CI l D cA (sg_WM cA ad) yX6_isLine wsX6_isLine ({ frames := 1, cells := 0, slots := 0, locals := 22 }) [.ref (ad 0), .int p1] u r u := by
  intro sz
  refine Met.ofW (cc := cX6_isLine) (maxL := 2) (ret := (some .boolean)) (by decide) rfl ?_
  intro p e s m args below meth c s₁ B hml hv
  obtain ⟨rfl, hsz, hP, hK, hD0⟩ := hv
  have hx := B.exec
  have hb := B.bytes
  have hr := B.returns
  have hts := atoms_spec (ws := wsX6_isLine) B.pre
  have hown : s.vm.findClass RX6 = some m.cls := findClass_of_methodNamed B.named
  have hlocks := B.notSynchronized
  subst hsz
  have hD := hD0.self (sz := s.heap.size)
  generalize hAe : va_A (sg_WM cA ad u) s.heap.size = A at hD ⊢
  have hA : ∀ q : Nat, s.heap.size ≤ q → A q := fun q h => by rw [← hAe]; exact Or.inr h
  have hS : va_S A s.heap s.heap [] := va_S.rf
  have hl := lv_entry ([.ref (ad 0), .int p1]) (n := 2) (Nat.le_of_ble_eq_true rfl)
  rw [lg_entry_eq]
  generalize (lg_sl ([.ref (ad 0), .int p1]) ++ List.replicate (2 - (lg_sl ([.ref (ad 0), .int p1])).length) Slot.unset).toArray = ls at hl ⊢
  replace hl : lv_has ls 2 [(0, .ref (ad 0)), (1, .int p1)] := hl
  have hinX6 : ∀ w ∈ u_ws RX6 TX6 27, w ∈ wsX6_isLine := by decide +kernel
  unfold fX6_isLine at hf
  refine lv_iload_n hx hb dX6_isLine_0 rfl (lv_at hl 1 rfl) ?_
  refine lv_iconst (v := 0) hx hb dX6_isLine_1 (by decide) ?_
  refine lv_aload_n hx hb dX6_isLine_2 rfl (lv_at hl 0 rfl) ?_
  refine va_get (D := D) (ci := 8) (C := RX6) (T := TX6) (N := 27) hx hb hts hinX6 hown hK.1 hP 0 rfl rfl 2 (by decide) (hts (.fieldLink RX6 79 "SwitchgearModel" "lines" "I") (by decide +kernel)) (fun _ h9 => h9) rfl dX6_isLine_3 ?_
  refine lv_iconst (v := 1) hx hb dX6_isLine_6 (by decide) ?_
  refine lv_isub hx hb dX6_isLine_7 ?_
  obtain ⟨r2, hc1, hf⟩ := sg_b_s hf
  refine sg_ci0 (va_runS (As := [.int p1, .int 0, .int ((u 2 0) - 1)]) (rest := []) ⟨hx, hb, hml, hown, hts⟩ (c_X6_in l D cA N _ _ _ _ hc1 _) (va_cwS 3 hts gX6_isLine_X6_in rfl rfl rfl (by decide +kernel) ⟨Nat.le_of_ble_eq_true rfl, Nat.le_of_ble_eq_true rfl⟩) (sg_pre0 hK) rfl rfl hl.1 rfl (lv_room (Nat.le_of_ble_eq_true rfl)) dX6_isLine_8 ⟨Nat.zero_le _, Nat.zero_le _⟩) hP hS hA (fun H locs hP hS => ?_)
  obtain ⟨hg4, hf⟩ := sg_g_s hf
  have hq := Option.some.inj hf
  exact sg_zret hx hb hr (sg_nz hg4) hP hD hS dX6_isLine_11 hq rfl hlocks
set_option maxRecDepth 100000 in
set_option maxHeartbeats 4000000 in
theorem c_X6_isThere (l : Launch) (D : va_G) (cA : Nat → ClassId) (ad : Nat → Nat) (N : Nat) (u : sg_St) (p1 : Int32) (r : Int32) (u' : sg_St) (hf : fX6_isThere N u p1 = some (r, u')) : sg_CI l D cA (sg_WM cA ad) yX6_isThere wsX6_isThere ({ frames := 0, cells := 0, slots := 0, locals := 0 }) [.ref (ad 0), .int p1] u r u' := by
  intro sz
  refine Met.ofW (cc := cX6_isThere) (maxL := 2) (ret := (some .boolean)) (by decide) rfl ?_
  intro p e s m args below meth c s₁ B hml hv
  obtain ⟨rfl, hsz, hP, hK, hD0⟩ := hv
  have hx := B.exec
  have hb := B.bytes
  have hr := B.returns
  have hts := atoms_spec (ws := wsX6_isThere) B.pre
  have hown : s.vm.findClass RX6 = some m.cls := findClass_of_methodNamed B.named
  have hlocks := B.notSynchronized
  subst hsz
  have hD := hD0.self (sz := s.heap.size)
  generalize hAe : va_A (sg_WM cA ad u) s.heap.size = A at hD ⊢
  have hA : ∀ q : Nat, s.heap.size ≤ q → A q := fun q h => by rw [← hAe]; exact Or.inr h
  have hS : va_S A s.heap s.heap [] := va_S.rf
  have hl := lv_entry ([.ref (ad 0), .int p1]) (n := 2) (Nat.le_of_ble_eq_true rfl)
  rw [lg_entry_eq]
  generalize (lg_sl ([.ref (ad 0), .int p1]) ++ List.replicate (2 - (lg_sl ([.ref (ad 0), .int p1])).length) Slot.unset).toArray = ls at hl ⊢
  replace hl : lv_has ls 2 [(0, .ref (ad 0)), (1, .int p1)] := hl
  have hinX6 : ∀ w ∈ u_ws RX6 TX6 27, w ∈ wsX6_isThere := by decide +kernel
  have hJ10 : ∀ (u : sg_St) (v1 k0 : Int32) (H : Heap) (locs : List Loc) (ls : Array Slot), fX6_isThere_j10 N u v1 k0 = some (r, u') → va_P D vwCl (sg_WM cA ad u) H → va_D A (sg_WM cA ad u) → va_S A s.heap H locs → lv_has ls 2 [(0, .ref (ad 0)), (1, .int v1)] → W p l e (headSpec wsX6_isThere ({ frames := 0, cells := 0, slots := 0, locals := 0 })).room s m ([.ref (ad 0), .int p1] : List Value).toArray below meth c H locs 0 0 (MQ below (va_Qi (fun x y => x = r ∧ y = u') (sg_BX D (sg_WM cA ad) A) A) ([.ref (ad 0), .int p1] : List Value).toArray s 0 0 A) (F0 m 10 ls [.int k0, .ref (ad 0)]) := by
    intro u v1 k0 H locs ls hf hP hD hS hl
    unfold fX6_isThere_j10 at hf
    refine va_put (D := D) (ci := 8) (v := .int k0) (ty := .int) (C := RX6) (T := TX6) (N := 27) hx hb hts hinX6 tyX6 tyX6_ok nmX6 hown hK.1 hP hD hS 0 rfl rfl 0 (by decide) (hts (.fieldLink RX6 68 "SwitchgearModel" "thrown" "I") (by decide +kernel)) (fun _ h9 => h9) rfl (by decide +kernel) rfl rfl (Nat.le_of_ble_eq_true rfl) dX6_isThere_10 (fun H locs hP hD hS => ?_)
    replace hP : va_P D vwCl (sg_WM cA ad (sg_set u 0 0 k0)) H := by rw [← sg_WM_0]; exact hP
    replace hD : va_D A (sg_WM cA ad (sg_set u 0 0 k0)) := by rw [← sg_WM_0]; exact hD
    refine lv_iload_n hx hb dX6_isThere_13 rfl (lv_at hl 1 rfl) ?_
    obtain ⟨hg1, hf⟩ := sg_g_s hf
    have hq := Option.some.inj hf
    exact sg_zret hx hb hr (sg_nz hg1) hP hD hS dX6_isThere_14 (congrArg Prod.fst hq) (congrArg Prod.snd hq) hlocks
  unfold fX6_isThere at hf
  refine lv_aload_n hx hb dX6_isThere_0 rfl (lv_at hl 0 rfl) ?_
  refine lv_iload_n hx hb dX6_isThere_1 rfl (lv_at hl 1 rfl) ?_
  refine lv_if_eq (tgt := 9) hx hb dX6_isThere_2 (by decide) (fun c1 => ?_) (fun c1 => ?_)
  · have hf := sg_ip c1 hf
    refine lv_iconst (v := 1) hx hb dX6_isThere_9 (by decide) ?_
    exact hJ10 _ _ _ _ _ _ hf hP hD hS (lv_sub hl [0, 1] rfl)
  · have hf := sg_in c1 hf
    refine lv_iconst (v := 0) hx hb dX6_isThere_5 (by decide) ?_
    refine lv_goto (tgt := 10) hx hb dX6_isThere_6 (by decide) ?_
    exact hJ10 _ _ _ _ _ _ hf hP hD hS (lv_sub hl [0, 1] rfl)
set_option maxRecDepth 100000 in
set_option maxHeartbeats 4000000 in
theorem c_X6_canClose (l : Launch) (D : va_G) (cA : Nat → ClassId) (ad : Nat → Nat) (N : Nat) (u : sg_St) (p1 : Int32) (r : Int32) (u' : sg_St) (hf : fX6_canClose N u p1 = some (r, u')) : sg_CI l D cA (sg_WM cA ad) yX6_canClose wsX6_canClose ({ frames := 4, cells := 0, slots := 0, locals := 96 }) [.ref (ad 0), .int p1] u r u' := by
  intro sz
  refine Met.ofW (cc := cX6_canClose) (maxL := 2) (ret := (some .char)) (by decide) rfl ?_
  intro p e s m args below meth c s₁ B hml hv
  obtain ⟨rfl, hsz, hP, hK, hD0⟩ := hv
  have hx := B.exec
  have hb := B.bytes
  have hr := B.returns
  have hts := atoms_spec (ws := wsX6_canClose) B.pre
  have hown : s.vm.findClass RX6 = some m.cls := findClass_of_methodNamed B.named
  have hlocks := B.notSynchronized
  subst hsz
  have hD := hD0.self (sz := s.heap.size)
  generalize hAe : va_A (sg_WM cA ad u) s.heap.size = A at hD ⊢
  have hA : ∀ q : Nat, s.heap.size ≤ q → A q := fun q h => by rw [← hAe]; exact Or.inr h
  have hS : va_S A s.heap s.heap [] := va_S.rf
  have hl := lv_entry ([.ref (ad 0), .int p1]) (n := 2) (Nat.le_of_ble_eq_true rfl)
  rw [lg_entry_eq]
  generalize (lg_sl ([.ref (ad 0), .int p1]) ++ List.replicate (2 - (lg_sl ([.ref (ad 0), .int p1])).length) Slot.unset).toArray = ls at hl ⊢
  replace hl : lv_has ls 2 [(0, .ref (ad 0)), (1, .int p1)] := hl
  unfold fX6_canClose at hf
  refine lv_aload_n hx hb dX6_canClose_0 rfl (lv_at hl 0 rfl) ?_
  refine lv_aload_n hx hb dX6_canClose_1 rfl (lv_at hl 0 rfl) ?_
  refine lv_iload_n hx hb dX6_canClose_2 rfl (lv_at hl 1 rfl) ?_
  obtain ⟨r2, hc1, hf⟩ := sg_b_s hf
  refine sg_ci (va_runV (As := [.int p1]) (rest := [.ref (ad 0)]) ⟨hx, hb, hml, hown, hts⟩ (c_X6_isLine l D cA ad N _ _ _ hc1 _) (cwV 1 hts gX6_canClose_X6_isLine rfl rfl rfl (by decide +kernel) ⟨Nat.le_of_ble_eq_true rfl, Nat.le_of_ble_eq_true rfl⟩) (sg_pre hK hP hD (ci := 8) (q0 := 0) rfl rfl) rfl rfl hl.1 rfl (lv_room (Nat.le_of_ble_eq_true rfl)) dX6_canClose_3 ⟨Nat.zero_le _, Nat.zero_le _⟩) hD hS hA (fun H locs hP hD hS => ?_)
  obtain ⟨r5, u6, hc4, hf⟩ := sg_b2_s hf
  refine sg_ci (va_runV (As := [.int r2]) (rest := []) ⟨hx, hb, hml, hown, hts⟩ (c_X6_isThere l D cA ad N _ _ _ _ hc4 _) (cwV 1 hts gX6_canClose_X6_isThere rfl rfl rfl (by decide +kernel) ⟨Nat.le_of_ble_eq_true rfl, Nat.le_of_ble_eq_true rfl⟩) (sg_pre hK hP hD (ci := 8) (q0 := 0) rfl rfl) rfl rfl hl.1 rfl (lv_room (Nat.le_of_ble_eq_true rfl)) dX6_canClose_6 ⟨Nat.zero_le _, Nat.zero_le _⟩) hD hS hA (fun H locs hP hD hS => ?_)
  refine lv_if_eq (tgt := 20) hx hb dX6_canClose_9 (by decide) (fun c11 => ?_) (fun c11 => ?_)
  · have hf := sg_ip c11 hf
    refine lv_iconst (v := 0) hx hb dX6_canClose_20 (by decide) ?_
    have hq := Option.some.inj hf
    exact sg_zret hx hb hr rfl hP hD hS dX6_canClose_21 (congrArg Prod.fst hq) (congrArg Prod.snd hq) hlocks
  · have hf := sg_in c11 hf
    refine lv_aload_n hx hb dX6_canClose_12 rfl (lv_at hl 0 rfl) ?_
    refine lv_iload_n hx hb dX6_canClose_13 rfl (lv_at hl 1 rfl) ?_
    obtain ⟨r8, u9, hc7, hf⟩ := sg_b2_s hf
    refine sg_ci (va_runV (As := [.int p1]) (rest := []) ⟨hx, hb, hml, hown, hts⟩ (c_X6_reason l D cA ad N _ _ _ _ hc7 _) (cwV 1 hts gX6_canClose_X6_reason rfl rfl rfl (by decide +kernel) ⟨Nat.le_of_ble_eq_true rfl, Nat.le_of_ble_eq_true rfl⟩) (sg_pre hK hP hD (ci := 8) (q0 := 0) rfl rfl) rfl rfl hl.1 rfl (lv_room (Nat.le_of_ble_eq_true rfl)) dX6_canClose_14 ⟨Nat.zero_le _, Nat.zero_le _⟩) hD hS hA (fun H locs hP hD hS => ?_)
    refine lv_goto (tgt := 21) hx hb dX6_canClose_17 (by decide) ?_
    obtain ⟨hg10, hf⟩ := sg_g_s hf
    have hq := Option.some.inj hf
    exact sg_zret hx hb hr (sg_nc hg10) hP hD hS dX6_canClose_21 (congrArg Prod.fst hq) (congrArg Prod.snd hq) hlocks
set_option maxRecDepth 100000 in
set_option maxHeartbeats 4000000 in
theorem c_X6_flowOf (l : Launch) (D : va_G) (cA : Nat → ClassId) (ad : Nat → Nat) (N : Nat) (u : sg_St) (p1 : Int32) (r : Int32) (u' : sg_St) (hf : fX6_flowOf N u p1 = some (r, u')) : sg_CI l D cA (sg_WM cA ad) yX6_flowOf wsX6_flowOf ({ frames := 2, cells := 0, slots := 0, locals := 47 }) [.ref (ad 0), .int p1] u r u' := by
  intro sz
  refine Met.ofW (cc := cX6_flowOf) (maxL := 2) (ret := (some .int)) (by decide) rfl ?_
  intro p e s m args below meth c s₁ B hml hv
  obtain ⟨rfl, hsz, hP, hK, hD0⟩ := hv
  have hx := B.exec
  have hb := B.bytes
  have hr := B.returns
  have hts := atoms_spec (ws := wsX6_flowOf) B.pre
  have hown : s.vm.findClass RX6 = some m.cls := findClass_of_methodNamed B.named
  have hlocks := B.notSynchronized
  subst hsz
  have hD := hD0.self (sz := s.heap.size)
  generalize hAe : va_A (sg_WM cA ad u) s.heap.size = A at hD ⊢
  have hA : ∀ q : Nat, s.heap.size ≤ q → A q := fun q h => by rw [← hAe]; exact Or.inr h
  have hS : va_S A s.heap s.heap [] := va_S.rf
  have hl := lv_entry ([.ref (ad 0), .int p1]) (n := 2) (Nat.le_of_ble_eq_true rfl)
  rw [lg_entry_eq]
  generalize (lg_sl ([.ref (ad 0), .int p1]) ++ List.replicate (2 - (lg_sl ([.ref (ad 0), .int p1])).length) Slot.unset).toArray = ls at hl ⊢
  replace hl : lv_has ls 2 [(0, .ref (ad 0)), (1, .int p1)] := hl
  have hinX6 : ∀ w ∈ u_ws RX6 TX6 27, w ∈ wsX6_flowOf := by decide +kernel
  unfold fX6_flowOf at hf
  refine lv_aload_n hx hb dX6_flowOf_0 rfl (lv_at hl 0 rfl) ?_
  refine va_get (D := D) (ci := 8) (C := RX6) (T := TX6) (N := 27) hx hb hts hinX6 hown hK.1 hP 0 rfl rfl 15 (by decide) (hts (.fieldLink RX6 44 "SwitchgearModel" "isClosed" "[Z") (by decide +kernel)) (fun _ h9 => h9) rfl dX6_flowOf_1 ?_
  refine lv_iload_n hx hb dX6_flowOf_4 rfl (lv_at hl 1 rfl) ?_
  obtain ⟨hg1, hf⟩ := sg_g_s hf
  refine va_zald hx hb hK.1 hP 12 1 rfl rfl (sg_inb_s hg1) dX6_flowOf_5 ?_
  refine lv_if_eq (tgt := 18) hx hb dX6_flowOf_6 (by decide) (fun c5 => ?_) (fun c5 => ?_)
  · have hf := sg_ip c5 hf
    refine lv_iconst (v := 0) hx hb dX6_flowOf_18 (by decide) ?_
    have hq := Option.some.inj hf
    exact sg_iret hx hb hr hP hD hS dX6_flowOf_19 (congrArg Prod.fst hq) (congrArg Prod.snd hq) hlocks
  · have hf := sg_in c5 hf
    refine lv_aload_n hx hb dX6_flowOf_9 rfl (lv_at hl 0 rfl) ?_
    refine lv_iload_n hx hb dX6_flowOf_10 rfl (lv_at hl 1 rfl) ?_
    refine lv_iconst (v := (-1)) hx hb dX6_flowOf_11 (by decide) ?_
    obtain ⟨r3, u4, hc2, hf⟩ := sg_b2_s hf
    refine sg_ci (va_runV (As := [.int p1, .int ((-1))]) (rest := []) ⟨hx, hb, hml, hown, hts⟩ (c_X6_flow l D cA ad N _ _ _ _ _ hc2 _) (cwV 2 hts gX6_flowOf_X6_flow rfl rfl rfl (by decide +kernel) ⟨Nat.le_of_ble_eq_true rfl, Nat.le_of_ble_eq_true rfl⟩) (sg_pre hK hP hD (ci := 8) (q0 := 0) rfl rfl) rfl rfl hl.1 rfl (lv_room (Nat.le_of_ble_eq_true rfl)) dX6_flowOf_12 ⟨Nat.zero_le _, Nat.zero_le _⟩) hD hS hA (fun H locs hP hD hS => ?_)
    refine lv_goto (tgt := 19) hx hb dX6_flowOf_15 (by decide) ?_
    have hq := Option.some.inj hf
    exact sg_iret hx hb hr hP hD hS dX6_flowOf_19 (congrArg Prod.fst hq) (congrArg Prod.snd hq) hlocks
