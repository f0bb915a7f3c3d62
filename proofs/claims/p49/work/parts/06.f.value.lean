set_option maxRecDepth 100000 in
set_option maxHeartbeats 8000000 in
theorem c_L_value (l : Launch) (hlt : l.stackTraces = false) (D : va_G) (cA : Nat → ClassId) (ad : Nat → Nat) (N : Nat) (u : sg_St) (r9 : Int32) (u9 : sg_St) (hf : fL_value N u = some (r9, u9)) : sg_LI l D cA (sg_WX cA ad) yL_value wsL_value ({ frames := 11, cells := 44, slots := 264, locals := 464 }) [.ref (ad 0)] u 44 264 r9 u9 := by
  intro sz
  refine Met.ofW (cc := cL_value) (maxL := 3) (ret := (some .int)) (by decide) rfl ?_
  intro p e s m args below meth c s₁ B hml hv
  obtain ⟨rfl, ⟨hsz, hP, hK, hD0⟩, hT, hN⟩ := hv
  have hx := B.exec
  have hb := B.bytes
  have hr := B.returns
  have hts := atoms_spec (ws := wsL_value) B.pre
  have hown : s.vm.findClass RL = some m.cls := findClass_of_methodNamed B.named
  have hlocks := B.notSynchronized
  subst hsz
  have hD := hD0.self (sz := s.heap.size)
  replace hP : va_P D vwCl (sg_WX cA ad u) s.heap := hP
  replace hD : va_D (va_A (sg_WX cA ad u) s.heap.size) (sg_WX cA ad u) := hD
  replace hT : sg_TT (va_A (sg_WX cA ad u) s.heap.size) s := hT
  show W p l e _ s m _ below meth c s.heap [] 0 0 (MQ below (va_Qi (fun x y => x = r9 ∧ y = u9) (sg_BX D (sg_WX cA ad) (va_A (sg_WX cA ad u) s.heap.size)) (va_A (sg_WX cA ad u) s.heap.size)) _ s 44 264 (va_A (sg_WX cA ad u) s.heap.size)) _
  generalize hAe : va_A (sg_WX cA ad u) s.heap.size = A at hD hT ⊢
  have hA : ∀ q : Nat, s.heap.size ≤ q → A q := fun q h => by rw [← hAe]; exact Or.inr h
  have hS : va_S A s.heap s.heap [] := va_S.rf
  have hl := lv_entry ([.ref (ad 0)]) (n := 3) (Nat.le_of_ble_eq_true rfl)
  rw [lg_entry_eq]
  generalize (lg_sl ([.ref (ad 0)]) ++ List.replicate (3 - (lg_sl ([.ref (ad 0)])).length) Slot.unset).toArray = ls at hl ⊢
  replace hl : lv_has ls 3 [(0, .ref (ad 0))] := hl
  replace hP : va_P D vwCl (sg_WX cA ad u ++ []) s.heap := by rw [List.append_nil]; exact hP
  replace hD : va_D A (sg_WX cA ad u ++ []) := by rw [List.append_nil]; exact hD
  have hL4 : ∀ (n : Nat) (x : sg_St × Int32 × Int32) (r9x : sg_St × Int32), sg_it (fun x => fL_value_L4 N x.1 x.2.1 x.2.2) n x = some r9x → ∀ kc kz KE ZE : Nat, kc + n * 4 ≤ KE → kz + n * 24 ≤ ZE → KE ≤ 44 → ZE ≤ 264 → ∀ (H : Heap) (locs : List Loc) (ls : Array Slot), va_P D vwCl (sg_WX cA ad x.1 ++ []) H → va_D A (sg_WX cA ad x.1 ++ []) → va_S A s.heap H locs → lv_has ls 3 [(0, .ref (ad 0)), (1, .int x.2.1), (2, .int x.2.2)] → (∀ (H : Heap) (locs : List Loc) (ls : Array Slot), va_P D vwCl (sg_WX cA ad r9x.1 ++ []) H → va_D A (sg_WX cA ad r9x.1 ++ []) → va_S A s.heap H locs → lv_has ls 3 [(1, .int r9x.2)] → W p l e (headSpec wsL_value ({ frames := 11, cells := 44, slots := 264, locals := 464 })).room s m ([.ref (ad 0)] : List Value).toArray below meth c H locs KE ZE (MQ below (va_Qi (fun x y => x = r9 ∧ y = u9) (sg_BX D (sg_WX cA ad) A) A) ([.ref (ad 0)] : List Value).toArray s 44 264 A) (F0 m 47 ls [])) → W p l e (headSpec wsL_value ({ frames := 11, cells := 44, slots := 264, locals := 464 })).room s m ([.ref (ad 0)] : List Value).toArray below meth c H locs kc kz (MQ below (va_Qi (fun x y => x = r9 ∧ y = u9) (sg_BX D (sg_WX cA ad) A) A) ([.ref (ad 0)] : List Value).toArray s 44 264 A) (F0 m 4 ls []) := by
    refine sg_loopN _ ?_
    intro n x y r9x hf hI hy kc kz KE ZE hKn hZn hKR hZR H locs ls hP hD hS hl hk
    replace hf : fL_value_L4 N x.1 x.2.1 x.2.2 = some y := hf
    have hJ39 : ∀ (u : sg_St) (v2 : Int32) (k0 : Int32) (k1 : Int32) (H : Heap) (locs : List Loc) (ls : Array Slot), fL_value_j39 N u v2 k0 k1 = some y → va_P D vwCl (sg_WX cA ad u ++ []) H → va_D A (sg_WX cA ad u ++ []) → va_S A s.heap H locs → lv_has ls 3 [(0, .ref (ad 0)), (2, .int v2)] → W p l e (headSpec wsL_value ({ frames := 11, cells := 44, slots := 264, locals := 464 })).room s m ([.ref (ad 0)] : List Value).toArray below meth c H locs (kc + 4) (kz + 24) (MQ below (va_Qi (fun x y => x = r9 ∧ y = u9) (sg_BX D (sg_WX cA ad) A) A) ([.ref (ad 0)] : List Value).toArray s 44 264 A) (F0 m 39 ls [.int k1, .int k0]) := by
      intro u v2 k0 k1 H locs ls hf hP hD hS hl
      unfold fL_value_j39 at hf
      refine lv_iadd hx hb dL_value_39 ?_
      refine lv_istore_n (lv' := [(1, .int (k0 + k1)), (0, .ref (ad 0)), (2, .int v2)]) hx hb dL_value_40 rfl hl (by decide) rfl (fun ls hl => ?_)
      refine lv_iinc (v := v2 + 1) (lv' := [(2, .int (v2 + 1)), (1, .int (k0 + k1)), (0, .ref (ad 0))]) hx hb dL_value_41 hl (k := 2) rfl rfl (by decide) rfl (fun ls hl => ?_)
      refine lv_goto (tgt := 4) hx hb dL_value_44 (by decide) ?_
      refine W.widen (k := kc + 4) (n := kz + 24) (by omega) (by omega) ?_
      exact hI _ (Option.some.inj hf).symm (kc + 4) (kz + 24) KE ZE (by omega) (by omega) hKR hZR _ _ _ hP hD hS (lv_sub hl [2, 1, 0] rfl) hk
    have hJ38 : ∀ (u : sg_St) (v2 : Int32) (k0 : Int32) (H : Heap) (locs : List Loc) (ls : Array Slot), fL_value_j38 N u v2 k0 = some y → va_P D vwCl (sg_WX cA ad u ++ []) H → va_D A (sg_WX cA ad u ++ []) → va_S A s.heap H locs → lv_has ls 3 [(0, .ref (ad 0)), (2, .int v2)] → W p l e (headSpec wsL_value ({ frames := 11, cells := 44, slots := 264, locals := 464 })).room s m ([.ref (ad 0)] : List Value).toArray below meth c H locs (kc + 2) (kz + 12) (MQ below (va_Qi (fun x y => x = r9 ∧ y = u9) (sg_BX D (sg_WX cA ad) A) A) ([.ref (ad 0)] : List Value).toArray s 44 264 A) (F0 m 38 ls [.int k0]) := by
      intro u v2 k0 H locs ls hf hP hD hS hl
      unfold fL_value_j38 at hf
      refine lv_iconst (v := 0) hx hb dL_value_38 (by decide) ?_
      refine W.widen (k := kc + 4) (n := kz + 24) (by omega) (by omega) ?_
      exact hJ39 _ _ _ _ _ _ _ hf hP hD hS (lv_sub hl [0, 1] rfl)
    unfold fL_value_L4 at hf
    refine lv_iload_n hx hb dL_value_4 rfl (lv_at hl 2 rfl) ?_
    refine lv_aload_n hx hb dL_value_5 rfl (lv_at hl 0 rfl) ?_
    obtain ⟨r1, hc2, hf⟩ := sg_b_s hf
    refine sg_lj (va_runV (As := []) (rest := [.int x.2.2]) ⟨hx, hb, hml, hown, hts⟩ (c_X5_nodes l D cA ad N _ _ hc2 _) (cwV 0 hts gL_value_X5_nodes rfl rfl rfl (by decide +kernel) ⟨Nat.le_of_ble_eq_true rfl, Nat.le_of_ble_eq_true rfl⟩) (sg_pre (Wf := sg_WX cA ad) hK (sg_Pl hP) (sg_Dl hD) (ci := 7) (q0 := 0) rfl rfl) rfl rfl hl.1 rfl (lv_room (Nat.le_of_ble_eq_true rfl)) dL_value_6 ⟨by show kc + 0 + 0 ≤ 44; omega, by show kz + 0 + 0 ≤ 264; omega⟩) hP hD hS hA (fun H locs hP hD hS => ?_)
    refine lv_icmp_ge (tgt := 47) hx hb dL_value_9 (by decide) (fun c15 => ?_) (fun c15 => ?_)
    · have hf := sg_ip c15 hf
      have hq := hy _ (Option.some.inj hf).symm
      subst hq
      refine W.widen (k := KE) (n := ZE) (by omega) (by omega) ?_
      exact hk _ _ _ hP hD hS (lv_sub hl [1] rfl)
    · have hf := sg_in c15 hf
      refine lv_iload_n hx hb dL_value_12 rfl (lv_at hl 1 rfl) ?_
      refine lv_aload_n hx hb dL_value_13 rfl (lv_at hl 0 rfl) ?_
      refine lv_iload_n hx hb dL_value_14 rfl (lv_at hl 2 rfl) ?_
      obtain ⟨r4, u6, hc5, hf⟩ := sg_b2_s hf
      refine sg_li (Wf := sg_WX cA ad) (vx_runSW (hh := [(0, 13, 14, 32)]) (As := [.ref (ad 0), .int x.2.2]) (rest := [.int x.2.1]) ⟨hx, hb, hml, hown, hts⟩ (c_L_isSource l hlt D cA ad N _ _ _ _ hc5 _) (vx_cwSW (hh := [(0, 13, 14, 32)]) 2 hts gL_value_L_isSource rfl rfl rfl (by decide +kernel) ⟨Nat.le_of_ble_eq_true rfl, Nat.le_of_ble_eq_true rfl⟩) (sg_preL (w0 := sg_WX cA ad x.1) hK (sg_Pl hP) (sg_Dl hD) hT hN hS hA) rfl rfl hl.1 rfl (lv_room (Nat.le_of_ble_eq_true rfl)) dL_value_15 ⟨by show kc + 0 + 1 ≤ 44; omega, by show kz + 0 + 6 ≤ 264; omega⟩) hP hD hS hA (fun H locs hP hD hS => ?_)
      refine lv_if_ne (tgt := 38) hx hb dL_value_18 (by decide) (fun c14 => ?_) (fun c14 => ?_)
      · have hf := sg_in c14 hf
        refine W.widen (k := kc + 2) (n := kz + 12) (by omega) (by omega) ?_
        exact hJ38 _ _ _ _ _ _ hf hP hD hS (lv_sub hl [0, 2] rfl)
      · have hf := sg_ip c14 hf
        refine lv_aload_n hx hb dL_value_21 rfl (lv_at hl 0 rfl) ?_
        refine lv_iload_n hx hb dL_value_22 rfl (lv_at hl 2 rfl) ?_
        obtain ⟨r7, u9, hc8, hf⟩ := sg_b2_s hf
        refine sg_li (Wf := sg_WX cA ad) (vx_runSW (hh := [(0, 13, 14, 32)]) (As := [.ref (ad 0), .int x.2.2]) (rest := [.int x.2.1]) ⟨hx, hb, hml, hown, hts⟩ (c_L_isLive l hlt D cA ad N _ _ _ _ hc8 _) (vx_cwSW (hh := [(0, 13, 14, 32)]) 2 hts gL_value_L_isLive rfl rfl rfl (by decide +kernel) ⟨Nat.le_of_ble_eq_true rfl, Nat.le_of_ble_eq_true rfl⟩) (sg_preL (w0 := sg_WX cA ad u6) hK (sg_Pl hP) (sg_Dl hD) hT hN hS hA) rfl rfl hl.1 rfl (lv_room (Nat.le_of_ble_eq_true rfl)) dL_value_23 ⟨by show kc + 1 + 1 ≤ 44; omega, by show kz + 6 + 6 ≤ 264; omega⟩) hP hD hS hA (fun H locs hP hD hS => ?_)
        refine lv_iconst (v := 1) hx hb dL_value_26 (by decide) ?_
        refine lv_icmp_ne (tgt := 38) hx hb dL_value_27 (by decide) (fun c13 => ?_) (fun c13 => ?_)
        · have hf := sg_in c13 hf
          exact hJ38 _ _ _ _ _ _ hf hP hD hS (lv_sub hl [0, 2] rfl)
        · have hf := sg_ip c13 hf
          refine lv_aload_n hx hb dL_value_30 rfl (lv_at hl 0 rfl) ?_
          refine lv_iload_n hx hb dL_value_31 rfl (lv_at hl 2 rfl) ?_
          obtain ⟨r10, u12, hc11, hf⟩ := sg_b2_s hf
          refine sg_li (Wf := sg_WX cA ad) (vx_runSW (hh := [(0, 5, 6, 32), (0, 5, 10, 37)]) (As := [.ref (ad 0), .int x.2.2]) (rest := [.int x.2.1]) ⟨hx, hb, hml, hown, hts⟩ (c_L_weight l hlt D cA ad N _ _ _ _ hc11 _) (vx_cwSW (hh := [(0, 5, 6, 32), (0, 5, 10, 37)]) 2 hts gL_value_L_weight rfl rfl rfl (by decide +kernel) ⟨Nat.le_of_ble_eq_true rfl, Nat.le_of_ble_eq_true rfl⟩) (sg_preL (w0 := sg_WX cA ad u9) hK (sg_Pl hP) (sg_Dl hD) hT hN hS hA) rfl rfl hl.1 rfl (lv_room (Nat.le_of_ble_eq_true rfl)) dL_value_32 ⟨by show kc + 2 + 2 ≤ 44; omega, by show kz + 12 + 12 ≤ 264; omega⟩) hP hD hS hA (fun H locs hP hD hS => ?_)
          refine lv_goto (tgt := 39) hx hb dL_value_35 (by decide) ?_
          exact hJ39 _ _ _ _ _ _ _ hf hP hD hS (lv_sub hl [0, 2] rfl)
  unfold fL_value at hf
  refine lv_iconst (v := 0) hx hb dL_value_0 (by decide) ?_
  refine lv_istore_n (lv' := [(1, .int 0), (0, .ref (ad 0))]) hx hb dL_value_1 rfl hl (by decide) rfl (fun ls hl => ?_)
  refine lv_iconst (v := 0) hx hb dL_value_2 (by decide) ?_
  refine lv_istore_n (lv' := [(2, .int 0), (1, .int 0), (0, .ref (ad 0))]) hx hb dL_value_3 rfl hl (by decide) rfl (fun ls hl => ?_)
  obtain ⟨e1, hc2, hf⟩ := sg_b_s hf
  refine hL4 _ _ _ hc2 0 0 44 264 (Nat.le_of_ble_eq_true rfl) (Nat.le_of_ble_eq_true rfl) (Nat.le_of_ble_eq_true rfl) (Nat.le_of_ble_eq_true rfl) _ _ _ hP hD hS (lv_sub hl [2, 1, 0] rfl) (fun H locs ls hP hD hS hl => ?_)
  refine lv_iload_n hx hb dL_value_47 rfl (lv_at hl 0 rfl) ?_
  have hq := Option.some.inj hf
  exact sg_lri hx hb hr (sg_Pl hP) (sg_Dl hD) hS dL_value_48 (congrArg Prod.fst hq) (congrArg Prod.snd hq) hlocks (Nat.le_of_ble_eq_true rfl) (Nat.le_of_ble_eq_true rfl)
