set_option maxRecDepth 100000 in
set_option maxHeartbeats 8000000 in
theorem c_L_sum (l : Launch) (hlt : l.stackTraces = false) (D : va_G) (cA : Nat → ClassId) (ad : Nat → Nat) (N : Nat) (u : sg_St) (r9 : Int64) (u9 : sg_St) (hf : fL_sum N u = some (r9, u9)) : sg_LL l D cA (sg_WX cA ad) yL_sum wsL_sum ({ frames := 11, cells := 37, slots := 222, locals := 464 }) [.ref (ad 0)] u 37 222 r9 u9 := by
  intro sz
  refine Met.ofW (cc := cL_sum) (maxL := 4) (ret := (some .long)) (by decide) rfl ?_
  intro p e s m args below meth c s₁ B hml hv
  obtain ⟨rfl, ⟨hsz, hP, hK, hD0⟩, hT, hN⟩ := hv
  have hx := B.exec
  have hb := B.bytes
  have hr := B.returns
  have hts := atoms_spec (ws := wsL_sum) B.pre
  have hown : s.vm.findClass RL = some m.cls := findClass_of_methodNamed B.named
  have hlocks := B.notSynchronized
  subst hsz
  have hD := hD0.self (sz := s.heap.size)
  replace hP : va_P D vwCl (sg_WX cA ad u) s.heap := hP
  replace hD : va_D (va_A (sg_WX cA ad u) s.heap.size) (sg_WX cA ad u) := hD
  replace hT : sg_TT (va_A (sg_WX cA ad u) s.heap.size) s := hT
  show W p l e _ s m _ below meth c s.heap [] 0 0 (MQ below (va_Ql (fun x y => x = r9 ∧ y = u9) (sg_BX D (sg_WX cA ad) (va_A (sg_WX cA ad u) s.heap.size)) (va_A (sg_WX cA ad u) s.heap.size)) _ s 37 222 (va_A (sg_WX cA ad u) s.heap.size)) _
  generalize hAe : va_A (sg_WX cA ad u) s.heap.size = A at hD hT ⊢
  have hA : ∀ q : Nat, s.heap.size ≤ q → A q := fun q h => by rw [← hAe]; exact Or.inr h
  have hS : va_S A s.heap s.heap [] := va_S.rf
  have hl := lv_entry ([.ref (ad 0)]) (n := 4) (Nat.le_of_ble_eq_true rfl)
  rw [lg_entry_eq]
  generalize (lg_sl ([.ref (ad 0)]) ++ List.replicate (4 - (lg_sl ([.ref (ad 0)])).length) Slot.unset).toArray = ls at hl ⊢
  replace hl : lv_has ls 4 [(0, .ref (ad 0))] := hl
  replace hP : va_P D vwCl (sg_WX cA ad u ++ []) s.heap := by rw [List.append_nil]; exact hP
  replace hD : va_D A (sg_WX cA ad u ++ []) := by rw [List.append_nil]; exact hD
  have hL8 : ∀ (n : Nat) (x : sg_St × Int64 × Int32) (r9x : sg_St × Int64), sg_it (fun x => fL_sum_L8 N x.1 x.2.1 x.2.2) n x = some r9x → ∀ kc kz KE ZE : Nat, kc + n * 2 ≤ KE → kz + n * 12 ≤ ZE → KE ≤ 37 → ZE ≤ 222 → ∀ (H : Heap) (locs : List Loc) (ls : Array Slot), va_P D vwCl (sg_WX cA ad x.1 ++ []) H → va_D A (sg_WX cA ad x.1 ++ []) → va_S A s.heap H locs → lv_has ls 4 [(0, .ref (ad 0)), (1, .long x.2.1), (3, .int x.2.2)] → (∀ (H : Heap) (locs : List Loc) (ls : Array Slot), va_P D vwCl (sg_WX cA ad r9x.1 ++ []) H → va_D A (sg_WX cA ad r9x.1 ++ []) → va_S A s.heap H locs → lv_has ls 4 [(0, .ref (ad 0)), (1, .long r9x.2)] → W p l e (headSpec wsL_sum ({ frames := 11, cells := 37, slots := 222, locals := 464 })).room s m ([.ref (ad 0)] : List Value).toArray below meth c H locs KE ZE (MQ below (va_Ql (fun x y => x = r9 ∧ y = u9) (sg_BX D (sg_WX cA ad) A) A) ([.ref (ad 0)] : List Value).toArray s 37 222 A) (F0 m 46 ls [])) → W p l e (headSpec wsL_sum ({ frames := 11, cells := 37, slots := 222, locals := 464 })).room s m ([.ref (ad 0)] : List Value).toArray below meth c H locs kc kz (MQ below (va_Ql (fun x y => x = r9 ∧ y = u9) (sg_BX D (sg_WX cA ad) A) A) ([.ref (ad 0)] : List Value).toArray s 37 222 A) (F0 m 8 ls []) := by
    refine sg_loopN _ ?_
    intro n x y r9x hf hI hy kc kz KE ZE hKn hZn hKR hZR H locs ls hP hD hS hl hk
    replace hf : fL_sum_L8 N x.1 x.2.1 x.2.2 = some y := hf
    unfold fL_sum_L8 at hf
    refine lv_iload_n hx hb dL_sum_8 rfl (lv_at hl 2 rfl) ?_
    refine lv_aload_n hx hb dL_sum_9 rfl (lv_at hl 0 rfl) ?_
    obtain ⟨r1, hc2, hf⟩ := sg_b_s hf
    refine sg_lj (va_runV (As := []) (rest := [.int x.2.2]) ⟨hx, hb, hml, hown, hts⟩ (c_X5_lines l D cA ad N _ _ hc2 _) (cwV 0 hts gL_sum_X5_lines rfl rfl rfl (by decide +kernel) ⟨Nat.le_of_ble_eq_true rfl, Nat.le_of_ble_eq_true rfl⟩) (sg_pre (Wf := sg_WX cA ad) hK (sg_Pl hP) (sg_Dl hD) (ci := 7) (q0 := 0) rfl rfl) rfl rfl hl.1 rfl (lv_room (Nat.le_of_ble_eq_true rfl)) dL_sum_10 ⟨by show kc + 0 + 0 ≤ 37; omega, by show kz + 0 + 0 ≤ 222; omega⟩) hP hD hS hA (fun H locs hP hD hS => ?_)
    refine lv_icmp_ge (tgt := 46) hx hb dL_sum_13 (by decide) (fun c10 => ?_) (fun c10 => ?_)
    · have hf := sg_ip c10 hf
      have hq := hy _ (Option.some.inj hf).symm
      subst hq
      refine W.widen (k := KE) (n := ZE) (by omega) (by omega) ?_
      exact hk _ _ _ hP hD hS (lv_sub hl [0, 1] rfl)
    · have hf := sg_in c10 hf
      refine lv_ldc2 (v := 31) hx hb hown (hts (.constantLong RL 223 (31)) (by decide +kernel)) dL_sum_16 ?_
      refine lv_lload_n hx hb dL_sum_19 rfl (lv_at hl 1 rfl) ?_
      refine lv_lmul hx hb dL_sum_20 ?_
      refine lv_aload_n hx hb dL_sum_21 rfl (lv_at hl 0 rfl) ?_
      refine lv_iload_n hx hb dL_sum_22 rfl (lv_at hl 2 rfl) ?_
      obtain ⟨r4, u6, hc5, hf⟩ := sg_b2_s hf
      refine sg_li (Wf := sg_WX cA ad) (vx_runSW (hh := [(0, 13, 14, 32)]) (As := [.ref (ad 0), .int x.2.2]) (rest := [.long (31 * x.2.1)]) ⟨hx, hb, hml, hown, hts⟩ (c_L_isClosed l hlt D cA ad N _ _ _ _ hc5 _) (vx_cwSW (hh := [(0, 13, 14, 32)]) 2 hts gL_sum_L_isClosed rfl rfl rfl (by decide +kernel) ⟨Nat.le_of_ble_eq_true rfl, Nat.le_of_ble_eq_true rfl⟩) (sg_preL (w0 := sg_WX cA ad x.1) hK (sg_Pl hP) (sg_Dl hD) hT hN hS hA) rfl rfl hl.1 rfl (lv_room (Nat.le_of_ble_eq_true rfl)) dL_sum_23 ⟨by show kc + 0 + 1 ≤ 37; omega, by show kz + 0 + 6 ≤ 222; omega⟩) hP hD hS hA (fun H locs hP hD hS => ?_)
      refine lv_i2l (v := (r4).toInt64) hx hb dL_sum_26 rfl ?_
      refine lv_ladd hx hb dL_sum_27 ?_
      refine lv_ldc2 (v := 2) hx hb hown (hts (.constantLong RL 225 (2)) (by decide +kernel)) dL_sum_28 ?_
      refine lv_aload_n hx hb dL_sum_31 rfl (lv_at hl 0 rfl) ?_
      refine lv_iload_n hx hb dL_sum_32 rfl (lv_at hl 2 rfl) ?_
      obtain ⟨r7, u9, hc8, hf⟩ := sg_b2_s hf
      refine sg_li (Wf := sg_WX cA ad) (vx_runSW (hh := [(0, 13, 14, 32)]) (As := [.ref (ad 0), .int x.2.2]) (rest := [.long 2, .long ((31 * x.2.1) + ((r4).toInt64))]) ⟨hx, hb, hml, hown, hts⟩ (c_L_isLocked l hlt D cA ad N _ _ _ _ hc8 _) (vx_cwSW (hh := [(0, 13, 14, 32)]) 2 hts gL_sum_L_isLocked rfl rfl rfl (by decide +kernel) ⟨Nat.le_of_ble_eq_true rfl, Nat.le_of_ble_eq_true rfl⟩) (sg_preL (w0 := sg_WX cA ad u6) hK (sg_Pl hP) (sg_Dl hD) hT hN hS hA) rfl rfl hl.1 rfl (lv_room (Nat.le_of_ble_eq_true rfl)) dL_sum_33 ⟨by show kc + 1 + 1 ≤ 37; omega, by show kz + 6 + 6 ≤ 222; omega⟩) hP hD hS hA (fun H locs hP hD hS => ?_)
      refine lv_i2l (v := (r7).toInt64) hx hb dL_sum_36 rfl ?_
      refine lv_lmul hx hb dL_sum_37 ?_
      refine lv_ladd hx hb dL_sum_38 ?_
      refine lv_lstore_n (lv' := [(1, .long (((31 * x.2.1) + ((r4).toInt64)) + (2 * ((r7).toInt64)))), (0, .ref (ad 0)), (3, .int x.2.2)]) hx hb dL_sum_39 rfl hl (by decide) rfl (fun ls hl => ?_)
      refine lv_iinc (v := x.2.2 + 1) (lv' := [(3, .int (x.2.2 + 1)), (1, .long (((31 * x.2.1) + ((r4).toInt64)) + (2 * ((r7).toInt64)))), (0, .ref (ad 0))]) hx hb dL_sum_40 hl (k := 2) rfl rfl (by decide) rfl (fun ls hl => ?_)
      refine lv_goto (tgt := 8) hx hb dL_sum_43 (by decide) ?_
      refine W.widen (k := kc + 2) (n := kz + 12) (by omega) (by omega) ?_
      exact hI _ (Option.some.inj hf).symm (kc + 2) (kz + 12) KE ZE (by omega) (by omega) hKR hZR _ _ _ hP hD hS (lv_sub hl [2, 1, 0] rfl) hk
  have hL48 : ∀ (n : Nat) (x : sg_St × Int64 × Int32) (r9x : sg_St × Int64), sg_it (fun x => fL_sum_L48 N x.1 x.2.1 x.2.2) n x = some r9x → ∀ kc kz KE ZE : Nat, kc + n * 1 ≤ KE → kz + n * 6 ≤ ZE → KE ≤ 37 → ZE ≤ 222 → ∀ (H : Heap) (locs : List Loc) (ls : Array Slot), va_P D vwCl (sg_WX cA ad x.1 ++ []) H → va_D A (sg_WX cA ad x.1 ++ []) → va_S A s.heap H locs → lv_has ls 4 [(0, .ref (ad 0)), (1, .long x.2.1), (3, .int x.2.2)] → (∀ (H : Heap) (locs : List Loc) (ls : Array Slot), va_P D vwCl (sg_WX cA ad r9x.1 ++ []) H → va_D A (sg_WX cA ad r9x.1 ++ []) → va_S A s.heap H locs → lv_has ls 4 [(1, .long r9x.2)] → W p l e (headSpec wsL_sum ({ frames := 11, cells := 37, slots := 222, locals := 464 })).room s m ([.ref (ad 0)] : List Value).toArray below meth c H locs KE ZE (MQ below (va_Ql (fun x y => x = r9 ∧ y = u9) (sg_BX D (sg_WX cA ad) A) A) ([.ref (ad 0)] : List Value).toArray s 37 222 A) (F0 m 75 ls [])) → W p l e (headSpec wsL_sum ({ frames := 11, cells := 37, slots := 222, locals := 464 })).room s m ([.ref (ad 0)] : List Value).toArray below meth c H locs kc kz (MQ below (va_Ql (fun x y => x = r9 ∧ y = u9) (sg_BX D (sg_WX cA ad) A) A) ([.ref (ad 0)] : List Value).toArray s 37 222 A) (F0 m 48 ls []) := by
    refine sg_loopN _ ?_
    intro n x y r9x hf hI hy kc kz KE ZE hKn hZn hKR hZR H locs ls hP hD hS hl hk
    replace hf : fL_sum_L48 N x.1 x.2.1 x.2.2 = some y := hf
    unfold fL_sum_L48 at hf
    refine lv_iload_n hx hb dL_sum_48 rfl (lv_at hl 2 rfl) ?_
    refine lv_aload_n hx hb dL_sum_49 rfl (lv_at hl 0 rfl) ?_
    obtain ⟨r1, hc2, hf⟩ := sg_b_s hf
    refine sg_lj (va_runV (As := []) (rest := [.int x.2.2]) ⟨hx, hb, hml, hown, hts⟩ (c_X5_nodes l D cA ad N _ _ hc2 _) (cwV 0 hts gL_sum_X5_nodes rfl rfl rfl (by decide +kernel) ⟨Nat.le_of_ble_eq_true rfl, Nat.le_of_ble_eq_true rfl⟩) (sg_pre (Wf := sg_WX cA ad) hK (sg_Pl hP) (sg_Dl hD) (ci := 7) (q0 := 0) rfl rfl) rfl rfl hl.1 rfl (lv_room (Nat.le_of_ble_eq_true rfl)) dL_sum_50 ⟨by show kc + 0 + 0 ≤ 37; omega, by show kz + 0 + 0 ≤ 222; omega⟩) hP hD hS hA (fun H locs hP hD hS => ?_)
    refine lv_icmp_ge (tgt := 75) hx hb dL_sum_53 (by decide) (fun c7 => ?_) (fun c7 => ?_)
    · have hf := sg_ip c7 hf
      have hq := hy _ (Option.some.inj hf).symm
      subst hq
      refine W.widen (k := KE) (n := ZE) (by omega) (by omega) ?_
      exact hk _ _ _ hP hD hS (lv_sub hl [1] rfl)
    · have hf := sg_in c7 hf
      refine lv_ldc2 (v := 131) hx hb hown (hts (.constantLong RL 230 (131)) (by decide +kernel)) dL_sum_56 ?_
      refine lv_lload_n hx hb dL_sum_59 rfl (lv_at hl 1 rfl) ?_
      refine lv_lmul hx hb dL_sum_60 ?_
      refine lv_aload_n hx hb dL_sum_61 rfl (lv_at hl 0 rfl) ?_
      refine lv_iload_n hx hb dL_sum_62 rfl (lv_at hl 2 rfl) ?_
      obtain ⟨r4, u6, hc5, hf⟩ := sg_b2_s hf
      refine sg_li (Wf := sg_WX cA ad) (vx_runSW (hh := [(0, 5, 6, 32)]) (As := [.ref (ad 0), .int x.2.2]) (rest := [.long (131 * x.2.1)]) ⟨hx, hb, hml, hown, hts⟩ (c_L_loadOf l hlt D cA ad N _ _ _ _ hc5 _) (vx_cwSW (hh := [(0, 5, 6, 32)]) 2 hts gL_sum_L_loadOf rfl rfl rfl (by decide +kernel) ⟨Nat.le_of_ble_eq_true rfl, Nat.le_of_ble_eq_true rfl⟩) (sg_preL (w0 := sg_WX cA ad x.1) hK (sg_Pl hP) (sg_Dl hD) hT hN hS hA) rfl rfl hl.1 rfl (lv_room (Nat.le_of_ble_eq_true rfl)) dL_sum_63 ⟨by show kc + 0 + 1 ≤ 37; omega, by show kz + 0 + 6 ≤ 222; omega⟩) hP hD hS hA (fun H locs hP hD hS => ?_)
      refine lv_i2l (v := (r4).toInt64) hx hb dL_sum_66 rfl ?_
      refine lv_ladd hx hb dL_sum_67 ?_
      refine lv_lstore_n (lv' := [(1, .long ((131 * x.2.1) + ((r4).toInt64))), (0, .ref (ad 0)), (3, .int x.2.2)]) hx hb dL_sum_68 rfl hl (by decide) rfl (fun ls hl => ?_)
      refine lv_iinc (v := x.2.2 + 1) (lv' := [(3, .int (x.2.2 + 1)), (1, .long ((131 * x.2.1) + ((r4).toInt64))), (0, .ref (ad 0))]) hx hb dL_sum_69 hl (k := 2) rfl rfl (by decide) rfl (fun ls hl => ?_)
      refine lv_goto (tgt := 48) hx hb dL_sum_72 (by decide) ?_
      refine W.widen (k := kc + 1) (n := kz + 6) (by omega) (by omega) ?_
      exact hI _ (Option.some.inj hf).symm (kc + 1) (kz + 6) KE ZE (by omega) (by omega) hKR hZR _ _ _ hP hD hS (lv_sub hl [2, 1, 0] rfl) hk
  unfold fL_sum at hf
  refine lv_aload_n hx hb dL_sum_0 rfl (lv_at hl 0 rfl) ?_
  obtain ⟨r1, hc2, hf⟩ := sg_b_s hf
  refine sg_lj (va_runV (As := []) (rest := []) ⟨hx, hb, hml, hown, hts⟩ (c_X5_trips l D cA ad N _ _ hc2 _) (cwV 0 hts gL_sum_X5_trips rfl rfl rfl (by decide +kernel) ⟨Nat.le_of_ble_eq_true rfl, Nat.le_of_ble_eq_true rfl⟩) (sg_pre (Wf := sg_WX cA ad) hK (sg_Pl hP) (sg_Dl hD) (ci := 7) (q0 := 0) rfl rfl) rfl rfl hl.1 rfl (lv_room (Nat.le_of_ble_eq_true rfl)) dL_sum_1 ⟨Nat.le_of_ble_eq_true rfl, Nat.le_of_ble_eq_true rfl⟩) hP hD hS hA (fun H locs hP hD hS => ?_)
  refine lv_i2l (v := (r1).toInt64) hx hb dL_sum_4 rfl ?_
  refine lv_lstore_n (lv' := [(1, .long ((r1).toInt64)), (0, .ref (ad 0))]) hx hb dL_sum_5 rfl hl (by decide) rfl (fun ls hl => ?_)
  refine lv_iconst (v := 0) hx hb dL_sum_6 (by decide) ?_
  refine lv_istore_n (lv' := [(3, .int 0), (1, .long ((r1).toInt64)), (0, .ref (ad 0))]) hx hb dL_sum_7 rfl hl (by decide) rfl (fun ls hl => ?_)
  obtain ⟨e4, hc5, hf⟩ := sg_b_s hf
  refine hL8 _ _ _ hc5 0 0 26 156 (Nat.le_of_ble_eq_true rfl) (Nat.le_of_ble_eq_true rfl) (Nat.le_of_ble_eq_true rfl) (Nat.le_of_ble_eq_true rfl) _ _ _ hP hD hS (lv_sub hl [2, 1, 0] rfl) (fun H locs ls hP hD hS hl => ?_)
  refine lv_iconst (v := 0) hx hb dL_sum_46 (by decide) ?_
  refine lv_istore_n (lv' := [(3, .int 0), (0, .ref (ad 0)), (1, .long e4.2)]) hx hb dL_sum_47 rfl hl (by decide) rfl (fun ls hl => ?_)
  obtain ⟨e6, hc7, hf⟩ := sg_b_s hf
  refine hL48 _ _ _ hc7 26 156 37 222 (Nat.le_of_ble_eq_true rfl) (Nat.le_of_ble_eq_true rfl) (Nat.le_of_ble_eq_true rfl) (Nat.le_of_ble_eq_true rfl) _ _ _ hP hD hS (lv_sub hl [1, 2, 0] rfl) (fun H locs ls hP hD hS hl => ?_)
  refine lv_lload_n hx hb dL_sum_75 rfl (lv_at hl 0 rfl) ?_
  have hq := Option.some.inj hf
  exact sg_lrl hx hb hr (sg_Pl hP) (sg_Dl hD) hS dL_sum_76 (congrArg Prod.fst hq) (congrArg Prod.snd hq) hlocks (Nat.le_of_ble_eq_true rfl) (Nat.le_of_ble_eq_true rfl)
