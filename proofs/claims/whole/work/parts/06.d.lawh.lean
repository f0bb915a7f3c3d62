set_option maxRecDepth 100000 in
set_option maxHeartbeats 4000000 in
theorem c_L_addSource (l : Launch) (hlt : l.stackTraces = false) (D : va_G) (cA : Nat → ClassId) (ad : Nat → Nat) (qo : Nat) (o : Nat → Int64) (N : Nat) (u : sg_St) (p1 : Int32) (R : (Nat ⊕ Int32) × sg_St) (hf : fX5_addSource N u p1 = some R) (hR : ∀ k t, R = (.inl k, t) → k ∈ [1, 0]) (sz : Nat) : Met l yL_addSource wsL_addSource ({ frames := 10, cells := 2, slots := 12, locals := 441 }) (va_Pc [.ref (ad 0), .int p1, .ref qo] (sg_PL D cA (sg_WL cA ad qo u o) sz)) (sg_QL D cA ad qo (va_A (sg_WL cA ad qo u o) sz) [1, 0] sg_up64 R o) 2 12 (va_A (sg_WL cA ad qo u o) sz) := by
  refine sg_ofWH (cc := cL_addSource) (maxL := 4) (ret := (some .int)) (by decide) rfl ?_
  intro p e s m args below meth c s₁ B hml hv
  obtain ⟨rfl, ⟨hsz, hP, hK, hD0⟩, hT, hN⟩ := hv
  have hx := B.exec
  have hb := B.bytes
  have hr := B.returns
  have hts := atoms_spec (ws := wsL_addSource) B.pre
  have hown : s.vm.findClass RL = some m.cls := findClass_of_methodNamed B.named
  have hlocks := B.notSynchronized
  have htb : c.exceptionTable.toList = tableOf [(0, 9, 12, 13), (0, 9, 15, 15)] := vx_table (x := ⟨"", "", ""⟩) B (hts _ List.mem_cons_self)
  subst hsz
  have hD := hD0.self (sz := s.heap.size)
  replace hP : va_P D vwCl (sg_WL cA ad qo u o) s.heap := hP
  replace hD : va_D (va_A (sg_WL cA ad qo u o) s.heap.size) (sg_WL cA ad qo u o) := hD
  generalize hAe : va_A (sg_WL cA ad qo u o) s.heap.size = A at hD hT ⊢
  have hA : ∀ q : Nat, s.heap.size ≤ q → A q := fun q h => by rw [← hAe]; exact Or.inr h
  have hS : va_S A s.heap s.heap [] := va_S.rf
  have hl := lv_entry ([.ref (ad 0), .int p1, .ref qo]) (n := 4) (Nat.le_of_ble_eq_true rfl)
  rw [lg_entry_eq]
  generalize (lg_sl ([.ref (ad 0), .int p1, .ref qo]) ++ List.replicate (4 - (lg_sl ([.ref (ad 0), .int p1, .ref qo])).length) Slot.unset).toArray = ls at hl ⊢
  replace hl : lv_has ls 4 [(0, .ref (ad 0)), (1, .int p1), (2, .ref qo)] := hl
  refine lv_aload_n hx hb dL_addSource_0 rfl (lv_at hl 2 rfl) ?_
  refine lv_iconst (v := 0) hx hb dL_addSource_1 (by decide) ?_
  refine lv_aload_n hx hb dL_addSource_2 rfl (lv_at hl 0 rfl) ?_
  refine lv_iload_n hx hb dL_addSource_3 rfl (lv_at hl 1 rfl) ?_
  refine sg_ui (vx_runV (As := [.int p1]) (rest := [.int 0, .ref qo]) ⟨hx, hb, hml, hown, hts⟩ (c_X5_addSource l hlt D cA ad N _ _ R hf _) (cwV 1 hts gL_addSource_X5_addSource rfl rfl rfl (by decide +kernel) ⟨Nat.le_of_ble_eq_true rfl, Nat.le_of_ble_eq_true rfl⟩) (sg_preU hK hP hD hT hS hA (ci := 7) (q0 := 0) rfl rfl) rfl rfl hl.1 rfl (lv_room (Nat.le_of_ble_eq_true rfl)) dL_addSource_4 ⟨Nat.le_of_ble_eq_true rfl, Nat.le_of_ble_eq_true rfl⟩) hP hD hS hA (fun k v E ce q9 H locs hr1 hE hP hD hS hce hcv hcl => ?_) (fun r v H locs hr1 hP hD hS => ?_)
  · have hk := hR k v hr1
    simp only [List.mem_cons, List.not_mem_nil, or_false] at hk
    rcases hk with rfl | rfl
    · replace hE : E = "java/lang/IllegalArgumentException" := hE
      subst hE
      refine vx_catch (own := RL) (name := "java/lang/IllegalArgumentException") hown [] ⟨0, 9, 12, 13⟩ [⟨0, 9, 15, 15⟩] (by rw [htb]; rfl) (fun z hz => absurd hz List.not_mem_nil) (by decide) (by decide) (hts (.classLink RL 13 "java/lang/IllegalArgumentException") (by decide +kernel)) (va_Nw.use rfl (hT.2.2.2.1 (54, "java/lang/IllegalArgumentException") (by decide))) hce hcv hcl ?_
      refine lv_astore_n (lv' := [(3, .ref q9), (0, .ref (ad 0)), (1, .int p1), (2, .ref qo)]) hx hb dL_addSource_12 rfl hl (by decide) rfl (fun ls hl => ?_)
      refine lv_iconst (v := 1) hx hb dL_addSource_13 (by decide) ?_
      exact sg_lret (wz := fun z => sg_WL cA ad qo z.1 z.2) (v, o) hx hb hr hP hD hS dL_addSource_14 (Or.inr ⟨_, hr1, rfl, rfl⟩) hlocks (by decide) (by decide)
    · replace hE : E = "java/lang/IllegalStateException" := hE
      subst hE
      refine vx_catch (own := RL) (name := "java/lang/IllegalStateException") hown [⟨0, 9, 12, 13⟩] ⟨0, 9, 15, 15⟩ [] (by rw [htb]; rfl) (List.forall_mem_cons.mpr ⟨Or.inr ⟨by decide, "java/lang/IllegalArgumentException", hts (.classLink RL 13 "java/lang/IllegalArgumentException") (by decide +kernel), hN ("java/lang/IllegalStateException", "java/lang/IllegalArgumentException") (by decide +kernel)⟩, fun _ h => absurd h List.not_mem_nil⟩) (by decide) (by decide) (hts (.classLink RL 15 "java/lang/IllegalStateException") (by decide +kernel)) (va_Nw.use rfl (hT.2.2.2.1 (104, "java/lang/IllegalStateException") (by decide))) hce hcv hcl ?_
      refine lv_astore_n (lv' := [(3, .ref q9), (0, .ref (ad 0)), (1, .int p1), (2, .ref qo)]) hx hb dL_addSource_15 rfl hl (by decide) rfl (fun ls hl => ?_)
      refine lv_iconst (v := 2) hx hb dL_addSource_16 (by decide) ?_
      exact sg_lret (wz := fun z => sg_WL cA ad qo z.1 z.2) (v, o) hx hb hr hP hD hS dL_addSource_17 (Or.inr ⟨_, hr1, rfl, rfl⟩) hlocks (by decide) (by decide)
  · refine lv_i2l (v := r.toInt64) hx hb dL_addSource_7 rfl ?_
    refine va_last hx hb hK.1 hP hD hS 0 2 rfl rfl (sg_inb_s (i := 0) (n := 1) (by decide)) dL_addSource_8 (fun H locs hP hD hS => ?_)
    refine lv_goto (tgt := 18) hx hb dL_addSource_9 (by decide) ?_
    refine lv_iconst (v := 0) hx hb dL_addSource_18 (by decide) ?_
    exact sg_lret (wz := fun z => sg_WL cA ad qo z.1 z.2) (v, vp_updL o (0 : Int32).toNatClampNeg r.toInt64) hx hb hr hP hD hS dL_addSource_19 (Or.inl ⟨r, hr1, rfl, rfl⟩) hlocks (by decide) (by decide)
set_option maxRecDepth 100000 in
set_option maxHeartbeats 4000000 in
theorem c_L_addBus (l : Launch) (hlt : l.stackTraces = false) (D : va_G) (cA : Nat → ClassId) (ad : Nat → Nat) (qo : Nat) (o : Nat → Int64) (N : Nat) (u : sg_St) (p1 p2 : Int32) (R : (Nat ⊕ Int32) × sg_St) (hf : fX5_addBus N u p1 p2 = some R) (hR : ∀ k t, R = (.inl k, t) → k ∈ [1, 0]) (sz : Nat) : Met l yL_addBus wsL_addBus ({ frames := 10, cells := 3, slots := 18, locals := 442 }) (va_Pc [.ref (ad 0), .int p1, .int p2, .ref qo] (sg_PL D cA (sg_WL cA ad qo u o) sz)) (sg_QL D cA ad qo (va_A (sg_WL cA ad qo u o) sz) [1, 0] sg_up64 R o) 3 18 (va_A (sg_WL cA ad qo u o) sz) := by
  refine sg_ofWH (cc := cL_addBus) (maxL := 5) (ret := (some .int)) (by decide) rfl ?_
  intro p e s m args below meth c s₁ B hml hv
  obtain ⟨rfl, ⟨hsz, hP, hK, hD0⟩, hT, hN⟩ := hv
  have hx := B.exec
  have hb := B.bytes
  have hr := B.returns
  have hts := atoms_spec (ws := wsL_addBus) B.pre
  have hown : s.vm.findClass RL = some m.cls := findClass_of_methodNamed B.named
  have hlocks := B.notSynchronized
  have htb : c.exceptionTable.toList = tableOf [(0, 10, 13, 13), (0, 10, 17, 15)] := vx_table (x := ⟨"", "", ""⟩) B (hts _ List.mem_cons_self)
  subst hsz
  have hD := hD0.self (sz := s.heap.size)
  replace hP : va_P D vwCl (sg_WL cA ad qo u o) s.heap := hP
  replace hD : va_D (va_A (sg_WL cA ad qo u o) s.heap.size) (sg_WL cA ad qo u o) := hD
  generalize hAe : va_A (sg_WL cA ad qo u o) s.heap.size = A at hD hT ⊢
  have hA : ∀ q : Nat, s.heap.size ≤ q → A q := fun q h => by rw [← hAe]; exact Or.inr h
  have hS : va_S A s.heap s.heap [] := va_S.rf
  have hl := lv_entry ([.ref (ad 0), .int p1, .int p2, .ref qo]) (n := 5) (Nat.le_of_ble_eq_true rfl)
  rw [lg_entry_eq]
  generalize (lg_sl ([.ref (ad 0), .int p1, .int p2, .ref qo]) ++ List.replicate (5 - (lg_sl ([.ref (ad 0), .int p1, .int p2, .ref qo])).length) Slot.unset).toArray = ls at hl ⊢
  replace hl : lv_has ls 5 [(0, .ref (ad 0)), (1, .int p1), (2, .int p2), (3, .ref qo)] := hl
  refine lv_aload_n hx hb dL_addBus_0 rfl (lv_at hl 3 rfl) ?_
  refine lv_iconst (v := 0) hx hb dL_addBus_1 (by decide) ?_
  refine lv_aload_n hx hb dL_addBus_2 rfl (lv_at hl 0 rfl) ?_
  refine lv_iload_n hx hb dL_addBus_3 rfl (lv_at hl 1 rfl) ?_
  refine lv_iload_n hx hb dL_addBus_4 rfl (lv_at hl 2 rfl) ?_
  refine sg_ui (vx_runV (As := [.int p1, .int p2]) (rest := [.int 0, .ref qo]) ⟨hx, hb, hml, hown, hts⟩ (c_X5_addBus l hlt D cA ad N _ _ _ R hf _) (cwV 2 hts gL_addBus_X5_addBus rfl rfl rfl (by decide +kernel) ⟨Nat.le_of_ble_eq_true rfl, Nat.le_of_ble_eq_true rfl⟩) (sg_preU hK hP hD hT hS hA (ci := 7) (q0 := 0) rfl rfl) rfl rfl hl.1 rfl (lv_room (Nat.le_of_ble_eq_true rfl)) dL_addBus_5 ⟨Nat.le_of_ble_eq_true rfl, Nat.le_of_ble_eq_true rfl⟩) hP hD hS hA (fun k v E ce q9 H locs hr1 hE hP hD hS hce hcv hcl => ?_) (fun r v H locs hr1 hP hD hS => ?_)
  · have hk := hR k v hr1
    simp only [List.mem_cons, List.not_mem_nil, or_false] at hk
    rcases hk with rfl | rfl
    · replace hE : E = "java/lang/IllegalArgumentException" := hE
      subst hE
      refine vx_catch (own := RL) (name := "java/lang/IllegalArgumentException") hown [] ⟨0, 10, 13, 13⟩ [⟨0, 10, 17, 15⟩] (by rw [htb]; rfl) (fun z hz => absurd hz List.not_mem_nil) (by decide) (by decide) (hts (.classLink RL 13 "java/lang/IllegalArgumentException") (by decide +kernel)) (va_Nw.use rfl (hT.2.2.2.1 (54, "java/lang/IllegalArgumentException") (by decide))) hce hcv hcl ?_
      refine lv_astore (lv' := [(4, .ref q9), (0, .ref (ad 0)), (1, .int p1), (2, .int p2), (3, .ref qo)]) hx hb dL_addBus_13 hl (by decide) rfl (fun ls hl => ?_)
      refine lv_iconst (v := 1) hx hb dL_addBus_15 (by decide) ?_
      exact sg_lret (wz := fun z => sg_WL cA ad qo z.1 z.2) (v, o) hx hb hr hP hD hS dL_addBus_16 (Or.inr ⟨_, hr1, rfl, rfl⟩) hlocks (by decide) (by decide)
    · replace hE : E = "java/lang/IllegalStateException" := hE
      subst hE
      refine vx_catch (own := RL) (name := "java/lang/IllegalStateException") hown [⟨0, 10, 13, 13⟩] ⟨0, 10, 17, 15⟩ [] (by rw [htb]; rfl) (List.forall_mem_cons.mpr ⟨Or.inr ⟨by decide, "java/lang/IllegalArgumentException", hts (.classLink RL 13 "java/lang/IllegalArgumentException") (by decide +kernel), hN ("java/lang/IllegalStateException", "java/lang/IllegalArgumentException") (by decide +kernel)⟩, fun _ h => absurd h List.not_mem_nil⟩) (by decide) (by decide) (hts (.classLink RL 15 "java/lang/IllegalStateException") (by decide +kernel)) (va_Nw.use rfl (hT.2.2.2.1 (104, "java/lang/IllegalStateException") (by decide))) hce hcv hcl ?_
      refine lv_astore (lv' := [(4, .ref q9), (0, .ref (ad 0)), (1, .int p1), (2, .int p2), (3, .ref qo)]) hx hb dL_addBus_17 hl (by decide) rfl (fun ls hl => ?_)
      refine lv_iconst (v := 2) hx hb dL_addBus_19 (by decide) ?_
      exact sg_lret (wz := fun z => sg_WL cA ad qo z.1 z.2) (v, o) hx hb hr hP hD hS dL_addBus_20 (Or.inr ⟨_, hr1, rfl, rfl⟩) hlocks (by decide) (by decide)
  · refine lv_i2l (v := r.toInt64) hx hb dL_addBus_8 rfl ?_
    refine va_last hx hb hK.1 hP hD hS 0 2 rfl rfl (sg_inb_s (i := 0) (n := 1) (by decide)) dL_addBus_9 (fun H locs hP hD hS => ?_)
    refine lv_goto (tgt := 21) hx hb dL_addBus_10 (by decide) ?_
    refine lv_iconst (v := 0) hx hb dL_addBus_21 (by decide) ?_
    exact sg_lret (wz := fun z => sg_WL cA ad qo z.1 z.2) (v, vp_updL o (0 : Int32).toNatClampNeg r.toInt64) hx hb hr hP hD hS dL_addBus_22 (Or.inl ⟨r, hr1, rfl, rfl⟩) hlocks (by decide) (by decide)
set_option maxRecDepth 100000 in
set_option maxHeartbeats 4000000 in
theorem c_L_addLine (l : Launch) (hlt : l.stackTraces = false) (D : va_G) (cA : Nat → ClassId) (ad : Nat → Nat) (qo : Nat) (o : Nat → Int64) (N : Nat) (u : sg_St) (p1 p2 p3 p4 : Int32) (R : (Nat ⊕ Int32) × sg_St) (hf : fX5_addLine N u p1 p2 p3 p4 = some R) (hR : ∀ k t, R = (.inl k, t) → k ∈ [5, 1, 0]) (sz : Nat) : Met l yL_addLine wsL_addLine ({ frames := 10, cells := 4, slots := 24, locals := 446 }) (va_Pc [.ref (ad 0), .int p1, .int p2, .int p3, .int p4, .ref qo] (sg_PL D cA (sg_WL cA ad qo u o) sz)) (sg_QL D cA ad qo (va_A (sg_WL cA ad qo u o) sz) [5, 1, 0] sg_up64 R o) 4 24 (va_A (sg_WL cA ad qo u o) sz) := by
  refine sg_ofWH (cc := cL_addLine) (maxL := 7) (ret := (some .int)) (by decide) rfl ?_
  intro p e s m args below meth c s₁ B hml hv
  obtain ⟨rfl, ⟨hsz, hP, hK, hD0⟩, hT, hN⟩ := hv
  have hx := B.exec
  have hb := B.bytes
  have hr := B.returns
  have hts := atoms_spec (ws := wsL_addLine) B.pre
  have hown : s.vm.findClass RL = some m.cls := findClass_of_methodNamed B.named
  have hlocks := B.notSynchronized
  have htb : c.exceptionTable.toList = tableOf [(0, 14, 17, 25), (0, 14, 21, 13), (0, 14, 25, 15)] := vx_table (x := ⟨"", "", ""⟩) B (hts _ List.mem_cons_self)
  subst hsz
  have hD := hD0.self (sz := s.heap.size)
  replace hP : va_P D vwCl (sg_WL cA ad qo u o) s.heap := hP
  replace hD : va_D (va_A (sg_WL cA ad qo u o) s.heap.size) (sg_WL cA ad qo u o) := hD
  generalize hAe : va_A (sg_WL cA ad qo u o) s.heap.size = A at hD hT ⊢
  have hA : ∀ q : Nat, s.heap.size ≤ q → A q := fun q h => by rw [← hAe]; exact Or.inr h
  have hS : va_S A s.heap s.heap [] := va_S.rf
  have hl := lv_entry ([.ref (ad 0), .int p1, .int p2, .int p3, .int p4, .ref qo]) (n := 7) (Nat.le_of_ble_eq_true rfl)
  rw [lg_entry_eq]
  generalize (lg_sl ([.ref (ad 0), .int p1, .int p2, .int p3, .int p4, .ref qo]) ++ List.replicate (7 - (lg_sl ([.ref (ad 0), .int p1, .int p2, .int p3, .int p4, .ref qo])).length) Slot.unset).toArray = ls at hl ⊢
  replace hl : lv_has ls 7 [(0, .ref (ad 0)), (1, .int p1), (2, .int p2), (3, .int p3), (4, .int p4), (5, .ref qo)] := hl
  refine lv_aload hx hb dL_addLine_0 (lv_at hl 5 rfl) ?_
  refine lv_iconst (v := 0) hx hb dL_addLine_2 (by decide) ?_
  refine lv_aload_n hx hb dL_addLine_3 rfl (lv_at hl 0 rfl) ?_
  refine lv_iload_n hx hb dL_addLine_4 rfl (lv_at hl 1 rfl) ?_
  refine lv_iload_n hx hb dL_addLine_5 rfl (lv_at hl 2 rfl) ?_
  refine lv_iload_n hx hb dL_addLine_6 rfl (lv_at hl 3 rfl) ?_
  refine lv_iload hx hb dL_addLine_7 (lv_at hl 4 rfl) ?_
  refine sg_ui (vx_runV (As := [.int p1, .int p2, .int p3, .int p4]) (rest := [.int 0, .ref qo]) ⟨hx, hb, hml, hown, hts⟩ (c_X5_addLine l hlt D cA ad N _ _ _ _ _ R hf _) (cwV 4 hts gL_addLine_X5_addLine rfl rfl rfl (by decide +kernel) ⟨Nat.le_of_ble_eq_true rfl, Nat.le_of_ble_eq_true rfl⟩) (sg_preU hK hP hD hT hS hA (ci := 7) (q0 := 0) rfl rfl) rfl rfl hl.1 rfl (lv_room (Nat.le_of_ble_eq_true rfl)) dL_addLine_9 ⟨Nat.le_of_ble_eq_true rfl, Nat.le_of_ble_eq_true rfl⟩) hP hD hS hA (fun k v E ce q9 H locs hr1 hE hP hD hS hce hcv hcl => ?_) (fun r v H locs hr1 hP hD hS => ?_)
  · have hk := hR k v hr1
    simp only [List.mem_cons, List.not_mem_nil, or_false] at hk
    rcases hk with rfl | rfl | rfl
    · replace hE : E = "java/util/NoSuchElementException" := hE
      subst hE
      refine vx_catch (own := RL) (name := "java/util/NoSuchElementException") hown [] ⟨0, 14, 17, 25⟩ [⟨0, 14, 21, 13⟩, ⟨0, 14, 25, 15⟩] (by rw [htb]; rfl) (fun z hz => absurd hz List.not_mem_nil) (by decide) (by decide) (hts (.classLink RL 25 "java/util/NoSuchElementException") (by decide +kernel)) (va_Nw.use rfl (hT.2.2.2.1 (293, "java/util/NoSuchElementException") (by decide))) hce hcv hcl ?_
      refine lv_astore (lv' := [(6, .ref q9), (0, .ref (ad 0)), (1, .int p1), (2, .int p2), (3, .int p3), (4, .int p4), (5, .ref qo)]) hx hb dL_addLine_17 hl (by decide) rfl (fun ls hl => ?_)
      refine lv_iconst (v := 1) hx hb dL_addLine_19 (by decide) ?_
      exact sg_lret (wz := fun z => sg_WL cA ad qo z.1 z.2) (v, o) hx hb hr hP hD hS dL_addLine_20 (Or.inr ⟨_, hr1, rfl, rfl⟩) hlocks (by decide) (by decide)
    · replace hE : E = "java/lang/IllegalArgumentException" := hE
      subst hE
      refine vx_catch (own := RL) (name := "java/lang/IllegalArgumentException") hown [⟨0, 14, 17, 25⟩] ⟨0, 14, 21, 13⟩ [⟨0, 14, 25, 15⟩] (by rw [htb]; rfl) (List.forall_mem_cons.mpr ⟨Or.inr ⟨by decide, "java/util/NoSuchElementException", hts (.classLink RL 25 "java/util/NoSuchElementException") (by decide +kernel), hN ("java/lang/IllegalArgumentException", "java/util/NoSuchElementException") (by decide +kernel)⟩, fun _ h => absurd h List.not_mem_nil⟩) (by decide) (by decide) (hts (.classLink RL 13 "java/lang/IllegalArgumentException") (by decide +kernel)) (va_Nw.use rfl (hT.2.2.2.1 (54, "java/lang/IllegalArgumentException") (by decide))) hce hcv hcl ?_
      refine lv_astore (lv' := [(6, .ref q9), (0, .ref (ad 0)), (1, .int p1), (2, .int p2), (3, .int p3), (4, .int p4), (5, .ref qo)]) hx hb dL_addLine_21 hl (by decide) rfl (fun ls hl => ?_)
      refine lv_iconst (v := 2) hx hb dL_addLine_23 (by decide) ?_
      exact sg_lret (wz := fun z => sg_WL cA ad qo z.1 z.2) (v, o) hx hb hr hP hD hS dL_addLine_24 (Or.inr ⟨_, hr1, rfl, rfl⟩) hlocks (by decide) (by decide)
    · replace hE : E = "java/lang/IllegalStateException" := hE
      subst hE
      refine vx_catch (own := RL) (name := "java/lang/IllegalStateException") hown [⟨0, 14, 17, 25⟩, ⟨0, 14, 21, 13⟩] ⟨0, 14, 25, 15⟩ [] (by rw [htb]; rfl) (List.forall_mem_cons.mpr ⟨Or.inr ⟨by decide, "java/util/NoSuchElementException", hts (.classLink RL 25 "java/util/NoSuchElementException") (by decide +kernel), hN ("java/lang/IllegalStateException", "java/util/NoSuchElementException") (by decide +kernel)⟩, List.forall_mem_cons.mpr ⟨Or.inr ⟨by decide, "java/lang/IllegalArgumentException", hts (.classLink RL 13 "java/lang/IllegalArgumentException") (by decide +kernel), hN ("java/lang/IllegalStateException", "java/lang/IllegalArgumentException") (by decide +kernel)⟩, fun _ h => absurd h List.not_mem_nil⟩⟩) (by decide) (by decide) (hts (.classLink RL 15 "java/lang/IllegalStateException") (by decide +kernel)) (va_Nw.use rfl (hT.2.2.2.1 (104, "java/lang/IllegalStateException") (by decide))) hce hcv hcl ?_
      refine lv_astore (lv' := [(6, .ref q9), (0, .ref (ad 0)), (1, .int p1), (2, .int p2), (3, .int p3), (4, .int p4), (5, .ref qo)]) hx hb dL_addLine_25 hl (by decide) rfl (fun ls hl => ?_)
      refine lv_iconst (v := 3) hx hb dL_addLine_27 (by decide) ?_
      exact sg_lret (wz := fun z => sg_WL cA ad qo z.1 z.2) (v, o) hx hb hr hP hD hS dL_addLine_28 (Or.inr ⟨_, hr1, rfl, rfl⟩) hlocks (by decide) (by decide)
  · refine lv_i2l (v := r.toInt64) hx hb dL_addLine_12 rfl ?_
    refine va_last hx hb hK.1 hP hD hS 0 2 rfl rfl (sg_inb_s (i := 0) (n := 1) (by decide)) dL_addLine_13 (fun H locs hP hD hS => ?_)
    refine lv_goto (tgt := 29) hx hb dL_addLine_14 (by decide) ?_
    refine lv_iconst (v := 0) hx hb dL_addLine_29 (by decide) ?_
    exact sg_lret (wz := fun z => sg_WL cA ad qo z.1 z.2) (v, vp_updL o (0 : Int32).toNatClampNeg r.toInt64) hx hb hr hP hD hS dL_addLine_30 (Or.inl ⟨r, hr1, rfl, rfl⟩) hlocks (by decide) (by decide)
set_option maxRecDepth 100000 in
set_option maxHeartbeats 4000000 in
theorem c_L_setLoad (l : Launch) (hlt : l.stackTraces = false) (D : va_G) (cA : Nat → ClassId) (ad : Nat → Nat) (qo : Nat) (o : Nat → Int64) (N : Nat) (u : sg_St) (p1 p2 : Int32) (R : (Nat ⊕ Int32) × sg_St) (hf : fX5_setLoad N u p1 p2 = some R) (hR : ∀ k t, R = (.inl k, t) → k ∈ [5, 1, 4, 0]) (sz : Nat) : Met l yL_setLoad wsL_setLoad ({ frames := 19, cells := 4, slots := 24, locals := 488 }) (va_Pc [.ref (ad 0), .int p1, .int p2, .ref qo] (sg_PL D cA (sg_WL cA ad qo u o) sz)) (sg_QL D cA ad qo (va_A (sg_WL cA ad qo u o) sz) [5, 1, 4, 0] sg_up64 R o) 4 24 (va_A (sg_WL cA ad qo u o) sz) := by
  refine sg_ofWH (cc := cL_setLoad) (maxL := 5) (ret := (some .int)) (by decide) rfl ?_
  intro p e s m args below meth c s₁ B hml hv
  obtain ⟨rfl, ⟨hsz, hP, hK, hD0⟩, hT, hN⟩ := hv
  have hx := B.exec
  have hb := B.bytes
  have hr := B.returns
  have hts := atoms_spec (ws := wsL_setLoad) B.pre
  have hown : s.vm.findClass RL = some m.cls := findClass_of_methodNamed B.named
  have hlocks := B.notSynchronized
  have htb : c.exceptionTable.toList = tableOf [(0, 10, 13, 25), (0, 10, 17, 13), (0, 10, 21, 30), (0, 10, 25, 15)] := vx_table (x := ⟨"", "", ""⟩) B (hts _ List.mem_cons_self)
  subst hsz
  have hD := hD0.self (sz := s.heap.size)
  replace hP : va_P D vwCl (sg_WL cA ad qo u o) s.heap := hP
  replace hD : va_D (va_A (sg_WL cA ad qo u o) s.heap.size) (sg_WL cA ad qo u o) := hD
  generalize hAe : va_A (sg_WL cA ad qo u o) s.heap.size = A at hD hT ⊢
  have hA : ∀ q : Nat, s.heap.size ≤ q → A q := fun q h => by rw [← hAe]; exact Or.inr h
  have hS : va_S A s.heap s.heap [] := va_S.rf
  have hl := lv_entry ([.ref (ad 0), .int p1, .int p2, .ref qo]) (n := 5) (Nat.le_of_ble_eq_true rfl)
  rw [lg_entry_eq]
  generalize (lg_sl ([.ref (ad 0), .int p1, .int p2, .ref qo]) ++ List.replicate (5 - (lg_sl ([.ref (ad 0), .int p1, .int p2, .ref qo])).length) Slot.unset).toArray = ls at hl ⊢
  replace hl : lv_has ls 5 [(0, .ref (ad 0)), (1, .int p1), (2, .int p2), (3, .ref qo)] := hl
  refine lv_aload_n hx hb dL_setLoad_0 rfl (lv_at hl 3 rfl) ?_
  refine lv_iconst (v := 0) hx hb dL_setLoad_1 (by decide) ?_
  refine lv_aload_n hx hb dL_setLoad_2 rfl (lv_at hl 0 rfl) ?_
  refine lv_iload_n hx hb dL_setLoad_3 rfl (lv_at hl 1 rfl) ?_
  refine lv_iload_n hx hb dL_setLoad_4 rfl (lv_at hl 2 rfl) ?_
  refine sg_ui (vx_runV (As := [.int p1, .int p2]) (rest := [.int 0, .ref qo]) ⟨hx, hb, hml, hown, hts⟩ (c_X5_setLoad l hlt D cA ad N _ _ _ R hf _) (cwV 2 hts gL_setLoad_X5_setLoad rfl rfl rfl (by decide +kernel) ⟨Nat.le_of_ble_eq_true rfl, Nat.le_of_ble_eq_true rfl⟩) (sg_preU hK hP hD hT hS hA (ci := 7) (q0 := 0) rfl rfl) rfl rfl hl.1 rfl (lv_room (Nat.le_of_ble_eq_true rfl)) dL_setLoad_5 ⟨Nat.le_of_ble_eq_true rfl, Nat.le_of_ble_eq_true rfl⟩) hP hD hS hA (fun k v E ce q9 H locs hr1 hE hP hD hS hce hcv hcl => ?_) (fun r v H locs hr1 hP hD hS => ?_)
  · have hk := hR k v hr1
    simp only [List.mem_cons, List.not_mem_nil, or_false] at hk
    rcases hk with rfl | rfl | rfl | rfl
    · replace hE : E = "java/util/NoSuchElementException" := hE
      subst hE
      refine vx_catch (own := RL) (name := "java/util/NoSuchElementException") hown [] ⟨0, 10, 13, 25⟩ [⟨0, 10, 17, 13⟩, ⟨0, 10, 21, 30⟩, ⟨0, 10, 25, 15⟩] (by rw [htb]; rfl) (fun z hz => absurd hz List.not_mem_nil) (by decide) (by decide) (hts (.classLink RL 25 "java/util/NoSuchElementException") (by decide +kernel)) (va_Nw.use rfl (hT.2.2.2.1 (293, "java/util/NoSuchElementException") (by decide))) hce hcv hcl ?_
      refine lv_astore (lv' := [(4, .ref q9), (0, .ref (ad 0)), (1, .int p1), (2, .int p2), (3, .ref qo)]) hx hb dL_setLoad_13 hl (by decide) rfl (fun ls hl => ?_)
      refine lv_iconst (v := 1) hx hb dL_setLoad_15 (by decide) ?_
      exact sg_lret (wz := fun z => sg_WL cA ad qo z.1 z.2) (v, o) hx hb hr hP hD hS dL_setLoad_16 (Or.inr ⟨_, hr1, rfl, rfl⟩) hlocks (by decide) (by decide)
    · replace hE : E = "java/lang/IllegalArgumentException" := hE
      subst hE
      refine vx_catch (own := RL) (name := "java/lang/IllegalArgumentException") hown [⟨0, 10, 13, 25⟩] ⟨0, 10, 17, 13⟩ [⟨0, 10, 21, 30⟩, ⟨0, 10, 25, 15⟩] (by rw [htb]; rfl) (List.forall_mem_cons.mpr ⟨Or.inr ⟨by decide, "java/util/NoSuchElementException", hts (.classLink RL 25 "java/util/NoSuchElementException") (by decide +kernel), hN ("java/lang/IllegalArgumentException", "java/util/NoSuchElementException") (by decide +kernel)⟩, fun _ h => absurd h List.not_mem_nil⟩) (by decide) (by decide) (hts (.classLink RL 13 "java/lang/IllegalArgumentException") (by decide +kernel)) (va_Nw.use rfl (hT.2.2.2.1 (54, "java/lang/IllegalArgumentException") (by decide))) hce hcv hcl ?_
      refine lv_astore (lv' := [(4, .ref q9), (0, .ref (ad 0)), (1, .int p1), (2, .int p2), (3, .ref qo)]) hx hb dL_setLoad_17 hl (by decide) rfl (fun ls hl => ?_)
      refine lv_iconst (v := 2) hx hb dL_setLoad_19 (by decide) ?_
      exact sg_lret (wz := fun z => sg_WL cA ad qo z.1 z.2) (v, o) hx hb hr hP hD hS dL_setLoad_20 (Or.inr ⟨_, hr1, rfl, rfl⟩) hlocks (by decide) (by decide)
    · replace hE : E = "java/lang/UnsupportedOperationException" := hE
      subst hE
      refine vx_catch (own := RL) (name := "java/lang/UnsupportedOperationException") hown [⟨0, 10, 13, 25⟩, ⟨0, 10, 17, 13⟩] ⟨0, 10, 21, 30⟩ [⟨0, 10, 25, 15⟩] (by rw [htb]; rfl) (List.forall_mem_cons.mpr ⟨Or.inr ⟨by decide, "java/util/NoSuchElementException", hts (.classLink RL 25 "java/util/NoSuchElementException") (by decide +kernel), hN ("java/lang/UnsupportedOperationException", "java/util/NoSuchElementException") (by decide +kernel)⟩, List.forall_mem_cons.mpr ⟨Or.inr ⟨by decide, "java/lang/IllegalArgumentException", hts (.classLink RL 13 "java/lang/IllegalArgumentException") (by decide +kernel), hN ("java/lang/UnsupportedOperationException", "java/lang/IllegalArgumentException") (by decide +kernel)⟩, fun _ h => absurd h List.not_mem_nil⟩⟩) (by decide) (by decide) (hts (.classLink RL 30 "java/lang/UnsupportedOperationException") (by decide +kernel)) (va_Nw.use rfl (hT.2.2.2.1 (178, "java/lang/UnsupportedOperationException") (by decide))) hce hcv hcl ?_
      refine lv_astore (lv' := [(4, .ref q9), (0, .ref (ad 0)), (1, .int p1), (2, .int p2), (3, .ref qo)]) hx hb dL_setLoad_21 hl (by decide) rfl (fun ls hl => ?_)
      refine lv_iconst (v := 3) hx hb dL_setLoad_23 (by decide) ?_
      exact sg_lret (wz := fun z => sg_WL cA ad qo z.1 z.2) (v, o) hx hb hr hP hD hS dL_setLoad_24 (Or.inr ⟨_, hr1, rfl, rfl⟩) hlocks (by decide) (by decide)
    · replace hE : E = "java/lang/IllegalStateException" := hE
      subst hE
      refine vx_catch (own := RL) (name := "java/lang/IllegalStateException") hown [⟨0, 10, 13, 25⟩, ⟨0, 10, 17, 13⟩, ⟨0, 10, 21, 30⟩] ⟨0, 10, 25, 15⟩ [] (by rw [htb]; rfl) (List.forall_mem_cons.mpr ⟨Or.inr ⟨by decide, "java/util/NoSuchElementException", hts (.classLink RL 25 "java/util/NoSuchElementException") (by decide +kernel), hN ("java/lang/IllegalStateException", "java/util/NoSuchElementException") (by decide +kernel)⟩, List.forall_mem_cons.mpr ⟨Or.inr ⟨by decide, "java/lang/IllegalArgumentException", hts (.classLink RL 13 "java/lang/IllegalArgumentException") (by decide +kernel), hN ("java/lang/IllegalStateException", "java/lang/IllegalArgumentException") (by decide +kernel)⟩, List.forall_mem_cons.mpr ⟨Or.inr ⟨by decide, "java/lang/UnsupportedOperationException", hts (.classLink RL 30 "java/lang/UnsupportedOperationException") (by decide +kernel), hN ("java/lang/IllegalStateException", "java/lang/UnsupportedOperationException") (by decide +kernel)⟩, fun _ h => absurd h List.not_mem_nil⟩⟩⟩) (by decide) (by decide) (hts (.classLink RL 15 "java/lang/IllegalStateException") (by decide +kernel)) (va_Nw.use rfl (hT.2.2.2.1 (104, "java/lang/IllegalStateException") (by decide))) hce hcv hcl ?_
      refine lv_astore (lv' := [(4, .ref q9), (0, .ref (ad 0)), (1, .int p1), (2, .int p2), (3, .ref qo)]) hx hb dL_setLoad_25 hl (by decide) rfl (fun ls hl => ?_)
      refine lv_iconst (v := 4) hx hb dL_setLoad_27 (by decide) ?_
      exact sg_lret (wz := fun z => sg_WL cA ad qo z.1 z.2) (v, o) hx hb hr hP hD hS dL_setLoad_28 (Or.inr ⟨_, hr1, rfl, rfl⟩) hlocks (by decide) (by decide)
  · refine lv_i2l (v := r.toInt64) hx hb dL_setLoad_8 rfl ?_
    refine va_last hx hb hK.1 hP hD hS 0 2 rfl rfl (sg_inb_s (i := 0) (n := 1) (by decide)) dL_setLoad_9 (fun H locs hP hD hS => ?_)
    refine lv_goto (tgt := 29) hx hb dL_setLoad_10 (by decide) ?_
    refine lv_iconst (v := 0) hx hb dL_setLoad_29 (by decide) ?_
    exact sg_lret (wz := fun z => sg_WL cA ad qo z.1 z.2) (v, vp_updL o (0 : Int32).toNatClampNeg r.toInt64) hx hb hr hP hD hS dL_setLoad_30 (Or.inl ⟨r, hr1, rfl, rfl⟩) hlocks (by decide) (by decide)
set_option maxRecDepth 100000 in
set_option maxHeartbeats 4000000 in
theorem c_L_setRelay (l : Launch) (hlt : l.stackTraces = false) (D : va_G) (cA : Nat → ClassId) (ad : Nat → Nat) (qo : Nat) (o : Nat → Int64) (N : Nat) (u : sg_St) (p1 p2 p3 p4 : Int32) (R : (Nat ⊕ Int32) × sg_St) (hf : fX5_setRelay N u p1 p2 p3 p4 = some R) (hR : ∀ k t, R = (.inl k, t) → k ∈ [5, 1, 4]) (sz : Nat) : Met l yL_setRelay wsL_setRelay ({ frames := 10, cells := 3, slots := 18, locals := 446 }) (va_Pc [.ref (ad 0), .int p1, .int p2, .int p3, .int p4, .ref qo] (sg_PL D cA (sg_WL cA ad qo u o) sz)) (sg_QL D cA ad qo (va_A (sg_WL cA ad qo u o) sz) [5, 1, 4] sg_up64 R o) 3 18 (va_A (sg_WL cA ad qo u o) sz) := by
  refine sg_ofWH (cc := cL_setRelay) (maxL := 7) (ret := (some .int)) (by decide) rfl ?_
  intro p e s m args below meth c s₁ B hml hv
  obtain ⟨rfl, ⟨hsz, hP, hK, hD0⟩, hT, hN⟩ := hv
  have hx := B.exec
  have hb := B.bytes
  have hr := B.returns
  have hts := atoms_spec (ws := wsL_setRelay) B.pre
  have hown : s.vm.findClass RL = some m.cls := findClass_of_methodNamed B.named
  have hlocks := B.notSynchronized
  have htb : c.exceptionTable.toList = tableOf [(0, 14, 17, 25), (0, 14, 21, 13), (0, 14, 25, 30)] := vx_table (x := ⟨"", "", ""⟩) B (hts _ List.mem_cons_self)
  subst hsz
  have hD := hD0.self (sz := s.heap.size)
  replace hP : va_P D vwCl (sg_WL cA ad qo u o) s.heap := hP
  replace hD : va_D (va_A (sg_WL cA ad qo u o) s.heap.size) (sg_WL cA ad qo u o) := hD
  generalize hAe : va_A (sg_WL cA ad qo u o) s.heap.size = A at hD hT ⊢
  have hA : ∀ q : Nat, s.heap.size ≤ q → A q := fun q h => by rw [← hAe]; exact Or.inr h
  have hS : va_S A s.heap s.heap [] := va_S.rf
  have hl := lv_entry ([.ref (ad 0), .int p1, .int p2, .int p3, .int p4, .ref qo]) (n := 7) (Nat.le_of_ble_eq_true rfl)
  rw [lg_entry_eq]
  generalize (lg_sl ([.ref (ad 0), .int p1, .int p2, .int p3, .int p4, .ref qo]) ++ List.replicate (7 - (lg_sl ([.ref (ad 0), .int p1, .int p2, .int p3, .int p4, .ref qo])).length) Slot.unset).toArray = ls at hl ⊢
  replace hl : lv_has ls 7 [(0, .ref (ad 0)), (1, .int p1), (2, .int p2), (3, .int p3), (4, .int p4), (5, .ref qo)] := hl
  refine lv_aload hx hb dL_setRelay_0 (lv_at hl 5 rfl) ?_
  refine lv_iconst (v := 0) hx hb dL_setRelay_2 (by decide) ?_
  refine lv_aload_n hx hb dL_setRelay_3 rfl (lv_at hl 0 rfl) ?_
  refine lv_iload_n hx hb dL_setRelay_4 rfl (lv_at hl 1 rfl) ?_
  refine lv_iload_n hx hb dL_setRelay_5 rfl (lv_at hl 2 rfl) ?_
  refine lv_iload_n hx hb dL_setRelay_6 rfl (lv_at hl 3 rfl) ?_
  refine lv_iload hx hb dL_setRelay_7 (lv_at hl 4 rfl) ?_
  refine sg_ui (vx_runV (As := [.int p1, .int p2, .int p3, .int p4]) (rest := [.int 0, .ref qo]) ⟨hx, hb, hml, hown, hts⟩ (c_X5_setRelay l hlt D cA ad N _ _ _ _ _ R hf _) (cwV 4 hts gL_setRelay_X5_setRelay rfl rfl rfl (by decide +kernel) ⟨Nat.le_of_ble_eq_true rfl, Nat.le_of_ble_eq_true rfl⟩) (sg_preU hK hP hD hT hS hA (ci := 7) (q0 := 0) rfl rfl) rfl rfl hl.1 rfl (lv_room (Nat.le_of_ble_eq_true rfl)) dL_setRelay_9 ⟨Nat.le_of_ble_eq_true rfl, Nat.le_of_ble_eq_true rfl⟩) hP hD hS hA (fun k v E ce q9 H locs hr1 hE hP hD hS hce hcv hcl => ?_) (fun r v H locs hr1 hP hD hS => ?_)
  · have hk := hR k v hr1
    simp only [List.mem_cons, List.not_mem_nil, or_false] at hk
    rcases hk with rfl | rfl | rfl
    · replace hE : E = "java/util/NoSuchElementException" := hE
      subst hE
      refine vx_catch (own := RL) (name := "java/util/NoSuchElementException") hown [] ⟨0, 14, 17, 25⟩ [⟨0, 14, 21, 13⟩, ⟨0, 14, 25, 30⟩] (by rw [htb]; rfl) (fun z hz => absurd hz List.not_mem_nil) (by decide) (by decide) (hts (.classLink RL 25 "java/util/NoSuchElementException") (by decide +kernel)) (va_Nw.use rfl (hT.2.2.2.1 (293, "java/util/NoSuchElementException") (by decide))) hce hcv hcl ?_
      refine lv_astore (lv' := [(6, .ref q9), (0, .ref (ad 0)), (1, .int p1), (2, .int p2), (3, .int p3), (4, .int p4), (5, .ref qo)]) hx hb dL_setRelay_17 hl (by decide) rfl (fun ls hl => ?_)
      refine lv_iconst (v := 1) hx hb dL_setRelay_19 (by decide) ?_
      exact sg_lret (wz := fun z => sg_WL cA ad qo z.1 z.2) (v, o) hx hb hr hP hD hS dL_setRelay_20 (Or.inr ⟨_, hr1, rfl, rfl⟩) hlocks (by decide) (by decide)
    · replace hE : E = "java/lang/IllegalArgumentException" := hE
      subst hE
      refine vx_catch (own := RL) (name := "java/lang/IllegalArgumentException") hown [⟨0, 14, 17, 25⟩] ⟨0, 14, 21, 13⟩ [⟨0, 14, 25, 30⟩] (by rw [htb]; rfl) (List.forall_mem_cons.mpr ⟨Or.inr ⟨by decide, "java/util/NoSuchElementException", hts (.classLink RL 25 "java/util/NoSuchElementException") (by decide +kernel), hN ("java/lang/IllegalArgumentException", "java/util/NoSuchElementException") (by decide +kernel)⟩, fun _ h => absurd h List.not_mem_nil⟩) (by decide) (by decide) (hts (.classLink RL 13 "java/lang/IllegalArgumentException") (by decide +kernel)) (va_Nw.use rfl (hT.2.2.2.1 (54, "java/lang/IllegalArgumentException") (by decide))) hce hcv hcl ?_
      refine lv_astore (lv' := [(6, .ref q9), (0, .ref (ad 0)), (1, .int p1), (2, .int p2), (3, .int p3), (4, .int p4), (5, .ref qo)]) hx hb dL_setRelay_21 hl (by decide) rfl (fun ls hl => ?_)
      refine lv_iconst (v := 2) hx hb dL_setRelay_23 (by decide) ?_
      exact sg_lret (wz := fun z => sg_WL cA ad qo z.1 z.2) (v, o) hx hb hr hP hD hS dL_setRelay_24 (Or.inr ⟨_, hr1, rfl, rfl⟩) hlocks (by decide) (by decide)
    · replace hE : E = "java/lang/UnsupportedOperationException" := hE
      subst hE
      refine vx_catch (own := RL) (name := "java/lang/UnsupportedOperationException") hown [⟨0, 14, 17, 25⟩, ⟨0, 14, 21, 13⟩] ⟨0, 14, 25, 30⟩ [] (by rw [htb]; rfl) (List.forall_mem_cons.mpr ⟨Or.inr ⟨by decide, "java/util/NoSuchElementException", hts (.classLink RL 25 "java/util/NoSuchElementException") (by decide +kernel), hN ("java/lang/UnsupportedOperationException", "java/util/NoSuchElementException") (by decide +kernel)⟩, List.forall_mem_cons.mpr ⟨Or.inr ⟨by decide, "java/lang/IllegalArgumentException", hts (.classLink RL 13 "java/lang/IllegalArgumentException") (by decide +kernel), hN ("java/lang/UnsupportedOperationException", "java/lang/IllegalArgumentException") (by decide +kernel)⟩, fun _ h => absurd h List.not_mem_nil⟩⟩) (by decide) (by decide) (hts (.classLink RL 30 "java/lang/UnsupportedOperationException") (by decide +kernel)) (va_Nw.use rfl (hT.2.2.2.1 (178, "java/lang/UnsupportedOperationException") (by decide))) hce hcv hcl ?_
      refine lv_astore (lv' := [(6, .ref q9), (0, .ref (ad 0)), (1, .int p1), (2, .int p2), (3, .int p3), (4, .int p4), (5, .ref qo)]) hx hb dL_setRelay_25 hl (by decide) rfl (fun ls hl => ?_)
      refine lv_iconst (v := 3) hx hb dL_setRelay_27 (by decide) ?_
      exact sg_lret (wz := fun z => sg_WL cA ad qo z.1 z.2) (v, o) hx hb hr hP hD hS dL_setRelay_28 (Or.inr ⟨_, hr1, rfl, rfl⟩) hlocks (by decide) (by decide)
  · refine lv_i2l (v := r.toInt64) hx hb dL_setRelay_12 rfl ?_
    refine va_last hx hb hK.1 hP hD hS 0 2 rfl rfl (sg_inb_s (i := 0) (n := 1) (by decide)) dL_setRelay_13 (fun H locs hP hD hS => ?_)
    refine lv_goto (tgt := 29) hx hb dL_setRelay_14 (by decide) ?_
    refine lv_iconst (v := 0) hx hb dL_setRelay_29 (by decide) ?_
    exact sg_lret (wz := fun z => sg_WL cA ad qo z.1 z.2) (v, vp_updL o (0 : Int32).toNatClampNeg r.toInt64) hx hb hr hP hD hS dL_setRelay_30 (Or.inl ⟨r, hr1, rfl, rfl⟩) hlocks (by decide) (by decide)
set_option maxRecDepth 100000 in
set_option maxHeartbeats 4000000 in
theorem c_L_close (l : Launch) (hlt : l.stackTraces = false) (D : va_G) (cA : Nat → ClassId) (ad : Nat → Nat) (qo : Nat) (o : Nat → Int64) (N : Nat) (u : sg_St) (p1 : Int32) (R : (Nat ⊕ Int32) × sg_St) (hf : fX5_close N u p1 = some R) (hR : ∀ k t, R = (.inl k, t) → k ∈ [5]) (sz : Nat) : Met l yL_close wsL_close ({ frames := 19, cells := 1, slots := 6, locals := 494 }) (va_Pc [.ref (ad 0), .int p1, .ref qo] (sg_PL D cA (sg_WL cA ad qo u o) sz)) (sg_QL D cA ad qo (va_A (sg_WL cA ad qo u o) sz) [5] sg_up64 R o) 1 6 (va_A (sg_WL cA ad qo u o) sz) := by
  refine sg_ofWH (cc := cL_close) (maxL := 4) (ret := (some .int)) (by decide) rfl ?_
  intro p e s m args below meth c s₁ B hml hv
  obtain ⟨rfl, ⟨hsz, hP, hK, hD0⟩, hT, hN⟩ := hv
  have hx := B.exec
  have hb := B.bytes
  have hr := B.returns
  have hts := atoms_spec (ws := wsL_close) B.pre
  have hown : s.vm.findClass RL = some m.cls := findClass_of_methodNamed B.named
  have hlocks := B.notSynchronized
  have htb : c.exceptionTable.toList = tableOf [(0, 9, 12, 25)] := vx_table (x := ⟨"", "", ""⟩) B (hts _ List.mem_cons_self)
  subst hsz
  have hD := hD0.self (sz := s.heap.size)
  replace hP : va_P D vwCl (sg_WL cA ad qo u o) s.heap := hP
  replace hD : va_D (va_A (sg_WL cA ad qo u o) s.heap.size) (sg_WL cA ad qo u o) := hD
  generalize hAe : va_A (sg_WL cA ad qo u o) s.heap.size = A at hD hT ⊢
  have hA : ∀ q : Nat, s.heap.size ≤ q → A q := fun q h => by rw [← hAe]; exact Or.inr h
  have hS : va_S A s.heap s.heap [] := va_S.rf
  have hl := lv_entry ([.ref (ad 0), .int p1, .ref qo]) (n := 4) (Nat.le_of_ble_eq_true rfl)
  rw [lg_entry_eq]
  generalize (lg_sl ([.ref (ad 0), .int p1, .ref qo]) ++ List.replicate (4 - (lg_sl ([.ref (ad 0), .int p1, .ref qo])).length) Slot.unset).toArray = ls at hl ⊢
  replace hl : lv_has ls 4 [(0, .ref (ad 0)), (1, .int p1), (2, .ref qo)] := hl
  refine lv_aload_n hx hb dL_close_0 rfl (lv_at hl 2 rfl) ?_
  refine lv_iconst (v := 0) hx hb dL_close_1 (by decide) ?_
  refine lv_aload_n hx hb dL_close_2 rfl (lv_at hl 0 rfl) ?_
  refine lv_iload_n hx hb dL_close_3 rfl (lv_at hl 1 rfl) ?_
  refine sg_ui (vx_runV (As := [.int p1]) (rest := [.int 0, .ref qo]) ⟨hx, hb, hml, hown, hts⟩ (c_X5_close l hlt D cA ad N _ _ R hf _) (cwV 1 hts gL_close_X5_close rfl rfl rfl (by decide +kernel) ⟨Nat.le_of_ble_eq_true rfl, Nat.le_of_ble_eq_true rfl⟩) (sg_preU hK hP hD hT hS hA (ci := 7) (q0 := 0) rfl rfl) rfl rfl hl.1 rfl (lv_room (Nat.le_of_ble_eq_true rfl)) dL_close_4 ⟨Nat.le_of_ble_eq_true rfl, Nat.le_of_ble_eq_true rfl⟩) hP hD hS hA (fun k v E ce q9 H locs hr1 hE hP hD hS hce hcv hcl => ?_) (fun r v H locs hr1 hP hD hS => ?_)
  · have hk := hR k v hr1
    simp only [List.mem_cons, List.not_mem_nil, or_false] at hk
    subst hk
    replace hE : E = "java/util/NoSuchElementException" := hE
    subst hE
    refine vx_catch (own := RL) (name := "java/util/NoSuchElementException") hown [] ⟨0, 9, 12, 25⟩ [] (by rw [htb]; rfl) (fun z hz => absurd hz List.not_mem_nil) (by decide) (by decide) (hts (.classLink RL 25 "java/util/NoSuchElementException") (by decide +kernel)) (va_Nw.use rfl (hT.2.2.2.1 (293, "java/util/NoSuchElementException") (by decide))) hce hcv hcl ?_
    refine lv_astore_n (lv' := [(3, .ref q9), (0, .ref (ad 0)), (1, .int p1), (2, .ref qo)]) hx hb dL_close_12 rfl hl (by decide) rfl (fun ls hl => ?_)
    refine lv_iconst (v := 1) hx hb dL_close_13 (by decide) ?_
    exact sg_lret (wz := fun z => sg_WL cA ad qo z.1 z.2) (v, o) hx hb hr hP hD hS dL_close_14 (Or.inr ⟨_, hr1, rfl, rfl⟩) hlocks (by decide) (by decide)
  · refine lv_i2l (v := r.toInt64) hx hb dL_close_7 rfl ?_
    refine va_last hx hb hK.1 hP hD hS 0 2 rfl rfl (sg_inb_s (i := 0) (n := 1) (by decide)) dL_close_8 (fun H locs hP hD hS => ?_)
    refine lv_goto (tgt := 15) hx hb dL_close_9 (by decide) ?_
    refine lv_iconst (v := 0) hx hb dL_close_15 (by decide) ?_
    exact sg_lret (wz := fun z => sg_WL cA ad qo z.1 z.2) (v, vp_updL o (0 : Int32).toNatClampNeg r.toInt64) hx hb hr hP hD hS dL_close_16 (Or.inl ⟨r, hr1, rfl, rfl⟩) hlocks (by decide) (by decide)
set_option maxRecDepth 100000 in
set_option maxHeartbeats 4000000 in
theorem c_L_open (l : Launch) (hlt : l.stackTraces = false) (D : va_G) (cA : Nat → ClassId) (ad : Nat → Nat) (qo : Nat) (o : Nat → Int64) (N : Nat) (u : sg_St) (p1 : Int32) (R : (Nat ⊕ Int32) × sg_St) (hf : fX5_open N u p1 = some R) (hR : ∀ k t, R = (.inl k, t) → k ∈ [5]) (sz : Nat) : Met l yL_open wsL_open ({ frames := 19, cells := 1, slots := 6, locals := 487 }) (va_Pc [.ref (ad 0), .int p1, .ref qo] (sg_PL D cA (sg_WL cA ad qo u o) sz)) (sg_QL D cA ad qo (va_A (sg_WL cA ad qo u o) sz) [5] sg_up64 R o) 1 6 (va_A (sg_WL cA ad qo u o) sz) := by
  refine sg_ofWH (cc := cL_open) (maxL := 4) (ret := (some .int)) (by decide) rfl ?_
  intro p e s m args below meth c s₁ B hml hv
  obtain ⟨rfl, ⟨hsz, hP, hK, hD0⟩, hT, hN⟩ := hv
  have hx := B.exec
  have hb := B.bytes
  have hr := B.returns
  have hts := atoms_spec (ws := wsL_open) B.pre
  have hown : s.vm.findClass RL = some m.cls := findClass_of_methodNamed B.named
  have hlocks := B.notSynchronized
  have htb : c.exceptionTable.toList = tableOf [(0, 9, 12, 25)] := vx_table (x := ⟨"", "", ""⟩) B (hts _ List.mem_cons_self)
  subst hsz
  have hD := hD0.self (sz := s.heap.size)
  replace hP : va_P D vwCl (sg_WL cA ad qo u o) s.heap := hP
  replace hD : va_D (va_A (sg_WL cA ad qo u o) s.heap.size) (sg_WL cA ad qo u o) := hD
  generalize hAe : va_A (sg_WL cA ad qo u o) s.heap.size = A at hD hT ⊢
  have hA : ∀ q : Nat, s.heap.size ≤ q → A q := fun q h => by rw [← hAe]; exact Or.inr h
  have hS : va_S A s.heap s.heap [] := va_S.rf
  have hl := lv_entry ([.ref (ad 0), .int p1, .ref qo]) (n := 4) (Nat.le_of_ble_eq_true rfl)
  rw [lg_entry_eq]
  generalize (lg_sl ([.ref (ad 0), .int p1, .ref qo]) ++ List.replicate (4 - (lg_sl ([.ref (ad 0), .int p1, .ref qo])).length) Slot.unset).toArray = ls at hl ⊢
  replace hl : lv_has ls 4 [(0, .ref (ad 0)), (1, .int p1), (2, .ref qo)] := hl
  refine lv_aload_n hx hb dL_open_0 rfl (lv_at hl 2 rfl) ?_
  refine lv_iconst (v := 0) hx hb dL_open_1 (by decide) ?_
  refine lv_aload_n hx hb dL_open_2 rfl (lv_at hl 0 rfl) ?_
  refine lv_iload_n hx hb dL_open_3 rfl (lv_at hl 1 rfl) ?_
  refine sg_ui (vx_runV (As := [.int p1]) (rest := [.int 0, .ref qo]) ⟨hx, hb, hml, hown, hts⟩ (c_X5_open l hlt D cA ad N _ _ R hf _) (cwV 1 hts gL_open_X5_open rfl rfl rfl (by decide +kernel) ⟨Nat.le_of_ble_eq_true rfl, Nat.le_of_ble_eq_true rfl⟩) (sg_preU hK hP hD hT hS hA (ci := 7) (q0 := 0) rfl rfl) rfl rfl hl.1 rfl (lv_room (Nat.le_of_ble_eq_true rfl)) dL_open_4 ⟨Nat.le_of_ble_eq_true rfl, Nat.le_of_ble_eq_true rfl⟩) hP hD hS hA (fun k v E ce q9 H locs hr1 hE hP hD hS hce hcv hcl => ?_) (fun r v H locs hr1 hP hD hS => ?_)
  · have hk := hR k v hr1
    simp only [List.mem_cons, List.not_mem_nil, or_false] at hk
    subst hk
    replace hE : E = "java/util/NoSuchElementException" := hE
    subst hE
    refine vx_catch (own := RL) (name := "java/util/NoSuchElementException") hown [] ⟨0, 9, 12, 25⟩ [] (by rw [htb]; rfl) (fun z hz => absurd hz List.not_mem_nil) (by decide) (by decide) (hts (.classLink RL 25 "java/util/NoSuchElementException") (by decide +kernel)) (va_Nw.use rfl (hT.2.2.2.1 (293, "java/util/NoSuchElementException") (by decide))) hce hcv hcl ?_
    refine lv_astore_n (lv' := [(3, .ref q9), (0, .ref (ad 0)), (1, .int p1), (2, .ref qo)]) hx hb dL_open_12 rfl hl (by decide) rfl (fun ls hl => ?_)
    refine lv_iconst (v := 1) hx hb dL_open_13 (by decide) ?_
    exact sg_lret (wz := fun z => sg_WL cA ad qo z.1 z.2) (v, o) hx hb hr hP hD hS dL_open_14 (Or.inr ⟨_, hr1, rfl, rfl⟩) hlocks (by decide) (by decide)
  · refine lv_i2l (v := r.toInt64) hx hb dL_open_7 rfl ?_
    refine va_last hx hb hK.1 hP hD hS 0 2 rfl rfl (sg_inb_s (i := 0) (n := 1) (by decide)) dL_open_8 (fun H locs hP hD hS => ?_)
    refine lv_goto (tgt := 15) hx hb dL_open_9 (by decide) ?_
    refine lv_iconst (v := 0) hx hb dL_open_15 (by decide) ?_
    exact sg_lret (wz := fun z => sg_WL cA ad qo z.1 z.2) (v, vp_updL o (0 : Int32).toNatClampNeg r.toInt64) hx hb hr hP hD hS dL_open_16 (Or.inl ⟨r, hr1, rfl, rfl⟩) hlocks (by decide) (by decide)
set_option maxRecDepth 100000 in
set_option maxHeartbeats 4000000 in
theorem c_L_canClose (l : Launch) (hlt : l.stackTraces = false) (D : va_G) (cA : Nat → ClassId) (ad : Nat → Nat) (qo : Nat) (o : Nat → Int64) (N : Nat) (u : sg_St) (p1 : Int32) (R : (Nat ⊕ Int32) × sg_St) (hf : fX5_canClose N u p1 = some R) (hR : ∀ k t, R = (.inl k, t) → k ∈ [5]) (sz : Nat) : Met l yL_canClose wsL_canClose ({ frames := 19, cells := 1, slots := 6, locals := 493 }) (va_Pc [.ref (ad 0), .int p1, .ref qo] (sg_PL D cA (sg_WL cA ad qo u o) sz)) (sg_QL D cA ad qo (va_A (sg_WL cA ad qo u o) sz) [5] sg_up64 R o) 1 6 (va_A (sg_WL cA ad qo u o) sz) := by
  refine sg_ofWH (cc := cL_canClose) (maxL := 4) (ret := (some .int)) (by decide) rfl ?_
  intro p e s m args below meth c s₁ B hml hv
  obtain ⟨rfl, ⟨hsz, hP, hK, hD0⟩, hT, hN⟩ := hv
  have hx := B.exec
  have hb := B.bytes
  have hr := B.returns
  have hts := atoms_spec (ws := wsL_canClose) B.pre
  have hown : s.vm.findClass RL = some m.cls := findClass_of_methodNamed B.named
  have hlocks := B.notSynchronized
  have htb : c.exceptionTable.toList = tableOf [(0, 9, 12, 25)] := vx_table (x := ⟨"", "", ""⟩) B (hts _ List.mem_cons_self)
  subst hsz
  have hD := hD0.self (sz := s.heap.size)
  replace hP : va_P D vwCl (sg_WL cA ad qo u o) s.heap := hP
  replace hD : va_D (va_A (sg_WL cA ad qo u o) s.heap.size) (sg_WL cA ad qo u o) := hD
  generalize hAe : va_A (sg_WL cA ad qo u o) s.heap.size = A at hD hT ⊢
  have hA : ∀ q : Nat, s.heap.size ≤ q → A q := fun q h => by rw [← hAe]; exact Or.inr h
  have hS : va_S A s.heap s.heap [] := va_S.rf
  have hl := lv_entry ([.ref (ad 0), .int p1, .ref qo]) (n := 4) (Nat.le_of_ble_eq_true rfl)
  rw [lg_entry_eq]
  generalize (lg_sl ([.ref (ad 0), .int p1, .ref qo]) ++ List.replicate (4 - (lg_sl ([.ref (ad 0), .int p1, .ref qo])).length) Slot.unset).toArray = ls at hl ⊢
  replace hl : lv_has ls 4 [(0, .ref (ad 0)), (1, .int p1), (2, .ref qo)] := hl
  refine lv_aload_n hx hb dL_canClose_0 rfl (lv_at hl 2 rfl) ?_
  refine lv_iconst (v := 0) hx hb dL_canClose_1 (by decide) ?_
  refine lv_aload_n hx hb dL_canClose_2 rfl (lv_at hl 0 rfl) ?_
  refine lv_iload_n hx hb dL_canClose_3 rfl (lv_at hl 1 rfl) ?_
  refine sg_ui (vx_runV (As := [.int p1]) (rest := [.int 0, .ref qo]) ⟨hx, hb, hml, hown, hts⟩ (c_X5_canClose l hlt D cA ad N _ _ R hf _) (cwV 1 hts gL_canClose_X5_canClose rfl rfl rfl (by decide +kernel) ⟨Nat.le_of_ble_eq_true rfl, Nat.le_of_ble_eq_true rfl⟩) (sg_preU hK hP hD hT hS hA (ci := 7) (q0 := 0) rfl rfl) rfl rfl hl.1 rfl (lv_room (Nat.le_of_ble_eq_true rfl)) dL_canClose_4 ⟨Nat.le_of_ble_eq_true rfl, Nat.le_of_ble_eq_true rfl⟩) hP hD hS hA (fun k v E ce q9 H locs hr1 hE hP hD hS hce hcv hcl => ?_) (fun r v H locs hr1 hP hD hS => ?_)
  · have hk := hR k v hr1
    simp only [List.mem_cons, List.not_mem_nil, or_false] at hk
    subst hk
    replace hE : E = "java/util/NoSuchElementException" := hE
    subst hE
    refine vx_catch (own := RL) (name := "java/util/NoSuchElementException") hown [] ⟨0, 9, 12, 25⟩ [] (by rw [htb]; rfl) (fun z hz => absurd hz List.not_mem_nil) (by decide) (by decide) (hts (.classLink RL 25 "java/util/NoSuchElementException") (by decide +kernel)) (va_Nw.use rfl (hT.2.2.2.1 (293, "java/util/NoSuchElementException") (by decide))) hce hcv hcl ?_
    refine lv_astore_n (lv' := [(3, .ref q9), (0, .ref (ad 0)), (1, .int p1), (2, .ref qo)]) hx hb dL_canClose_12 rfl hl (by decide) rfl (fun ls hl => ?_)
    refine lv_iconst (v := 1) hx hb dL_canClose_13 (by decide) ?_
    exact sg_lret (wz := fun z => sg_WL cA ad qo z.1 z.2) (v, o) hx hb hr hP hD hS dL_canClose_14 (Or.inr ⟨_, hr1, rfl, rfl⟩) hlocks (by decide) (by decide)
  · refine lv_i2l (v := r.toInt64) hx hb dL_canClose_7 rfl ?_
    refine va_last hx hb hK.1 hP hD hS 0 2 rfl rfl (sg_inb_s (i := 0) (n := 1) (by decide)) dL_canClose_8 (fun H locs hP hD hS => ?_)
    refine lv_goto (tgt := 15) hx hb dL_canClose_9 (by decide) ?_
    refine lv_iconst (v := 0) hx hb dL_canClose_15 (by decide) ?_
    exact sg_lret (wz := fun z => sg_WL cA ad qo z.1 z.2) (v, vp_updL o (0 : Int32).toNatClampNeg r.toInt64) hx hb hr hP hD hS dL_canClose_16 (Or.inl ⟨r, hr1, rfl, rfl⟩) hlocks (by decide) (by decide)
set_option maxRecDepth 100000 in
set_option maxHeartbeats 4000000 in
theorem c_L_canOpen (l : Launch) (hlt : l.stackTraces = false) (D : va_G) (cA : Nat → ClassId) (ad : Nat → Nat) (qo : Nat) (o : Nat → Int64) (N : Nat) (u : sg_St) (p1 : Int32) (R : (Nat ⊕ Int32) × sg_St) (hf : fX5_canOpen N u p1 = some R) (hR : ∀ k t, R = (.inl k, t) → k ∈ [5]) (sz : Nat) : Met l yL_canOpen wsL_canOpen ({ frames := 19, cells := 1, slots := 6, locals := 486 }) (va_Pc [.ref (ad 0), .int p1, .ref qo] (sg_PL D cA (sg_WL cA ad qo u o) sz)) (sg_QL D cA ad qo (va_A (sg_WL cA ad qo u o) sz) [5] sg_up64 R o) 1 6 (va_A (sg_WL cA ad qo u o) sz) := by
  refine sg_ofWH (cc := cL_canOpen) (maxL := 4) (ret := (some .int)) (by decide) rfl ?_
  intro p e s m args below meth c s₁ B hml hv
  obtain ⟨rfl, ⟨hsz, hP, hK, hD0⟩, hT, hN⟩ := hv
  have hx := B.exec
  have hb := B.bytes
  have hr := B.returns
  have hts := atoms_spec (ws := wsL_canOpen) B.pre
  have hown : s.vm.findClass RL = some m.cls := findClass_of_methodNamed B.named
  have hlocks := B.notSynchronized
  have htb : c.exceptionTable.toList = tableOf [(0, 9, 12, 25)] := vx_table (x := ⟨"", "", ""⟩) B (hts _ List.mem_cons_self)
  subst hsz
  have hD := hD0.self (sz := s.heap.size)
  replace hP : va_P D vwCl (sg_WL cA ad qo u o) s.heap := hP
  replace hD : va_D (va_A (sg_WL cA ad qo u o) s.heap.size) (sg_WL cA ad qo u o) := hD
  generalize hAe : va_A (sg_WL cA ad qo u o) s.heap.size = A at hD hT ⊢
  have hA : ∀ q : Nat, s.heap.size ≤ q → A q := fun q h => by rw [← hAe]; exact Or.inr h
  have hS : va_S A s.heap s.heap [] := va_S.rf
  have hl := lv_entry ([.ref (ad 0), .int p1, .ref qo]) (n := 4) (Nat.le_of_ble_eq_true rfl)
  rw [lg_entry_eq]
  generalize (lg_sl ([.ref (ad 0), .int p1, .ref qo]) ++ List.replicate (4 - (lg_sl ([.ref (ad 0), .int p1, .ref qo])).length) Slot.unset).toArray = ls at hl ⊢
  replace hl : lv_has ls 4 [(0, .ref (ad 0)), (1, .int p1), (2, .ref qo)] := hl
  refine lv_aload_n hx hb dL_canOpen_0 rfl (lv_at hl 2 rfl) ?_
  refine lv_iconst (v := 0) hx hb dL_canOpen_1 (by decide) ?_
  refine lv_aload_n hx hb dL_canOpen_2 rfl (lv_at hl 0 rfl) ?_
  refine lv_iload_n hx hb dL_canOpen_3 rfl (lv_at hl 1 rfl) ?_
  refine sg_ui (vx_runV (As := [.int p1]) (rest := [.int 0, .ref qo]) ⟨hx, hb, hml, hown, hts⟩ (c_X5_canOpen l hlt D cA ad N _ _ R hf _) (cwV 1 hts gL_canOpen_X5_canOpen rfl rfl rfl (by decide +kernel) ⟨Nat.le_of_ble_eq_true rfl, Nat.le_of_ble_eq_true rfl⟩) (sg_preU hK hP hD hT hS hA (ci := 7) (q0 := 0) rfl rfl) rfl rfl hl.1 rfl (lv_room (Nat.le_of_ble_eq_true rfl)) dL_canOpen_4 ⟨Nat.le_of_ble_eq_true rfl, Nat.le_of_ble_eq_true rfl⟩) hP hD hS hA (fun k v E ce q9 H locs hr1 hE hP hD hS hce hcv hcl => ?_) (fun r v H locs hr1 hP hD hS => ?_)
  · have hk := hR k v hr1
    simp only [List.mem_cons, List.not_mem_nil, or_false] at hk
    subst hk
    replace hE : E = "java/util/NoSuchElementException" := hE
    subst hE
    refine vx_catch (own := RL) (name := "java/util/NoSuchElementException") hown [] ⟨0, 9, 12, 25⟩ [] (by rw [htb]; rfl) (fun z hz => absurd hz List.not_mem_nil) (by decide) (by decide) (hts (.classLink RL 25 "java/util/NoSuchElementException") (by decide +kernel)) (va_Nw.use rfl (hT.2.2.2.1 (293, "java/util/NoSuchElementException") (by decide))) hce hcv hcl ?_
    refine lv_astore_n (lv' := [(3, .ref q9), (0, .ref (ad 0)), (1, .int p1), (2, .ref qo)]) hx hb dL_canOpen_12 rfl hl (by decide) rfl (fun ls hl => ?_)
    refine lv_iconst (v := 1) hx hb dL_canOpen_13 (by decide) ?_
    exact sg_lret (wz := fun z => sg_WL cA ad qo z.1 z.2) (v, o) hx hb hr hP hD hS dL_canOpen_14 (Or.inr ⟨_, hr1, rfl, rfl⟩) hlocks (by decide) (by decide)
  · refine lv_i2l (v := r.toInt64) hx hb dL_canOpen_7 rfl ?_
    refine va_last hx hb hK.1 hP hD hS 0 2 rfl rfl (sg_inb_s (i := 0) (n := 1) (by decide)) dL_canOpen_8 (fun H locs hP hD hS => ?_)
    refine lv_goto (tgt := 15) hx hb dL_canOpen_9 (by decide) ?_
    refine lv_iconst (v := 0) hx hb dL_canOpen_15 (by decide) ?_
    exact sg_lret (wz := fun z => sg_WL cA ad qo z.1 z.2) (v, vp_updL o (0 : Int32).toNatClampNeg r.toInt64) hx hb hr hP hD hS dL_canOpen_16 (Or.inl ⟨r, hr1, rfl, rfl⟩) hlocks (by decide) (by decide)
set_option maxRecDepth 100000 in
set_option maxHeartbeats 4000000 in
theorem c_L_overloaded (l : Launch) (hlt : l.stackTraces = false) (D : va_G) (cA : Nat → ClassId) (ad : Nat → Nat) (qo : Nat) (o : Nat → Int64) (N : Nat) (u : sg_St) (p1 : Int32) (R : (Nat ⊕ Int32) × sg_St) (hf : fX5_overloaded N u p1 = some R) (hR : ∀ k t, R = (.inl k, t) → k ∈ [5, 0]) (sz : Nat) : Met l yL_overloaded wsL_overloaded ({ frames := 19, cells := 2, slots := 12, locals := 493 }) (va_Pc [.ref (ad 0), .int p1, .ref qo] (sg_PL D cA (sg_WL cA ad qo u o) sz)) (sg_QL D cA ad qo (va_A (sg_WL cA ad qo u o) sz) [5, 0] sg_up64 R o) 2 12 (va_A (sg_WL cA ad qo u o) sz) := by
  refine sg_ofWH (cc := cL_overloaded) (maxL := 4) (ret := (some .int)) (by decide) rfl ?_
  intro p e s m args below meth c s₁ B hml hv
  obtain ⟨rfl, ⟨hsz, hP, hK, hD0⟩, hT, hN⟩ := hv
  have hx := B.exec
  have hb := B.bytes
  have hr := B.returns
  have hts := atoms_spec (ws := wsL_overloaded) B.pre
  have hown : s.vm.findClass RL = some m.cls := findClass_of_methodNamed B.named
  have hlocks := B.notSynchronized
  have htb : c.exceptionTable.toList = tableOf [(0, 9, 12, 25), (0, 9, 15, 15)] := vx_table (x := ⟨"", "", ""⟩) B (hts _ List.mem_cons_self)
  subst hsz
  have hD := hD0.self (sz := s.heap.size)
  replace hP : va_P D vwCl (sg_WL cA ad qo u o) s.heap := hP
  replace hD : va_D (va_A (sg_WL cA ad qo u o) s.heap.size) (sg_WL cA ad qo u o) := hD
  generalize hAe : va_A (sg_WL cA ad qo u o) s.heap.size = A at hD hT ⊢
  have hA : ∀ q : Nat, s.heap.size ≤ q → A q := fun q h => by rw [← hAe]; exact Or.inr h
  have hS : va_S A s.heap s.heap [] := va_S.rf
  have hl := lv_entry ([.ref (ad 0), .int p1, .ref qo]) (n := 4) (Nat.le_of_ble_eq_true rfl)
  rw [lg_entry_eq]
  generalize (lg_sl ([.ref (ad 0), .int p1, .ref qo]) ++ List.replicate (4 - (lg_sl ([.ref (ad 0), .int p1, .ref qo])).length) Slot.unset).toArray = ls at hl ⊢
  replace hl : lv_has ls 4 [(0, .ref (ad 0)), (1, .int p1), (2, .ref qo)] := hl
  refine lv_aload_n hx hb dL_overloaded_0 rfl (lv_at hl 2 rfl) ?_
  refine lv_iconst (v := 0) hx hb dL_overloaded_1 (by decide) ?_
  refine lv_aload_n hx hb dL_overloaded_2 rfl (lv_at hl 0 rfl) ?_
  refine lv_iload_n hx hb dL_overloaded_3 rfl (lv_at hl 1 rfl) ?_
  refine sg_ui (vx_runV (As := [.int p1]) (rest := [.int 0, .ref qo]) ⟨hx, hb, hml, hown, hts⟩ (c_X5_overloaded l hlt D cA ad N _ _ R hf _) (cwV 1 hts gL_overloaded_X5_overloaded rfl rfl rfl (by decide +kernel) ⟨Nat.le_of_ble_eq_true rfl, Nat.le_of_ble_eq_true rfl⟩) (sg_preU hK hP hD hT hS hA (ci := 7) (q0 := 0) rfl rfl) rfl rfl hl.1 rfl (lv_room (Nat.le_of_ble_eq_true rfl)) dL_overloaded_4 ⟨Nat.le_of_ble_eq_true rfl, Nat.le_of_ble_eq_true rfl⟩) hP hD hS hA (fun k v E ce q9 H locs hr1 hE hP hD hS hce hcv hcl => ?_) (fun r v H locs hr1 hP hD hS => ?_)
  · have hk := hR k v hr1
    simp only [List.mem_cons, List.not_mem_nil, or_false] at hk
    rcases hk with rfl | rfl
    · replace hE : E = "java/util/NoSuchElementException" := hE
      subst hE
      refine vx_catch (own := RL) (name := "java/util/NoSuchElementException") hown [] ⟨0, 9, 12, 25⟩ [⟨0, 9, 15, 15⟩] (by rw [htb]; rfl) (fun z hz => absurd hz List.not_mem_nil) (by decide) (by decide) (hts (.classLink RL 25 "java/util/NoSuchElementException") (by decide +kernel)) (va_Nw.use rfl (hT.2.2.2.1 (293, "java/util/NoSuchElementException") (by decide))) hce hcv hcl ?_
      refine lv_astore_n (lv' := [(3, .ref q9), (0, .ref (ad 0)), (1, .int p1), (2, .ref qo)]) hx hb dL_overloaded_12 rfl hl (by decide) rfl (fun ls hl => ?_)
      refine lv_iconst (v := 1) hx hb dL_overloaded_13 (by decide) ?_
      exact sg_lret (wz := fun z => sg_WL cA ad qo z.1 z.2) (v, o) hx hb hr hP hD hS dL_overloaded_14 (Or.inr ⟨_, hr1, rfl, rfl⟩) hlocks (by decide) (by decide)
    · replace hE : E = "java/lang/IllegalStateException" := hE
      subst hE
      refine vx_catch (own := RL) (name := "java/lang/IllegalStateException") hown [⟨0, 9, 12, 25⟩] ⟨0, 9, 15, 15⟩ [] (by rw [htb]; rfl) (List.forall_mem_cons.mpr ⟨Or.inr ⟨by decide, "java/util/NoSuchElementException", hts (.classLink RL 25 "java/util/NoSuchElementException") (by decide +kernel), hN ("java/lang/IllegalStateException", "java/util/NoSuchElementException") (by decide +kernel)⟩, fun _ h => absurd h List.not_mem_nil⟩) (by decide) (by decide) (hts (.classLink RL 15 "java/lang/IllegalStateException") (by decide +kernel)) (va_Nw.use rfl (hT.2.2.2.1 (104, "java/lang/IllegalStateException") (by decide))) hce hcv hcl ?_
      refine lv_astore_n (lv' := [(3, .ref q9), (0, .ref (ad 0)), (1, .int p1), (2, .ref qo)]) hx hb dL_overloaded_15 rfl hl (by decide) rfl (fun ls hl => ?_)
      refine lv_iconst (v := 2) hx hb dL_overloaded_16 (by decide) ?_
      exact sg_lret (wz := fun z => sg_WL cA ad qo z.1 z.2) (v, o) hx hb hr hP hD hS dL_overloaded_17 (Or.inr ⟨_, hr1, rfl, rfl⟩) hlocks (by decide) (by decide)
  · refine lv_i2l (v := r.toInt64) hx hb dL_overloaded_7 rfl ?_
    refine va_last hx hb hK.1 hP hD hS 0 2 rfl rfl (sg_inb_s (i := 0) (n := 1) (by decide)) dL_overloaded_8 (fun H locs hP hD hS => ?_)
    refine lv_goto (tgt := 18) hx hb dL_overloaded_9 (by decide) ?_
    refine lv_iconst (v := 0) hx hb dL_overloaded_18 (by decide) ?_
    exact sg_lret (wz := fun z => sg_WL cA ad qo z.1 z.2) (v, vp_updL o (0 : Int32).toNatClampNeg r.toInt64) hx hb hr hP hD hS dL_overloaded_19 (Or.inl ⟨r, hr1, rfl, rfl⟩) hlocks (by decide) (by decide)
set_option maxRecDepth 100000 in
set_option maxHeartbeats 4000000 in
theorem c_L_fault (l : Launch) (hlt : l.stackTraces = false) (D : va_G) (cA : Nat → ClassId) (ad : Nat → Nat) (qo : Nat) (o : Nat → Int64) (N : Nat) (u : sg_St) (p1 : Int32) (R : (Nat ⊕ Int32) × sg_St) (hf : fX5_fault N u p1 = some R) (hR : ∀ k t, R = (.inl k, t) → k ∈ [5, 0]) (sz : Nat) : Met l yL_fault wsL_fault ({ frames := 18, cells := 2, slots := 12, locals := 485 }) (va_Pc [.ref (ad 0), .int p1, .ref qo] (sg_PL D cA (sg_WL cA ad qo u o) sz)) (sg_QL D cA ad qo (va_A (sg_WL cA ad qo u o) sz) [5, 0] sg_up64 R o) 2 12 (va_A (sg_WL cA ad qo u o) sz) := by
  refine sg_ofWH (cc := cL_fault) (maxL := 4) (ret := (some .int)) (by decide) rfl ?_
  intro p e s m args below meth c s₁ B hml hv
  obtain ⟨rfl, ⟨hsz, hP, hK, hD0⟩, hT, hN⟩ := hv
  have hx := B.exec
  have hb := B.bytes
  have hr := B.returns
  have hts := atoms_spec (ws := wsL_fault) B.pre
  have hown : s.vm.findClass RL = some m.cls := findClass_of_methodNamed B.named
  have hlocks := B.notSynchronized
  have htb : c.exceptionTable.toList = tableOf [(0, 9, 12, 25), (0, 9, 15, 15)] := vx_table (x := ⟨"", "", ""⟩) B (hts _ List.mem_cons_self)
  subst hsz
  have hD := hD0.self (sz := s.heap.size)
  replace hP : va_P D vwCl (sg_WL cA ad qo u o) s.heap := hP
  replace hD : va_D (va_A (sg_WL cA ad qo u o) s.heap.size) (sg_WL cA ad qo u o) := hD
  generalize hAe : va_A (sg_WL cA ad qo u o) s.heap.size = A at hD hT ⊢
  have hA : ∀ q : Nat, s.heap.size ≤ q → A q := fun q h => by rw [← hAe]; exact Or.inr h
  have hS : va_S A s.heap s.heap [] := va_S.rf
  have hl := lv_entry ([.ref (ad 0), .int p1, .ref qo]) (n := 4) (Nat.le_of_ble_eq_true rfl)
  rw [lg_entry_eq]
  generalize (lg_sl ([.ref (ad 0), .int p1, .ref qo]) ++ List.replicate (4 - (lg_sl ([.ref (ad 0), .int p1, .ref qo])).length) Slot.unset).toArray = ls at hl ⊢
  replace hl : lv_has ls 4 [(0, .ref (ad 0)), (1, .int p1), (2, .ref qo)] := hl
  refine lv_aload_n hx hb dL_fault_0 rfl (lv_at hl 2 rfl) ?_
  refine lv_iconst (v := 0) hx hb dL_fault_1 (by decide) ?_
  refine lv_aload_n hx hb dL_fault_2 rfl (lv_at hl 0 rfl) ?_
  refine lv_iload_n hx hb dL_fault_3 rfl (lv_at hl 1 rfl) ?_
  refine sg_ui (vx_runV (As := [.int p1]) (rest := [.int 0, .ref qo]) ⟨hx, hb, hml, hown, hts⟩ (c_X5_fault l hlt D cA ad N _ _ R hf _) (cwV 1 hts gL_fault_X5_fault rfl rfl rfl (by decide +kernel) ⟨Nat.le_of_ble_eq_true rfl, Nat.le_of_ble_eq_true rfl⟩) (sg_preU hK hP hD hT hS hA (ci := 7) (q0 := 0) rfl rfl) rfl rfl hl.1 rfl (lv_room (Nat.le_of_ble_eq_true rfl)) dL_fault_4 ⟨Nat.le_of_ble_eq_true rfl, Nat.le_of_ble_eq_true rfl⟩) hP hD hS hA (fun k v E ce q9 H locs hr1 hE hP hD hS hce hcv hcl => ?_) (fun r v H locs hr1 hP hD hS => ?_)
  · have hk := hR k v hr1
    simp only [List.mem_cons, List.not_mem_nil, or_false] at hk
    rcases hk with rfl | rfl
    · replace hE : E = "java/util/NoSuchElementException" := hE
      subst hE
      refine vx_catch (own := RL) (name := "java/util/NoSuchElementException") hown [] ⟨0, 9, 12, 25⟩ [⟨0, 9, 15, 15⟩] (by rw [htb]; rfl) (fun z hz => absurd hz List.not_mem_nil) (by decide) (by decide) (hts (.classLink RL 25 "java/util/NoSuchElementException") (by decide +kernel)) (va_Nw.use rfl (hT.2.2.2.1 (293, "java/util/NoSuchElementException") (by decide))) hce hcv hcl ?_
      refine lv_astore_n (lv' := [(3, .ref q9), (0, .ref (ad 0)), (1, .int p1), (2, .ref qo)]) hx hb dL_fault_12 rfl hl (by decide) rfl (fun ls hl => ?_)
      refine lv_iconst (v := 1) hx hb dL_fault_13 (by decide) ?_
      exact sg_lret (wz := fun z => sg_WL cA ad qo z.1 z.2) (v, o) hx hb hr hP hD hS dL_fault_14 (Or.inr ⟨_, hr1, rfl, rfl⟩) hlocks (by decide) (by decide)
    · replace hE : E = "java/lang/IllegalStateException" := hE
      subst hE
      refine vx_catch (own := RL) (name := "java/lang/IllegalStateException") hown [⟨0, 9, 12, 25⟩] ⟨0, 9, 15, 15⟩ [] (by rw [htb]; rfl) (List.forall_mem_cons.mpr ⟨Or.inr ⟨by decide, "java/util/NoSuchElementException", hts (.classLink RL 25 "java/util/NoSuchElementException") (by decide +kernel), hN ("java/lang/IllegalStateException", "java/util/NoSuchElementException") (by decide +kernel)⟩, fun _ h => absurd h List.not_mem_nil⟩) (by decide) (by decide) (hts (.classLink RL 15 "java/lang/IllegalStateException") (by decide +kernel)) (va_Nw.use rfl (hT.2.2.2.1 (104, "java/lang/IllegalStateException") (by decide))) hce hcv hcl ?_
      refine lv_astore_n (lv' := [(3, .ref q9), (0, .ref (ad 0)), (1, .int p1), (2, .ref qo)]) hx hb dL_fault_15 rfl hl (by decide) rfl (fun ls hl => ?_)
      refine lv_iconst (v := 2) hx hb dL_fault_16 (by decide) ?_
      exact sg_lret (wz := fun z => sg_WL cA ad qo z.1 z.2) (v, o) hx hb hr hP hD hS dL_fault_17 (Or.inr ⟨_, hr1, rfl, rfl⟩) hlocks (by decide) (by decide)
  · refine lv_i2l (v := r.toInt64) hx hb dL_fault_7 rfl ?_
    refine va_last hx hb hK.1 hP hD hS 0 2 rfl rfl (sg_inb_s (i := 0) (n := 1) (by decide)) dL_fault_8 (fun H locs hP hD hS => ?_)
    refine lv_goto (tgt := 18) hx hb dL_fault_9 (by decide) ?_
    refine lv_iconst (v := 0) hx hb dL_fault_18 (by decide) ?_
    exact sg_lret (wz := fun z => sg_WL cA ad qo z.1 z.2) (v, vp_updL o (0 : Int32).toNatClampNeg r.toInt64) hx hb hr hP hD hS dL_fault_19 (Or.inl ⟨r, hr1, rfl, rfl⟩) hlocks (by decide) (by decide)
set_option maxRecDepth 100000 in
set_option maxHeartbeats 4000000 in
theorem c_L_repair (l : Launch) (hlt : l.stackTraces = false) (D : va_G) (cA : Nat → ClassId) (ad : Nat → Nat) (qo : Nat) (o : Nat → Int64) (N : Nat) (u : sg_St) (p1 : Int32) (R : (Nat ⊕ Int32) × sg_St) (hf : fX5_repair N u p1 = some R) (hR : ∀ k t, R = (.inl k, t) → k ∈ [5, 0]) (sz : Nat) : Met l yL_repair wsL_repair ({ frames := 10, cells := 2, slots := 12, locals := 442 }) (va_Pc [.ref (ad 0), .int p1, .ref qo] (sg_PL D cA (sg_WL cA ad qo u o) sz)) (sg_QL D cA ad qo (va_A (sg_WL cA ad qo u o) sz) [5, 0] sg_upB R o) 2 12 (va_A (sg_WL cA ad qo u o) sz) := by
  refine sg_ofWH (cc := cL_repair) (maxL := 4) (ret := (some .int)) (by decide) rfl ?_
  intro p e s m args below meth c s₁ B hml hv
  obtain ⟨rfl, ⟨hsz, hP, hK, hD0⟩, hT, hN⟩ := hv
  have hx := B.exec
  have hb := B.bytes
  have hr := B.returns
  have hts := atoms_spec (ws := wsL_repair) B.pre
  have hown : s.vm.findClass RL = some m.cls := findClass_of_methodNamed B.named
  have hlocks := B.notSynchronized
  have htb : c.exceptionTable.toList = tableOf [(0, 16, 19, 25), (0, 16, 22, 15)] := vx_table (x := ⟨"", "", ""⟩) B (hts _ List.mem_cons_self)
  subst hsz
  have hD := hD0.self (sz := s.heap.size)
  replace hP : va_P D vwCl (sg_WL cA ad qo u o) s.heap := hP
  replace hD : va_D (va_A (sg_WL cA ad qo u o) s.heap.size) (sg_WL cA ad qo u o) := hD
  generalize hAe : va_A (sg_WL cA ad qo u o) s.heap.size = A at hD hT ⊢
  have hA : ∀ q : Nat, s.heap.size ≤ q → A q := fun q h => by rw [← hAe]; exact Or.inr h
  have hS : va_S A s.heap s.heap [] := va_S.rf
  have hl := lv_entry ([.ref (ad 0), .int p1, .ref qo]) (n := 4) (Nat.le_of_ble_eq_true rfl)
  rw [lg_entry_eq]
  generalize (lg_sl ([.ref (ad 0), .int p1, .ref qo]) ++ List.replicate (4 - (lg_sl ([.ref (ad 0), .int p1, .ref qo])).length) Slot.unset).toArray = ls at hl ⊢
  replace hl : lv_has ls 4 [(0, .ref (ad 0)), (1, .int p1), (2, .ref qo)] := hl
  refine lv_aload_n hx hb dL_repair_0 rfl (lv_at hl 2 rfl) ?_
  refine lv_iconst (v := 0) hx hb dL_repair_1 (by decide) ?_
  refine lv_aload_n hx hb dL_repair_2 rfl (lv_at hl 0 rfl) ?_
  refine lv_iload_n hx hb dL_repair_3 rfl (lv_at hl 1 rfl) ?_
  refine sg_ui (vx_runV (As := [.int p1]) (rest := [.int 0, .ref qo]) ⟨hx, hb, hml, hown, hts⟩ (c_X5_repair l hlt D cA ad N _ _ R hf _) (cwV 1 hts gL_repair_X5_repair rfl rfl rfl (by decide +kernel) ⟨Nat.le_of_ble_eq_true rfl, Nat.le_of_ble_eq_true rfl⟩) (sg_preU hK hP hD hT hS hA (ci := 7) (q0 := 0) rfl rfl) rfl rfl hl.1 rfl (lv_room (Nat.le_of_ble_eq_true rfl)) dL_repair_4 ⟨Nat.le_of_ble_eq_true rfl, Nat.le_of_ble_eq_true rfl⟩) hP hD hS hA (fun k v E ce q9 H locs hr1 hE hP hD hS hce hcv hcl => ?_) (fun r v H locs hr1 hP hD hS => ?_)
  · have hk := hR k v hr1
    simp only [List.mem_cons, List.not_mem_nil, or_false] at hk
    rcases hk with rfl | rfl
    · replace hE : E = "java/util/NoSuchElementException" := hE
      subst hE
      refine vx_catch (own := RL) (name := "java/util/NoSuchElementException") hown [] ⟨0, 16, 19, 25⟩ [⟨0, 16, 22, 15⟩] (by rw [htb]; rfl) (fun z hz => absurd hz List.not_mem_nil) (by decide) (by decide) (hts (.classLink RL 25 "java/util/NoSuchElementException") (by decide +kernel)) (va_Nw.use rfl (hT.2.2.2.1 (293, "java/util/NoSuchElementException") (by decide))) hce hcv hcl ?_
      refine lv_astore_n (lv' := [(3, .ref q9), (0, .ref (ad 0)), (1, .int p1), (2, .ref qo)]) hx hb dL_repair_19 rfl hl (by decide) rfl (fun ls hl => ?_)
      refine lv_iconst (v := 1) hx hb dL_repair_20 (by decide) ?_
      exact sg_lret (wz := fun z => sg_WL cA ad qo z.1 z.2) (v, o) hx hb hr hP hD hS dL_repair_21 (Or.inr ⟨_, hr1, rfl, rfl⟩) hlocks (by decide) (by decide)
    · replace hE : E = "java/lang/IllegalStateException" := hE
      subst hE
      refine vx_catch (own := RL) (name := "java/lang/IllegalStateException") hown [⟨0, 16, 19, 25⟩] ⟨0, 16, 22, 15⟩ [] (by rw [htb]; rfl) (List.forall_mem_cons.mpr ⟨Or.inr ⟨by decide, "java/util/NoSuchElementException", hts (.classLink RL 25 "java/util/NoSuchElementException") (by decide +kernel), hN ("java/lang/IllegalStateException", "java/util/NoSuchElementException") (by decide +kernel)⟩, fun _ h => absurd h List.not_mem_nil⟩) (by decide) (by decide) (hts (.classLink RL 15 "java/lang/IllegalStateException") (by decide +kernel)) (va_Nw.use rfl (hT.2.2.2.1 (104, "java/lang/IllegalStateException") (by decide))) hce hcv hcl ?_
      refine lv_astore_n (lv' := [(3, .ref q9), (0, .ref (ad 0)), (1, .int p1), (2, .ref qo)]) hx hb dL_repair_22 rfl hl (by decide) rfl (fun ls hl => ?_)
      refine lv_iconst (v := 2) hx hb dL_repair_23 (by decide) ?_
      exact sg_lret (wz := fun z => sg_WL cA ad qo z.1 z.2) (v, o) hx hb hr hP hD hS dL_repair_24 (Or.inr ⟨_, hr1, rfl, rfl⟩) hlocks (by decide) (by decide)
  · refine lv_if_eq (tgt := 14) hx hb dL_repair_7 (by decide) (fun hc => ?_) (fun hc => ?_)
    · refine lv_lconst (v := 0) hx hb dL_repair_14 (by decide) ?_
      refine va_last hx hb hK.1 hP hD hS 0 2 rfl rfl (sg_inb_s (i := 0) (n := 1) (by decide)) dL_repair_15 (fun H locs hP hD hS => ?_)
      refine lv_goto (tgt := 25) hx hb dL_repair_16 (by decide) ?_
      refine lv_iconst (v := 0) hx hb dL_repair_25 (by decide) ?_
      exact sg_lret (wz := fun z => sg_WL cA ad qo z.1 z.2) (v, vp_updL o (0 : Int32).toNatClampNeg 0) hx hb hr hP hD hS dL_repair_26 (Or.inl ⟨r, hr1, rfl, by unfold sg_upB; rw [if_pos hc]⟩) hlocks (by decide) (by decide)
    · refine lv_lconst (v := 1) hx hb dL_repair_10 (by decide) ?_
      refine lv_goto (tgt := 15) hx hb dL_repair_11 (by decide) ?_
      refine va_last hx hb hK.1 hP hD hS 0 2 rfl rfl (sg_inb_s (i := 0) (n := 1) (by decide)) dL_repair_15 (fun H locs hP hD hS => ?_)
      refine lv_goto (tgt := 25) hx hb dL_repair_16 (by decide) ?_
      refine lv_iconst (v := 0) hx hb dL_repair_25 (by decide) ?_
      exact sg_lret (wz := fun z => sg_WL cA ad qo z.1 z.2) (v, vp_updL o (0 : Int32).toNatClampNeg 1) hx hb hr hP hD hS dL_repair_26 (Or.inl ⟨r, hr1, rfl, by unfold sg_upB; rw [if_neg hc]⟩) hlocks (by decide) (by decide)
set_option maxRecDepth 100000 in
set_option maxHeartbeats 4000000 in
theorem c_L_reset (l : Launch) (hlt : l.stackTraces = false) (D : va_G) (cA : Nat → ClassId) (ad : Nat → Nat) (qo : Nat) (o : Nat → Int64) (N : Nat) (u : sg_St) (p1 : Int32) (R : (Nat ⊕ Int32) × sg_St) (hf : fX5_reset N u p1 = some R) (hR : ∀ k t, R = (.inl k, t) → k ∈ [5, 4, 0]) (sz : Nat) : Met l yL_reset wsL_reset ({ frames := 10, cells := 2, slots := 12, locals := 442 }) (va_Pc [.ref (ad 0), .int p1, .ref qo] (sg_PL D cA (sg_WL cA ad qo u o) sz)) (sg_QL D cA ad qo (va_A (sg_WL cA ad qo u o) sz) [5, 4, 0] sg_up64 R o) 2 12 (va_A (sg_WL cA ad qo u o) sz) := by
  refine sg_ofWH (cc := cL_reset) (maxL := 4) (ret := (some .int)) (by decide) rfl ?_
  intro p e s m args below meth c s₁ B hml hv
  obtain ⟨rfl, ⟨hsz, hP, hK, hD0⟩, hT, hN⟩ := hv
  have hx := B.exec
  have hb := B.bytes
  have hr := B.returns
  have hts := atoms_spec (ws := wsL_reset) B.pre
  have hown : s.vm.findClass RL = some m.cls := findClass_of_methodNamed B.named
  have hlocks := B.notSynchronized
  have htb : c.exceptionTable.toList = tableOf [(0, 9, 12, 25), (0, 9, 15, 30), (0, 9, 18, 15)] := vx_table (x := ⟨"", "", ""⟩) B (hts _ List.mem_cons_self)
  subst hsz
  have hD := hD0.self (sz := s.heap.size)
  replace hP : va_P D vwCl (sg_WL cA ad qo u o) s.heap := hP
  replace hD : va_D (va_A (sg_WL cA ad qo u o) s.heap.size) (sg_WL cA ad qo u o) := hD
  generalize hAe : va_A (sg_WL cA ad qo u o) s.heap.size = A at hD hT ⊢
  have hA : ∀ q : Nat, s.heap.size ≤ q → A q := fun q h => by rw [← hAe]; exact Or.inr h
  have hS : va_S A s.heap s.heap [] := va_S.rf
  have hl := lv_entry ([.ref (ad 0), .int p1, .ref qo]) (n := 4) (Nat.le_of_ble_eq_true rfl)
  rw [lg_entry_eq]
  generalize (lg_sl ([.ref (ad 0), .int p1, .ref qo]) ++ List.replicate (4 - (lg_sl ([.ref (ad 0), .int p1, .ref qo])).length) Slot.unset).toArray = ls at hl ⊢
  replace hl : lv_has ls 4 [(0, .ref (ad 0)), (1, .int p1), (2, .ref qo)] := hl
  refine lv_aload_n hx hb dL_reset_0 rfl (lv_at hl 2 rfl) ?_
  refine lv_iconst (v := 0) hx hb dL_reset_1 (by decide) ?_
  refine lv_aload_n hx hb dL_reset_2 rfl (lv_at hl 0 rfl) ?_
  refine lv_iload_n hx hb dL_reset_3 rfl (lv_at hl 1 rfl) ?_
  refine sg_ui (vx_runV (As := [.int p1]) (rest := [.int 0, .ref qo]) ⟨hx, hb, hml, hown, hts⟩ (c_X5_reset l hlt D cA ad N _ _ R hf _) (cwV 1 hts gL_reset_X5_reset rfl rfl rfl (by decide +kernel) ⟨Nat.le_of_ble_eq_true rfl, Nat.le_of_ble_eq_true rfl⟩) (sg_preU hK hP hD hT hS hA (ci := 7) (q0 := 0) rfl rfl) rfl rfl hl.1 rfl (lv_room (Nat.le_of_ble_eq_true rfl)) dL_reset_4 ⟨Nat.le_of_ble_eq_true rfl, Nat.le_of_ble_eq_true rfl⟩) hP hD hS hA (fun k v E ce q9 H locs hr1 hE hP hD hS hce hcv hcl => ?_) (fun r v H locs hr1 hP hD hS => ?_)
  · have hk := hR k v hr1
    simp only [List.mem_cons, List.not_mem_nil, or_false] at hk
    rcases hk with rfl | rfl | rfl
    · replace hE : E = "java/util/NoSuchElementException" := hE
      subst hE
      refine vx_catch (own := RL) (name := "java/util/NoSuchElementException") hown [] ⟨0, 9, 12, 25⟩ [⟨0, 9, 15, 30⟩, ⟨0, 9, 18, 15⟩] (by rw [htb]; rfl) (fun z hz => absurd hz List.not_mem_nil) (by decide) (by decide) (hts (.classLink RL 25 "java/util/NoSuchElementException") (by decide +kernel)) (va_Nw.use rfl (hT.2.2.2.1 (293, "java/util/NoSuchElementException") (by decide))) hce hcv hcl ?_
      refine lv_astore_n (lv' := [(3, .ref q9), (0, .ref (ad 0)), (1, .int p1), (2, .ref qo)]) hx hb dL_reset_12 rfl hl (by decide) rfl (fun ls hl => ?_)
      refine lv_iconst (v := 1) hx hb dL_reset_13 (by decide) ?_
      exact sg_lret (wz := fun z => sg_WL cA ad qo z.1 z.2) (v, o) hx hb hr hP hD hS dL_reset_14 (Or.inr ⟨_, hr1, rfl, rfl⟩) hlocks (by decide) (by decide)
    · replace hE : E = "java/lang/UnsupportedOperationException" := hE
      subst hE
      refine vx_catch (own := RL) (name := "java/lang/UnsupportedOperationException") hown [⟨0, 9, 12, 25⟩] ⟨0, 9, 15, 30⟩ [⟨0, 9, 18, 15⟩] (by rw [htb]; rfl) (List.forall_mem_cons.mpr ⟨Or.inr ⟨by decide, "java/util/NoSuchElementException", hts (.classLink RL 25 "java/util/NoSuchElementException") (by decide +kernel), hN ("java/lang/UnsupportedOperationException", "java/util/NoSuchElementException") (by decide +kernel)⟩, fun _ h => absurd h List.not_mem_nil⟩) (by decide) (by decide) (hts (.classLink RL 30 "java/lang/UnsupportedOperationException") (by decide +kernel)) (va_Nw.use rfl (hT.2.2.2.1 (178, "java/lang/UnsupportedOperationException") (by decide))) hce hcv hcl ?_
      refine lv_astore_n (lv' := [(3, .ref q9), (0, .ref (ad 0)), (1, .int p1), (2, .ref qo)]) hx hb dL_reset_15 rfl hl (by decide) rfl (fun ls hl => ?_)
      refine lv_iconst (v := 2) hx hb dL_reset_16 (by decide) ?_
      exact sg_lret (wz := fun z => sg_WL cA ad qo z.1 z.2) (v, o) hx hb hr hP hD hS dL_reset_17 (Or.inr ⟨_, hr1, rfl, rfl⟩) hlocks (by decide) (by decide)
    · replace hE : E = "java/lang/IllegalStateException" := hE
      subst hE
      refine vx_catch (own := RL) (name := "java/lang/IllegalStateException") hown [⟨0, 9, 12, 25⟩, ⟨0, 9, 15, 30⟩] ⟨0, 9, 18, 15⟩ [] (by rw [htb]; rfl) (List.forall_mem_cons.mpr ⟨Or.inr ⟨by decide, "java/util/NoSuchElementException", hts (.classLink RL 25 "java/util/NoSuchElementException") (by decide +kernel), hN ("java/lang/IllegalStateException", "java/util/NoSuchElementException") (by decide +kernel)⟩, List.forall_mem_cons.mpr ⟨Or.inr ⟨by decide, "java/lang/UnsupportedOperationException", hts (.classLink RL 30 "java/lang/UnsupportedOperationException") (by decide +kernel), hN ("java/lang/IllegalStateException", "java/lang/UnsupportedOperationException") (by decide +kernel)⟩, fun _ h => absurd h List.not_mem_nil⟩⟩) (by decide) (by decide) (hts (.classLink RL 15 "java/lang/IllegalStateException") (by decide +kernel)) (va_Nw.use rfl (hT.2.2.2.1 (104, "java/lang/IllegalStateException") (by decide))) hce hcv hcl ?_
      refine lv_astore_n (lv' := [(3, .ref q9), (0, .ref (ad 0)), (1, .int p1), (2, .ref qo)]) hx hb dL_reset_18 rfl hl (by decide) rfl (fun ls hl => ?_)
      refine lv_iconst (v := 3) hx hb dL_reset_19 (by decide) ?_
      exact sg_lret (wz := fun z => sg_WL cA ad qo z.1 z.2) (v, o) hx hb hr hP hD hS dL_reset_20 (Or.inr ⟨_, hr1, rfl, rfl⟩) hlocks (by decide) (by decide)
  · refine lv_i2l (v := r.toInt64) hx hb dL_reset_7 rfl ?_
    refine va_last hx hb hK.1 hP hD hS 0 2 rfl rfl (sg_inb_s (i := 0) (n := 1) (by decide)) dL_reset_8 (fun H locs hP hD hS => ?_)
    refine lv_goto (tgt := 21) hx hb dL_reset_9 (by decide) ?_
    refine lv_iconst (v := 0) hx hb dL_reset_21 (by decide) ?_
    exact sg_lret (wz := fun z => sg_WL cA ad qo z.1 z.2) (v, vp_updL o (0 : Int32).toNatClampNeg r.toInt64) hx hb hr hP hD hS dL_reset_22 (Or.inl ⟨r, hr1, rfl, rfl⟩) hlocks (by decide) (by decide)
set_option maxRecDepth 100000 in
set_option maxHeartbeats 4000000 in
theorem c_L_isSource (l : Launch) (hlt : l.stackTraces = false) (D : va_G) (cA : Nat → ClassId) (ad : Nat → Nat) (qo : Nat) (o : Nat → Int64) (N : Nat) (u : sg_St) (p1 : Int32) (R : (Nat ⊕ Int32) × sg_St) (hf : fX5_isSource N u p1 = some R) (hR : ∀ k t, R = (.inl k, t) → k ∈ [5]) (sz : Nat) : Met l yL_isSource wsL_isSource ({ frames := 10, cells := 1, slots := 6, locals := 442 }) (va_Pc [.ref (ad 0), .int p1, .ref qo] (sg_PL D cA (sg_WL cA ad qo u o) sz)) (sg_QL D cA ad qo (va_A (sg_WL cA ad qo u o) sz) [5] sg_upB R o) 1 6 (va_A (sg_WL cA ad qo u o) sz) := by
  refine sg_ofWH (cc := cL_isSource) (maxL := 4) (ret := (some .int)) (by decide) rfl ?_
  intro p e s m args below meth c s₁ B hml hv
  obtain ⟨rfl, ⟨hsz, hP, hK, hD0⟩, hT, hN⟩ := hv
  have hx := B.exec
  have hb := B.bytes
  have hr := B.returns
  have hts := atoms_spec (ws := wsL_isSource) B.pre
  have hown : s.vm.findClass RL = some m.cls := findClass_of_methodNamed B.named
  have hlocks := B.notSynchronized
  have htb : c.exceptionTable.toList = tableOf [(0, 16, 19, 25)] := vx_table (x := ⟨"", "", ""⟩) B (hts _ List.mem_cons_self)
  subst hsz
  have hD := hD0.self (sz := s.heap.size)
  replace hP : va_P D vwCl (sg_WL cA ad qo u o) s.heap := hP
  replace hD : va_D (va_A (sg_WL cA ad qo u o) s.heap.size) (sg_WL cA ad qo u o) := hD
  generalize hAe : va_A (sg_WL cA ad qo u o) s.heap.size = A at hD hT ⊢
  have hA : ∀ q : Nat, s.heap.size ≤ q → A q := fun q h => by rw [← hAe]; exact Or.inr h
  have hS : va_S A s.heap s.heap [] := va_S.rf
  have hl := lv_entry ([.ref (ad 0), .int p1, .ref qo]) (n := 4) (Nat.le_of_ble_eq_true rfl)
  rw [lg_entry_eq]
  generalize (lg_sl ([.ref (ad 0), .int p1, .ref qo]) ++ List.replicate (4 - (lg_sl ([.ref (ad 0), .int p1, .ref qo])).length) Slot.unset).toArray = ls at hl ⊢
  replace hl : lv_has ls 4 [(0, .ref (ad 0)), (1, .int p1), (2, .ref qo)] := hl
  refine lv_aload_n hx hb dL_isSource_0 rfl (lv_at hl 2 rfl) ?_
  refine lv_iconst (v := 0) hx hb dL_isSource_1 (by decide) ?_
  refine lv_aload_n hx hb dL_isSource_2 rfl (lv_at hl 0 rfl) ?_
  refine lv_iload_n hx hb dL_isSource_3 rfl (lv_at hl 1 rfl) ?_
  refine sg_ui (vx_runV (As := [.int p1]) (rest := [.int 0, .ref qo]) ⟨hx, hb, hml, hown, hts⟩ (c_X5_isSource l hlt D cA ad N _ _ R hf _) (cwV 1 hts gL_isSource_X5_isSource rfl rfl rfl (by decide +kernel) ⟨Nat.le_of_ble_eq_true rfl, Nat.le_of_ble_eq_true rfl⟩) (sg_preU hK hP hD hT hS hA (ci := 7) (q0 := 0) rfl rfl) rfl rfl hl.1 rfl (lv_room (Nat.le_of_ble_eq_true rfl)) dL_isSource_4 ⟨Nat.le_of_ble_eq_true rfl, Nat.le_of_ble_eq_true rfl⟩) hP hD hS hA (fun k v E ce q9 H locs hr1 hE hP hD hS hce hcv hcl => ?_) (fun r v H locs hr1 hP hD hS => ?_)
  · have hk := hR k v hr1
    simp only [List.mem_cons, List.not_mem_nil, or_false] at hk
    subst hk
    replace hE : E = "java/util/NoSuchElementException" := hE
    subst hE
    refine vx_catch (own := RL) (name := "java/util/NoSuchElementException") hown [] ⟨0, 16, 19, 25⟩ [] (by rw [htb]; rfl) (fun z hz => absurd hz List.not_mem_nil) (by decide) (by decide) (hts (.classLink RL 25 "java/util/NoSuchElementException") (by decide +kernel)) (va_Nw.use rfl (hT.2.2.2.1 (293, "java/util/NoSuchElementException") (by decide))) hce hcv hcl ?_
    refine lv_astore_n (lv' := [(3, .ref q9), (0, .ref (ad 0)), (1, .int p1), (2, .ref qo)]) hx hb dL_isSource_19 rfl hl (by decide) rfl (fun ls hl => ?_)
    refine lv_iconst (v := 1) hx hb dL_isSource_20 (by decide) ?_
    exact sg_lret (wz := fun z => sg_WL cA ad qo z.1 z.2) (v, o) hx hb hr hP hD hS dL_isSource_21 (Or.inr ⟨_, hr1, rfl, rfl⟩) hlocks (by decide) (by decide)
  · refine lv_if_eq (tgt := 14) hx hb dL_isSource_7 (by decide) (fun hc => ?_) (fun hc => ?_)
    · refine lv_lconst (v := 0) hx hb dL_isSource_14 (by decide) ?_
      refine va_last hx hb hK.1 hP hD hS 0 2 rfl rfl (sg_inb_s (i := 0) (n := 1) (by decide)) dL_isSource_15 (fun H locs hP hD hS => ?_)
      refine lv_goto (tgt := 22) hx hb dL_isSource_16 (by decide) ?_
      refine lv_iconst (v := 0) hx hb dL_isSource_22 (by decide) ?_
      exact sg_lret (wz := fun z => sg_WL cA ad qo z.1 z.2) (v, vp_updL o (0 : Int32).toNatClampNeg 0) hx hb hr hP hD hS dL_isSource_23 (Or.inl ⟨r, hr1, rfl, by unfold sg_upB; rw [if_pos hc]⟩) hlocks (by decide) (by decide)
    · refine lv_lconst (v := 1) hx hb dL_isSource_10 (by decide) ?_
      refine lv_goto (tgt := 15) hx hb dL_isSource_11 (by decide) ?_
      refine va_last hx hb hK.1 hP hD hS 0 2 rfl rfl (sg_inb_s (i := 0) (n := 1) (by decide)) dL_isSource_15 (fun H locs hP hD hS => ?_)
      refine lv_goto (tgt := 22) hx hb dL_isSource_16 (by decide) ?_
      refine lv_iconst (v := 0) hx hb dL_isSource_22 (by decide) ?_
      exact sg_lret (wz := fun z => sg_WL cA ad qo z.1 z.2) (v, vp_updL o (0 : Int32).toNatClampNeg 1) hx hb hr hP hD hS dL_isSource_23 (Or.inl ⟨r, hr1, rfl, by unfold sg_upB; rw [if_neg hc]⟩) hlocks (by decide) (by decide)
set_option maxRecDepth 100000 in
set_option maxHeartbeats 4000000 in
theorem c_L_loadOf (l : Launch) (hlt : l.stackTraces = false) (D : va_G) (cA : Nat → ClassId) (ad : Nat → Nat) (qo : Nat) (o : Nat → Int64) (N : Nat) (u : sg_St) (p1 : Int32) (R : (Nat ⊕ Int32) × sg_St) (hf : fX5_loadOf N u p1 = some R) (hR : ∀ k t, R = (.inl k, t) → k ∈ [5]) (sz : Nat) : Met l yL_loadOf wsL_loadOf ({ frames := 10, cells := 1, slots := 6, locals := 442 }) (va_Pc [.ref (ad 0), .int p1, .ref qo] (sg_PL D cA (sg_WL cA ad qo u o) sz)) (sg_QL D cA ad qo (va_A (sg_WL cA ad qo u o) sz) [5] sg_up64 R o) 1 6 (va_A (sg_WL cA ad qo u o) sz) := by
  refine sg_ofWH (cc := cL_loadOf) (maxL := 4) (ret := (some .int)) (by decide) rfl ?_
  intro p e s m args below meth c s₁ B hml hv
  obtain ⟨rfl, ⟨hsz, hP, hK, hD0⟩, hT, hN⟩ := hv
  have hx := B.exec
  have hb := B.bytes
  have hr := B.returns
  have hts := atoms_spec (ws := wsL_loadOf) B.pre
  have hown : s.vm.findClass RL = some m.cls := findClass_of_methodNamed B.named
  have hlocks := B.notSynchronized
  have htb : c.exceptionTable.toList = tableOf [(0, 9, 12, 25)] := vx_table (x := ⟨"", "", ""⟩) B (hts _ List.mem_cons_self)
  subst hsz
  have hD := hD0.self (sz := s.heap.size)
  replace hP : va_P D vwCl (sg_WL cA ad qo u o) s.heap := hP
  replace hD : va_D (va_A (sg_WL cA ad qo u o) s.heap.size) (sg_WL cA ad qo u o) := hD
  generalize hAe : va_A (sg_WL cA ad qo u o) s.heap.size = A at hD hT ⊢
  have hA : ∀ q : Nat, s.heap.size ≤ q → A q := fun q h => by rw [← hAe]; exact Or.inr h
  have hS : va_S A s.heap s.heap [] := va_S.rf
  have hl := lv_entry ([.ref (ad 0), .int p1, .ref qo]) (n := 4) (Nat.le_of_ble_eq_true rfl)
  rw [lg_entry_eq]
  generalize (lg_sl ([.ref (ad 0), .int p1, .ref qo]) ++ List.replicate (4 - (lg_sl ([.ref (ad 0), .int p1, .ref qo])).length) Slot.unset).toArray = ls at hl ⊢
  replace hl : lv_has ls 4 [(0, .ref (ad 0)), (1, .int p1), (2, .ref qo)] := hl
  refine lv_aload_n hx hb dL_loadOf_0 rfl (lv_at hl 2 rfl) ?_
  refine lv_iconst (v := 0) hx hb dL_loadOf_1 (by decide) ?_
  refine lv_aload_n hx hb dL_loadOf_2 rfl (lv_at hl 0 rfl) ?_
  refine lv_iload_n hx hb dL_loadOf_3 rfl (lv_at hl 1 rfl) ?_
  refine sg_ui (vx_runV (As := [.int p1]) (rest := [.int 0, .ref qo]) ⟨hx, hb, hml, hown, hts⟩ (c_X5_loadOf l hlt D cA ad N _ _ R hf _) (cwV 1 hts gL_loadOf_X5_loadOf rfl rfl rfl (by decide +kernel) ⟨Nat.le_of_ble_eq_true rfl, Nat.le_of_ble_eq_true rfl⟩) (sg_preU hK hP hD hT hS hA (ci := 7) (q0 := 0) rfl rfl) rfl rfl hl.1 rfl (lv_room (Nat.le_of_ble_eq_true rfl)) dL_loadOf_4 ⟨Nat.le_of_ble_eq_true rfl, Nat.le_of_ble_eq_true rfl⟩) hP hD hS hA (fun k v E ce q9 H locs hr1 hE hP hD hS hce hcv hcl => ?_) (fun r v H locs hr1 hP hD hS => ?_)
  · have hk := hR k v hr1
    simp only [List.mem_cons, List.not_mem_nil, or_false] at hk
    subst hk
    replace hE : E = "java/util/NoSuchElementException" := hE
    subst hE
    refine vx_catch (own := RL) (name := "java/util/NoSuchElementException") hown [] ⟨0, 9, 12, 25⟩ [] (by rw [htb]; rfl) (fun z hz => absurd hz List.not_mem_nil) (by decide) (by decide) (hts (.classLink RL 25 "java/util/NoSuchElementException") (by decide +kernel)) (va_Nw.use rfl (hT.2.2.2.1 (293, "java/util/NoSuchElementException") (by decide))) hce hcv hcl ?_
    refine lv_astore_n (lv' := [(3, .ref q9), (0, .ref (ad 0)), (1, .int p1), (2, .ref qo)]) hx hb dL_loadOf_12 rfl hl (by decide) rfl (fun ls hl => ?_)
    refine lv_iconst (v := 1) hx hb dL_loadOf_13 (by decide) ?_
    exact sg_lret (wz := fun z => sg_WL cA ad qo z.1 z.2) (v, o) hx hb hr hP hD hS dL_loadOf_14 (Or.inr ⟨_, hr1, rfl, rfl⟩) hlocks (by decide) (by decide)
  · refine lv_i2l (v := r.toInt64) hx hb dL_loadOf_7 rfl ?_
    refine va_last hx hb hK.1 hP hD hS 0 2 rfl rfl (sg_inb_s (i := 0) (n := 1) (by decide)) dL_loadOf_8 (fun H locs hP hD hS => ?_)
    refine lv_goto (tgt := 15) hx hb dL_loadOf_9 (by decide) ?_
    refine lv_iconst (v := 0) hx hb dL_loadOf_15 (by decide) ?_
    exact sg_lret (wz := fun z => sg_WL cA ad qo z.1 z.2) (v, vp_updL o (0 : Int32).toNatClampNeg r.toInt64) hx hb hr hP hD hS dL_loadOf_16 (Or.inl ⟨r, hr1, rfl, rfl⟩) hlocks (by decide) (by decide)
set_option maxRecDepth 100000 in
set_option maxHeartbeats 4000000 in
theorem c_L_weight (l : Launch) (hlt : l.stackTraces = false) (D : va_G) (cA : Nat → ClassId) (ad : Nat → Nat) (qo : Nat) (o : Nat → Int64) (N : Nat) (u : sg_St) (p1 : Int32) (R : (Nat ⊕ Int32) × sg_St) (hf : fX5_weight N u p1 = some R) (hR : ∀ k t, R = (.inl k, t) → k ∈ [5, 4]) (sz : Nat) : Met l yL_weight wsL_weight ({ frames := 10, cells := 2, slots := 12, locals := 442 }) (va_Pc [.ref (ad 0), .int p1, .ref qo] (sg_PL D cA (sg_WL cA ad qo u o) sz)) (sg_QL D cA ad qo (va_A (sg_WL cA ad qo u o) sz) [5, 4] sg_up64 R o) 2 12 (va_A (sg_WL cA ad qo u o) sz) := by
  refine sg_ofWH (cc := cL_weight) (maxL := 4) (ret := (some .int)) (by decide) rfl ?_
  intro p e s m args below meth c s₁ B hml hv
  obtain ⟨rfl, ⟨hsz, hP, hK, hD0⟩, hT, hN⟩ := hv
  have hx := B.exec
  have hb := B.bytes
  have hr := B.returns
  have hts := atoms_spec (ws := wsL_weight) B.pre
  have hown : s.vm.findClass RL = some m.cls := findClass_of_methodNamed B.named
  have hlocks := B.notSynchronized
  have htb : c.exceptionTable.toList = tableOf [(0, 9, 12, 25), (0, 9, 15, 30)] := vx_table (x := ⟨"", "", ""⟩) B (hts _ List.mem_cons_self)
  subst hsz
  have hD := hD0.self (sz := s.heap.size)
  replace hP : va_P D vwCl (sg_WL cA ad qo u o) s.heap := hP
  replace hD : va_D (va_A (sg_WL cA ad qo u o) s.heap.size) (sg_WL cA ad qo u o) := hD
  generalize hAe : va_A (sg_WL cA ad qo u o) s.heap.size = A at hD hT ⊢
  have hA : ∀ q : Nat, s.heap.size ≤ q → A q := fun q h => by rw [← hAe]; exact Or.inr h
  have hS : va_S A s.heap s.heap [] := va_S.rf
  have hl := lv_entry ([.ref (ad 0), .int p1, .ref qo]) (n := 4) (Nat.le_of_ble_eq_true rfl)
  rw [lg_entry_eq]
  generalize (lg_sl ([.ref (ad 0), .int p1, .ref qo]) ++ List.replicate (4 - (lg_sl ([.ref (ad 0), .int p1, .ref qo])).length) Slot.unset).toArray = ls at hl ⊢
  replace hl : lv_has ls 4 [(0, .ref (ad 0)), (1, .int p1), (2, .ref qo)] := hl
  refine lv_aload_n hx hb dL_weight_0 rfl (lv_at hl 2 rfl) ?_
  refine lv_iconst (v := 0) hx hb dL_weight_1 (by decide) ?_
  refine lv_aload_n hx hb dL_weight_2 rfl (lv_at hl 0 rfl) ?_
  refine lv_iload_n hx hb dL_weight_3 rfl (lv_at hl 1 rfl) ?_
  refine sg_ui (vx_runV (As := [.int p1]) (rest := [.int 0, .ref qo]) ⟨hx, hb, hml, hown, hts⟩ (c_X5_weight l hlt D cA ad N _ _ R hf _) (cwV 1 hts gL_weight_X5_weight rfl rfl rfl (by decide +kernel) ⟨Nat.le_of_ble_eq_true rfl, Nat.le_of_ble_eq_true rfl⟩) (sg_preU hK hP hD hT hS hA (ci := 7) (q0 := 0) rfl rfl) rfl rfl hl.1 rfl (lv_room (Nat.le_of_ble_eq_true rfl)) dL_weight_4 ⟨Nat.le_of_ble_eq_true rfl, Nat.le_of_ble_eq_true rfl⟩) hP hD hS hA (fun k v E ce q9 H locs hr1 hE hP hD hS hce hcv hcl => ?_) (fun r v H locs hr1 hP hD hS => ?_)
  · have hk := hR k v hr1
    simp only [List.mem_cons, List.not_mem_nil, or_false] at hk
    rcases hk with rfl | rfl
    · replace hE : E = "java/util/NoSuchElementException" := hE
      subst hE
      refine vx_catch (own := RL) (name := "java/util/NoSuchElementException") hown [] ⟨0, 9, 12, 25⟩ [⟨0, 9, 15, 30⟩] (by rw [htb]; rfl) (fun z hz => absurd hz List.not_mem_nil) (by decide) (by decide) (hts (.classLink RL 25 "java/util/NoSuchElementException") (by decide +kernel)) (va_Nw.use rfl (hT.2.2.2.1 (293, "java/util/NoSuchElementException") (by decide))) hce hcv hcl ?_
      refine lv_astore_n (lv' := [(3, .ref q9), (0, .ref (ad 0)), (1, .int p1), (2, .ref qo)]) hx hb dL_weight_12 rfl hl (by decide) rfl (fun ls hl => ?_)
      refine lv_iconst (v := 1) hx hb dL_weight_13 (by decide) ?_
      exact sg_lret (wz := fun z => sg_WL cA ad qo z.1 z.2) (v, o) hx hb hr hP hD hS dL_weight_14 (Or.inr ⟨_, hr1, rfl, rfl⟩) hlocks (by decide) (by decide)
    · replace hE : E = "java/lang/UnsupportedOperationException" := hE
      subst hE
      refine vx_catch (own := RL) (name := "java/lang/UnsupportedOperationException") hown [⟨0, 9, 12, 25⟩] ⟨0, 9, 15, 30⟩ [] (by rw [htb]; rfl) (List.forall_mem_cons.mpr ⟨Or.inr ⟨by decide, "java/util/NoSuchElementException", hts (.classLink RL 25 "java/util/NoSuchElementException") (by decide +kernel), hN ("java/lang/UnsupportedOperationException", "java/util/NoSuchElementException") (by decide +kernel)⟩, fun _ h => absurd h List.not_mem_nil⟩) (by decide) (by decide) (hts (.classLink RL 30 "java/lang/UnsupportedOperationException") (by decide +kernel)) (va_Nw.use rfl (hT.2.2.2.1 (178, "java/lang/UnsupportedOperationException") (by decide))) hce hcv hcl ?_
      refine lv_astore_n (lv' := [(3, .ref q9), (0, .ref (ad 0)), (1, .int p1), (2, .ref qo)]) hx hb dL_weight_15 rfl hl (by decide) rfl (fun ls hl => ?_)
      refine lv_iconst (v := 2) hx hb dL_weight_16 (by decide) ?_
      exact sg_lret (wz := fun z => sg_WL cA ad qo z.1 z.2) (v, o) hx hb hr hP hD hS dL_weight_17 (Or.inr ⟨_, hr1, rfl, rfl⟩) hlocks (by decide) (by decide)
  · refine lv_i2l (v := r.toInt64) hx hb dL_weight_7 rfl ?_
    refine va_last hx hb hK.1 hP hD hS 0 2 rfl rfl (sg_inb_s (i := 0) (n := 1) (by decide)) dL_weight_8 (fun H locs hP hD hS => ?_)
    refine lv_goto (tgt := 18) hx hb dL_weight_9 (by decide) ?_
    refine lv_iconst (v := 0) hx hb dL_weight_18 (by decide) ?_
    exact sg_lret (wz := fun z => sg_WL cA ad qo z.1 z.2) (v, vp_updL o (0 : Int32).toNatClampNeg r.toInt64) hx hb hr hP hD hS dL_weight_19 (Or.inl ⟨r, hr1, rfl, rfl⟩) hlocks (by decide) (by decide)
set_option maxRecDepth 100000 in
set_option maxHeartbeats 4000000 in
theorem c_L_isClosed (l : Launch) (hlt : l.stackTraces = false) (D : va_G) (cA : Nat → ClassId) (ad : Nat → Nat) (qo : Nat) (o : Nat → Int64) (N : Nat) (u : sg_St) (p1 : Int32) (R : (Nat ⊕ Int32) × sg_St) (hf : fX5_isClosed N u p1 = some R) (hR : ∀ k t, R = (.inl k, t) → k ∈ [5]) (sz : Nat) : Met l yL_isClosed wsL_isClosed ({ frames := 10, cells := 1, slots := 6, locals := 442 }) (va_Pc [.ref (ad 0), .int p1, .ref qo] (sg_PL D cA (sg_WL cA ad qo u o) sz)) (sg_QL D cA ad qo (va_A (sg_WL cA ad qo u o) sz) [5] sg_upB R o) 1 6 (va_A (sg_WL cA ad qo u o) sz) := by
  refine sg_ofWH (cc := cL_isClosed) (maxL := 4) (ret := (some .int)) (by decide) rfl ?_
  intro p e s m args below meth c s₁ B hml hv
  obtain ⟨rfl, ⟨hsz, hP, hK, hD0⟩, hT, hN⟩ := hv
  have hx := B.exec
  have hb := B.bytes
  have hr := B.returns
  have hts := atoms_spec (ws := wsL_isClosed) B.pre
  have hown : s.vm.findClass RL = some m.cls := findClass_of_methodNamed B.named
  have hlocks := B.notSynchronized
  have htb : c.exceptionTable.toList = tableOf [(0, 16, 19, 25)] := vx_table (x := ⟨"", "", ""⟩) B (hts _ List.mem_cons_self)
  subst hsz
  have hD := hD0.self (sz := s.heap.size)
  replace hP : va_P D vwCl (sg_WL cA ad qo u o) s.heap := hP
  replace hD : va_D (va_A (sg_WL cA ad qo u o) s.heap.size) (sg_WL cA ad qo u o) := hD
  generalize hAe : va_A (sg_WL cA ad qo u o) s.heap.size = A at hD hT ⊢
  have hA : ∀ q : Nat, s.heap.size ≤ q → A q := fun q h => by rw [← hAe]; exact Or.inr h
  have hS : va_S A s.heap s.heap [] := va_S.rf
  have hl := lv_entry ([.ref (ad 0), .int p1, .ref qo]) (n := 4) (Nat.le_of_ble_eq_true rfl)
  rw [lg_entry_eq]
  generalize (lg_sl ([.ref (ad 0), .int p1, .ref qo]) ++ List.replicate (4 - (lg_sl ([.ref (ad 0), .int p1, .ref qo])).length) Slot.unset).toArray = ls at hl ⊢
  replace hl : lv_has ls 4 [(0, .ref (ad 0)), (1, .int p1), (2, .ref qo)] := hl
  refine lv_aload_n hx hb dL_isClosed_0 rfl (lv_at hl 2 rfl) ?_
  refine lv_iconst (v := 0) hx hb dL_isClosed_1 (by decide) ?_
  refine lv_aload_n hx hb dL_isClosed_2 rfl (lv_at hl 0 rfl) ?_
  refine lv_iload_n hx hb dL_isClosed_3 rfl (lv_at hl 1 rfl) ?_
  refine sg_ui (vx_runV (As := [.int p1]) (rest := [.int 0, .ref qo]) ⟨hx, hb, hml, hown, hts⟩ (c_X5_isClosed l hlt D cA ad N _ _ R hf _) (cwV 1 hts gL_isClosed_X5_isClosed rfl rfl rfl (by decide +kernel) ⟨Nat.le_of_ble_eq_true rfl, Nat.le_of_ble_eq_true rfl⟩) (sg_preU hK hP hD hT hS hA (ci := 7) (q0 := 0) rfl rfl) rfl rfl hl.1 rfl (lv_room (Nat.le_of_ble_eq_true rfl)) dL_isClosed_4 ⟨Nat.le_of_ble_eq_true rfl, Nat.le_of_ble_eq_true rfl⟩) hP hD hS hA (fun k v E ce q9 H locs hr1 hE hP hD hS hce hcv hcl => ?_) (fun r v H locs hr1 hP hD hS => ?_)
  · have hk := hR k v hr1
    simp only [List.mem_cons, List.not_mem_nil, or_false] at hk
    subst hk
    replace hE : E = "java/util/NoSuchElementException" := hE
    subst hE
    refine vx_catch (own := RL) (name := "java/util/NoSuchElementException") hown [] ⟨0, 16, 19, 25⟩ [] (by rw [htb]; rfl) (fun z hz => absurd hz List.not_mem_nil) (by decide) (by decide) (hts (.classLink RL 25 "java/util/NoSuchElementException") (by decide +kernel)) (va_Nw.use rfl (hT.2.2.2.1 (293, "java/util/NoSuchElementException") (by decide))) hce hcv hcl ?_
    refine lv_astore_n (lv' := [(3, .ref q9), (0, .ref (ad 0)), (1, .int p1), (2, .ref qo)]) hx hb dL_isClosed_19 rfl hl (by decide) rfl (fun ls hl => ?_)
    refine lv_iconst (v := 1) hx hb dL_isClosed_20 (by decide) ?_
    exact sg_lret (wz := fun z => sg_WL cA ad qo z.1 z.2) (v, o) hx hb hr hP hD hS dL_isClosed_21 (Or.inr ⟨_, hr1, rfl, rfl⟩) hlocks (by decide) (by decide)
  · refine lv_if_eq (tgt := 14) hx hb dL_isClosed_7 (by decide) (fun hc => ?_) (fun hc => ?_)
    · refine lv_lconst (v := 0) hx hb dL_isClosed_14 (by decide) ?_
      refine va_last hx hb hK.1 hP hD hS 0 2 rfl rfl (sg_inb_s (i := 0) (n := 1) (by decide)) dL_isClosed_15 (fun H locs hP hD hS => ?_)
      refine lv_goto (tgt := 22) hx hb dL_isClosed_16 (by decide) ?_
      refine lv_iconst (v := 0) hx hb dL_isClosed_22 (by decide) ?_
      exact sg_lret (wz := fun z => sg_WL cA ad qo z.1 z.2) (v, vp_updL o (0 : Int32).toNatClampNeg 0) hx hb hr hP hD hS dL_isClosed_23 (Or.inl ⟨r, hr1, rfl, by unfold sg_upB; rw [if_pos hc]⟩) hlocks (by decide) (by decide)
    · refine lv_lconst (v := 1) hx hb dL_isClosed_10 (by decide) ?_
      refine lv_goto (tgt := 15) hx hb dL_isClosed_11 (by decide) ?_
      refine va_last hx hb hK.1 hP hD hS 0 2 rfl rfl (sg_inb_s (i := 0) (n := 1) (by decide)) dL_isClosed_15 (fun H locs hP hD hS => ?_)
      refine lv_goto (tgt := 22) hx hb dL_isClosed_16 (by decide) ?_
      refine lv_iconst (v := 0) hx hb dL_isClosed_22 (by decide) ?_
      exact sg_lret (wz := fun z => sg_WL cA ad qo z.1 z.2) (v, vp_updL o (0 : Int32).toNatClampNeg 1) hx hb hr hP hD hS dL_isClosed_23 (Or.inl ⟨r, hr1, rfl, by unfold sg_upB; rw [if_neg hc]⟩) hlocks (by decide) (by decide)
set_option maxRecDepth 100000 in
set_option maxHeartbeats 4000000 in
theorem c_L_isLocked (l : Launch) (hlt : l.stackTraces = false) (D : va_G) (cA : Nat → ClassId) (ad : Nat → Nat) (qo : Nat) (o : Nat → Int64) (N : Nat) (u : sg_St) (p1 : Int32) (R : (Nat ⊕ Int32) × sg_St) (hf : fX5_isLocked N u p1 = some R) (hR : ∀ k t, R = (.inl k, t) → k ∈ [5]) (sz : Nat) : Met l yL_isLocked wsL_isLocked ({ frames := 10, cells := 1, slots := 6, locals := 442 }) (va_Pc [.ref (ad 0), .int p1, .ref qo] (sg_PL D cA (sg_WL cA ad qo u o) sz)) (sg_QL D cA ad qo (va_A (sg_WL cA ad qo u o) sz) [5] sg_upB R o) 1 6 (va_A (sg_WL cA ad qo u o) sz) := by
  refine sg_ofWH (cc := cL_isLocked) (maxL := 4) (ret := (some .int)) (by decide) rfl ?_
  intro p e s m args below meth c s₁ B hml hv
  obtain ⟨rfl, ⟨hsz, hP, hK, hD0⟩, hT, hN⟩ := hv
  have hx := B.exec
  have hb := B.bytes
  have hr := B.returns
  have hts := atoms_spec (ws := wsL_isLocked) B.pre
  have hown : s.vm.findClass RL = some m.cls := findClass_of_methodNamed B.named
  have hlocks := B.notSynchronized
  have htb : c.exceptionTable.toList = tableOf [(0, 16, 19, 25)] := vx_table (x := ⟨"", "", ""⟩) B (hts _ List.mem_cons_self)
  subst hsz
  have hD := hD0.self (sz := s.heap.size)
  replace hP : va_P D vwCl (sg_WL cA ad qo u o) s.heap := hP
  replace hD : va_D (va_A (sg_WL cA ad qo u o) s.heap.size) (sg_WL cA ad qo u o) := hD
  generalize hAe : va_A (sg_WL cA ad qo u o) s.heap.size = A at hD hT ⊢
  have hA : ∀ q : Nat, s.heap.size ≤ q → A q := fun q h => by rw [← hAe]; exact Or.inr h
  have hS : va_S A s.heap s.heap [] := va_S.rf
  have hl := lv_entry ([.ref (ad 0), .int p1, .ref qo]) (n := 4) (Nat.le_of_ble_eq_true rfl)
  rw [lg_entry_eq]
  generalize (lg_sl ([.ref (ad 0), .int p1, .ref qo]) ++ List.replicate (4 - (lg_sl ([.ref (ad 0), .int p1, .ref qo])).length) Slot.unset).toArray = ls at hl ⊢
  replace hl : lv_has ls 4 [(0, .ref (ad 0)), (1, .int p1), (2, .ref qo)] := hl
  refine lv_aload_n hx hb dL_isLocked_0 rfl (lv_at hl 2 rfl) ?_
  refine lv_iconst (v := 0) hx hb dL_isLocked_1 (by decide) ?_
  refine lv_aload_n hx hb dL_isLocked_2 rfl (lv_at hl 0 rfl) ?_
  refine lv_iload_n hx hb dL_isLocked_3 rfl (lv_at hl 1 rfl) ?_
  refine sg_ui (vx_runV (As := [.int p1]) (rest := [.int 0, .ref qo]) ⟨hx, hb, hml, hown, hts⟩ (c_X5_isLocked l hlt D cA ad N _ _ R hf _) (cwV 1 hts gL_isLocked_X5_isLocked rfl rfl rfl (by decide +kernel) ⟨Nat.le_of_ble_eq_true rfl, Nat.le_of_ble_eq_true rfl⟩) (sg_preU hK hP hD hT hS hA (ci := 7) (q0 := 0) rfl rfl) rfl rfl hl.1 rfl (lv_room (Nat.le_of_ble_eq_true rfl)) dL_isLocked_4 ⟨Nat.le_of_ble_eq_true rfl, Nat.le_of_ble_eq_true rfl⟩) hP hD hS hA (fun k v E ce q9 H locs hr1 hE hP hD hS hce hcv hcl => ?_) (fun r v H locs hr1 hP hD hS => ?_)
  · have hk := hR k v hr1
    simp only [List.mem_cons, List.not_mem_nil, or_false] at hk
    subst hk
    replace hE : E = "java/util/NoSuchElementException" := hE
    subst hE
    refine vx_catch (own := RL) (name := "java/util/NoSuchElementException") hown [] ⟨0, 16, 19, 25⟩ [] (by rw [htb]; rfl) (fun z hz => absurd hz List.not_mem_nil) (by decide) (by decide) (hts (.classLink RL 25 "java/util/NoSuchElementException") (by decide +kernel)) (va_Nw.use rfl (hT.2.2.2.1 (293, "java/util/NoSuchElementException") (by decide))) hce hcv hcl ?_
    refine lv_astore_n (lv' := [(3, .ref q9), (0, .ref (ad 0)), (1, .int p1), (2, .ref qo)]) hx hb dL_isLocked_19 rfl hl (by decide) rfl (fun ls hl => ?_)
    refine lv_iconst (v := 1) hx hb dL_isLocked_20 (by decide) ?_
    exact sg_lret (wz := fun z => sg_WL cA ad qo z.1 z.2) (v, o) hx hb hr hP hD hS dL_isLocked_21 (Or.inr ⟨_, hr1, rfl, rfl⟩) hlocks (by decide) (by decide)
  · refine lv_if_eq (tgt := 14) hx hb dL_isLocked_7 (by decide) (fun hc => ?_) (fun hc => ?_)
    · refine lv_lconst (v := 0) hx hb dL_isLocked_14 (by decide) ?_
      refine va_last hx hb hK.1 hP hD hS 0 2 rfl rfl (sg_inb_s (i := 0) (n := 1) (by decide)) dL_isLocked_15 (fun H locs hP hD hS => ?_)
      refine lv_goto (tgt := 22) hx hb dL_isLocked_16 (by decide) ?_
      refine lv_iconst (v := 0) hx hb dL_isLocked_22 (by decide) ?_
      exact sg_lret (wz := fun z => sg_WL cA ad qo z.1 z.2) (v, vp_updL o (0 : Int32).toNatClampNeg 0) hx hb hr hP hD hS dL_isLocked_23 (Or.inl ⟨r, hr1, rfl, by unfold sg_upB; rw [if_pos hc]⟩) hlocks (by decide) (by decide)
    · refine lv_lconst (v := 1) hx hb dL_isLocked_10 (by decide) ?_
      refine lv_goto (tgt := 15) hx hb dL_isLocked_11 (by decide) ?_
      refine va_last hx hb hK.1 hP hD hS 0 2 rfl rfl (sg_inb_s (i := 0) (n := 1) (by decide)) dL_isLocked_15 (fun H locs hP hD hS => ?_)
      refine lv_goto (tgt := 22) hx hb dL_isLocked_16 (by decide) ?_
      refine lv_iconst (v := 0) hx hb dL_isLocked_22 (by decide) ?_
      exact sg_lret (wz := fun z => sg_WL cA ad qo z.1 z.2) (v, vp_updL o (0 : Int32).toNatClampNeg 1) hx hb hr hP hD hS dL_isLocked_23 (Or.inl ⟨r, hr1, rfl, by unfold sg_upB; rw [if_neg hc]⟩) hlocks (by decide) (by decide)
set_option maxRecDepth 100000 in
set_option maxHeartbeats 4000000 in
theorem c_L_hasFault (l : Launch) (hlt : l.stackTraces = false) (D : va_G) (cA : Nat → ClassId) (ad : Nat → Nat) (qo : Nat) (o : Nat → Int64) (N : Nat) (u : sg_St) (p1 : Int32) (R : (Nat ⊕ Int32) × sg_St) (hf : fX5_hasFault N u p1 = some R) (hR : ∀ k t, R = (.inl k, t) → k ∈ [5]) (sz : Nat) : Met l yL_hasFault wsL_hasFault ({ frames := 10, cells := 1, slots := 6, locals := 442 }) (va_Pc [.ref (ad 0), .int p1, .ref qo] (sg_PL D cA (sg_WL cA ad qo u o) sz)) (sg_QL D cA ad qo (va_A (sg_WL cA ad qo u o) sz) [5] sg_upB R o) 1 6 (va_A (sg_WL cA ad qo u o) sz) := by
  refine sg_ofWH (cc := cL_hasFault) (maxL := 4) (ret := (some .int)) (by decide) rfl ?_
  intro p e s m args below meth c s₁ B hml hv
  obtain ⟨rfl, ⟨hsz, hP, hK, hD0⟩, hT, hN⟩ := hv
  have hx := B.exec
  have hb := B.bytes
  have hr := B.returns
  have hts := atoms_spec (ws := wsL_hasFault) B.pre
  have hown : s.vm.findClass RL = some m.cls := findClass_of_methodNamed B.named
  have hlocks := B.notSynchronized
  have htb : c.exceptionTable.toList = tableOf [(0, 16, 19, 25)] := vx_table (x := ⟨"", "", ""⟩) B (hts _ List.mem_cons_self)
  subst hsz
  have hD := hD0.self (sz := s.heap.size)
  replace hP : va_P D vwCl (sg_WL cA ad qo u o) s.heap := hP
  replace hD : va_D (va_A (sg_WL cA ad qo u o) s.heap.size) (sg_WL cA ad qo u o) := hD
  generalize hAe : va_A (sg_WL cA ad qo u o) s.heap.size = A at hD hT ⊢
  have hA : ∀ q : Nat, s.heap.size ≤ q → A q := fun q h => by rw [← hAe]; exact Or.inr h
  have hS : va_S A s.heap s.heap [] := va_S.rf
  have hl := lv_entry ([.ref (ad 0), .int p1, .ref qo]) (n := 4) (Nat.le_of_ble_eq_true rfl)
  rw [lg_entry_eq]
  generalize (lg_sl ([.ref (ad 0), .int p1, .ref qo]) ++ List.replicate (4 - (lg_sl ([.ref (ad 0), .int p1, .ref qo])).length) Slot.unset).toArray = ls at hl ⊢
  replace hl : lv_has ls 4 [(0, .ref (ad 0)), (1, .int p1), (2, .ref qo)] := hl
  refine lv_aload_n hx hb dL_hasFault_0 rfl (lv_at hl 2 rfl) ?_
  refine lv_iconst (v := 0) hx hb dL_hasFault_1 (by decide) ?_
  refine lv_aload_n hx hb dL_hasFault_2 rfl (lv_at hl 0 rfl) ?_
  refine lv_iload_n hx hb dL_hasFault_3 rfl (lv_at hl 1 rfl) ?_
  refine sg_ui (vx_runV (As := [.int p1]) (rest := [.int 0, .ref qo]) ⟨hx, hb, hml, hown, hts⟩ (c_X5_hasFault l hlt D cA ad N _ _ R hf _) (cwV 1 hts gL_hasFault_X5_hasFault rfl rfl rfl (by decide +kernel) ⟨Nat.le_of_ble_eq_true rfl, Nat.le_of_ble_eq_true rfl⟩) (sg_preU hK hP hD hT hS hA (ci := 7) (q0 := 0) rfl rfl) rfl rfl hl.1 rfl (lv_room (Nat.le_of_ble_eq_true rfl)) dL_hasFault_4 ⟨Nat.le_of_ble_eq_true rfl, Nat.le_of_ble_eq_true rfl⟩) hP hD hS hA (fun k v E ce q9 H locs hr1 hE hP hD hS hce hcv hcl => ?_) (fun r v H locs hr1 hP hD hS => ?_)
  · have hk := hR k v hr1
    simp only [List.mem_cons, List.not_mem_nil, or_false] at hk
    subst hk
    replace hE : E = "java/util/NoSuchElementException" := hE
    subst hE
    refine vx_catch (own := RL) (name := "java/util/NoSuchElementException") hown [] ⟨0, 16, 19, 25⟩ [] (by rw [htb]; rfl) (fun z hz => absurd hz List.not_mem_nil) (by decide) (by decide) (hts (.classLink RL 25 "java/util/NoSuchElementException") (by decide +kernel)) (va_Nw.use rfl (hT.2.2.2.1 (293, "java/util/NoSuchElementException") (by decide))) hce hcv hcl ?_
    refine lv_astore_n (lv' := [(3, .ref q9), (0, .ref (ad 0)), (1, .int p1), (2, .ref qo)]) hx hb dL_hasFault_19 rfl hl (by decide) rfl (fun ls hl => ?_)
    refine lv_iconst (v := 1) hx hb dL_hasFault_20 (by decide) ?_
    exact sg_lret (wz := fun z => sg_WL cA ad qo z.1 z.2) (v, o) hx hb hr hP hD hS dL_hasFault_21 (Or.inr ⟨_, hr1, rfl, rfl⟩) hlocks (by decide) (by decide)
  · refine lv_if_eq (tgt := 14) hx hb dL_hasFault_7 (by decide) (fun hc => ?_) (fun hc => ?_)
    · refine lv_lconst (v := 0) hx hb dL_hasFault_14 (by decide) ?_
      refine va_last hx hb hK.1 hP hD hS 0 2 rfl rfl (sg_inb_s (i := 0) (n := 1) (by decide)) dL_hasFault_15 (fun H locs hP hD hS => ?_)
      refine lv_goto (tgt := 22) hx hb dL_hasFault_16 (by decide) ?_
      refine lv_iconst (v := 0) hx hb dL_hasFault_22 (by decide) ?_
      exact sg_lret (wz := fun z => sg_WL cA ad qo z.1 z.2) (v, vp_updL o (0 : Int32).toNatClampNeg 0) hx hb hr hP hD hS dL_hasFault_23 (Or.inl ⟨r, hr1, rfl, by unfold sg_upB; rw [if_pos hc]⟩) hlocks (by decide) (by decide)
    · refine lv_lconst (v := 1) hx hb dL_hasFault_10 (by decide) ?_
      refine lv_goto (tgt := 15) hx hb dL_hasFault_11 (by decide) ?_
      refine va_last hx hb hK.1 hP hD hS 0 2 rfl rfl (sg_inb_s (i := 0) (n := 1) (by decide)) dL_hasFault_15 (fun H locs hP hD hS => ?_)
      refine lv_goto (tgt := 22) hx hb dL_hasFault_16 (by decide) ?_
      refine lv_iconst (v := 0) hx hb dL_hasFault_22 (by decide) ?_
      exact sg_lret (wz := fun z => sg_WL cA ad qo z.1 z.2) (v, vp_updL o (0 : Int32).toNatClampNeg 1) hx hb hr hP hD hS dL_hasFault_23 (Or.inl ⟨r, hr1, rfl, by unfold sg_upB; rw [if_neg hc]⟩) hlocks (by decide) (by decide)
set_option maxRecDepth 100000 in
set_option maxHeartbeats 4000000 in
theorem c_L_islandOf (l : Launch) (hlt : l.stackTraces = false) (D : va_G) (cA : Nat → ClassId) (ad : Nat → Nat) (qo : Nat) (o : Nat → Int64) (N : Nat) (u : sg_St) (p1 : Int32) (R : (Nat ⊕ Int32) × sg_St) (hf : fX5_islandOf N u p1 = some R) (hR : ∀ k t, R = (.inl k, t) → k ∈ [5]) (sz : Nat) : Met l yL_islandOf wsL_islandOf ({ frames := 10, cells := 1, slots := 6, locals := 442 }) (va_Pc [.ref (ad 0), .int p1, .ref qo] (sg_PL D cA (sg_WL cA ad qo u o) sz)) (sg_QL D cA ad qo (va_A (sg_WL cA ad qo u o) sz) [5] sg_up64 R o) 1 6 (va_A (sg_WL cA ad qo u o) sz) := by
  refine sg_ofWH (cc := cL_islandOf) (maxL := 4) (ret := (some .int)) (by decide) rfl ?_
  intro p e s m args below meth c s₁ B hml hv
  obtain ⟨rfl, ⟨hsz, hP, hK, hD0⟩, hT, hN⟩ := hv
  have hx := B.exec
  have hb := B.bytes
  have hr := B.returns
  have hts := atoms_spec (ws := wsL_islandOf) B.pre
  have hown : s.vm.findClass RL = some m.cls := findClass_of_methodNamed B.named
  have hlocks := B.notSynchronized
  have htb : c.exceptionTable.toList = tableOf [(0, 9, 12, 25)] := vx_table (x := ⟨"", "", ""⟩) B (hts _ List.mem_cons_self)
  subst hsz
  have hD := hD0.self (sz := s.heap.size)
  replace hP : va_P D vwCl (sg_WL cA ad qo u o) s.heap := hP
  replace hD : va_D (va_A (sg_WL cA ad qo u o) s.heap.size) (sg_WL cA ad qo u o) := hD
  generalize hAe : va_A (sg_WL cA ad qo u o) s.heap.size = A at hD hT ⊢
  have hA : ∀ q : Nat, s.heap.size ≤ q → A q := fun q h => by rw [← hAe]; exact Or.inr h
  have hS : va_S A s.heap s.heap [] := va_S.rf
  have hl := lv_entry ([.ref (ad 0), .int p1, .ref qo]) (n := 4) (Nat.le_of_ble_eq_true rfl)
  rw [lg_entry_eq]
  generalize (lg_sl ([.ref (ad 0), .int p1, .ref qo]) ++ List.replicate (4 - (lg_sl ([.ref (ad 0), .int p1, .ref qo])).length) Slot.unset).toArray = ls at hl ⊢
  replace hl : lv_has ls 4 [(0, .ref (ad 0)), (1, .int p1), (2, .ref qo)] := hl
  refine lv_aload_n hx hb dL_islandOf_0 rfl (lv_at hl 2 rfl) ?_
  refine lv_iconst (v := 0) hx hb dL_islandOf_1 (by decide) ?_
  refine lv_aload_n hx hb dL_islandOf_2 rfl (lv_at hl 0 rfl) ?_
  refine lv_iload_n hx hb dL_islandOf_3 rfl (lv_at hl 1 rfl) ?_
  refine sg_ui (vx_runV (As := [.int p1]) (rest := [.int 0, .ref qo]) ⟨hx, hb, hml, hown, hts⟩ (c_X5_islandOf l hlt D cA ad N _ _ R hf _) (cwV 1 hts gL_islandOf_X5_islandOf rfl rfl rfl (by decide +kernel) ⟨Nat.le_of_ble_eq_true rfl, Nat.le_of_ble_eq_true rfl⟩) (sg_preU hK hP hD hT hS hA (ci := 7) (q0 := 0) rfl rfl) rfl rfl hl.1 rfl (lv_room (Nat.le_of_ble_eq_true rfl)) dL_islandOf_4 ⟨Nat.le_of_ble_eq_true rfl, Nat.le_of_ble_eq_true rfl⟩) hP hD hS hA (fun k v E ce q9 H locs hr1 hE hP hD hS hce hcv hcl => ?_) (fun r v H locs hr1 hP hD hS => ?_)
  · have hk := hR k v hr1
    simp only [List.mem_cons, List.not_mem_nil, or_false] at hk
    subst hk
    replace hE : E = "java/util/NoSuchElementException" := hE
    subst hE
    refine vx_catch (own := RL) (name := "java/util/NoSuchElementException") hown [] ⟨0, 9, 12, 25⟩ [] (by rw [htb]; rfl) (fun z hz => absurd hz List.not_mem_nil) (by decide) (by decide) (hts (.classLink RL 25 "java/util/NoSuchElementException") (by decide +kernel)) (va_Nw.use rfl (hT.2.2.2.1 (293, "java/util/NoSuchElementException") (by decide))) hce hcv hcl ?_
    refine lv_astore_n (lv' := [(3, .ref q9), (0, .ref (ad 0)), (1, .int p1), (2, .ref qo)]) hx hb dL_islandOf_12 rfl hl (by decide) rfl (fun ls hl => ?_)
    refine lv_iconst (v := 1) hx hb dL_islandOf_13 (by decide) ?_
    exact sg_lret (wz := fun z => sg_WL cA ad qo z.1 z.2) (v, o) hx hb hr hP hD hS dL_islandOf_14 (Or.inr ⟨_, hr1, rfl, rfl⟩) hlocks (by decide) (by decide)
  · refine lv_i2l (v := r.toInt64) hx hb dL_islandOf_7 rfl ?_
    refine va_last hx hb hK.1 hP hD hS 0 2 rfl rfl (sg_inb_s (i := 0) (n := 1) (by decide)) dL_islandOf_8 (fun H locs hP hD hS => ?_)
    refine lv_goto (tgt := 15) hx hb dL_islandOf_9 (by decide) ?_
    refine lv_iconst (v := 0) hx hb dL_islandOf_15 (by decide) ?_
    exact sg_lret (wz := fun z => sg_WL cA ad qo z.1 z.2) (v, vp_updL o (0 : Int32).toNatClampNeg r.toInt64) hx hb hr hP hD hS dL_islandOf_16 (Or.inl ⟨r, hr1, rfl, rfl⟩) hlocks (by decide) (by decide)
set_option maxRecDepth 100000 in
set_option maxHeartbeats 4000000 in
theorem c_L_islandByRounds (l : Launch) (hlt : l.stackTraces = false) (D : va_G) (cA : Nat → ClassId) (ad : Nat → Nat) (qo : Nat) (o : Nat → Int64) (N : Nat) (u : sg_St) (p1 : Int32) (R : (Nat ⊕ Int32) × sg_St) (hf : fX5_islandByRounds N u p1 = some R) (hR : ∀ k t, R = (.inl k, t) → k ∈ [5]) (sz : Nat) : Met l yL_islandByRounds wsL_islandByRounds ({ frames := 10, cells := 1, slots := 6, locals := 442 }) (va_Pc [.ref (ad 0), .int p1, .ref qo] (sg_PL D cA (sg_WL cA ad qo u o) sz)) (sg_QL D cA ad qo (va_A (sg_WL cA ad qo u o) sz) [5] sg_up64 R o) 1 6 (va_A (sg_WL cA ad qo u o) sz) := by
  refine sg_ofWH (cc := cL_islandByRounds) (maxL := 4) (ret := (some .int)) (by decide) rfl ?_
  intro p e s m args below meth c s₁ B hml hv
  obtain ⟨rfl, ⟨hsz, hP, hK, hD0⟩, hT, hN⟩ := hv
  have hx := B.exec
  have hb := B.bytes
  have hr := B.returns
  have hts := atoms_spec (ws := wsL_islandByRounds) B.pre
  have hown : s.vm.findClass RL = some m.cls := findClass_of_methodNamed B.named
  have hlocks := B.notSynchronized
  have htb : c.exceptionTable.toList = tableOf [(0, 9, 12, 25)] := vx_table (x := ⟨"", "", ""⟩) B (hts _ List.mem_cons_self)
  subst hsz
  have hD := hD0.self (sz := s.heap.size)
  replace hP : va_P D vwCl (sg_WL cA ad qo u o) s.heap := hP
  replace hD : va_D (va_A (sg_WL cA ad qo u o) s.heap.size) (sg_WL cA ad qo u o) := hD
  generalize hAe : va_A (sg_WL cA ad qo u o) s.heap.size = A at hD hT ⊢
  have hA : ∀ q : Nat, s.heap.size ≤ q → A q := fun q h => by rw [← hAe]; exact Or.inr h
  have hS : va_S A s.heap s.heap [] := va_S.rf
  have hl := lv_entry ([.ref (ad 0), .int p1, .ref qo]) (n := 4) (Nat.le_of_ble_eq_true rfl)
  rw [lg_entry_eq]
  generalize (lg_sl ([.ref (ad 0), .int p1, .ref qo]) ++ List.replicate (4 - (lg_sl ([.ref (ad 0), .int p1, .ref qo])).length) Slot.unset).toArray = ls at hl ⊢
  replace hl : lv_has ls 4 [(0, .ref (ad 0)), (1, .int p1), (2, .ref qo)] := hl
  refine lv_aload_n hx hb dL_islandByRounds_0 rfl (lv_at hl 2 rfl) ?_
  refine lv_iconst (v := 0) hx hb dL_islandByRounds_1 (by decide) ?_
  refine lv_aload_n hx hb dL_islandByRounds_2 rfl (lv_at hl 0 rfl) ?_
  refine lv_iload_n hx hb dL_islandByRounds_3 rfl (lv_at hl 1 rfl) ?_
  refine sg_ui (vx_runV (As := [.int p1]) (rest := [.int 0, .ref qo]) ⟨hx, hb, hml, hown, hts⟩ (c_X5_islandByRounds l hlt D cA ad N _ _ R hf _) (cwV 1 hts gL_islandByRounds_X5_islandByRounds rfl rfl rfl (by decide +kernel) ⟨Nat.le_of_ble_eq_true rfl, Nat.le_of_ble_eq_true rfl⟩) (sg_preU hK hP hD hT hS hA (ci := 7) (q0 := 0) rfl rfl) rfl rfl hl.1 rfl (lv_room (Nat.le_of_ble_eq_true rfl)) dL_islandByRounds_4 ⟨Nat.le_of_ble_eq_true rfl, Nat.le_of_ble_eq_true rfl⟩) hP hD hS hA (fun k v E ce q9 H locs hr1 hE hP hD hS hce hcv hcl => ?_) (fun r v H locs hr1 hP hD hS => ?_)
  · have hk := hR k v hr1
    simp only [List.mem_cons, List.not_mem_nil, or_false] at hk
    subst hk
    replace hE : E = "java/util/NoSuchElementException" := hE
    subst hE
    refine vx_catch (own := RL) (name := "java/util/NoSuchElementException") hown [] ⟨0, 9, 12, 25⟩ [] (by rw [htb]; rfl) (fun z hz => absurd hz List.not_mem_nil) (by decide) (by decide) (hts (.classLink RL 25 "java/util/NoSuchElementException") (by decide +kernel)) (va_Nw.use rfl (hT.2.2.2.1 (293, "java/util/NoSuchElementException") (by decide))) hce hcv hcl ?_
    refine lv_astore_n (lv' := [(3, .ref q9), (0, .ref (ad 0)), (1, .int p1), (2, .ref qo)]) hx hb dL_islandByRounds_12 rfl hl (by decide) rfl (fun ls hl => ?_)
    refine lv_iconst (v := 1) hx hb dL_islandByRounds_13 (by decide) ?_
    exact sg_lret (wz := fun z => sg_WL cA ad qo z.1 z.2) (v, o) hx hb hr hP hD hS dL_islandByRounds_14 (Or.inr ⟨_, hr1, rfl, rfl⟩) hlocks (by decide) (by decide)
  · refine lv_i2l (v := r.toInt64) hx hb dL_islandByRounds_7 rfl ?_
    refine va_last hx hb hK.1 hP hD hS 0 2 rfl rfl (sg_inb_s (i := 0) (n := 1) (by decide)) dL_islandByRounds_8 (fun H locs hP hD hS => ?_)
    refine lv_goto (tgt := 15) hx hb dL_islandByRounds_9 (by decide) ?_
    refine lv_iconst (v := 0) hx hb dL_islandByRounds_15 (by decide) ?_
    exact sg_lret (wz := fun z => sg_WL cA ad qo z.1 z.2) (v, vp_updL o (0 : Int32).toNatClampNeg r.toInt64) hx hb hr hP hD hS dL_islandByRounds_16 (Or.inl ⟨r, hr1, rfl, rfl⟩) hlocks (by decide) (by decide)
set_option maxRecDepth 100000 in
set_option maxHeartbeats 4000000 in
theorem c_L_isLive (l : Launch) (hlt : l.stackTraces = false) (D : va_G) (cA : Nat → ClassId) (ad : Nat → Nat) (qo : Nat) (o : Nat → Int64) (N : Nat) (u : sg_St) (p1 : Int32) (R : (Nat ⊕ Int32) × sg_St) (hf : fX5_isLive N u p1 = some R) (hR : ∀ k t, R = (.inl k, t) → k ∈ [5]) (sz : Nat) : Met l yL_isLive wsL_isLive ({ frames := 10, cells := 1, slots := 6, locals := 442 }) (va_Pc [.ref (ad 0), .int p1, .ref qo] (sg_PL D cA (sg_WL cA ad qo u o) sz)) (sg_QL D cA ad qo (va_A (sg_WL cA ad qo u o) sz) [5] sg_upB R o) 1 6 (va_A (sg_WL cA ad qo u o) sz) := by
  refine sg_ofWH (cc := cL_isLive) (maxL := 4) (ret := (some .int)) (by decide) rfl ?_
  intro p e s m args below meth c s₁ B hml hv
  obtain ⟨rfl, ⟨hsz, hP, hK, hD0⟩, hT, hN⟩ := hv
  have hx := B.exec
  have hb := B.bytes
  have hr := B.returns
  have hts := atoms_spec (ws := wsL_isLive) B.pre
  have hown : s.vm.findClass RL = some m.cls := findClass_of_methodNamed B.named
  have hlocks := B.notSynchronized
  have htb : c.exceptionTable.toList = tableOf [(0, 16, 19, 25)] := vx_table (x := ⟨"", "", ""⟩) B (hts _ List.mem_cons_self)
  subst hsz
  have hD := hD0.self (sz := s.heap.size)
  replace hP : va_P D vwCl (sg_WL cA ad qo u o) s.heap := hP
  replace hD : va_D (va_A (sg_WL cA ad qo u o) s.heap.size) (sg_WL cA ad qo u o) := hD
  generalize hAe : va_A (sg_WL cA ad qo u o) s.heap.size = A at hD hT ⊢
  have hA : ∀ q : Nat, s.heap.size ≤ q → A q := fun q h => by rw [← hAe]; exact Or.inr h
  have hS : va_S A s.heap s.heap [] := va_S.rf
  have hl := lv_entry ([.ref (ad 0), .int p1, .ref qo]) (n := 4) (Nat.le_of_ble_eq_true rfl)
  rw [lg_entry_eq]
  generalize (lg_sl ([.ref (ad 0), .int p1, .ref qo]) ++ List.replicate (4 - (lg_sl ([.ref (ad 0), .int p1, .ref qo])).length) Slot.unset).toArray = ls at hl ⊢
  replace hl : lv_has ls 4 [(0, .ref (ad 0)), (1, .int p1), (2, .ref qo)] := hl
  refine lv_aload_n hx hb dL_isLive_0 rfl (lv_at hl 2 rfl) ?_
  refine lv_iconst (v := 0) hx hb dL_isLive_1 (by decide) ?_
  refine lv_aload_n hx hb dL_isLive_2 rfl (lv_at hl 0 rfl) ?_
  refine lv_iload_n hx hb dL_isLive_3 rfl (lv_at hl 1 rfl) ?_
  refine sg_ui (vx_runV (As := [.int p1]) (rest := [.int 0, .ref qo]) ⟨hx, hb, hml, hown, hts⟩ (c_X5_isLive l hlt D cA ad N _ _ R hf _) (cwV 1 hts gL_isLive_X5_isLive rfl rfl rfl (by decide +kernel) ⟨Nat.le_of_ble_eq_true rfl, Nat.le_of_ble_eq_true rfl⟩) (sg_preU hK hP hD hT hS hA (ci := 7) (q0 := 0) rfl rfl) rfl rfl hl.1 rfl (lv_room (Nat.le_of_ble_eq_true rfl)) dL_isLive_4 ⟨Nat.le_of_ble_eq_true rfl, Nat.le_of_ble_eq_true rfl⟩) hP hD hS hA (fun k v E ce q9 H locs hr1 hE hP hD hS hce hcv hcl => ?_) (fun r v H locs hr1 hP hD hS => ?_)
  · have hk := hR k v hr1
    simp only [List.mem_cons, List.not_mem_nil, or_false] at hk
    subst hk
    replace hE : E = "java/util/NoSuchElementException" := hE
    subst hE
    refine vx_catch (own := RL) (name := "java/util/NoSuchElementException") hown [] ⟨0, 16, 19, 25⟩ [] (by rw [htb]; rfl) (fun z hz => absurd hz List.not_mem_nil) (by decide) (by decide) (hts (.classLink RL 25 "java/util/NoSuchElementException") (by decide +kernel)) (va_Nw.use rfl (hT.2.2.2.1 (293, "java/util/NoSuchElementException") (by decide))) hce hcv hcl ?_
    refine lv_astore_n (lv' := [(3, .ref q9), (0, .ref (ad 0)), (1, .int p1), (2, .ref qo)]) hx hb dL_isLive_19 rfl hl (by decide) rfl (fun ls hl => ?_)
    refine lv_iconst (v := 1) hx hb dL_isLive_20 (by decide) ?_
    exact sg_lret (wz := fun z => sg_WL cA ad qo z.1 z.2) (v, o) hx hb hr hP hD hS dL_isLive_21 (Or.inr ⟨_, hr1, rfl, rfl⟩) hlocks (by decide) (by decide)
  · refine lv_if_eq (tgt := 14) hx hb dL_isLive_7 (by decide) (fun hc => ?_) (fun hc => ?_)
    · refine lv_lconst (v := 0) hx hb dL_isLive_14 (by decide) ?_
      refine va_last hx hb hK.1 hP hD hS 0 2 rfl rfl (sg_inb_s (i := 0) (n := 1) (by decide)) dL_isLive_15 (fun H locs hP hD hS => ?_)
      refine lv_goto (tgt := 22) hx hb dL_isLive_16 (by decide) ?_
      refine lv_iconst (v := 0) hx hb dL_isLive_22 (by decide) ?_
      exact sg_lret (wz := fun z => sg_WL cA ad qo z.1 z.2) (v, vp_updL o (0 : Int32).toNatClampNeg 0) hx hb hr hP hD hS dL_isLive_23 (Or.inl ⟨r, hr1, rfl, by unfold sg_upB; rw [if_pos hc]⟩) hlocks (by decide) (by decide)
    · refine lv_lconst (v := 1) hx hb dL_isLive_10 (by decide) ?_
      refine lv_goto (tgt := 15) hx hb dL_isLive_11 (by decide) ?_
      refine va_last hx hb hK.1 hP hD hS 0 2 rfl rfl (sg_inb_s (i := 0) (n := 1) (by decide)) dL_isLive_15 (fun H locs hP hD hS => ?_)
      refine lv_goto (tgt := 22) hx hb dL_isLive_16 (by decide) ?_
      refine lv_iconst (v := 0) hx hb dL_isLive_22 (by decide) ?_
      exact sg_lret (wz := fun z => sg_WL cA ad qo z.1 z.2) (v, vp_updL o (0 : Int32).toNatClampNeg 1) hx hb hr hP hD hS dL_isLive_23 (Or.inl ⟨r, hr1, rfl, by unfold sg_upB; rw [if_neg hc]⟩) hlocks (by decide) (by decide)
set_option maxRecDepth 100000 in
set_option maxHeartbeats 4000000 in
theorem c_L_sourceOf (l : Launch) (hlt : l.stackTraces = false) (D : va_G) (cA : Nat → ClassId) (ad : Nat → Nat) (qo : Nat) (o : Nat → Int64) (N : Nat) (u : sg_St) (p1 : Int32) (R : (Nat ⊕ Int32) × sg_St) (hf : fX5_sourceOf N u p1 = some R) (hR : ∀ k t, R = (.inl k, t) → k ∈ [5, 0]) (sz : Nat) : Met l yL_sourceOf wsL_sourceOf ({ frames := 10, cells := 2, slots := 12, locals := 443 }) (va_Pc [.ref (ad 0), .int p1, .ref qo] (sg_PL D cA (sg_WL cA ad qo u o) sz)) (sg_QL D cA ad qo (va_A (sg_WL cA ad qo u o) sz) [5, 0] sg_up64 R o) 2 12 (va_A (sg_WL cA ad qo u o) sz) := by
  refine sg_ofWH (cc := cL_sourceOf) (maxL := 4) (ret := (some .int)) (by decide) rfl ?_
  intro p e s m args below meth c s₁ B hml hv
  obtain ⟨rfl, ⟨hsz, hP, hK, hD0⟩, hT, hN⟩ := hv
  have hx := B.exec
  have hb := B.bytes
  have hr := B.returns
  have hts := atoms_spec (ws := wsL_sourceOf) B.pre
  have hown : s.vm.findClass RL = some m.cls := findClass_of_methodNamed B.named
  have hlocks := B.notSynchronized
  have htb : c.exceptionTable.toList = tableOf [(0, 9, 12, 25), (0, 9, 15, 15)] := vx_table (x := ⟨"", "", ""⟩) B (hts _ List.mem_cons_self)
  subst hsz
  have hD := hD0.self (sz := s.heap.size)
  replace hP : va_P D vwCl (sg_WL cA ad qo u o) s.heap := hP
  replace hD : va_D (va_A (sg_WL cA ad qo u o) s.heap.size) (sg_WL cA ad qo u o) := hD
  generalize hAe : va_A (sg_WL cA ad qo u o) s.heap.size = A at hD hT ⊢
  have hA : ∀ q : Nat, s.heap.size ≤ q → A q := fun q h => by rw [← hAe]; exact Or.inr h
  have hS : va_S A s.heap s.heap [] := va_S.rf
  have hl := lv_entry ([.ref (ad 0), .int p1, .ref qo]) (n := 4) (Nat.le_of_ble_eq_true rfl)
  rw [lg_entry_eq]
  generalize (lg_sl ([.ref (ad 0), .int p1, .ref qo]) ++ List.replicate (4 - (lg_sl ([.ref (ad 0), .int p1, .ref qo])).length) Slot.unset).toArray = ls at hl ⊢
  replace hl : lv_has ls 4 [(0, .ref (ad 0)), (1, .int p1), (2, .ref qo)] := hl
  refine lv_aload_n hx hb dL_sourceOf_0 rfl (lv_at hl 2 rfl) ?_
  refine lv_iconst (v := 0) hx hb dL_sourceOf_1 (by decide) ?_
  refine lv_aload_n hx hb dL_sourceOf_2 rfl (lv_at hl 0 rfl) ?_
  refine lv_iload_n hx hb dL_sourceOf_3 rfl (lv_at hl 1 rfl) ?_
  refine sg_ui (vx_runV (As := [.int p1]) (rest := [.int 0, .ref qo]) ⟨hx, hb, hml, hown, hts⟩ (c_X5_sourceOf l hlt D cA ad N _ _ R hf _) (cwV 1 hts gL_sourceOf_X5_sourceOf rfl rfl rfl (by decide +kernel) ⟨Nat.le_of_ble_eq_true rfl, Nat.le_of_ble_eq_true rfl⟩) (sg_preU hK hP hD hT hS hA (ci := 7) (q0 := 0) rfl rfl) rfl rfl hl.1 rfl (lv_room (Nat.le_of_ble_eq_true rfl)) dL_sourceOf_4 ⟨Nat.le_of_ble_eq_true rfl, Nat.le_of_ble_eq_true rfl⟩) hP hD hS hA (fun k v E ce q9 H locs hr1 hE hP hD hS hce hcv hcl => ?_) (fun r v H locs hr1 hP hD hS => ?_)
  · have hk := hR k v hr1
    simp only [List.mem_cons, List.not_mem_nil, or_false] at hk
    rcases hk with rfl | rfl
    · replace hE : E = "java/util/NoSuchElementException" := hE
      subst hE
      refine vx_catch (own := RL) (name := "java/util/NoSuchElementException") hown [] ⟨0, 9, 12, 25⟩ [⟨0, 9, 15, 15⟩] (by rw [htb]; rfl) (fun z hz => absurd hz List.not_mem_nil) (by decide) (by decide) (hts (.classLink RL 25 "java/util/NoSuchElementException") (by decide +kernel)) (va_Nw.use rfl (hT.2.2.2.1 (293, "java/util/NoSuchElementException") (by decide))) hce hcv hcl ?_
      refine lv_astore_n (lv' := [(3, .ref q9), (0, .ref (ad 0)), (1, .int p1), (2, .ref qo)]) hx hb dL_sourceOf_12 rfl hl (by decide) rfl (fun ls hl => ?_)
      refine lv_iconst (v := 1) hx hb dL_sourceOf_13 (by decide) ?_
      exact sg_lret (wz := fun z => sg_WL cA ad qo z.1 z.2) (v, o) hx hb hr hP hD hS dL_sourceOf_14 (Or.inr ⟨_, hr1, rfl, rfl⟩) hlocks (by decide) (by decide)
    · replace hE : E = "java/lang/IllegalStateException" := hE
      subst hE
      refine vx_catch (own := RL) (name := "java/lang/IllegalStateException") hown [⟨0, 9, 12, 25⟩] ⟨0, 9, 15, 15⟩ [] (by rw [htb]; rfl) (List.forall_mem_cons.mpr ⟨Or.inr ⟨by decide, "java/util/NoSuchElementException", hts (.classLink RL 25 "java/util/NoSuchElementException") (by decide +kernel), hN ("java/lang/IllegalStateException", "java/util/NoSuchElementException") (by decide +kernel)⟩, fun _ h => absurd h List.not_mem_nil⟩) (by decide) (by decide) (hts (.classLink RL 15 "java/lang/IllegalStateException") (by decide +kernel)) (va_Nw.use rfl (hT.2.2.2.1 (104, "java/lang/IllegalStateException") (by decide))) hce hcv hcl ?_
      refine lv_astore_n (lv' := [(3, .ref q9), (0, .ref (ad 0)), (1, .int p1), (2, .ref qo)]) hx hb dL_sourceOf_15 rfl hl (by decide) rfl (fun ls hl => ?_)
      refine lv_iconst (v := 2) hx hb dL_sourceOf_16 (by decide) ?_
      exact sg_lret (wz := fun z => sg_WL cA ad qo z.1 z.2) (v, o) hx hb hr hP hD hS dL_sourceOf_17 (Or.inr ⟨_, hr1, rfl, rfl⟩) hlocks (by decide) (by decide)
  · refine lv_i2l (v := r.toInt64) hx hb dL_sourceOf_7 rfl ?_
    refine va_last hx hb hK.1 hP hD hS 0 2 rfl rfl (sg_inb_s (i := 0) (n := 1) (by decide)) dL_sourceOf_8 (fun H locs hP hD hS => ?_)
    refine lv_goto (tgt := 18) hx hb dL_sourceOf_9 (by decide) ?_
    refine lv_iconst (v := 0) hx hb dL_sourceOf_18 (by decide) ?_
    exact sg_lret (wz := fun z => sg_WL cA ad qo z.1 z.2) (v, vp_updL o (0 : Int32).toNatClampNeg r.toInt64) hx hb hr hP hD hS dL_sourceOf_19 (Or.inl ⟨r, hr1, rfl, rfl⟩) hlocks (by decide) (by decide)
set_option maxRecDepth 100000 in
set_option maxHeartbeats 4000000 in
theorem c_L_islandLoad (l : Launch) (hlt : l.stackTraces = false) (D : va_G) (cA : Nat → ClassId) (ad : Nat → Nat) (qo : Nat) (o : Nat → Int64) (N : Nat) (u : sg_St) (p1 : Int32) (R : (Nat ⊕ Int32) × sg_St) (hf : fX5_islandLoad N u p1 = some R) (hR : ∀ k t, R = (.inl k, t) → k ∈ [5]) (sz : Nat) : Met l yL_islandLoad wsL_islandLoad ({ frames := 10, cells := 1, slots := 6, locals := 442 }) (va_Pc [.ref (ad 0), .int p1, .ref qo] (sg_PL D cA (sg_WL cA ad qo u o) sz)) (sg_QL D cA ad qo (va_A (sg_WL cA ad qo u o) sz) [5] sg_up64 R o) 1 6 (va_A (sg_WL cA ad qo u o) sz) := by
  refine sg_ofWH (cc := cL_islandLoad) (maxL := 4) (ret := (some .int)) (by decide) rfl ?_
  intro p e s m args below meth c s₁ B hml hv
  obtain ⟨rfl, ⟨hsz, hP, hK, hD0⟩, hT, hN⟩ := hv
  have hx := B.exec
  have hb := B.bytes
  have hr := B.returns
  have hts := atoms_spec (ws := wsL_islandLoad) B.pre
  have hown : s.vm.findClass RL = some m.cls := findClass_of_methodNamed B.named
  have hlocks := B.notSynchronized
  have htb : c.exceptionTable.toList = tableOf [(0, 9, 12, 25)] := vx_table (x := ⟨"", "", ""⟩) B (hts _ List.mem_cons_self)
  subst hsz
  have hD := hD0.self (sz := s.heap.size)
  replace hP : va_P D vwCl (sg_WL cA ad qo u o) s.heap := hP
  replace hD : va_D (va_A (sg_WL cA ad qo u o) s.heap.size) (sg_WL cA ad qo u o) := hD
  generalize hAe : va_A (sg_WL cA ad qo u o) s.heap.size = A at hD hT ⊢
  have hA : ∀ q : Nat, s.heap.size ≤ q → A q := fun q h => by rw [← hAe]; exact Or.inr h
  have hS : va_S A s.heap s.heap [] := va_S.rf
  have hl := lv_entry ([.ref (ad 0), .int p1, .ref qo]) (n := 4) (Nat.le_of_ble_eq_true rfl)
  rw [lg_entry_eq]
  generalize (lg_sl ([.ref (ad 0), .int p1, .ref qo]) ++ List.replicate (4 - (lg_sl ([.ref (ad 0), .int p1, .ref qo])).length) Slot.unset).toArray = ls at hl ⊢
  replace hl : lv_has ls 4 [(0, .ref (ad 0)), (1, .int p1), (2, .ref qo)] := hl
  refine lv_aload_n hx hb dL_islandLoad_0 rfl (lv_at hl 2 rfl) ?_
  refine lv_iconst (v := 0) hx hb dL_islandLoad_1 (by decide) ?_
  refine lv_aload_n hx hb dL_islandLoad_2 rfl (lv_at hl 0 rfl) ?_
  refine lv_iload_n hx hb dL_islandLoad_3 rfl (lv_at hl 1 rfl) ?_
  refine sg_ui (vx_runV (As := [.int p1]) (rest := [.int 0, .ref qo]) ⟨hx, hb, hml, hown, hts⟩ (c_X5_islandLoad l hlt D cA ad N _ _ R hf _) (cwV 1 hts gL_islandLoad_X5_islandLoad rfl rfl rfl (by decide +kernel) ⟨Nat.le_of_ble_eq_true rfl, Nat.le_of_ble_eq_true rfl⟩) (sg_preU hK hP hD hT hS hA (ci := 7) (q0 := 0) rfl rfl) rfl rfl hl.1 rfl (lv_room (Nat.le_of_ble_eq_true rfl)) dL_islandLoad_4 ⟨Nat.le_of_ble_eq_true rfl, Nat.le_of_ble_eq_true rfl⟩) hP hD hS hA (fun k v E ce q9 H locs hr1 hE hP hD hS hce hcv hcl => ?_) (fun r v H locs hr1 hP hD hS => ?_)
  · have hk := hR k v hr1
    simp only [List.mem_cons, List.not_mem_nil, or_false] at hk
    subst hk
    replace hE : E = "java/util/NoSuchElementException" := hE
    subst hE
    refine vx_catch (own := RL) (name := "java/util/NoSuchElementException") hown [] ⟨0, 9, 12, 25⟩ [] (by rw [htb]; rfl) (fun z hz => absurd hz List.not_mem_nil) (by decide) (by decide) (hts (.classLink RL 25 "java/util/NoSuchElementException") (by decide +kernel)) (va_Nw.use rfl (hT.2.2.2.1 (293, "java/util/NoSuchElementException") (by decide))) hce hcv hcl ?_
    refine lv_astore_n (lv' := [(3, .ref q9), (0, .ref (ad 0)), (1, .int p1), (2, .ref qo)]) hx hb dL_islandLoad_12 rfl hl (by decide) rfl (fun ls hl => ?_)
    refine lv_iconst (v := 1) hx hb dL_islandLoad_13 (by decide) ?_
    exact sg_lret (wz := fun z => sg_WL cA ad qo z.1 z.2) (v, o) hx hb hr hP hD hS dL_islandLoad_14 (Or.inr ⟨_, hr1, rfl, rfl⟩) hlocks (by decide) (by decide)
  · refine lv_i2l (v := r.toInt64) hx hb dL_islandLoad_7 rfl ?_
    refine va_last hx hb hK.1 hP hD hS 0 2 rfl rfl (sg_inb_s (i := 0) (n := 1) (by decide)) dL_islandLoad_8 (fun H locs hP hD hS => ?_)
    refine lv_goto (tgt := 15) hx hb dL_islandLoad_9 (by decide) ?_
    refine lv_iconst (v := 0) hx hb dL_islandLoad_15 (by decide) ?_
    exact sg_lret (wz := fun z => sg_WL cA ad qo z.1 z.2) (v, vp_updL o (0 : Int32).toNatClampNeg r.toInt64) hx hb hr hP hD hS dL_islandLoad_16 (Or.inl ⟨r, hr1, rfl, rfl⟩) hlocks (by decide) (by decide)
set_option maxRecDepth 100000 in
set_option maxHeartbeats 4000000 in
theorem c_L_current (l : Launch) (hlt : l.stackTraces = false) (D : va_G) (cA : Nat → ClassId) (ad : Nat → Nat) (qo : Nat) (o : Nat → Int64) (N : Nat) (u : sg_St) (p1 : Int32) (R : (Nat ⊕ Int32) × sg_St) (hf : fX5_current N u p1 = some R) (hR : ∀ k t, R = (.inl k, t) → k ∈ [5]) (sz : Nat) : Met l yL_current wsL_current ({ frames := 18, cells := 1, slots := 6, locals := 465 }) (va_Pc [.ref (ad 0), .int p1, .ref qo] (sg_PL D cA (sg_WL cA ad qo u o) sz)) (sg_QL D cA ad qo (va_A (sg_WL cA ad qo u o) sz) [5] sg_up64 R o) 1 6 (va_A (sg_WL cA ad qo u o) sz) := by
  refine sg_ofWH (cc := cL_current) (maxL := 4) (ret := (some .int)) (by decide) rfl ?_
  intro p e s m args below meth c s₁ B hml hv
  obtain ⟨rfl, ⟨hsz, hP, hK, hD0⟩, hT, hN⟩ := hv
  have hx := B.exec
  have hb := B.bytes
  have hr := B.returns
  have hts := atoms_spec (ws := wsL_current) B.pre
  have hown : s.vm.findClass RL = some m.cls := findClass_of_methodNamed B.named
  have hlocks := B.notSynchronized
  have htb : c.exceptionTable.toList = tableOf [(0, 9, 12, 25)] := vx_table (x := ⟨"", "", ""⟩) B (hts _ List.mem_cons_self)
  subst hsz
  have hD := hD0.self (sz := s.heap.size)
  replace hP : va_P D vwCl (sg_WL cA ad qo u o) s.heap := hP
  replace hD : va_D (va_A (sg_WL cA ad qo u o) s.heap.size) (sg_WL cA ad qo u o) := hD
  generalize hAe : va_A (sg_WL cA ad qo u o) s.heap.size = A at hD hT ⊢
  have hA : ∀ q : Nat, s.heap.size ≤ q → A q := fun q h => by rw [← hAe]; exact Or.inr h
  have hS : va_S A s.heap s.heap [] := va_S.rf
  have hl := lv_entry ([.ref (ad 0), .int p1, .ref qo]) (n := 4) (Nat.le_of_ble_eq_true rfl)
  rw [lg_entry_eq]
  generalize (lg_sl ([.ref (ad 0), .int p1, .ref qo]) ++ List.replicate (4 - (lg_sl ([.ref (ad 0), .int p1, .ref qo])).length) Slot.unset).toArray = ls at hl ⊢
  replace hl : lv_has ls 4 [(0, .ref (ad 0)), (1, .int p1), (2, .ref qo)] := hl
  refine lv_aload_n hx hb dL_current_0 rfl (lv_at hl 2 rfl) ?_
  refine lv_iconst (v := 0) hx hb dL_current_1 (by decide) ?_
  refine lv_aload_n hx hb dL_current_2 rfl (lv_at hl 0 rfl) ?_
  refine lv_iload_n hx hb dL_current_3 rfl (lv_at hl 1 rfl) ?_
  refine sg_ui (vx_runV (As := [.int p1]) (rest := [.int 0, .ref qo]) ⟨hx, hb, hml, hown, hts⟩ (c_X5_current l hlt D cA ad N _ _ R hf _) (cwV 1 hts gL_current_X5_current rfl rfl rfl (by decide +kernel) ⟨Nat.le_of_ble_eq_true rfl, Nat.le_of_ble_eq_true rfl⟩) (sg_preU hK hP hD hT hS hA (ci := 7) (q0 := 0) rfl rfl) rfl rfl hl.1 rfl (lv_room (Nat.le_of_ble_eq_true rfl)) dL_current_4 ⟨Nat.le_of_ble_eq_true rfl, Nat.le_of_ble_eq_true rfl⟩) hP hD hS hA (fun k v E ce q9 H locs hr1 hE hP hD hS hce hcv hcl => ?_) (fun r v H locs hr1 hP hD hS => ?_)
  · have hk := hR k v hr1
    simp only [List.mem_cons, List.not_mem_nil, or_false] at hk
    subst hk
    replace hE : E = "java/util/NoSuchElementException" := hE
    subst hE
    refine vx_catch (own := RL) (name := "java/util/NoSuchElementException") hown [] ⟨0, 9, 12, 25⟩ [] (by rw [htb]; rfl) (fun z hz => absurd hz List.not_mem_nil) (by decide) (by decide) (hts (.classLink RL 25 "java/util/NoSuchElementException") (by decide +kernel)) (va_Nw.use rfl (hT.2.2.2.1 (293, "java/util/NoSuchElementException") (by decide))) hce hcv hcl ?_
    refine lv_astore_n (lv' := [(3, .ref q9), (0, .ref (ad 0)), (1, .int p1), (2, .ref qo)]) hx hb dL_current_12 rfl hl (by decide) rfl (fun ls hl => ?_)
    refine lv_iconst (v := 1) hx hb dL_current_13 (by decide) ?_
    exact sg_lret (wz := fun z => sg_WL cA ad qo z.1 z.2) (v, o) hx hb hr hP hD hS dL_current_14 (Or.inr ⟨_, hr1, rfl, rfl⟩) hlocks (by decide) (by decide)
  · refine lv_i2l (v := r.toInt64) hx hb dL_current_7 rfl ?_
    refine va_last hx hb hK.1 hP hD hS 0 2 rfl rfl (sg_inb_s (i := 0) (n := 1) (by decide)) dL_current_8 (fun H locs hP hD hS => ?_)
    refine lv_goto (tgt := 15) hx hb dL_current_9 (by decide) ?_
    refine lv_iconst (v := 0) hx hb dL_current_15 (by decide) ?_
    exact sg_lret (wz := fun z => sg_WL cA ad qo z.1 z.2) (v, vp_updL o (0 : Int32).toNatClampNeg r.toInt64) hx hb hr hP hD hS dL_current_16 (Or.inl ⟨r, hr1, rfl, rfl⟩) hlocks (by decide) (by decide)
set_option maxRecDepth 100000 in
set_option maxHeartbeats 4000000 in
theorem c_L_currentByCutting (l : Launch) (hlt : l.stackTraces = false) (D : va_G) (cA : Nat → ClassId) (ad : Nat → Nat) (qo : Nat) (o : Nat → Int64) (N : Nat) (u : sg_St) (p1 : Int32) (R : (Nat ⊕ Int32) × sg_St) (hf : fX5_currentByCutting N u p1 = some R) (hR : ∀ k t, R = (.inl k, t) → k ∈ [5]) (sz : Nat) : Met l yL_currentByCutting wsL_currentByCutting ({ frames := 10, cells := 1, slots := 6, locals := 442 }) (va_Pc [.ref (ad 0), .int p1, .ref qo] (sg_PL D cA (sg_WL cA ad qo u o) sz)) (sg_QL D cA ad qo (va_A (sg_WL cA ad qo u o) sz) [5] sg_up64 R o) 1 6 (va_A (sg_WL cA ad qo u o) sz) := by
  refine sg_ofWH (cc := cL_currentByCutting) (maxL := 4) (ret := (some .int)) (by decide) rfl ?_
  intro p e s m args below meth c s₁ B hml hv
  obtain ⟨rfl, ⟨hsz, hP, hK, hD0⟩, hT, hN⟩ := hv
  have hx := B.exec
  have hb := B.bytes
  have hr := B.returns
  have hts := atoms_spec (ws := wsL_currentByCutting) B.pre
  have hown : s.vm.findClass RL = some m.cls := findClass_of_methodNamed B.named
  have hlocks := B.notSynchronized
  have htb : c.exceptionTable.toList = tableOf [(0, 9, 12, 25)] := vx_table (x := ⟨"", "", ""⟩) B (hts _ List.mem_cons_self)
  subst hsz
  have hD := hD0.self (sz := s.heap.size)
  replace hP : va_P D vwCl (sg_WL cA ad qo u o) s.heap := hP
  replace hD : va_D (va_A (sg_WL cA ad qo u o) s.heap.size) (sg_WL cA ad qo u o) := hD
  generalize hAe : va_A (sg_WL cA ad qo u o) s.heap.size = A at hD hT ⊢
  have hA : ∀ q : Nat, s.heap.size ≤ q → A q := fun q h => by rw [← hAe]; exact Or.inr h
  have hS : va_S A s.heap s.heap [] := va_S.rf
  have hl := lv_entry ([.ref (ad 0), .int p1, .ref qo]) (n := 4) (Nat.le_of_ble_eq_true rfl)
  rw [lg_entry_eq]
  generalize (lg_sl ([.ref (ad 0), .int p1, .ref qo]) ++ List.replicate (4 - (lg_sl ([.ref (ad 0), .int p1, .ref qo])).length) Slot.unset).toArray = ls at hl ⊢
  replace hl : lv_has ls 4 [(0, .ref (ad 0)), (1, .int p1), (2, .ref qo)] := hl
  refine lv_aload_n hx hb dL_currentByCutting_0 rfl (lv_at hl 2 rfl) ?_
  refine lv_iconst (v := 0) hx hb dL_currentByCutting_1 (by decide) ?_
  refine lv_aload_n hx hb dL_currentByCutting_2 rfl (lv_at hl 0 rfl) ?_
  refine lv_iload_n hx hb dL_currentByCutting_3 rfl (lv_at hl 1 rfl) ?_
  refine sg_ui (vx_runV (As := [.int p1]) (rest := [.int 0, .ref qo]) ⟨hx, hb, hml, hown, hts⟩ (c_X5_currentByCutting l hlt D cA ad N _ _ R hf _) (cwV 1 hts gL_currentByCutting_X5_currentByCutting rfl rfl rfl (by decide +kernel) ⟨Nat.le_of_ble_eq_true rfl, Nat.le_of_ble_eq_true rfl⟩) (sg_preU hK hP hD hT hS hA (ci := 7) (q0 := 0) rfl rfl) rfl rfl hl.1 rfl (lv_room (Nat.le_of_ble_eq_true rfl)) dL_currentByCutting_4 ⟨Nat.le_of_ble_eq_true rfl, Nat.le_of_ble_eq_true rfl⟩) hP hD hS hA (fun k v E ce q9 H locs hr1 hE hP hD hS hce hcv hcl => ?_) (fun r v H locs hr1 hP hD hS => ?_)
  · have hk := hR k v hr1
    simp only [List.mem_cons, List.not_mem_nil, or_false] at hk
    subst hk
    replace hE : E = "java/util/NoSuchElementException" := hE
    subst hE
    refine vx_catch (own := RL) (name := "java/util/NoSuchElementException") hown [] ⟨0, 9, 12, 25⟩ [] (by rw [htb]; rfl) (fun z hz => absurd hz List.not_mem_nil) (by decide) (by decide) (hts (.classLink RL 25 "java/util/NoSuchElementException") (by decide +kernel)) (va_Nw.use rfl (hT.2.2.2.1 (293, "java/util/NoSuchElementException") (by decide))) hce hcv hcl ?_
    refine lv_astore_n (lv' := [(3, .ref q9), (0, .ref (ad 0)), (1, .int p1), (2, .ref qo)]) hx hb dL_currentByCutting_12 rfl hl (by decide) rfl (fun ls hl => ?_)
    refine lv_iconst (v := 1) hx hb dL_currentByCutting_13 (by decide) ?_
    exact sg_lret (wz := fun z => sg_WL cA ad qo z.1 z.2) (v, o) hx hb hr hP hD hS dL_currentByCutting_14 (Or.inr ⟨_, hr1, rfl, rfl⟩) hlocks (by decide) (by decide)
  · refine lv_i2l (v := r.toInt64) hx hb dL_currentByCutting_7 rfl ?_
    refine va_last hx hb hK.1 hP hD hS 0 2 rfl rfl (sg_inb_s (i := 0) (n := 1) (by decide)) dL_currentByCutting_8 (fun H locs hP hD hS => ?_)
    refine lv_goto (tgt := 15) hx hb dL_currentByCutting_9 (by decide) ?_
    refine lv_iconst (v := 0) hx hb dL_currentByCutting_15 (by decide) ?_
    exact sg_lret (wz := fun z => sg_WL cA ad qo z.1 z.2) (v, vp_updL o (0 : Int32).toNatClampNeg r.toInt64) hx hb hr hP hD hS dL_currentByCutting_16 (Or.inl ⟨r, hr1, rfl, rfl⟩) hlocks (by decide) (by decide)
set_option maxRecDepth 100000 in
set_option maxHeartbeats 4000000 in
theorem c_L_distance (l : Launch) (hlt : l.stackTraces = false) (D : va_G) (cA : Nat → ClassId) (ad : Nat → Nat) (qo : Nat) (o : Nat → Int64) (N : Nat) (u : sg_St) (p1 : Int32) (R : (Nat ⊕ Int32) × sg_St) (hf : fX5_distance N u p1 = some R) (hR : ∀ k t, R = (.inl k, t) → k ∈ [5, 0]) (sz : Nat) : Met l yL_distance wsL_distance ({ frames := 18, cells := 2, slots := 12, locals := 481 }) (va_Pc [.ref (ad 0), .int p1, .ref qo] (sg_PL D cA (sg_WL cA ad qo u o) sz)) (sg_QL D cA ad qo (va_A (sg_WL cA ad qo u o) sz) [5, 0] sg_up64 R o) 2 12 (va_A (sg_WL cA ad qo u o) sz) := by
  refine sg_ofWH (cc := cL_distance) (maxL := 4) (ret := (some .int)) (by decide) rfl ?_
  intro p e s m args below meth c s₁ B hml hv
  obtain ⟨rfl, ⟨hsz, hP, hK, hD0⟩, hT, hN⟩ := hv
  have hx := B.exec
  have hb := B.bytes
  have hr := B.returns
  have hts := atoms_spec (ws := wsL_distance) B.pre
  have hown : s.vm.findClass RL = some m.cls := findClass_of_methodNamed B.named
  have hlocks := B.notSynchronized
  have htb : c.exceptionTable.toList = tableOf [(0, 9, 12, 25), (0, 9, 15, 15)] := vx_table (x := ⟨"", "", ""⟩) B (hts _ List.mem_cons_self)
  subst hsz
  have hD := hD0.self (sz := s.heap.size)
  replace hP : va_P D vwCl (sg_WL cA ad qo u o) s.heap := hP
  replace hD : va_D (va_A (sg_WL cA ad qo u o) s.heap.size) (sg_WL cA ad qo u o) := hD
  generalize hAe : va_A (sg_WL cA ad qo u o) s.heap.size = A at hD hT ⊢
  have hA : ∀ q : Nat, s.heap.size ≤ q → A q := fun q h => by rw [← hAe]; exact Or.inr h
  have hS : va_S A s.heap s.heap [] := va_S.rf
  have hl := lv_entry ([.ref (ad 0), .int p1, .ref qo]) (n := 4) (Nat.le_of_ble_eq_true rfl)
  rw [lg_entry_eq]
  generalize (lg_sl ([.ref (ad 0), .int p1, .ref qo]) ++ List.replicate (4 - (lg_sl ([.ref (ad 0), .int p1, .ref qo])).length) Slot.unset).toArray = ls at hl ⊢
  replace hl : lv_has ls 4 [(0, .ref (ad 0)), (1, .int p1), (2, .ref qo)] := hl
  refine lv_aload_n hx hb dL_distance_0 rfl (lv_at hl 2 rfl) ?_
  refine lv_iconst (v := 0) hx hb dL_distance_1 (by decide) ?_
  refine lv_aload_n hx hb dL_distance_2 rfl (lv_at hl 0 rfl) ?_
  refine lv_iload_n hx hb dL_distance_3 rfl (lv_at hl 1 rfl) ?_
  refine sg_ui (vx_runV (As := [.int p1]) (rest := [.int 0, .ref qo]) ⟨hx, hb, hml, hown, hts⟩ (c_X5_distance l hlt D cA ad N _ _ R hf _) (cwV 1 hts gL_distance_X5_distance rfl rfl rfl (by decide +kernel) ⟨Nat.le_of_ble_eq_true rfl, Nat.le_of_ble_eq_true rfl⟩) (sg_preU hK hP hD hT hS hA (ci := 7) (q0 := 0) rfl rfl) rfl rfl hl.1 rfl (lv_room (Nat.le_of_ble_eq_true rfl)) dL_distance_4 ⟨Nat.le_of_ble_eq_true rfl, Nat.le_of_ble_eq_true rfl⟩) hP hD hS hA (fun k v E ce q9 H locs hr1 hE hP hD hS hce hcv hcl => ?_) (fun r v H locs hr1 hP hD hS => ?_)
  · have hk := hR k v hr1
    simp only [List.mem_cons, List.not_mem_nil, or_false] at hk
    rcases hk with rfl | rfl
    · replace hE : E = "java/util/NoSuchElementException" := hE
      subst hE
      refine vx_catch (own := RL) (name := "java/util/NoSuchElementException") hown [] ⟨0, 9, 12, 25⟩ [⟨0, 9, 15, 15⟩] (by rw [htb]; rfl) (fun z hz => absurd hz List.not_mem_nil) (by decide) (by decide) (hts (.classLink RL 25 "java/util/NoSuchElementException") (by decide +kernel)) (va_Nw.use rfl (hT.2.2.2.1 (293, "java/util/NoSuchElementException") (by decide))) hce hcv hcl ?_
      refine lv_astore_n (lv' := [(3, .ref q9), (0, .ref (ad 0)), (1, .int p1), (2, .ref qo)]) hx hb dL_distance_12 rfl hl (by decide) rfl (fun ls hl => ?_)
      refine lv_iconst (v := 1) hx hb dL_distance_13 (by decide) ?_
      exact sg_lret (wz := fun z => sg_WL cA ad qo z.1 z.2) (v, o) hx hb hr hP hD hS dL_distance_14 (Or.inr ⟨_, hr1, rfl, rfl⟩) hlocks (by decide) (by decide)
    · replace hE : E = "java/lang/IllegalStateException" := hE
      subst hE
      refine vx_catch (own := RL) (name := "java/lang/IllegalStateException") hown [⟨0, 9, 12, 25⟩] ⟨0, 9, 15, 15⟩ [] (by rw [htb]; rfl) (List.forall_mem_cons.mpr ⟨Or.inr ⟨by decide, "java/util/NoSuchElementException", hts (.classLink RL 25 "java/util/NoSuchElementException") (by decide +kernel), hN ("java/lang/IllegalStateException", "java/util/NoSuchElementException") (by decide +kernel)⟩, fun _ h => absurd h List.not_mem_nil⟩) (by decide) (by decide) (hts (.classLink RL 15 "java/lang/IllegalStateException") (by decide +kernel)) (va_Nw.use rfl (hT.2.2.2.1 (104, "java/lang/IllegalStateException") (by decide))) hce hcv hcl ?_
      refine lv_astore_n (lv' := [(3, .ref q9), (0, .ref (ad 0)), (1, .int p1), (2, .ref qo)]) hx hb dL_distance_15 rfl hl (by decide) rfl (fun ls hl => ?_)
      refine lv_iconst (v := 2) hx hb dL_distance_16 (by decide) ?_
      exact sg_lret (wz := fun z => sg_WL cA ad qo z.1 z.2) (v, o) hx hb hr hP hD hS dL_distance_17 (Or.inr ⟨_, hr1, rfl, rfl⟩) hlocks (by decide) (by decide)
  · refine lv_i2l (v := r.toInt64) hx hb dL_distance_7 rfl ?_
    refine va_last hx hb hK.1 hP hD hS 0 2 rfl rfl (sg_inb_s (i := 0) (n := 1) (by decide)) dL_distance_8 (fun H locs hP hD hS => ?_)
    refine lv_goto (tgt := 18) hx hb dL_distance_9 (by decide) ?_
    refine lv_iconst (v := 0) hx hb dL_distance_18 (by decide) ?_
    exact sg_lret (wz := fun z => sg_WL cA ad qo z.1 z.2) (v, vp_updL o (0 : Int32).toNatClampNeg r.toInt64) hx hb hr hP hD hS dL_distance_19 (Or.inl ⟨r, hr1, rfl, rfl⟩) hlocks (by decide) (by decide)
set_option maxRecDepth 100000 in
set_option maxHeartbeats 4000000 in
theorem c_L_pathAt (l : Launch) (hlt : l.stackTraces = false) (D : va_G) (cA : Nat → ClassId) (ad : Nat → Nat) (qo : Nat) (o : Nat → Int64) (N : Nat) (u : sg_St) (p1 p2 : Int32) (R : (Nat ⊕ Int32) × sg_St) (hf : fX5_pathAt N u p1 p2 = some R) (hR : ∀ k t, R = (.inl k, t) → k ∈ [5, 0, 2]) (sz : Nat) : Met l yL_pathAt wsL_pathAt ({ frames := 18, cells := 3, slots := 18, locals := 483 }) (va_Pc [.ref (ad 0), .int p1, .int p2, .ref qo] (sg_PL D cA (sg_WL cA ad qo u o) sz)) (sg_QL D cA ad qo (va_A (sg_WL cA ad qo u o) sz) [5, 0, 2] sg_up64 R o) 3 18 (va_A (sg_WL cA ad qo u o) sz) := by
  refine sg_ofWH (cc := cL_pathAt) (maxL := 5) (ret := (some .int)) (by decide) rfl ?_
  intro p e s m args below meth c s₁ B hml hv
  obtain ⟨rfl, ⟨hsz, hP, hK, hD0⟩, hT, hN⟩ := hv
  have hx := B.exec
  have hb := B.bytes
  have hr := B.returns
  have hts := atoms_spec (ws := wsL_pathAt) B.pre
  have hown : s.vm.findClass RL = some m.cls := findClass_of_methodNamed B.named
  have hlocks := B.notSynchronized
  have htb : c.exceptionTable.toList = tableOf [(0, 10, 13, 25), (0, 10, 17, 15), (0, 10, 21, 107)] := vx_table (x := ⟨"", "", ""⟩) B (hts _ List.mem_cons_self)
  subst hsz
  have hD := hD0.self (sz := s.heap.size)
  replace hP : va_P D vwCl (sg_WL cA ad qo u o) s.heap := hP
  replace hD : va_D (va_A (sg_WL cA ad qo u o) s.heap.size) (sg_WL cA ad qo u o) := hD
  generalize hAe : va_A (sg_WL cA ad qo u o) s.heap.size = A at hD hT ⊢
  have hA : ∀ q : Nat, s.heap.size ≤ q → A q := fun q h => by rw [← hAe]; exact Or.inr h
  have hS : va_S A s.heap s.heap [] := va_S.rf
  have hl := lv_entry ([.ref (ad 0), .int p1, .int p2, .ref qo]) (n := 5) (Nat.le_of_ble_eq_true rfl)
  rw [lg_entry_eq]
  generalize (lg_sl ([.ref (ad 0), .int p1, .int p2, .ref qo]) ++ List.replicate (5 - (lg_sl ([.ref (ad 0), .int p1, .int p2, .ref qo])).length) Slot.unset).toArray = ls at hl ⊢
  replace hl : lv_has ls 5 [(0, .ref (ad 0)), (1, .int p1), (2, .int p2), (3, .ref qo)] := hl
  refine lv_aload_n hx hb dL_pathAt_0 rfl (lv_at hl 3 rfl) ?_
  refine lv_iconst (v := 0) hx hb dL_pathAt_1 (by decide) ?_
  refine lv_aload_n hx hb dL_pathAt_2 rfl (lv_at hl 0 rfl) ?_
  refine lv_iload_n hx hb dL_pathAt_3 rfl (lv_at hl 1 rfl) ?_
  refine lv_iload_n hx hb dL_pathAt_4 rfl (lv_at hl 2 rfl) ?_
  refine sg_ui (vx_runV (As := [.int p1, .int p2]) (rest := [.int 0, .ref qo]) ⟨hx, hb, hml, hown, hts⟩ (c_X5_pathAt l hlt D cA ad N _ _ _ R hf _) (cwV 2 hts gL_pathAt_X5_pathAt rfl rfl rfl (by decide +kernel) ⟨Nat.le_of_ble_eq_true rfl, Nat.le_of_ble_eq_true rfl⟩) (sg_preU hK hP hD hT hS hA (ci := 7) (q0 := 0) rfl rfl) rfl rfl hl.1 rfl (lv_room (Nat.le_of_ble_eq_true rfl)) dL_pathAt_5 ⟨Nat.le_of_ble_eq_true rfl, Nat.le_of_ble_eq_true rfl⟩) hP hD hS hA (fun k v E ce q9 H locs hr1 hE hP hD hS hce hcv hcl => ?_) (fun r v H locs hr1 hP hD hS => ?_)
  · have hk := hR k v hr1
    simp only [List.mem_cons, List.not_mem_nil, or_false] at hk
    rcases hk with rfl | rfl | rfl
    · replace hE : E = "java/util/NoSuchElementException" := hE
      subst hE
      refine vx_catch (own := RL) (name := "java/util/NoSuchElementException") hown [] ⟨0, 10, 13, 25⟩ [⟨0, 10, 17, 15⟩, ⟨0, 10, 21, 107⟩] (by rw [htb]; rfl) (fun z hz => absurd hz List.not_mem_nil) (by decide) (by decide) (hts (.classLink RL 25 "java/util/NoSuchElementException") (by decide +kernel)) (va_Nw.use rfl (hT.2.2.2.1 (293, "java/util/NoSuchElementException") (by decide))) hce hcv hcl ?_
      refine lv_astore (lv' := [(4, .ref q9), (0, .ref (ad 0)), (1, .int p1), (2, .int p2), (3, .ref qo)]) hx hb dL_pathAt_13 hl (by decide) rfl (fun ls hl => ?_)
      refine lv_iconst (v := 1) hx hb dL_pathAt_15 (by decide) ?_
      exact sg_lret (wz := fun z => sg_WL cA ad qo z.1 z.2) (v, o) hx hb hr hP hD hS dL_pathAt_16 (Or.inr ⟨_, hr1, rfl, rfl⟩) hlocks (by decide) (by decide)
    · replace hE : E = "java/lang/IllegalStateException" := hE
      subst hE
      refine vx_catch (own := RL) (name := "java/lang/IllegalStateException") hown [⟨0, 10, 13, 25⟩] ⟨0, 10, 17, 15⟩ [⟨0, 10, 21, 107⟩] (by rw [htb]; rfl) (List.forall_mem_cons.mpr ⟨Or.inr ⟨by decide, "java/util/NoSuchElementException", hts (.classLink RL 25 "java/util/NoSuchElementException") (by decide +kernel), hN ("java/lang/IllegalStateException", "java/util/NoSuchElementException") (by decide +kernel)⟩, fun _ h => absurd h List.not_mem_nil⟩) (by decide) (by decide) (hts (.classLink RL 15 "java/lang/IllegalStateException") (by decide +kernel)) (va_Nw.use rfl (hT.2.2.2.1 (104, "java/lang/IllegalStateException") (by decide))) hce hcv hcl ?_
      refine lv_astore (lv' := [(4, .ref q9), (0, .ref (ad 0)), (1, .int p1), (2, .int p2), (3, .ref qo)]) hx hb dL_pathAt_17 hl (by decide) rfl (fun ls hl => ?_)
      refine lv_iconst (v := 2) hx hb dL_pathAt_19 (by decide) ?_
      exact sg_lret (wz := fun z => sg_WL cA ad qo z.1 z.2) (v, o) hx hb hr hP hD hS dL_pathAt_20 (Or.inr ⟨_, hr1, rfl, rfl⟩) hlocks (by decide) (by decide)
    · replace hE : E = "java/lang/IndexOutOfBoundsException" := hE
      subst hE
      refine vx_catch (own := RL) (name := "java/lang/IndexOutOfBoundsException") hown [⟨0, 10, 13, 25⟩, ⟨0, 10, 17, 15⟩] ⟨0, 10, 21, 107⟩ [] (by rw [htb]; rfl) (List.forall_mem_cons.mpr ⟨Or.inr ⟨by decide, "java/util/NoSuchElementException", hts (.classLink RL 25 "java/util/NoSuchElementException") (by decide +kernel), hN ("java/lang/IndexOutOfBoundsException", "java/util/NoSuchElementException") (by decide +kernel)⟩, List.forall_mem_cons.mpr ⟨Or.inr ⟨by decide, "java/lang/IllegalStateException", hts (.classLink RL 15 "java/lang/IllegalStateException") (by decide +kernel), hN ("java/lang/IndexOutOfBoundsException", "java/lang/IllegalStateException") (by decide +kernel)⟩, fun _ h => absurd h List.not_mem_nil⟩⟩) (by decide) (by decide) (hts (.classLink RL 107 "java/lang/IndexOutOfBoundsException") (by decide +kernel)) (va_Nw.use rfl (hT.2.2.2.1 (228, "java/lang/IndexOutOfBoundsException") (by decide))) hce hcv hcl ?_
      refine lv_astore (lv' := [(4, .ref q9), (0, .ref (ad 0)), (1, .int p1), (2, .int p2), (3, .ref qo)]) hx hb dL_pathAt_21 hl (by decide) rfl (fun ls hl => ?_)
      refine lv_iconst (v := 3) hx hb dL_pathAt_23 (by decide) ?_
      exact sg_lret (wz := fun z => sg_WL cA ad qo z.1 z.2) (v, o) hx hb hr hP hD hS dL_pathAt_24 (Or.inr ⟨_, hr1, rfl, rfl⟩) hlocks (by decide) (by decide)
  · refine lv_i2l (v := r.toInt64) hx hb dL_pathAt_8 rfl ?_
    refine va_last hx hb hK.1 hP hD hS 0 2 rfl rfl (sg_inb_s (i := 0) (n := 1) (by decide)) dL_pathAt_9 (fun H locs hP hD hS => ?_)
    refine lv_goto (tgt := 25) hx hb dL_pathAt_10 (by decide) ?_
    refine lv_iconst (v := 0) hx hb dL_pathAt_25 (by decide) ?_
    exact sg_lret (wz := fun z => sg_WL cA ad qo z.1 z.2) (v, vp_updL o (0 : Int32).toNatClampNeg r.toInt64) hx hb hr hP hD hS dL_pathAt_26 (Or.inl ⟨r, hr1, rfl, rfl⟩) hlocks (by decide) (by decide)
set_option maxRecDepth 100000 in
set_option maxHeartbeats 4000000 in
theorem c_L_faultCurrent (l : Launch) (hlt : l.stackTraces = false) (D : va_G) (cA : Nat → ClassId) (ad : Nat → Nat) (qo : Nat) (o : Nat → Int64) (N : Nat) (u : sg_St) (p1 : Int32) (R : (Nat ⊕ Int32) × sg_St) (hf : fX5_faultCurrent N u p1 = some R) (hR : ∀ k t, R = (.inl k, t) → k ∈ [5, 0]) (sz : Nat) : Met l yL_faultCurrent wsL_faultCurrent ({ frames := 18, cells := 2, slots := 12, locals := 482 }) (va_Pc [.ref (ad 0), .int p1, .ref qo] (sg_PL D cA (sg_WL cA ad qo u o) sz)) (sg_QL D cA ad qo (va_A (sg_WL cA ad qo u o) sz) [5, 0] sg_up64 R o) 2 12 (va_A (sg_WL cA ad qo u o) sz) := by
  refine sg_ofWH (cc := cL_faultCurrent) (maxL := 4) (ret := (some .int)) (by decide) rfl ?_
  intro p e s m args below meth c s₁ B hml hv
  obtain ⟨rfl, ⟨hsz, hP, hK, hD0⟩, hT, hN⟩ := hv
  have hx := B.exec
  have hb := B.bytes
  have hr := B.returns
  have hts := atoms_spec (ws := wsL_faultCurrent) B.pre
  have hown : s.vm.findClass RL = some m.cls := findClass_of_methodNamed B.named
  have hlocks := B.notSynchronized
  have htb : c.exceptionTable.toList = tableOf [(0, 9, 12, 25), (0, 9, 15, 15)] := vx_table (x := ⟨"", "", ""⟩) B (hts _ List.mem_cons_self)
  subst hsz
  have hD := hD0.self (sz := s.heap.size)
  replace hP : va_P D vwCl (sg_WL cA ad qo u o) s.heap := hP
  replace hD : va_D (va_A (sg_WL cA ad qo u o) s.heap.size) (sg_WL cA ad qo u o) := hD
  generalize hAe : va_A (sg_WL cA ad qo u o) s.heap.size = A at hD hT ⊢
  have hA : ∀ q : Nat, s.heap.size ≤ q → A q := fun q h => by rw [← hAe]; exact Or.inr h
  have hS : va_S A s.heap s.heap [] := va_S.rf
  have hl := lv_entry ([.ref (ad 0), .int p1, .ref qo]) (n := 4) (Nat.le_of_ble_eq_true rfl)
  rw [lg_entry_eq]
  generalize (lg_sl ([.ref (ad 0), .int p1, .ref qo]) ++ List.replicate (4 - (lg_sl ([.ref (ad 0), .int p1, .ref qo])).length) Slot.unset).toArray = ls at hl ⊢
  replace hl : lv_has ls 4 [(0, .ref (ad 0)), (1, .int p1), (2, .ref qo)] := hl
  refine lv_aload_n hx hb dL_faultCurrent_0 rfl (lv_at hl 2 rfl) ?_
  refine lv_iconst (v := 0) hx hb dL_faultCurrent_1 (by decide) ?_
  refine lv_aload_n hx hb dL_faultCurrent_2 rfl (lv_at hl 0 rfl) ?_
  refine lv_iload_n hx hb dL_faultCurrent_3 rfl (lv_at hl 1 rfl) ?_
  refine sg_ui (vx_runV (As := [.int p1]) (rest := [.int 0, .ref qo]) ⟨hx, hb, hml, hown, hts⟩ (c_X5_faultCurrent l hlt D cA ad N _ _ R hf _) (cwV 1 hts gL_faultCurrent_X5_faultCurrent rfl rfl rfl (by decide +kernel) ⟨Nat.le_of_ble_eq_true rfl, Nat.le_of_ble_eq_true rfl⟩) (sg_preU hK hP hD hT hS hA (ci := 7) (q0 := 0) rfl rfl) rfl rfl hl.1 rfl (lv_room (Nat.le_of_ble_eq_true rfl)) dL_faultCurrent_4 ⟨Nat.le_of_ble_eq_true rfl, Nat.le_of_ble_eq_true rfl⟩) hP hD hS hA (fun k v E ce q9 H locs hr1 hE hP hD hS hce hcv hcl => ?_) (fun r v H locs hr1 hP hD hS => ?_)
  · have hk := hR k v hr1
    simp only [List.mem_cons, List.not_mem_nil, or_false] at hk
    rcases hk with rfl | rfl
    · replace hE : E = "java/util/NoSuchElementException" := hE
      subst hE
      refine vx_catch (own := RL) (name := "java/util/NoSuchElementException") hown [] ⟨0, 9, 12, 25⟩ [⟨0, 9, 15, 15⟩] (by rw [htb]; rfl) (fun z hz => absurd hz List.not_mem_nil) (by decide) (by decide) (hts (.classLink RL 25 "java/util/NoSuchElementException") (by decide +kernel)) (va_Nw.use rfl (hT.2.2.2.1 (293, "java/util/NoSuchElementException") (by decide))) hce hcv hcl ?_
      refine lv_astore_n (lv' := [(3, .ref q9), (0, .ref (ad 0)), (1, .int p1), (2, .ref qo)]) hx hb dL_faultCurrent_12 rfl hl (by decide) rfl (fun ls hl => ?_)
      refine lv_iconst (v := 1) hx hb dL_faultCurrent_13 (by decide) ?_
      exact sg_lret (wz := fun z => sg_WL cA ad qo z.1 z.2) (v, o) hx hb hr hP hD hS dL_faultCurrent_14 (Or.inr ⟨_, hr1, rfl, rfl⟩) hlocks (by decide) (by decide)
    · replace hE : E = "java/lang/IllegalStateException" := hE
      subst hE
      refine vx_catch (own := RL) (name := "java/lang/IllegalStateException") hown [⟨0, 9, 12, 25⟩] ⟨0, 9, 15, 15⟩ [] (by rw [htb]; rfl) (List.forall_mem_cons.mpr ⟨Or.inr ⟨by decide, "java/util/NoSuchElementException", hts (.classLink RL 25 "java/util/NoSuchElementException") (by decide +kernel), hN ("java/lang/IllegalStateException", "java/util/NoSuchElementException") (by decide +kernel)⟩, fun _ h => absurd h List.not_mem_nil⟩) (by decide) (by decide) (hts (.classLink RL 15 "java/lang/IllegalStateException") (by decide +kernel)) (va_Nw.use rfl (hT.2.2.2.1 (104, "java/lang/IllegalStateException") (by decide))) hce hcv hcl ?_
      refine lv_astore_n (lv' := [(3, .ref q9), (0, .ref (ad 0)), (1, .int p1), (2, .ref qo)]) hx hb dL_faultCurrent_15 rfl hl (by decide) rfl (fun ls hl => ?_)
      refine lv_iconst (v := 2) hx hb dL_faultCurrent_16 (by decide) ?_
      exact sg_lret (wz := fun z => sg_WL cA ad qo z.1 z.2) (v, o) hx hb hr hP hD hS dL_faultCurrent_17 (Or.inr ⟨_, hr1, rfl, rfl⟩) hlocks (by decide) (by decide)
  · refine lv_i2l (v := r.toInt64) hx hb dL_faultCurrent_7 rfl ?_
    refine va_last hx hb hK.1 hP hD hS 0 2 rfl rfl (sg_inb_s (i := 0) (n := 1) (by decide)) dL_faultCurrent_8 (fun H locs hP hD hS => ?_)
    refine lv_goto (tgt := 18) hx hb dL_faultCurrent_9 (by decide) ?_
    refine lv_iconst (v := 0) hx hb dL_faultCurrent_18 (by decide) ?_
    exact sg_lret (wz := fun z => sg_WL cA ad qo z.1 z.2) (v, vp_updL o (0 : Int32).toNatClampNeg r.toInt64) hx hb hr hP hD hS dL_faultCurrent_19 (Or.inl ⟨r, hr1, rfl, rfl⟩) hlocks (by decide) (by decide)
set_option maxRecDepth 100000 in
set_option maxHeartbeats 4000000 in
theorem c_L_tripTime (l : Launch) (hlt : l.stackTraces = false) (D : va_G) (cA : Nat → ClassId) (ad : Nat → Nat) (qo : Nat) (o : Nat → Int64) (N : Nat) (u : sg_St) (p1 p2 : Int32) (R : (Nat ⊕ Int32) × sg_St) (hf : fX5_tripTime N u p1 p2 = some R) (hR : ∀ k t, R = (.inl k, t) → k ∈ [5, 1, 4]) (sz : Nat) : Met l yL_tripTime wsL_tripTime ({ frames := 10, cells := 3, slots := 18, locals := 443 }) (va_Pc [.ref (ad 0), .int p1, .int p2, .ref qo] (sg_PL D cA (sg_WL cA ad qo u o) sz)) (sg_QL D cA ad qo (va_A (sg_WL cA ad qo u o) sz) [5, 1, 4] sg_up64 R o) 3 18 (va_A (sg_WL cA ad qo u o) sz) := by
  refine sg_ofWH (cc := cL_tripTime) (maxL := 5) (ret := (some .int)) (by decide) rfl ?_
  intro p e s m args below meth c s₁ B hml hv
  obtain ⟨rfl, ⟨hsz, hP, hK, hD0⟩, hT, hN⟩ := hv
  have hx := B.exec
  have hb := B.bytes
  have hr := B.returns
  have hts := atoms_spec (ws := wsL_tripTime) B.pre
  have hown : s.vm.findClass RL = some m.cls := findClass_of_methodNamed B.named
  have hlocks := B.notSynchronized
  have htb : c.exceptionTable.toList = tableOf [(0, 10, 13, 25), (0, 10, 17, 13), (0, 10, 21, 30)] := vx_table (x := ⟨"", "", ""⟩) B (hts _ List.mem_cons_self)
  subst hsz
  have hD := hD0.self (sz := s.heap.size)
  replace hP : va_P D vwCl (sg_WL cA ad qo u o) s.heap := hP
  replace hD : va_D (va_A (sg_WL cA ad qo u o) s.heap.size) (sg_WL cA ad qo u o) := hD
  generalize hAe : va_A (sg_WL cA ad qo u o) s.heap.size = A at hD hT ⊢
  have hA : ∀ q : Nat, s.heap.size ≤ q → A q := fun q h => by rw [← hAe]; exact Or.inr h
  have hS : va_S A s.heap s.heap [] := va_S.rf
  have hl := lv_entry ([.ref (ad 0), .int p1, .int p2, .ref qo]) (n := 5) (Nat.le_of_ble_eq_true rfl)
  rw [lg_entry_eq]
  generalize (lg_sl ([.ref (ad 0), .int p1, .int p2, .ref qo]) ++ List.replicate (5 - (lg_sl ([.ref (ad 0), .int p1, .int p2, .ref qo])).length) Slot.unset).toArray = ls at hl ⊢
  replace hl : lv_has ls 5 [(0, .ref (ad 0)), (1, .int p1), (2, .int p2), (3, .ref qo)] := hl
  refine lv_aload_n hx hb dL_tripTime_0 rfl (lv_at hl 3 rfl) ?_
  refine lv_iconst (v := 0) hx hb dL_tripTime_1 (by decide) ?_
  refine lv_aload_n hx hb dL_tripTime_2 rfl (lv_at hl 0 rfl) ?_
  refine lv_iload_n hx hb dL_tripTime_3 rfl (lv_at hl 1 rfl) ?_
  refine lv_iload_n hx hb dL_tripTime_4 rfl (lv_at hl 2 rfl) ?_
  refine sg_ui (vx_runV (As := [.int p1, .int p2]) (rest := [.int 0, .ref qo]) ⟨hx, hb, hml, hown, hts⟩ (c_X5_tripTime l hlt D cA ad N _ _ _ R hf _) (cwV 2 hts gL_tripTime_X5_tripTime rfl rfl rfl (by decide +kernel) ⟨Nat.le_of_ble_eq_true rfl, Nat.le_of_ble_eq_true rfl⟩) (sg_preU hK hP hD hT hS hA (ci := 7) (q0 := 0) rfl rfl) rfl rfl hl.1 rfl (lv_room (Nat.le_of_ble_eq_true rfl)) dL_tripTime_5 ⟨Nat.le_of_ble_eq_true rfl, Nat.le_of_ble_eq_true rfl⟩) hP hD hS hA (fun k v E ce q9 H locs hr1 hE hP hD hS hce hcv hcl => ?_) (fun r v H locs hr1 hP hD hS => ?_)
  · have hk := hR k v hr1
    simp only [List.mem_cons, List.not_mem_nil, or_false] at hk
    rcases hk with rfl | rfl | rfl
    · replace hE : E = "java/util/NoSuchElementException" := hE
      subst hE
      refine vx_catch (own := RL) (name := "java/util/NoSuchElementException") hown [] ⟨0, 10, 13, 25⟩ [⟨0, 10, 17, 13⟩, ⟨0, 10, 21, 30⟩] (by rw [htb]; rfl) (fun z hz => absurd hz List.not_mem_nil) (by decide) (by decide) (hts (.classLink RL 25 "java/util/NoSuchElementException") (by decide +kernel)) (va_Nw.use rfl (hT.2.2.2.1 (293, "java/util/NoSuchElementException") (by decide))) hce hcv hcl ?_
      refine lv_astore (lv' := [(4, .ref q9), (0, .ref (ad 0)), (1, .int p1), (2, .int p2), (3, .ref qo)]) hx hb dL_tripTime_13 hl (by decide) rfl (fun ls hl => ?_)
      refine lv_iconst (v := 1) hx hb dL_tripTime_15 (by decide) ?_
      exact sg_lret (wz := fun z => sg_WL cA ad qo z.1 z.2) (v, o) hx hb hr hP hD hS dL_tripTime_16 (Or.inr ⟨_, hr1, rfl, rfl⟩) hlocks (by decide) (by decide)
    · replace hE : E = "java/lang/IllegalArgumentException" := hE
      subst hE
      refine vx_catch (own := RL) (name := "java/lang/IllegalArgumentException") hown [⟨0, 10, 13, 25⟩] ⟨0, 10, 17, 13⟩ [⟨0, 10, 21, 30⟩] (by rw [htb]; rfl) (List.forall_mem_cons.mpr ⟨Or.inr ⟨by decide, "java/util/NoSuchElementException", hts (.classLink RL 25 "java/util/NoSuchElementException") (by decide +kernel), hN ("java/lang/IllegalArgumentException", "java/util/NoSuchElementException") (by decide +kernel)⟩, fun _ h => absurd h List.not_mem_nil⟩) (by decide) (by decide) (hts (.classLink RL 13 "java/lang/IllegalArgumentException") (by decide +kernel)) (va_Nw.use rfl (hT.2.2.2.1 (54, "java/lang/IllegalArgumentException") (by decide))) hce hcv hcl ?_
      refine lv_astore (lv' := [(4, .ref q9), (0, .ref (ad 0)), (1, .int p1), (2, .int p2), (3, .ref qo)]) hx hb dL_tripTime_17 hl (by decide) rfl (fun ls hl => ?_)
      refine lv_iconst (v := 2) hx hb dL_tripTime_19 (by decide) ?_
      exact sg_lret (wz := fun z => sg_WL cA ad qo z.1 z.2) (v, o) hx hb hr hP hD hS dL_tripTime_20 (Or.inr ⟨_, hr1, rfl, rfl⟩) hlocks (by decide) (by decide)
    · replace hE : E = "java/lang/UnsupportedOperationException" := hE
      subst hE
      refine vx_catch (own := RL) (name := "java/lang/UnsupportedOperationException") hown [⟨0, 10, 13, 25⟩, ⟨0, 10, 17, 13⟩] ⟨0, 10, 21, 30⟩ [] (by rw [htb]; rfl) (List.forall_mem_cons.mpr ⟨Or.inr ⟨by decide, "java/util/NoSuchElementException", hts (.classLink RL 25 "java/util/NoSuchElementException") (by decide +kernel), hN ("java/lang/UnsupportedOperationException", "java/util/NoSuchElementException") (by decide +kernel)⟩, List.forall_mem_cons.mpr ⟨Or.inr ⟨by decide, "java/lang/IllegalArgumentException", hts (.classLink RL 13 "java/lang/IllegalArgumentException") (by decide +kernel), hN ("java/lang/UnsupportedOperationException", "java/lang/IllegalArgumentException") (by decide +kernel)⟩, fun _ h => absurd h List.not_mem_nil⟩⟩) (by decide) (by decide) (hts (.classLink RL 30 "java/lang/UnsupportedOperationException") (by decide +kernel)) (va_Nw.use rfl (hT.2.2.2.1 (178, "java/lang/UnsupportedOperationException") (by decide))) hce hcv hcl ?_
      refine lv_astore (lv' := [(4, .ref q9), (0, .ref (ad 0)), (1, .int p1), (2, .int p2), (3, .ref qo)]) hx hb dL_tripTime_21 hl (by decide) rfl (fun ls hl => ?_)
      refine lv_iconst (v := 3) hx hb dL_tripTime_23 (by decide) ?_
      exact sg_lret (wz := fun z => sg_WL cA ad qo z.1 z.2) (v, o) hx hb hr hP hD hS dL_tripTime_24 (Or.inr ⟨_, hr1, rfl, rfl⟩) hlocks (by decide) (by decide)
  · refine lv_i2l (v := r.toInt64) hx hb dL_tripTime_8 rfl ?_
    refine va_last hx hb hK.1 hP hD hS 0 2 rfl rfl (sg_inb_s (i := 0) (n := 1) (by decide)) dL_tripTime_9 (fun H locs hP hD hS => ?_)
    refine lv_goto (tgt := 25) hx hb dL_tripTime_10 (by decide) ?_
    refine lv_iconst (v := 0) hx hb dL_tripTime_25 (by decide) ?_
    exact sg_lret (wz := fun z => sg_WL cA ad qo z.1 z.2) (v, vp_updL o (0 : Int32).toNatClampNeg r.toInt64) hx hb hr hP hD hS dL_tripTime_26 (Or.inl ⟨r, hr1, rfl, rfl⟩) hlocks (by decide) (by decide)
set_option maxRecDepth 100000 in
set_option maxHeartbeats 4000000 in
theorem c_L_wouldTrip (l : Launch) (hlt : l.stackTraces = false) (D : va_G) (cA : Nat → ClassId) (ad : Nat → Nat) (qo : Nat) (o : Nat → Int64) (N : Nat) (u : sg_St) (p1 : Int32) (R : (Nat ⊕ Int32) × sg_St) (hf : fX5_wouldTrip N u p1 = some R) (hR : ∀ k t, R = (.inl k, t) → k ∈ [5]) (sz : Nat) : Met l yL_wouldTrip wsL_wouldTrip ({ frames := 18, cells := 1, slots := 6, locals := 483 }) (va_Pc [.ref (ad 0), .int p1, .ref qo] (sg_PL D cA (sg_WL cA ad qo u o) sz)) (sg_QL D cA ad qo (va_A (sg_WL cA ad qo u o) sz) [5] sg_up64 R o) 1 6 (va_A (sg_WL cA ad qo u o) sz) := by
  refine sg_ofWH (cc := cL_wouldTrip) (maxL := 4) (ret := (some .int)) (by decide) rfl ?_
  intro p e s m args below meth c s₁ B hml hv
  obtain ⟨rfl, ⟨hsz, hP, hK, hD0⟩, hT, hN⟩ := hv
  have hx := B.exec
  have hb := B.bytes
  have hr := B.returns
  have hts := atoms_spec (ws := wsL_wouldTrip) B.pre
  have hown : s.vm.findClass RL = some m.cls := findClass_of_methodNamed B.named
  have hlocks := B.notSynchronized
  have htb : c.exceptionTable.toList = tableOf [(0, 9, 12, 25)] := vx_table (x := ⟨"", "", ""⟩) B (hts _ List.mem_cons_self)
  subst hsz
  have hD := hD0.self (sz := s.heap.size)
  replace hP : va_P D vwCl (sg_WL cA ad qo u o) s.heap := hP
  replace hD : va_D (va_A (sg_WL cA ad qo u o) s.heap.size) (sg_WL cA ad qo u o) := hD
  generalize hAe : va_A (sg_WL cA ad qo u o) s.heap.size = A at hD hT ⊢
  have hA : ∀ q : Nat, s.heap.size ≤ q → A q := fun q h => by rw [← hAe]; exact Or.inr h
  have hS : va_S A s.heap s.heap [] := va_S.rf
  have hl := lv_entry ([.ref (ad 0), .int p1, .ref qo]) (n := 4) (Nat.le_of_ble_eq_true rfl)
  rw [lg_entry_eq]
  generalize (lg_sl ([.ref (ad 0), .int p1, .ref qo]) ++ List.replicate (4 - (lg_sl ([.ref (ad 0), .int p1, .ref qo])).length) Slot.unset).toArray = ls at hl ⊢
  replace hl : lv_has ls 4 [(0, .ref (ad 0)), (1, .int p1), (2, .ref qo)] := hl
  refine lv_aload_n hx hb dL_wouldTrip_0 rfl (lv_at hl 2 rfl) ?_
  refine lv_iconst (v := 0) hx hb dL_wouldTrip_1 (by decide) ?_
  refine lv_aload_n hx hb dL_wouldTrip_2 rfl (lv_at hl 0 rfl) ?_
  refine lv_iload_n hx hb dL_wouldTrip_3 rfl (lv_at hl 1 rfl) ?_
  refine sg_ui (vx_runV (As := [.int p1]) (rest := [.int 0, .ref qo]) ⟨hx, hb, hml, hown, hts⟩ (c_X5_wouldTrip l hlt D cA ad N _ _ R hf _) (cwV 1 hts gL_wouldTrip_X5_wouldTrip rfl rfl rfl (by decide +kernel) ⟨Nat.le_of_ble_eq_true rfl, Nat.le_of_ble_eq_true rfl⟩) (sg_preU hK hP hD hT hS hA (ci := 7) (q0 := 0) rfl rfl) rfl rfl hl.1 rfl (lv_room (Nat.le_of_ble_eq_true rfl)) dL_wouldTrip_4 ⟨Nat.le_of_ble_eq_true rfl, Nat.le_of_ble_eq_true rfl⟩) hP hD hS hA (fun k v E ce q9 H locs hr1 hE hP hD hS hce hcv hcl => ?_) (fun r v H locs hr1 hP hD hS => ?_)
  · have hk := hR k v hr1
    simp only [List.mem_cons, List.not_mem_nil, or_false] at hk
    subst hk
    replace hE : E = "java/util/NoSuchElementException" := hE
    subst hE
    refine vx_catch (own := RL) (name := "java/util/NoSuchElementException") hown [] ⟨0, 9, 12, 25⟩ [] (by rw [htb]; rfl) (fun z hz => absurd hz List.not_mem_nil) (by decide) (by decide) (hts (.classLink RL 25 "java/util/NoSuchElementException") (by decide +kernel)) (va_Nw.use rfl (hT.2.2.2.1 (293, "java/util/NoSuchElementException") (by decide))) hce hcv hcl ?_
    refine lv_astore_n (lv' := [(3, .ref q9), (0, .ref (ad 0)), (1, .int p1), (2, .ref qo)]) hx hb dL_wouldTrip_12 rfl hl (by decide) rfl (fun ls hl => ?_)
    refine lv_iconst (v := 1) hx hb dL_wouldTrip_13 (by decide) ?_
    exact sg_lret (wz := fun z => sg_WL cA ad qo z.1 z.2) (v, o) hx hb hr hP hD hS dL_wouldTrip_14 (Or.inr ⟨_, hr1, rfl, rfl⟩) hlocks (by decide) (by decide)
  · refine lv_i2l (v := r.toInt64) hx hb dL_wouldTrip_7 rfl ?_
    refine va_last hx hb hK.1 hP hD hS 0 2 rfl rfl (sg_inb_s (i := 0) (n := 1) (by decide)) dL_wouldTrip_8 (fun H locs hP hD hS => ?_)
    refine lv_goto (tgt := 15) hx hb dL_wouldTrip_9 (by decide) ?_
    refine lv_iconst (v := 0) hx hb dL_wouldTrip_15 (by decide) ?_
    exact sg_lret (wz := fun z => sg_WL cA ad qo z.1 z.2) (v, vp_updL o (0 : Int32).toNatClampNeg r.toInt64) hx hb hr hP hD hS dL_wouldTrip_16 (Or.inl ⟨r, hr1, rfl, rfl⟩) hlocks (by decide) (by decide)
set_option maxRecDepth 100000 in
set_option maxHeartbeats 4000000 in
theorem c_L_isSelective (l : Launch) (hlt : l.stackTraces = false) (D : va_G) (cA : Nat → ClassId) (ad : Nat → Nat) (qo : Nat) (o : Nat → Int64) (N : Nat) (u : sg_St) (p1 : Int32) (R : (Nat ⊕ Int32) × sg_St) (hf : fX5_isSelective N u p1 = some R) (hR : ∀ k t, R = (.inl k, t) → k ∈ [5]) (sz : Nat) : Met l yL_isSelective wsL_isSelective ({ frames := 18, cells := 1, slots := 6, locals := 483 }) (va_Pc [.ref (ad 0), .int p1, .ref qo] (sg_PL D cA (sg_WL cA ad qo u o) sz)) (sg_QL D cA ad qo (va_A (sg_WL cA ad qo u o) sz) [5] sg_upB R o) 1 6 (va_A (sg_WL cA ad qo u o) sz) := by
  refine sg_ofWH (cc := cL_isSelective) (maxL := 4) (ret := (some .int)) (by decide) rfl ?_
  intro p e s m args below meth c s₁ B hml hv
  obtain ⟨rfl, ⟨hsz, hP, hK, hD0⟩, hT, hN⟩ := hv
  have hx := B.exec
  have hb := B.bytes
  have hr := B.returns
  have hts := atoms_spec (ws := wsL_isSelective) B.pre
  have hown : s.vm.findClass RL = some m.cls := findClass_of_methodNamed B.named
  have hlocks := B.notSynchronized
  have htb : c.exceptionTable.toList = tableOf [(0, 16, 19, 25)] := vx_table (x := ⟨"", "", ""⟩) B (hts _ List.mem_cons_self)
  subst hsz
  have hD := hD0.self (sz := s.heap.size)
  replace hP : va_P D vwCl (sg_WL cA ad qo u o) s.heap := hP
  replace hD : va_D (va_A (sg_WL cA ad qo u o) s.heap.size) (sg_WL cA ad qo u o) := hD
  generalize hAe : va_A (sg_WL cA ad qo u o) s.heap.size = A at hD hT ⊢
  have hA : ∀ q : Nat, s.heap.size ≤ q → A q := fun q h => by rw [← hAe]; exact Or.inr h
  have hS : va_S A s.heap s.heap [] := va_S.rf
  have hl := lv_entry ([.ref (ad 0), .int p1, .ref qo]) (n := 4) (Nat.le_of_ble_eq_true rfl)
  rw [lg_entry_eq]
  generalize (lg_sl ([.ref (ad 0), .int p1, .ref qo]) ++ List.replicate (4 - (lg_sl ([.ref (ad 0), .int p1, .ref qo])).length) Slot.unset).toArray = ls at hl ⊢
  replace hl : lv_has ls 4 [(0, .ref (ad 0)), (1, .int p1), (2, .ref qo)] := hl
  refine lv_aload_n hx hb dL_isSelective_0 rfl (lv_at hl 2 rfl) ?_
  refine lv_iconst (v := 0) hx hb dL_isSelective_1 (by decide) ?_
  refine lv_aload_n hx hb dL_isSelective_2 rfl (lv_at hl 0 rfl) ?_
  refine lv_iload_n hx hb dL_isSelective_3 rfl (lv_at hl 1 rfl) ?_
  refine sg_ui (vx_runV (As := [.int p1]) (rest := [.int 0, .ref qo]) ⟨hx, hb, hml, hown, hts⟩ (c_X5_isSelective l hlt D cA ad N _ _ R hf _) (cwV 1 hts gL_isSelective_X5_isSelective rfl rfl rfl (by decide +kernel) ⟨Nat.le_of_ble_eq_true rfl, Nat.le_of_ble_eq_true rfl⟩) (sg_preU hK hP hD hT hS hA (ci := 7) (q0 := 0) rfl rfl) rfl rfl hl.1 rfl (lv_room (Nat.le_of_ble_eq_true rfl)) dL_isSelective_4 ⟨Nat.le_of_ble_eq_true rfl, Nat.le_of_ble_eq_true rfl⟩) hP hD hS hA (fun k v E ce q9 H locs hr1 hE hP hD hS hce hcv hcl => ?_) (fun r v H locs hr1 hP hD hS => ?_)
  · have hk := hR k v hr1
    simp only [List.mem_cons, List.not_mem_nil, or_false] at hk
    subst hk
    replace hE : E = "java/util/NoSuchElementException" := hE
    subst hE
    refine vx_catch (own := RL) (name := "java/util/NoSuchElementException") hown [] ⟨0, 16, 19, 25⟩ [] (by rw [htb]; rfl) (fun z hz => absurd hz List.not_mem_nil) (by decide) (by decide) (hts (.classLink RL 25 "java/util/NoSuchElementException") (by decide +kernel)) (va_Nw.use rfl (hT.2.2.2.1 (293, "java/util/NoSuchElementException") (by decide))) hce hcv hcl ?_
    refine lv_astore_n (lv' := [(3, .ref q9), (0, .ref (ad 0)), (1, .int p1), (2, .ref qo)]) hx hb dL_isSelective_19 rfl hl (by decide) rfl (fun ls hl => ?_)
    refine lv_iconst (v := 1) hx hb dL_isSelective_20 (by decide) ?_
    exact sg_lret (wz := fun z => sg_WL cA ad qo z.1 z.2) (v, o) hx hb hr hP hD hS dL_isSelective_21 (Or.inr ⟨_, hr1, rfl, rfl⟩) hlocks (by decide) (by decide)
  · refine lv_if_eq (tgt := 14) hx hb dL_isSelective_7 (by decide) (fun hc => ?_) (fun hc => ?_)
    · refine lv_lconst (v := 0) hx hb dL_isSelective_14 (by decide) ?_
      refine va_last hx hb hK.1 hP hD hS 0 2 rfl rfl (sg_inb_s (i := 0) (n := 1) (by decide)) dL_isSelective_15 (fun H locs hP hD hS => ?_)
      refine lv_goto (tgt := 22) hx hb dL_isSelective_16 (by decide) ?_
      refine lv_iconst (v := 0) hx hb dL_isSelective_22 (by decide) ?_
      exact sg_lret (wz := fun z => sg_WL cA ad qo z.1 z.2) (v, vp_updL o (0 : Int32).toNatClampNeg 0) hx hb hr hP hD hS dL_isSelective_23 (Or.inl ⟨r, hr1, rfl, by unfold sg_upB; rw [if_pos hc]⟩) hlocks (by decide) (by decide)
    · refine lv_lconst (v := 1) hx hb dL_isSelective_10 (by decide) ?_
      refine lv_goto (tgt := 15) hx hb dL_isSelective_11 (by decide) ?_
      refine va_last hx hb hK.1 hP hD hS 0 2 rfl rfl (sg_inb_s (i := 0) (n := 1) (by decide)) dL_isSelective_15 (fun H locs hP hD hS => ?_)
      refine lv_goto (tgt := 22) hx hb dL_isSelective_16 (by decide) ?_
      refine lv_iconst (v := 0) hx hb dL_isSelective_22 (by decide) ?_
      exact sg_lret (wz := fun z => sg_WL cA ad qo z.1 z.2) (v, vp_updL o (0 : Int32).toNatClampNeg 1) hx hb hr hP hD hS dL_isSelective_23 (Or.inl ⟨r, hr1, rfl, by unfold sg_upB; rw [if_neg hc]⟩) hlocks (by decide) (by decide)
set_option maxRecDepth 100000 in
set_option maxHeartbeats 4000000 in
theorem c_L_margin (l : Launch) (hlt : l.stackTraces = false) (D : va_G) (cA : Nat → ClassId) (ad : Nat → Nat) (qo : Nat) (o : Nat → Int64) (N : Nat) (u : sg_St) (p1 : Int32) (R : (Nat ⊕ Int32) × sg_St) (hf : fX5_margin N u p1 = some R) (hR : ∀ k t, R = (.inl k, t) → k ∈ [5, 0, 4]) (sz : Nat) : Met l yL_margin wsL_margin ({ frames := 18, cells := 2, slots := 12, locals := 485 }) (va_Pc [.ref (ad 0), .int p1, .ref qo] (sg_PL D cA (sg_WL cA ad qo u o) sz)) (sg_QL D cA ad qo (va_A (sg_WL cA ad qo u o) sz) [5, 0, 4] sg_up64 R o) 2 12 (va_A (sg_WL cA ad qo u o) sz) := by
  refine sg_ofWH (cc := cL_margin) (maxL := 4) (ret := (some .int)) (by decide) rfl ?_
  intro p e s m args below meth c s₁ B hml hv
  obtain ⟨rfl, ⟨hsz, hP, hK, hD0⟩, hT, hN⟩ := hv
  have hx := B.exec
  have hb := B.bytes
  have hr := B.returns
  have hts := atoms_spec (ws := wsL_margin) B.pre
  have hown : s.vm.findClass RL = some m.cls := findClass_of_methodNamed B.named
  have hlocks := B.notSynchronized
  have htb : c.exceptionTable.toList = tableOf [(0, 9, 12, 25), (0, 9, 15, 15), (0, 9, 18, 30)] := vx_table (x := ⟨"", "", ""⟩) B (hts _ List.mem_cons_self)
  subst hsz
  have hD := hD0.self (sz := s.heap.size)
  replace hP : va_P D vwCl (sg_WL cA ad qo u o) s.heap := hP
  replace hD : va_D (va_A (sg_WL cA ad qo u o) s.heap.size) (sg_WL cA ad qo u o) := hD
  generalize hAe : va_A (sg_WL cA ad qo u o) s.heap.size = A at hD hT ⊢
  have hA : ∀ q : Nat, s.heap.size ≤ q → A q := fun q h => by rw [← hAe]; exact Or.inr h
  have hS : va_S A s.heap s.heap [] := va_S.rf
  have hl := lv_entry ([.ref (ad 0), .int p1, .ref qo]) (n := 4) (Nat.le_of_ble_eq_true rfl)
  rw [lg_entry_eq]
  generalize (lg_sl ([.ref (ad 0), .int p1, .ref qo]) ++ List.replicate (4 - (lg_sl ([.ref (ad 0), .int p1, .ref qo])).length) Slot.unset).toArray = ls at hl ⊢
  replace hl : lv_has ls 4 [(0, .ref (ad 0)), (1, .int p1), (2, .ref qo)] := hl
  refine lv_aload_n hx hb dL_margin_0 rfl (lv_at hl 2 rfl) ?_
  refine lv_iconst (v := 0) hx hb dL_margin_1 (by decide) ?_
  refine lv_aload_n hx hb dL_margin_2 rfl (lv_at hl 0 rfl) ?_
  refine lv_iload_n hx hb dL_margin_3 rfl (lv_at hl 1 rfl) ?_
  refine sg_ui (vx_runV (As := [.int p1]) (rest := [.int 0, .ref qo]) ⟨hx, hb, hml, hown, hts⟩ (c_X5_margin l hlt D cA ad N _ _ R hf _) (cwV 1 hts gL_margin_X5_margin rfl rfl rfl (by decide +kernel) ⟨Nat.le_of_ble_eq_true rfl, Nat.le_of_ble_eq_true rfl⟩) (sg_preU hK hP hD hT hS hA (ci := 7) (q0 := 0) rfl rfl) rfl rfl hl.1 rfl (lv_room (Nat.le_of_ble_eq_true rfl)) dL_margin_4 ⟨Nat.le_of_ble_eq_true rfl, Nat.le_of_ble_eq_true rfl⟩) hP hD hS hA (fun k v E ce q9 H locs hr1 hE hP hD hS hce hcv hcl => ?_) (fun r v H locs hr1 hP hD hS => ?_)
  · have hk := hR k v hr1
    simp only [List.mem_cons, List.not_mem_nil, or_false] at hk
    rcases hk with rfl | rfl | rfl
    · replace hE : E = "java/util/NoSuchElementException" := hE
      subst hE
      refine vx_catch (own := RL) (name := "java/util/NoSuchElementException") hown [] ⟨0, 9, 12, 25⟩ [⟨0, 9, 15, 15⟩, ⟨0, 9, 18, 30⟩] (by rw [htb]; rfl) (fun z hz => absurd hz List.not_mem_nil) (by decide) (by decide) (hts (.classLink RL 25 "java/util/NoSuchElementException") (by decide +kernel)) (va_Nw.use rfl (hT.2.2.2.1 (293, "java/util/NoSuchElementException") (by decide))) hce hcv hcl ?_
      refine lv_astore_n (lv' := [(3, .ref q9), (0, .ref (ad 0)), (1, .int p1), (2, .ref qo)]) hx hb dL_margin_12 rfl hl (by decide) rfl (fun ls hl => ?_)
      refine lv_iconst (v := 1) hx hb dL_margin_13 (by decide) ?_
      exact sg_lret (wz := fun z => sg_WL cA ad qo z.1 z.2) (v, o) hx hb hr hP hD hS dL_margin_14 (Or.inr ⟨_, hr1, rfl, rfl⟩) hlocks (by decide) (by decide)
    · replace hE : E = "java/lang/IllegalStateException" := hE
      subst hE
      refine vx_catch (own := RL) (name := "java/lang/IllegalStateException") hown [⟨0, 9, 12, 25⟩] ⟨0, 9, 15, 15⟩ [⟨0, 9, 18, 30⟩] (by rw [htb]; rfl) (List.forall_mem_cons.mpr ⟨Or.inr ⟨by decide, "java/util/NoSuchElementException", hts (.classLink RL 25 "java/util/NoSuchElementException") (by decide +kernel), hN ("java/lang/IllegalStateException", "java/util/NoSuchElementException") (by decide +kernel)⟩, fun _ h => absurd h List.not_mem_nil⟩) (by decide) (by decide) (hts (.classLink RL 15 "java/lang/IllegalStateException") (by decide +kernel)) (va_Nw.use rfl (hT.2.2.2.1 (104, "java/lang/IllegalStateException") (by decide))) hce hcv hcl ?_
      refine lv_astore_n (lv' := [(3, .ref q9), (0, .ref (ad 0)), (1, .int p1), (2, .ref qo)]) hx hb dL_margin_15 rfl hl (by decide) rfl (fun ls hl => ?_)
      refine lv_iconst (v := 2) hx hb dL_margin_16 (by decide) ?_
      exact sg_lret (wz := fun z => sg_WL cA ad qo z.1 z.2) (v, o) hx hb hr hP hD hS dL_margin_17 (Or.inr ⟨_, hr1, rfl, rfl⟩) hlocks (by decide) (by decide)
    · replace hE : E = "java/lang/UnsupportedOperationException" := hE
      subst hE
      refine vx_catch (own := RL) (name := "java/lang/UnsupportedOperationException") hown [⟨0, 9, 12, 25⟩, ⟨0, 9, 15, 15⟩] ⟨0, 9, 18, 30⟩ [] (by rw [htb]; rfl) (List.forall_mem_cons.mpr ⟨Or.inr ⟨by decide, "java/util/NoSuchElementException", hts (.classLink RL 25 "java/util/NoSuchElementException") (by decide +kernel), hN ("java/lang/UnsupportedOperationException", "java/util/NoSuchElementException") (by decide +kernel)⟩, List.forall_mem_cons.mpr ⟨Or.inr ⟨by decide, "java/lang/IllegalStateException", hts (.classLink RL 15 "java/lang/IllegalStateException") (by decide +kernel), hN ("java/lang/UnsupportedOperationException", "java/lang/IllegalStateException") (by decide +kernel)⟩, fun _ h => absurd h List.not_mem_nil⟩⟩) (by decide) (by decide) (hts (.classLink RL 30 "java/lang/UnsupportedOperationException") (by decide +kernel)) (va_Nw.use rfl (hT.2.2.2.1 (178, "java/lang/UnsupportedOperationException") (by decide))) hce hcv hcl ?_
      refine lv_astore_n (lv' := [(3, .ref q9), (0, .ref (ad 0)), (1, .int p1), (2, .ref qo)]) hx hb dL_margin_18 rfl hl (by decide) rfl (fun ls hl => ?_)
      refine lv_iconst (v := 3) hx hb dL_margin_19 (by decide) ?_
      exact sg_lret (wz := fun z => sg_WL cA ad qo z.1 z.2) (v, o) hx hb hr hP hD hS dL_margin_20 (Or.inr ⟨_, hr1, rfl, rfl⟩) hlocks (by decide) (by decide)
  · refine lv_i2l (v := r.toInt64) hx hb dL_margin_7 rfl ?_
    refine va_last hx hb hK.1 hP hD hS 0 2 rfl rfl (sg_inb_s (i := 0) (n := 1) (by decide)) dL_margin_8 (fun H locs hP hD hS => ?_)
    refine lv_goto (tgt := 21) hx hb dL_margin_9 (by decide) ?_
    refine lv_iconst (v := 0) hx hb dL_margin_21 (by decide) ?_
    exact sg_lret (wz := fun z => sg_WL cA ad qo z.1 z.2) (v, vp_updL o (0 : Int32).toNatClampNeg r.toInt64) hx hb hr hP hD hS dL_margin_22 (Or.inl ⟨r, hr1, rfl, rfl⟩) hlocks (by decide) (by decide)
set_option maxRecDepth 100000 in
set_option maxHeartbeats 4000000 in
theorem c_L_bestAt (l : Launch) (hlt : l.stackTraces = false) (D : va_G) (cA : Nat → ClassId) (ad : Nat → Nat) (qo : Nat) (o : Nat → Int64) (N : Nat) (u : sg_St) (p1 : Int32) (R : (Nat ⊕ Int32) × sg_St) (hf : fX5_bestAt N u p1 = some R) (hR : ∀ k t, R = (.inl k, t) → k ∈ [2]) (sz : Nat) : Met l yL_bestAt wsL_bestAt ({ frames := 36, cells := 1, slots := 6, locals := 913 }) (va_Pc [.ref (ad 0), .int p1, .ref qo] (sg_PL D cA (sg_WL cA ad qo u o) sz)) (sg_QL D cA ad qo (va_A (sg_WL cA ad qo u o) sz) [2] sg_up64 R o) 1 6 (va_A (sg_WL cA ad qo u o) sz) := by
  refine sg_ofWH (cc := cL_bestAt) (maxL := 4) (ret := (some .int)) (by decide) rfl ?_
  intro p e s m args below meth c s₁ B hml hv
  obtain ⟨rfl, ⟨hsz, hP, hK, hD0⟩, hT, hN⟩ := hv
  have hx := B.exec
  have hb := B.bytes
  have hr := B.returns
  have hts := atoms_spec (ws := wsL_bestAt) B.pre
  have hown : s.vm.findClass RL = some m.cls := findClass_of_methodNamed B.named
  have hlocks := B.notSynchronized
  have htb : c.exceptionTable.toList = tableOf [(0, 9, 12, 107)] := vx_table (x := ⟨"", "", ""⟩) B (hts _ List.mem_cons_self)
  subst hsz
  have hD := hD0.self (sz := s.heap.size)
  replace hP : va_P D vwCl (sg_WL cA ad qo u o) s.heap := hP
  replace hD : va_D (va_A (sg_WL cA ad qo u o) s.heap.size) (sg_WL cA ad qo u o) := hD
  generalize hAe : va_A (sg_WL cA ad qo u o) s.heap.size = A at hD hT ⊢
  have hA : ∀ q : Nat, s.heap.size ≤ q → A q := fun q h => by rw [← hAe]; exact Or.inr h
  have hS : va_S A s.heap s.heap [] := va_S.rf
  have hl := lv_entry ([.ref (ad 0), .int p1, .ref qo]) (n := 4) (Nat.le_of_ble_eq_true rfl)
  rw [lg_entry_eq]
  generalize (lg_sl ([.ref (ad 0), .int p1, .ref qo]) ++ List.replicate (4 - (lg_sl ([.ref (ad 0), .int p1, .ref qo])).length) Slot.unset).toArray = ls at hl ⊢
  replace hl : lv_has ls 4 [(0, .ref (ad 0)), (1, .int p1), (2, .ref qo)] := hl
  refine lv_aload_n hx hb dL_bestAt_0 rfl (lv_at hl 2 rfl) ?_
  refine lv_iconst (v := 0) hx hb dL_bestAt_1 (by decide) ?_
  refine lv_aload_n hx hb dL_bestAt_2 rfl (lv_at hl 0 rfl) ?_
  refine lv_iload_n hx hb dL_bestAt_3 rfl (lv_at hl 1 rfl) ?_
  refine sg_ui (vx_runV (As := [.int p1]) (rest := [.int 0, .ref qo]) ⟨hx, hb, hml, hown, hts⟩ (c_X5_bestAt l hlt D cA ad N _ _ R hf _) (cwV 1 hts gL_bestAt_X5_bestAt rfl rfl rfl (by decide +kernel) ⟨Nat.le_of_ble_eq_true rfl, Nat.le_of_ble_eq_true rfl⟩) (sg_preU hK hP hD hT hS hA (ci := 7) (q0 := 0) rfl rfl) rfl rfl hl.1 rfl (lv_room (Nat.le_of_ble_eq_true rfl)) dL_bestAt_4 ⟨Nat.le_of_ble_eq_true rfl, Nat.le_of_ble_eq_true rfl⟩) hP hD hS hA (fun k v E ce q9 H locs hr1 hE hP hD hS hce hcv hcl => ?_) (fun r v H locs hr1 hP hD hS => ?_)
  · have hk := hR k v hr1
    simp only [List.mem_cons, List.not_mem_nil, or_false] at hk
    subst hk
    replace hE : E = "java/lang/IndexOutOfBoundsException" := hE
    subst hE
    refine vx_catch (own := RL) (name := "java/lang/IndexOutOfBoundsException") hown [] ⟨0, 9, 12, 107⟩ [] (by rw [htb]; rfl) (fun z hz => absurd hz List.not_mem_nil) (by decide) (by decide) (hts (.classLink RL 107 "java/lang/IndexOutOfBoundsException") (by decide +kernel)) (va_Nw.use rfl (hT.2.2.2.1 (228, "java/lang/IndexOutOfBoundsException") (by decide))) hce hcv hcl ?_
    refine lv_astore_n (lv' := [(3, .ref q9), (0, .ref (ad 0)), (1, .int p1), (2, .ref qo)]) hx hb dL_bestAt_12 rfl hl (by decide) rfl (fun ls hl => ?_)
    refine lv_iconst (v := 1) hx hb dL_bestAt_13 (by decide) ?_
    exact sg_lret (wz := fun z => sg_WL cA ad qo z.1 z.2) (v, o) hx hb hr hP hD hS dL_bestAt_14 (Or.inr ⟨_, hr1, rfl, rfl⟩) hlocks (by decide) (by decide)
  · refine lv_i2l (v := r.toInt64) hx hb dL_bestAt_7 rfl ?_
    refine va_last hx hb hK.1 hP hD hS 0 2 rfl rfl (sg_inb_s (i := 0) (n := 1) (by decide)) dL_bestAt_8 (fun H locs hP hD hS => ?_)
    refine lv_goto (tgt := 15) hx hb dL_bestAt_9 (by decide) ?_
    refine lv_iconst (v := 0) hx hb dL_bestAt_15 (by decide) ?_
    exact sg_lret (wz := fun z => sg_WL cA ad qo z.1 z.2) (v, vp_updL o (0 : Int32).toNatClampNeg r.toInt64) hx hb hr hP hD hS dL_bestAt_16 (Or.inl ⟨r, hr1, rfl, rfl⟩) hlocks (by decide) (by decide)
set_option maxRecDepth 100000 in
set_option maxHeartbeats 4000000 in
theorem c_L_valueByTrying (l : Launch) (hlt : l.stackTraces = false) (D : va_G) (cA : Nat → ClassId) (ad : Nat → Nat) (qo : Nat) (o : Nat → Int64) (N : Nat) (u : sg_St) (R : (Nat ⊕ Int32) × sg_St) (hf : fX5_valueByTrying N u = some R) (hR : ∀ k t, R = (.inl k, t) → k ∈ [4]) (sz : Nat) : Met l yL_valueByTrying wsL_valueByTrying ({ frames := 21, cells := 1, slots := 6, locals := 536 }) (va_Pc [.ref (ad 0), .ref qo] (sg_PL D cA (sg_WL cA ad qo u o) sz)) (sg_QL D cA ad qo (va_A (sg_WL cA ad qo u o) sz) [4] sg_up64 R o) 1 6 (va_A (sg_WL cA ad qo u o) sz) := by
  refine sg_ofWH (cc := cL_valueByTrying) (maxL := 3) (ret := (some .int)) (by decide) rfl ?_
  intro p e s m args below meth c s₁ B hml hv
  obtain ⟨rfl, ⟨hsz, hP, hK, hD0⟩, hT, hN⟩ := hv
  have hx := B.exec
  have hb := B.bytes
  have hr := B.returns
  have hts := atoms_spec (ws := wsL_valueByTrying) B.pre
  have hown : s.vm.findClass RL = some m.cls := findClass_of_methodNamed B.named
  have hlocks := B.notSynchronized
  have htb : c.exceptionTable.toList = tableOf [(0, 8, 11, 30)] := vx_table (x := ⟨"", "", ""⟩) B (hts _ List.mem_cons_self)
  subst hsz
  have hD := hD0.self (sz := s.heap.size)
  replace hP : va_P D vwCl (sg_WL cA ad qo u o) s.heap := hP
  replace hD : va_D (va_A (sg_WL cA ad qo u o) s.heap.size) (sg_WL cA ad qo u o) := hD
  generalize hAe : va_A (sg_WL cA ad qo u o) s.heap.size = A at hD hT ⊢
  have hA : ∀ q : Nat, s.heap.size ≤ q → A q := fun q h => by rw [← hAe]; exact Or.inr h
  have hS : va_S A s.heap s.heap [] := va_S.rf
  have hl := lv_entry ([.ref (ad 0), .ref qo]) (n := 3) (Nat.le_of_ble_eq_true rfl)
  rw [lg_entry_eq]
  generalize (lg_sl ([.ref (ad 0), .ref qo]) ++ List.replicate (3 - (lg_sl ([.ref (ad 0), .ref qo])).length) Slot.unset).toArray = ls at hl ⊢
  replace hl : lv_has ls 3 [(0, .ref (ad 0)), (1, .ref qo)] := hl
  refine lv_aload_n hx hb dL_valueByTrying_0 rfl (lv_at hl 1 rfl) ?_
  refine lv_iconst (v := 0) hx hb dL_valueByTrying_1 (by decide) ?_
  refine lv_aload_n hx hb dL_valueByTrying_2 rfl (lv_at hl 0 rfl) ?_
  refine sg_ui (vx_runV (As := []) (rest := [.int 0, .ref qo]) ⟨hx, hb, hml, hown, hts⟩ (c_X5_valueByTrying l hlt D cA ad N _ R hf _) (cwV 0 hts gL_valueByTrying_X5_valueByTrying rfl rfl rfl (by decide +kernel) ⟨Nat.le_of_ble_eq_true rfl, Nat.le_of_ble_eq_true rfl⟩) (sg_preU hK hP hD hT hS hA (ci := 7) (q0 := 0) rfl rfl) rfl rfl hl.1 rfl (lv_room (Nat.le_of_ble_eq_true rfl)) dL_valueByTrying_3 ⟨Nat.le_of_ble_eq_true rfl, Nat.le_of_ble_eq_true rfl⟩) hP hD hS hA (fun k v E ce q9 H locs hr1 hE hP hD hS hce hcv hcl => ?_) (fun r v H locs hr1 hP hD hS => ?_)
  · have hk := hR k v hr1
    simp only [List.mem_cons, List.not_mem_nil, or_false] at hk
    subst hk
    replace hE : E = "java/lang/UnsupportedOperationException" := hE
    subst hE
    refine vx_catch (own := RL) (name := "java/lang/UnsupportedOperationException") hown [] ⟨0, 8, 11, 30⟩ [] (by rw [htb]; rfl) (fun z hz => absurd hz List.not_mem_nil) (by decide) (by decide) (hts (.classLink RL 30 "java/lang/UnsupportedOperationException") (by decide +kernel)) (va_Nw.use rfl (hT.2.2.2.1 (178, "java/lang/UnsupportedOperationException") (by decide))) hce hcv hcl ?_
    refine lv_astore_n (lv' := [(2, .ref q9), (0, .ref (ad 0)), (1, .ref qo)]) hx hb dL_valueByTrying_11 rfl hl (by decide) rfl (fun ls hl => ?_)
    refine lv_iconst (v := 1) hx hb dL_valueByTrying_12 (by decide) ?_
    exact sg_lret (wz := fun z => sg_WL cA ad qo z.1 z.2) (v, o) hx hb hr hP hD hS dL_valueByTrying_13 (Or.inr ⟨_, hr1, rfl, rfl⟩) hlocks (by decide) (by decide)
  · refine lv_i2l (v := r.toInt64) hx hb dL_valueByTrying_6 rfl ?_
    refine va_last hx hb hK.1 hP hD hS 0 2 rfl rfl (sg_inb_s (i := 0) (n := 1) (by decide)) dL_valueByTrying_7 (fun H locs hP hD hS => ?_)
    refine lv_goto (tgt := 14) hx hb dL_valueByTrying_8 (by decide) ?_
    refine lv_iconst (v := 0) hx hb dL_valueByTrying_14 (by decide) ?_
    exact sg_lret (wz := fun z => sg_WL cA ad qo z.1 z.2) (v, vp_updL o (0 : Int32).toNatClampNeg r.toInt64) hx hb hr hP hD hS dL_valueByTrying_15 (Or.inl ⟨r, hr1, rfl, rfl⟩) hlocks (by decide) (by decide)
set_option maxRecDepth 100000 in
set_option maxHeartbeats 4000000 in
theorem c_L_sizeByTrying (l : Launch) (hlt : l.stackTraces = false) (D : va_G) (cA : Nat → ClassId) (ad : Nat → Nat) (qo : Nat) (o : Nat → Int64) (N : Nat) (u : sg_St) (R : (Nat ⊕ Int32) × sg_St) (hf : fX5_sizeByTrying N u = some R) (hR : ∀ k t, R = (.inl k, t) → k ∈ [4]) (sz : Nat) : Met l yL_sizeByTrying wsL_sizeByTrying ({ frames := 21, cells := 1, slots := 6, locals := 536 }) (va_Pc [.ref (ad 0), .ref qo] (sg_PL D cA (sg_WL cA ad qo u o) sz)) (sg_QL D cA ad qo (va_A (sg_WL cA ad qo u o) sz) [4] sg_up64 R o) 1 6 (va_A (sg_WL cA ad qo u o) sz) := by
  refine sg_ofWH (cc := cL_sizeByTrying) (maxL := 3) (ret := (some .int)) (by decide) rfl ?_
  intro p e s m args below meth c s₁ B hml hv
  obtain ⟨rfl, ⟨hsz, hP, hK, hD0⟩, hT, hN⟩ := hv
  have hx := B.exec
  have hb := B.bytes
  have hr := B.returns
  have hts := atoms_spec (ws := wsL_sizeByTrying) B.pre
  have hown : s.vm.findClass RL = some m.cls := findClass_of_methodNamed B.named
  have hlocks := B.notSynchronized
  have htb : c.exceptionTable.toList = tableOf [(0, 8, 11, 30)] := vx_table (x := ⟨"", "", ""⟩) B (hts _ List.mem_cons_self)
  subst hsz
  have hD := hD0.self (sz := s.heap.size)
  replace hP : va_P D vwCl (sg_WL cA ad qo u o) s.heap := hP
  replace hD : va_D (va_A (sg_WL cA ad qo u o) s.heap.size) (sg_WL cA ad qo u o) := hD
  generalize hAe : va_A (sg_WL cA ad qo u o) s.heap.size = A at hD hT ⊢
  have hA : ∀ q : Nat, s.heap.size ≤ q → A q := fun q h => by rw [← hAe]; exact Or.inr h
  have hS : va_S A s.heap s.heap [] := va_S.rf
  have hl := lv_entry ([.ref (ad 0), .ref qo]) (n := 3) (Nat.le_of_ble_eq_true rfl)
  rw [lg_entry_eq]
  generalize (lg_sl ([.ref (ad 0), .ref qo]) ++ List.replicate (3 - (lg_sl ([.ref (ad 0), .ref qo])).length) Slot.unset).toArray = ls at hl ⊢
  replace hl : lv_has ls 3 [(0, .ref (ad 0)), (1, .ref qo)] := hl
  refine lv_aload_n hx hb dL_sizeByTrying_0 rfl (lv_at hl 1 rfl) ?_
  refine lv_iconst (v := 0) hx hb dL_sizeByTrying_1 (by decide) ?_
  refine lv_aload_n hx hb dL_sizeByTrying_2 rfl (lv_at hl 0 rfl) ?_
  refine sg_ui (vx_runV (As := []) (rest := [.int 0, .ref qo]) ⟨hx, hb, hml, hown, hts⟩ (c_X5_sizeByTrying l hlt D cA ad N _ R hf _) (cwV 0 hts gL_sizeByTrying_X5_sizeByTrying rfl rfl rfl (by decide +kernel) ⟨Nat.le_of_ble_eq_true rfl, Nat.le_of_ble_eq_true rfl⟩) (sg_preU hK hP hD hT hS hA (ci := 7) (q0 := 0) rfl rfl) rfl rfl hl.1 rfl (lv_room (Nat.le_of_ble_eq_true rfl)) dL_sizeByTrying_3 ⟨Nat.le_of_ble_eq_true rfl, Nat.le_of_ble_eq_true rfl⟩) hP hD hS hA (fun k v E ce q9 H locs hr1 hE hP hD hS hce hcv hcl => ?_) (fun r v H locs hr1 hP hD hS => ?_)
  · have hk := hR k v hr1
    simp only [List.mem_cons, List.not_mem_nil, or_false] at hk
    subst hk
    replace hE : E = "java/lang/UnsupportedOperationException" := hE
    subst hE
    refine vx_catch (own := RL) (name := "java/lang/UnsupportedOperationException") hown [] ⟨0, 8, 11, 30⟩ [] (by rw [htb]; rfl) (fun z hz => absurd hz List.not_mem_nil) (by decide) (by decide) (hts (.classLink RL 30 "java/lang/UnsupportedOperationException") (by decide +kernel)) (va_Nw.use rfl (hT.2.2.2.1 (178, "java/lang/UnsupportedOperationException") (by decide))) hce hcv hcl ?_
    refine lv_astore_n (lv' := [(2, .ref q9), (0, .ref (ad 0)), (1, .ref qo)]) hx hb dL_sizeByTrying_11 rfl hl (by decide) rfl (fun ls hl => ?_)
    refine lv_iconst (v := 1) hx hb dL_sizeByTrying_12 (by decide) ?_
    exact sg_lret (wz := fun z => sg_WL cA ad qo z.1 z.2) (v, o) hx hb hr hP hD hS dL_sizeByTrying_13 (Or.inr ⟨_, hr1, rfl, rfl⟩) hlocks (by decide) (by decide)
  · refine lv_i2l (v := r.toInt64) hx hb dL_sizeByTrying_6 rfl ?_
    refine va_last hx hb hK.1 hP hD hS 0 2 rfl rfl (sg_inb_s (i := 0) (n := 1) (by decide)) dL_sizeByTrying_7 (fun H locs hP hD hS => ?_)
    refine lv_goto (tgt := 14) hx hb dL_sizeByTrying_8 (by decide) ?_
    refine lv_iconst (v := 0) hx hb dL_sizeByTrying_14 (by decide) ?_
    exact sg_lret (wz := fun z => sg_WL cA ad qo z.1 z.2) (v, vp_updL o (0 : Int32).toNatClampNeg r.toInt64) hx hb hr hP hD hS dL_sizeByTrying_15 (Or.inl ⟨r, hr1, rfl, rfl⟩) hlocks (by decide) (by decide)
set_option maxRecDepth 100000 in
set_option maxHeartbeats 4000000 in
theorem c_L_liveShare (l : Launch) (hlt : l.stackTraces = false) (D : va_G) (cA : Nat → ClassId) (ad : Nat → Nat) (qo : Nat) (o : Nat → UInt64) (N : Nat) (u : sg_St) (R : (Nat ⊕ UInt32) × sg_St) (hf : fX5_liveShare N u = some R) (hR : ∀ k t, R = (.inl k, t) → k ∈ [3]) (hn : ∀ v t, R = (.inr v, t) → vf_n64 (FP.f2d v)) (sz : Nat) : Met l yL_liveShare wsL_liveShare ({ frames := 9, cells := 1, slots := 6, locals := 421 }) (va_Pc [.ref (ad 0), .ref qo] (sg_PL D cA (sg_WE cA ad qo u o) sz)) (sg_QE D cA ad qo (va_A (sg_WE cA ad qo u o) sz) [3] sg_upF R o) 1 6 (va_A (sg_WE cA ad qo u o) sz) := by
  refine sg_ofWH (cc := cL_liveShare) (maxL := 3) (ret := (some .int)) (by decide) rfl ?_
  intro p e s m args below meth c s₁ B hml hv
  obtain ⟨rfl, ⟨hsz, hP, hK, hD0⟩, hT, hN⟩ := hv
  have hx := B.exec
  have hb := B.bytes
  have hr := B.returns
  have hts := atoms_spec (ws := wsL_liveShare) B.pre
  have hown : s.vm.findClass RL = some m.cls := findClass_of_methodNamed B.named
  have hlocks := B.notSynchronized
  have htb : c.exceptionTable.toList = tableOf [(0, 8, 11, 138)] := vx_table (x := ⟨"", "", ""⟩) B (hts _ List.mem_cons_self)
  subst hsz
  have hD := hD0.self (sz := s.heap.size)
  replace hP : va_P D vwCl (sg_WE cA ad qo u o) s.heap := hP
  replace hD : va_D (va_A (sg_WE cA ad qo u o) s.heap.size) (sg_WE cA ad qo u o) := hD
  generalize hAe : va_A (sg_WE cA ad qo u o) s.heap.size = A at hD hT ⊢
  have hA : ∀ q : Nat, s.heap.size ≤ q → A q := fun q h => by rw [← hAe]; exact Or.inr h
  have hS : va_S A s.heap s.heap [] := va_S.rf
  have hl := lv_entry ([.ref (ad 0), .ref qo]) (n := 3) (Nat.le_of_ble_eq_true rfl)
  rw [lg_entry_eq]
  generalize (lg_sl ([.ref (ad 0), .ref qo]) ++ List.replicate (3 - (lg_sl ([.ref (ad 0), .ref qo])).length) Slot.unset).toArray = ls at hl ⊢
  replace hl : lv_has ls 3 [(0, .ref (ad 0)), (1, .ref qo)] := hl
  refine lv_aload_n hx hb dL_liveShare_0 rfl (lv_at hl 1 rfl) ?_
  refine lv_iconst (v := 0) hx hb dL_liveShare_1 (by decide) ?_
  refine lv_aload_n hx hb dL_liveShare_2 rfl (lv_at hl 0 rfl) ?_
  refine sg_uf (vx_runV (As := []) (rest := [.int 0, .ref qo]) ⟨hx, hb, hml, hown, hts⟩ (c_X5_liveShare l hlt D cA ad N _ R hf _) (cwV 0 hts gL_liveShare_X5_liveShare rfl rfl rfl (by decide +kernel) ⟨Nat.le_of_ble_eq_true rfl, Nat.le_of_ble_eq_true rfl⟩) (sg_preU hK hP hD hT hS hA (ci := 7) (q0 := 0) rfl rfl) rfl rfl hl.1 rfl (lv_room (Nat.le_of_ble_eq_true rfl)) dL_liveShare_3 ⟨Nat.le_of_ble_eq_true rfl, Nat.le_of_ble_eq_true rfl⟩) hP hD hS hA (fun k v E ce q9 H locs hr1 hE hP hD hS hce hcv hcl => ?_) (fun r v H locs hr1 hP hD hS => ?_)
  · have hk := hR k v hr1
    simp only [List.mem_cons, List.not_mem_nil, or_false] at hk
    subst hk
    replace hE : E = "java/lang/ArithmeticException" := hE
    subst hE
    refine vx_catch (own := RL) (name := "java/lang/ArithmeticException") hown [] ⟨0, 8, 11, 138⟩ [] (by rw [htb]; rfl) (fun z hz => absurd hz List.not_mem_nil) (by decide) (by decide) (hts (.classLink RL 138 "java/lang/ArithmeticException") (by decide +kernel)) (va_Nw.use rfl (hT.2.2.2.1 (279, "java/lang/ArithmeticException") (by decide))) hce hcv hcl ?_
    refine lv_astore_n (lv' := [(2, .ref q9), (0, .ref (ad 0)), (1, .ref qo)]) hx hb dL_liveShare_11 rfl hl (by decide) rfl (fun ls hl => ?_)
    refine lv_iconst (v := 1) hx hb dL_liveShare_12 (by decide) ?_
    exact sg_lret (wz := fun z => sg_WE cA ad qo z.1 z.2) (v, o) hx hb hr hP hD hS dL_liveShare_13 (Or.inr ⟨_, hr1, rfl, rfl⟩) hlocks (by decide) (by decide)
  · refine lv_f2d hx hb dL_liveShare_6 (hn r v hr1) ?_
    refine va_dast hx hb hK.1 hP hD hS 0 3 rfl rfl (sg_inb_s (i := 0) (n := 1) (by decide)) dL_liveShare_7 (fun H locs hP hD hS => ?_)
    refine lv_goto (tgt := 14) hx hb dL_liveShare_8 (by decide) ?_
    refine lv_iconst (v := 0) hx hb dL_liveShare_14 (by decide) ?_
    exact sg_lret (wz := fun z => sg_WE cA ad qo z.1 z.2) (v, vf_upd o (0 : Int32).toNatClampNeg (FP.f2d r)) hx hb hr hP hD hS dL_liveShare_15 (Or.inl ⟨r, hr1, rfl, rfl⟩) hlocks (by decide) (by decide)
set_option maxRecDepth 100000 in
set_option maxHeartbeats 4000000 in
theorem c_L_meanCurrent (l : Launch) (hlt : l.stackTraces = false) (D : va_G) (cA : Nat → ClassId) (ad : Nat → Nat) (qo : Nat) (o : Nat → UInt64) (N : Nat) (u : sg_St) (R : (Nat ⊕ UInt64) × sg_St) (hf : fX5_meanCurrent N u = some R) (hR : ∀ k t, R = (.inl k, t) → k ∈ [3]) (sz : Nat) : Met l yL_meanCurrent wsL_meanCurrent ({ frames := 18, cells := 1, slots := 6, locals := 467 }) (va_Pc [.ref (ad 0), .ref qo] (sg_PL D cA (sg_WE cA ad qo u o) sz)) (sg_QE D cA ad qo (va_A (sg_WE cA ad qo u o) sz) [3] sg_upD R o) 1 6 (va_A (sg_WE cA ad qo u o) sz) := by
  refine sg_ofWH (cc := cL_meanCurrent) (maxL := 3) (ret := (some .int)) (by decide) rfl ?_
  intro p e s m args below meth c s₁ B hml hv
  obtain ⟨rfl, ⟨hsz, hP, hK, hD0⟩, hT, hN⟩ := hv
  have hx := B.exec
  have hb := B.bytes
  have hr := B.returns
  have hts := atoms_spec (ws := wsL_meanCurrent) B.pre
  have hown : s.vm.findClass RL = some m.cls := findClass_of_methodNamed B.named
  have hlocks := B.notSynchronized
  have htb : c.exceptionTable.toList = tableOf [(0, 7, 10, 138)] := vx_table (x := ⟨"", "", ""⟩) B (hts _ List.mem_cons_self)
  subst hsz
  have hD := hD0.self (sz := s.heap.size)
  replace hP : va_P D vwCl (sg_WE cA ad qo u o) s.heap := hP
  replace hD : va_D (va_A (sg_WE cA ad qo u o) s.heap.size) (sg_WE cA ad qo u o) := hD
  generalize hAe : va_A (sg_WE cA ad qo u o) s.heap.size = A at hD hT ⊢
  have hA : ∀ q : Nat, s.heap.size ≤ q → A q := fun q h => by rw [← hAe]; exact Or.inr h
  have hS : va_S A s.heap s.heap [] := va_S.rf
  have hl := lv_entry ([.ref (ad 0), .ref qo]) (n := 3) (Nat.le_of_ble_eq_true rfl)
  rw [lg_entry_eq]
  generalize (lg_sl ([.ref (ad 0), .ref qo]) ++ List.replicate (3 - (lg_sl ([.ref (ad 0), .ref qo])).length) Slot.unset).toArray = ls at hl ⊢
  replace hl : lv_has ls 3 [(0, .ref (ad 0)), (1, .ref qo)] := hl
  refine lv_aload_n hx hb dL_meanCurrent_0 rfl (lv_at hl 1 rfl) ?_
  refine lv_iconst (v := 0) hx hb dL_meanCurrent_1 (by decide) ?_
  refine lv_aload_n hx hb dL_meanCurrent_2 rfl (lv_at hl 0 rfl) ?_
  refine sg_ud (vx_runV (As := []) (rest := [.int 0, .ref qo]) ⟨hx, hb, hml, hown, hts⟩ (c_X5_meanCurrent l hlt D cA ad N _ R hf _) (cwV 0 hts gL_meanCurrent_X5_meanCurrent rfl rfl rfl (by decide +kernel) ⟨Nat.le_of_ble_eq_true rfl, Nat.le_of_ble_eq_true rfl⟩) (sg_preU hK hP hD hT hS hA (ci := 7) (q0 := 0) rfl rfl) rfl rfl hl.1 rfl (lv_room (Nat.le_of_ble_eq_true rfl)) dL_meanCurrent_3 ⟨Nat.le_of_ble_eq_true rfl, Nat.le_of_ble_eq_true rfl⟩) hP hD hS hA (fun k v E ce q9 H locs hr1 hE hP hD hS hce hcv hcl => ?_) (fun r v H locs hr1 hP hD hS => ?_)
  · have hk := hR k v hr1
    simp only [List.mem_cons, List.not_mem_nil, or_false] at hk
    subst hk
    replace hE : E = "java/lang/ArithmeticException" := hE
    subst hE
    refine vx_catch (own := RL) (name := "java/lang/ArithmeticException") hown [] ⟨0, 7, 10, 138⟩ [] (by rw [htb]; rfl) (fun z hz => absurd hz List.not_mem_nil) (by decide) (by decide) (hts (.classLink RL 138 "java/lang/ArithmeticException") (by decide +kernel)) (va_Nw.use rfl (hT.2.2.2.1 (279, "java/lang/ArithmeticException") (by decide))) hce hcv hcl ?_
    refine lv_astore_n (lv' := [(2, .ref q9), (0, .ref (ad 0)), (1, .ref qo)]) hx hb dL_meanCurrent_10 rfl hl (by decide) rfl (fun ls hl => ?_)
    refine lv_iconst (v := 1) hx hb dL_meanCurrent_11 (by decide) ?_
    exact sg_lret (wz := fun z => sg_WE cA ad qo z.1 z.2) (v, o) hx hb hr hP hD hS dL_meanCurrent_12 (Or.inr ⟨_, hr1, rfl, rfl⟩) hlocks (by decide) (by decide)
  · refine va_dast hx hb hK.1 hP hD hS 0 3 rfl rfl (sg_inb_s (i := 0) (n := 1) (by decide)) dL_meanCurrent_6 (fun H locs hP hD hS => ?_)
    refine lv_goto (tgt := 13) hx hb dL_meanCurrent_7 (by decide) ?_
    refine lv_iconst (v := 0) hx hb dL_meanCurrent_13 (by decide) ?_
    exact sg_lret (wz := fun z => sg_WE cA ad qo z.1 z.2) (v, vf_upd o (0 : Int32).toNatClampNeg r) hx hb hr hP hD hS dL_meanCurrent_14 (Or.inl ⟨r, hr1, rfl, rfl⟩) hlocks (by decide) (by decide)
