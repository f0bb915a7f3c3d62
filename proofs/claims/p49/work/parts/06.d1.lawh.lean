set_option maxRecDepth 100000 in
set_option maxHeartbeats 4000000 in
theorem c_L_cell (l : Launch) (D : va_G) (b L : Nat) (xs : Nat → Int32) (p1 r9 : Int32) (hf : fL_cell L xs p1 = some r9) : sg_SI l yL_cell wsL_cell ({ frames := 0, cells := 0, slots := 0, locals := 0 }) [.ref b, .int p1] b L xs r9 := by
  intro sz
  refine Met.ofW (cc := cL_cell) (maxL := 2) (ret := (some .int)) (by decide) rfl ?_
  intro p e s m args below meth c s₁ B hml hv
  obtain ⟨rfl, hsz, hX, hbl⟩ := hv
  have hx := B.exec
  have hb := B.bytes
  have hr := B.returns
  have hts := atoms_spec (ws := wsL_cell) B.pre
  have hown : s.vm.findClass RL = some m.cls := findClass_of_methodNamed B.named
  have hlocks := B.notSynchronized
  subst hsz
  have hbA : ¬ va_A [] s.heap.size b := fun h => by
    rcases h with ⟨k, e, h⟩ | h
    · simp at h
    · omega
  generalize hAe : va_A [] s.heap.size = A at hbA ⊢
  have hA : ∀ q : Nat, s.heap.size ≤ q → A q := fun q h => by rw [← hAe]; exact Or.inr h
  have hS : va_S A s.heap s.heap [] := va_S.rf
  have hP : va_P D vwCl [] s.heap := fun k q h => by simp at h
  have hl := lv_entry ([.ref b, .int p1]) (n := 2) (Nat.le_of_ble_eq_true rfl)
  rw [lg_entry_eq]
  generalize (lg_sl ([.ref b, .int p1]) ++ List.replicate (2 - (lg_sl ([.ref b, .int p1])).length) Slot.unset).toArray = ls at hl ⊢
  replace hl : lv_has ls 2 [(0, .ref b), (1, .int p1)] := hl
  unfold fL_cell at hf
  refine lv_iload_n hx hb dL_cell_0 rfl (lv_at hl 1 rfl) ?_
  refine lv_aload_n hx hb dL_cell_1 rfl (lv_at hl 0 rfl) ?_
  refine va_slen hx hb hX hbl hbA hS dL_cell_2 ?_
  refine lv_icmp_ge (tgt := 12) hx hb dL_cell_3 (by decide) (fun hc => ?_) (fun hc => ?_)
  · have hf := sg_ip hc hf
    refine lv_ldc (v := 40503) hx hb hown (hts (.constant RL 7 (40503)) (by decide +kernel)) dL_cell_12 ?_
    refine lv_iload_n hx hb dL_cell_14 rfl (lv_at hl 1 rfl) ?_
    refine lv_imul hx hb dL_cell_15 ?_
    exact sg_sri hx hb hr hS dL_cell_16 (Option.some.inj hf) hlocks
  · have hf := sg_in hc hf
    obtain ⟨hg, hf⟩ := sg_g_s hf
    refine lv_aload_n hx hb dL_cell_6 rfl (lv_at hl 0 rfl) ?_
    refine lv_iload_n hx hb dL_cell_7 rfl (lv_at hl 1 rfl) ?_
    have hin : vp_in p1 L := by
      rw [Bool.and_eq_true] at hg
      have h1 := of_decide_eq_true hg.1
      have h2 := of_decide_eq_true hg.2
      exact fun q => q.elim (fun q => h1 q) (fun q => by omega)
    refine va_sld hx hb hX hbl hbA hS hin dL_cell_8 ?_
    refine lv_goto (tgt := 16) hx hb dL_cell_9 (by decide) ?_
    exact sg_sri hx hb hr hS dL_cell_16 (Option.some.inj hf) hlocks
set_option maxRecDepth 100000 in
set_option maxHeartbeats 4000000 in
theorem c_L_pick (l : Launch) (D : va_G) (b L : Nat) (xs : Nat → Int32) (p1 p2 r9 : Int32) (hf : fL_pick L xs p1 p2 = some r9) : sg_SI l yL_pick wsL_pick ({ frames := 1, cells := 0, slots := 0, locals := 21 }) [.ref b, .int p1, .int p2] b L xs r9 := by
  intro sz
  refine Met.ofW (cc := cL_pick) (maxL := 3) (ret := (some .int)) (by decide) rfl ?_
  intro p e s m args below meth c s₁ B hml hv
  obtain ⟨rfl, hsz, hX, hbl⟩ := hv
  have hx := B.exec
  have hb := B.bytes
  have hr := B.returns
  have hts := atoms_spec (ws := wsL_pick) B.pre
  have hown : s.vm.findClass RL = some m.cls := findClass_of_methodNamed B.named
  have hlocks := B.notSynchronized
  subst hsz
  have hbA : ¬ va_A [] s.heap.size b := fun h => by
    rcases h with ⟨k, e, h⟩ | h
    · simp at h
    · omega
  generalize hAe : va_A [] s.heap.size = A at hbA ⊢
  have hA : ∀ q : Nat, s.heap.size ≤ q → A q := fun q h => by rw [← hAe]; exact Or.inr h
  have hS : va_S A s.heap s.heap [] := va_S.rf
  have hP : va_P D vwCl [] s.heap := fun k q h => by simp at h
  have hl := lv_entry ([.ref b, .int p1, .int p2]) (n := 3) (Nat.le_of_ble_eq_true rfl)
  rw [lg_entry_eq]
  generalize (lg_sl ([.ref b, .int p1, .int p2]) ++ List.replicate (3 - (lg_sl ([.ref b, .int p1, .int p2])).length) Slot.unset).toArray = ls at hl ⊢
  replace hl : lv_has ls 3 [(0, .ref b), (1, .int p1), (2, .int p2)] := hl
  unfold fL_pick at hf
  obtain ⟨r1, hc1, hf⟩ := sg_b_s hf
  obtain ⟨hg, hf⟩ := sg_g_s hf
  refine lv_aload_n hx hb dL_pick_0 rfl (lv_at hl 0 rfl) ?_
  refine lv_iload_n hx hb dL_pick_1 rfl (lv_at hl 1 rfl) ?_
  refine sg_si (va_runS (As := [.ref b, .int p1]) (rest := []) ⟨hx, hb, hml, hown, hts⟩ (c_L_cell l D b L xs _ _ hc1 _) (va_cwS 2 hts gL_pick_L_cell rfl rfl rfl (by decide +kernel) ⟨Nat.le_of_ble_eq_true rfl, Nat.le_of_ble_eq_true rfl⟩) (sg_preP hX hbl hbA hS) rfl rfl hl.1 rfl (lv_room (Nat.le_of_ble_eq_true rfl)) dL_pick_2 ⟨Nat.zero_le _, Nat.zero_le _⟩) hP hS hA (fun H locs hP hS => ?_)
  refine lv_iconst (v := 1) hx hb dL_pick_5 (by decide) ?_
  refine lv_iushr (v := ((r1).toUInt32 >>> ((1 : Int32).toUInt32 &&& Int32.toUInt32 31)).toInt32) hx hb dL_pick_6 rfl ?_
  refine lv_iload_n hx hb dL_pick_7 rfl (lv_at hl 2 rfl) ?_
  refine lv_irem hx hb dL_pick_8 (of_decide_eq_true hg) ?_
  exact sg_sri hx hb hr hS dL_pick_9 (Option.some.inj hf) hlocks
set_option maxRecDepth 100000 in
set_option maxHeartbeats 4000000 in
theorem c_L_addSource (l : Launch) (hlt : l.stackTraces = false) (D : va_G) (cA : Nat → ClassId) (ad : Nat → Nat) (N : Nat) (u : sg_St) (p1 : Int32) (r9 : Int32) (u9 : sg_St) (hf : fL_addSource N u p1 = some (r9, u9)) : sg_LI l D cA (sg_WX cA ad) yL_addSource wsL_addSource ({ frames := 10, cells := 2, slots := 12, locals := 441 }) [.ref (ad 0), .int p1] u 2 12 r9 u9 := by
  obtain ⟨R, hf, hR1, hR2⟩ := sg_hc_s hf
  intro sz
  refine sg_ofWH (cc := cL_addSource) (maxL := 3) (ret := (some .int)) (by decide) rfl ?_
  intro p e s m args below meth c s₁ B hml hv
  obtain ⟨rfl, ⟨hsz, hP, hK, hD0⟩, hT, hN⟩ := hv
  have hx := B.exec
  have hb := B.bytes
  have hr := B.returns
  have hts := atoms_spec (ws := wsL_addSource) B.pre
  have hown : s.vm.findClass RL = some m.cls := findClass_of_methodNamed B.named
  have hlocks := B.notSynchronized
  have htb : c.exceptionTable.toList = tableOf [(0, 5, 6, 20), (0, 5, 10, 22)] := vx_table (x := ⟨"", "", ""⟩) B (hts _ List.mem_cons_self)
  subst hsz
  have hD := hD0.self (sz := s.heap.size)
  replace hP : va_P D vwCl (sg_WX cA ad u) s.heap := hP
  replace hD : va_D (va_A (sg_WX cA ad u) s.heap.size) (sg_WX cA ad u) := hD
  generalize hAe : va_A (sg_WX cA ad u) s.heap.size = A at hD hT ⊢
  have hA : ∀ q : Nat, s.heap.size ≤ q → A q := fun q h => by rw [← hAe]; exact Or.inr h
  have hS : va_S A s.heap s.heap [] := va_S.rf
  have hl := lv_entry ([.ref (ad 0), .int p1]) (n := 3) (Nat.le_of_ble_eq_true rfl)
  rw [lg_entry_eq]
  generalize (lg_sl ([.ref (ad 0), .int p1]) ++ List.replicate (3 - (lg_sl ([.ref (ad 0), .int p1])).length) Slot.unset).toArray = ls at hl ⊢
  replace hl : lv_has ls 3 [(0, .ref (ad 0)), (1, .int p1)] := hl
  refine lv_aload_n hx hb dL_addSource_0 rfl (lv_at hl 0 rfl) ?_
  refine lv_iload_n hx hb dL_addSource_1 rfl (lv_at hl 1 rfl) ?_
  refine sg_gi (vx_runV (As := [.int p1]) (rest := []) ⟨hx, hb, hml, hown, hts⟩ (c_X5_addSource l hlt D cA ad N _ _ R hf _) (cwV 1 hts gL_addSource_X5_addSource rfl rfl rfl (by decide +kernel) ⟨Nat.le_of_ble_eq_true rfl, Nat.le_of_ble_eq_true rfl⟩) (sg_preT hK hP hD hT hS hA (ci := 7) (q0 := 0) rfl rfl) rfl rfl hl.1 rfl (lv_room (Nat.le_of_ble_eq_true rfl)) dL_addSource_2 ⟨Nat.le_of_ble_eq_true rfl, Nat.le_of_ble_eq_true rfl⟩) hD hS hA (fun k v E ce q9 H locs hr1 hE hP hD hS hce hcv hcl => ?_) (fun r v H locs hr1 hP hD hS => ?_)
  · obtain ⟨hk, hu⟩ := hR1 k v hr1
    rcases sg_hx_c hk with ⟨ek, ec⟩ | hk
    · replace ek : k = 1 := ek
      subst ek
      replace hE : E = "java/lang/IllegalArgumentException" := hE
      subst hE
      refine vx_catch (own := RL) (name := "java/lang/IllegalArgumentException") hown [] ⟨0, 5, 6, 20⟩ [⟨0, 5, 10, 22⟩] (by rw [htb]; rfl) (fun z hz => absurd hz List.not_mem_nil) (by decide) (by decide) (hts (.classLink RL 20 "java/lang/IllegalArgumentException") (by decide +kernel)) (va_Nw.use rfl (hT.2.2.2.1 (54, "java/lang/IllegalArgumentException") (by decide))) hce hcv hcl ?_
      refine lv_astore_n (lv' := [(2, .ref q9), (0, .ref (ad 0)), (1, .int p1)]) hx hb dL_addSource_6 rfl hl (by decide) rfl (fun ls hl => ?_)
      refine lv_bipush (v := (-78)) hx hb dL_addSource_7 (by decide) ?_
      exact sg_lri hx hb hr hP hD hS dL_addSource_9 ec hu hlocks (by decide) (by decide)
    · rcases sg_hx_c hk with ⟨ek, ec⟩ | hk
      · replace ek : k = 0 := ek
        subst ek
        replace hE : E = "java/lang/IllegalStateException" := hE
        subst hE
        refine vx_catch (own := RL) (name := "java/lang/IllegalStateException") hown [⟨0, 5, 6, 20⟩] ⟨0, 5, 10, 22⟩ [] (by rw [htb]; rfl) (List.forall_mem_cons.mpr ⟨Or.inr ⟨by decide, "java/lang/IllegalArgumentException", hts (.classLink RL 20 "java/lang/IllegalArgumentException") (by decide +kernel), hN ("java/lang/IllegalStateException", "java/lang/IllegalArgumentException") (by decide +kernel)⟩, fun _ h => absurd h List.not_mem_nil⟩) (by decide) (by decide) (hts (.classLink RL 22 "java/lang/IllegalStateException") (by decide +kernel)) (va_Nw.use rfl (hT.2.2.2.1 (104, "java/lang/IllegalStateException") (by decide))) hce hcv hcl ?_
        refine lv_astore_n (lv' := [(2, .ref q9), (0, .ref (ad 0)), (1, .int p1)]) hx hb dL_addSource_10 rfl hl (by decide) rfl (fun ls hl => ?_)
        refine lv_bipush (v := (-79)) hx hb dL_addSource_11 (by decide) ?_
        exact sg_lri hx hb hr hP hD hS dL_addSource_13 ec hu hlocks (by decide) (by decide)
      · cases hk
  · obtain ⟨hq1, hq2⟩ := hR2 r v hr1
    replace hq1 := Option.some.inj hq1
    exact sg_lri hx hb hr hP hD hS dL_addSource_5 hq1 hq2 hlocks (by decide) (by decide)
set_option maxRecDepth 100000 in
set_option maxHeartbeats 4000000 in
theorem c_L_addBus (l : Launch) (hlt : l.stackTraces = false) (D : va_G) (cA : Nat → ClassId) (ad : Nat → Nat) (N : Nat) (u : sg_St) (p1 p2 : Int32) (r9 : Int32) (u9 : sg_St) (hf : fL_addBus N u p1 p2 = some (r9, u9)) : sg_LI l D cA (sg_WX cA ad) yL_addBus wsL_addBus ({ frames := 10, cells := 3, slots := 18, locals := 442 }) [.ref (ad 0), .int p1, .int p2] u 3 18 r9 u9 := by
  obtain ⟨R, hf, hR1, hR2⟩ := sg_hc_s hf
  intro sz
  refine sg_ofWH (cc := cL_addBus) (maxL := 4) (ret := (some .int)) (by decide) rfl ?_
  intro p e s m args below meth c s₁ B hml hv
  obtain ⟨rfl, ⟨hsz, hP, hK, hD0⟩, hT, hN⟩ := hv
  have hx := B.exec
  have hb := B.bytes
  have hr := B.returns
  have hts := atoms_spec (ws := wsL_addBus) B.pre
  have hown : s.vm.findClass RL = some m.cls := findClass_of_methodNamed B.named
  have hlocks := B.notSynchronized
  have htb : c.exceptionTable.toList = tableOf [(0, 6, 7, 20), (0, 6, 11, 22)] := vx_table (x := ⟨"", "", ""⟩) B (hts _ List.mem_cons_self)
  subst hsz
  have hD := hD0.self (sz := s.heap.size)
  replace hP : va_P D vwCl (sg_WX cA ad u) s.heap := hP
  replace hD : va_D (va_A (sg_WX cA ad u) s.heap.size) (sg_WX cA ad u) := hD
  generalize hAe : va_A (sg_WX cA ad u) s.heap.size = A at hD hT ⊢
  have hA : ∀ q : Nat, s.heap.size ≤ q → A q := fun q h => by rw [← hAe]; exact Or.inr h
  have hS : va_S A s.heap s.heap [] := va_S.rf
  have hl := lv_entry ([.ref (ad 0), .int p1, .int p2]) (n := 4) (Nat.le_of_ble_eq_true rfl)
  rw [lg_entry_eq]
  generalize (lg_sl ([.ref (ad 0), .int p1, .int p2]) ++ List.replicate (4 - (lg_sl ([.ref (ad 0), .int p1, .int p2])).length) Slot.unset).toArray = ls at hl ⊢
  replace hl : lv_has ls 4 [(0, .ref (ad 0)), (1, .int p1), (2, .int p2)] := hl
  refine lv_aload_n hx hb dL_addBus_0 rfl (lv_at hl 0 rfl) ?_
  refine lv_iload_n hx hb dL_addBus_1 rfl (lv_at hl 1 rfl) ?_
  refine lv_iload_n hx hb dL_addBus_2 rfl (lv_at hl 2 rfl) ?_
  refine sg_gi (vx_runV (As := [.int p1, .int p2]) (rest := []) ⟨hx, hb, hml, hown, hts⟩ (c_X5_addBus l hlt D cA ad N _ _ _ R hf _) (cwV 2 hts gL_addBus_X5_addBus rfl rfl rfl (by decide +kernel) ⟨Nat.le_of_ble_eq_true rfl, Nat.le_of_ble_eq_true rfl⟩) (sg_preT hK hP hD hT hS hA (ci := 7) (q0 := 0) rfl rfl) rfl rfl hl.1 rfl (lv_room (Nat.le_of_ble_eq_true rfl)) dL_addBus_3 ⟨Nat.le_of_ble_eq_true rfl, Nat.le_of_ble_eq_true rfl⟩) hD hS hA (fun k v E ce q9 H locs hr1 hE hP hD hS hce hcv hcl => ?_) (fun r v H locs hr1 hP hD hS => ?_)
  · obtain ⟨hk, hu⟩ := hR1 k v hr1
    rcases sg_hx_c hk with ⟨ek, ec⟩ | hk
    · replace ek : k = 1 := ek
      subst ek
      replace hE : E = "java/lang/IllegalArgumentException" := hE
      subst hE
      refine vx_catch (own := RL) (name := "java/lang/IllegalArgumentException") hown [] ⟨0, 6, 7, 20⟩ [⟨0, 6, 11, 22⟩] (by rw [htb]; rfl) (fun z hz => absurd hz List.not_mem_nil) (by decide) (by decide) (hts (.classLink RL 20 "java/lang/IllegalArgumentException") (by decide +kernel)) (va_Nw.use rfl (hT.2.2.2.1 (54, "java/lang/IllegalArgumentException") (by decide))) hce hcv hcl ?_
      refine lv_astore_n (lv' := [(3, .ref q9), (0, .ref (ad 0)), (1, .int p1), (2, .int p2)]) hx hb dL_addBus_7 rfl hl (by decide) rfl (fun ls hl => ?_)
      refine lv_bipush (v := (-78)) hx hb dL_addBus_8 (by decide) ?_
      exact sg_lri hx hb hr hP hD hS dL_addBus_10 ec hu hlocks (by decide) (by decide)
    · rcases sg_hx_c hk with ⟨ek, ec⟩ | hk
      · replace ek : k = 0 := ek
        subst ek
        replace hE : E = "java/lang/IllegalStateException" := hE
        subst hE
        refine vx_catch (own := RL) (name := "java/lang/IllegalStateException") hown [⟨0, 6, 7, 20⟩] ⟨0, 6, 11, 22⟩ [] (by rw [htb]; rfl) (List.forall_mem_cons.mpr ⟨Or.inr ⟨by decide, "java/lang/IllegalArgumentException", hts (.classLink RL 20 "java/lang/IllegalArgumentException") (by decide +kernel), hN ("java/lang/IllegalStateException", "java/lang/IllegalArgumentException") (by decide +kernel)⟩, fun _ h => absurd h List.not_mem_nil⟩) (by decide) (by decide) (hts (.classLink RL 22 "java/lang/IllegalStateException") (by decide +kernel)) (va_Nw.use rfl (hT.2.2.2.1 (104, "java/lang/IllegalStateException") (by decide))) hce hcv hcl ?_
        refine lv_astore_n (lv' := [(3, .ref q9), (0, .ref (ad 0)), (1, .int p1), (2, .int p2)]) hx hb dL_addBus_11 rfl hl (by decide) rfl (fun ls hl => ?_)
        refine lv_bipush (v := (-79)) hx hb dL_addBus_12 (by decide) ?_
        exact sg_lri hx hb hr hP hD hS dL_addBus_14 ec hu hlocks (by decide) (by decide)
      · cases hk
  · obtain ⟨hq1, hq2⟩ := hR2 r v hr1
    replace hq1 := Option.some.inj hq1
    exact sg_lri hx hb hr hP hD hS dL_addBus_6 hq1 hq2 hlocks (by decide) (by decide)
set_option maxRecDepth 100000 in
set_option maxHeartbeats 4000000 in
theorem c_L_addLine (l : Launch) (hlt : l.stackTraces = false) (D : va_G) (cA : Nat → ClassId) (ad : Nat → Nat) (N : Nat) (u : sg_St) (p1 p2 p3 p4 : Int32) (r9 : Int32) (u9 : sg_St) (hf : fL_addLine N u p1 p2 p3 p4 = some (r9, u9)) : sg_LI l D cA (sg_WX cA ad) yL_addLine wsL_addLine ({ frames := 10, cells := 4, slots := 24, locals := 446 }) [.ref (ad 0), .int p1, .int p2, .int p3, .int p4] u 4 24 r9 u9 := by
  obtain ⟨R, hf, hR1, hR2⟩ := sg_hc_s hf
  intro sz
  refine sg_ofWH (cc := cL_addLine) (maxL := 6) (ret := (some .int)) (by decide) rfl ?_
  intro p e s m args below meth c s₁ B hml hv
  obtain ⟨rfl, ⟨hsz, hP, hK, hD0⟩, hT, hN⟩ := hv
  have hx := B.exec
  have hb := B.bytes
  have hr := B.returns
  have hts := atoms_spec (ws := wsL_addLine) B.pre
  have hown : s.vm.findClass RL = some m.cls := findClass_of_methodNamed B.named
  have hlocks := B.notSynchronized
  have htb : c.exceptionTable.toList = tableOf [(0, 9, 10, 32), (0, 9, 15, 20), (0, 9, 20, 22)] := vx_table (x := ⟨"", "", ""⟩) B (hts _ List.mem_cons_self)
  subst hsz
  have hD := hD0.self (sz := s.heap.size)
  replace hP : va_P D vwCl (sg_WX cA ad u) s.heap := hP
  replace hD : va_D (va_A (sg_WX cA ad u) s.heap.size) (sg_WX cA ad u) := hD
  generalize hAe : va_A (sg_WX cA ad u) s.heap.size = A at hD hT ⊢
  have hA : ∀ q : Nat, s.heap.size ≤ q → A q := fun q h => by rw [← hAe]; exact Or.inr h
  have hS : va_S A s.heap s.heap [] := va_S.rf
  have hl := lv_entry ([.ref (ad 0), .int p1, .int p2, .int p3, .int p4]) (n := 6) (Nat.le_of_ble_eq_true rfl)
  rw [lg_entry_eq]
  generalize (lg_sl ([.ref (ad 0), .int p1, .int p2, .int p3, .int p4]) ++ List.replicate (6 - (lg_sl ([.ref (ad 0), .int p1, .int p2, .int p3, .int p4])).length) Slot.unset).toArray = ls at hl ⊢
  replace hl : lv_has ls 6 [(0, .ref (ad 0)), (1, .int p1), (2, .int p2), (3, .int p3), (4, .int p4)] := hl
  refine lv_aload_n hx hb dL_addLine_0 rfl (lv_at hl 0 rfl) ?_
  refine lv_iload_n hx hb dL_addLine_1 rfl (lv_at hl 1 rfl) ?_
  refine lv_iload_n hx hb dL_addLine_2 rfl (lv_at hl 2 rfl) ?_
  refine lv_iload_n hx hb dL_addLine_3 rfl (lv_at hl 3 rfl) ?_
  refine lv_iload hx hb dL_addLine_4 (lv_at hl 4 rfl) ?_
  refine sg_gi (vx_runV (As := [.int p1, .int p2, .int p3, .int p4]) (rest := []) ⟨hx, hb, hml, hown, hts⟩ (c_X5_addLine l hlt D cA ad N _ _ _ _ _ R hf _) (cwV 4 hts gL_addLine_X5_addLine rfl rfl rfl (by decide +kernel) ⟨Nat.le_of_ble_eq_true rfl, Nat.le_of_ble_eq_true rfl⟩) (sg_preT hK hP hD hT hS hA (ci := 7) (q0 := 0) rfl rfl) rfl rfl hl.1 rfl (lv_room (Nat.le_of_ble_eq_true rfl)) dL_addLine_6 ⟨Nat.le_of_ble_eq_true rfl, Nat.le_of_ble_eq_true rfl⟩) hD hS hA (fun k v E ce q9 H locs hr1 hE hP hD hS hce hcv hcl => ?_) (fun r v H locs hr1 hP hD hS => ?_)
  · obtain ⟨hk, hu⟩ := hR1 k v hr1
    rcases sg_hx_c hk with ⟨ek, ec⟩ | hk
    · replace ek : k = 5 := ek
      subst ek
      replace hE : E = "java/util/NoSuchElementException" := hE
      subst hE
      refine vx_catch (own := RL) (name := "java/util/NoSuchElementException") hown [] ⟨0, 9, 10, 32⟩ [⟨0, 9, 15, 20⟩, ⟨0, 9, 20, 22⟩] (by rw [htb]; rfl) (fun z hz => absurd hz List.not_mem_nil) (by decide) (by decide) (hts (.classLink RL 32 "java/util/NoSuchElementException") (by decide +kernel)) (va_Nw.use rfl (hT.2.2.2.1 (293, "java/util/NoSuchElementException") (by decide))) hce hcv hcl ?_
      refine lv_astore (lv' := [(5, .ref q9), (0, .ref (ad 0)), (1, .int p1), (2, .int p2), (3, .int p3), (4, .int p4)]) hx hb dL_addLine_10 hl (by decide) rfl (fun ls hl => ?_)
      refine lv_bipush (v := (-75)) hx hb dL_addLine_12 (by decide) ?_
      exact sg_lri hx hb hr hP hD hS dL_addLine_14 ec hu hlocks (by decide) (by decide)
    · rcases sg_hx_c hk with ⟨ek, ec⟩ | hk
      · replace ek : k = 1 := ek
        subst ek
        replace hE : E = "java/lang/IllegalArgumentException" := hE
        subst hE
        refine vx_catch (own := RL) (name := "java/lang/IllegalArgumentException") hown [⟨0, 9, 10, 32⟩] ⟨0, 9, 15, 20⟩ [⟨0, 9, 20, 22⟩] (by rw [htb]; rfl) (List.forall_mem_cons.mpr ⟨Or.inr ⟨by decide, "java/util/NoSuchElementException", hts (.classLink RL 32 "java/util/NoSuchElementException") (by decide +kernel), hN ("java/lang/IllegalArgumentException", "java/util/NoSuchElementException") (by decide +kernel)⟩, fun _ h => absurd h List.not_mem_nil⟩) (by decide) (by decide) (hts (.classLink RL 20 "java/lang/IllegalArgumentException") (by decide +kernel)) (va_Nw.use rfl (hT.2.2.2.1 (54, "java/lang/IllegalArgumentException") (by decide))) hce hcv hcl ?_
        refine lv_astore (lv' := [(5, .ref q9), (0, .ref (ad 0)), (1, .int p1), (2, .int p2), (3, .int p3), (4, .int p4)]) hx hb dL_addLine_15 hl (by decide) rfl (fun ls hl => ?_)
        refine lv_bipush (v := (-78)) hx hb dL_addLine_17 (by decide) ?_
        exact sg_lri hx hb hr hP hD hS dL_addLine_19 ec hu hlocks (by decide) (by decide)
      · rcases sg_hx_c hk with ⟨ek, ec⟩ | hk
        · replace ek : k = 0 := ek
          subst ek
          replace hE : E = "java/lang/IllegalStateException" := hE
          subst hE
          refine vx_catch (own := RL) (name := "java/lang/IllegalStateException") hown [⟨0, 9, 10, 32⟩, ⟨0, 9, 15, 20⟩] ⟨0, 9, 20, 22⟩ [] (by rw [htb]; rfl) (List.forall_mem_cons.mpr ⟨Or.inr ⟨by decide, "java/util/NoSuchElementException", hts (.classLink RL 32 "java/util/NoSuchElementException") (by decide +kernel), hN ("java/lang/IllegalStateException", "java/util/NoSuchElementException") (by decide +kernel)⟩, List.forall_mem_cons.mpr ⟨Or.inr ⟨by decide, "java/lang/IllegalArgumentException", hts (.classLink RL 20 "java/lang/IllegalArgumentException") (by decide +kernel), hN ("java/lang/IllegalStateException", "java/lang/IllegalArgumentException") (by decide +kernel)⟩, fun _ h => absurd h List.not_mem_nil⟩⟩) (by decide) (by decide) (hts (.classLink RL 22 "java/lang/IllegalStateException") (by decide +kernel)) (va_Nw.use rfl (hT.2.2.2.1 (104, "java/lang/IllegalStateException") (by decide))) hce hcv hcl ?_
          refine lv_astore (lv' := [(5, .ref q9), (0, .ref (ad 0)), (1, .int p1), (2, .int p2), (3, .int p3), (4, .int p4)]) hx hb dL_addLine_20 hl (by decide) rfl (fun ls hl => ?_)
          refine lv_bipush (v := (-79)) hx hb dL_addLine_22 (by decide) ?_
          exact sg_lri hx hb hr hP hD hS dL_addLine_24 ec hu hlocks (by decide) (by decide)
        · cases hk
  · obtain ⟨hq1, hq2⟩ := hR2 r v hr1
    replace hq1 := Option.some.inj hq1
    exact sg_lri hx hb hr hP hD hS dL_addLine_9 hq1 hq2 hlocks (by decide) (by decide)
set_option maxRecDepth 100000 in
set_option maxHeartbeats 4000000 in
theorem c_L_setLoad (l : Launch) (hlt : l.stackTraces = false) (D : va_G) (cA : Nat → ClassId) (ad : Nat → Nat) (N : Nat) (u : sg_St) (p1 p2 : Int32) (r9 : Int32) (u9 : sg_St) (hf : fL_setLoad N u p1 p2 = some (r9, u9)) : sg_LI l D cA (sg_WX cA ad) yL_setLoad wsL_setLoad ({ frames := 19, cells := 4, slots := 24, locals := 488 }) [.ref (ad 0), .int p1, .int p2] u 4 24 r9 u9 := by
  obtain ⟨R, hf, hR1, hR2⟩ := sg_hc_s hf
  intro sz
  refine sg_ofWH (cc := cL_setLoad) (maxL := 4) (ret := (some .int)) (by decide) rfl ?_
  intro p e s m args below meth c s₁ B hml hv
  obtain ⟨rfl, ⟨hsz, hP, hK, hD0⟩, hT, hN⟩ := hv
  have hx := B.exec
  have hb := B.bytes
  have hr := B.returns
  have hts := atoms_spec (ws := wsL_setLoad) B.pre
  have hown : s.vm.findClass RL = some m.cls := findClass_of_methodNamed B.named
  have hlocks := B.notSynchronized
  have htb : c.exceptionTable.toList = tableOf [(0, 6, 7, 32), (0, 6, 11, 20), (0, 6, 15, 37), (0, 6, 19, 22)] := vx_table (x := ⟨"", "", ""⟩) B (hts _ List.mem_cons_self)
  subst hsz
  have hD := hD0.self (sz := s.heap.size)
  replace hP : va_P D vwCl (sg_WX cA ad u) s.heap := hP
  replace hD : va_D (va_A (sg_WX cA ad u) s.heap.size) (sg_WX cA ad u) := hD
  generalize hAe : va_A (sg_WX cA ad u) s.heap.size = A at hD hT ⊢
  have hA : ∀ q : Nat, s.heap.size ≤ q → A q := fun q h => by rw [← hAe]; exact Or.inr h
  have hS : va_S A s.heap s.heap [] := va_S.rf
  have hl := lv_entry ([.ref (ad 0), .int p1, .int p2]) (n := 4) (Nat.le_of_ble_eq_true rfl)
  rw [lg_entry_eq]
  generalize (lg_sl ([.ref (ad 0), .int p1, .int p2]) ++ List.replicate (4 - (lg_sl ([.ref (ad 0), .int p1, .int p2])).length) Slot.unset).toArray = ls at hl ⊢
  replace hl : lv_has ls 4 [(0, .ref (ad 0)), (1, .int p1), (2, .int p2)] := hl
  refine lv_aload_n hx hb dL_setLoad_0 rfl (lv_at hl 0 rfl) ?_
  refine lv_iload_n hx hb dL_setLoad_1 rfl (lv_at hl 1 rfl) ?_
  refine lv_iload_n hx hb dL_setLoad_2 rfl (lv_at hl 2 rfl) ?_
  refine sg_gi (vx_runV (As := [.int p1, .int p2]) (rest := []) ⟨hx, hb, hml, hown, hts⟩ (c_X5_setLoad l hlt D cA ad N _ _ _ R hf _) (cwV 2 hts gL_setLoad_X5_setLoad rfl rfl rfl (by decide +kernel) ⟨Nat.le_of_ble_eq_true rfl, Nat.le_of_ble_eq_true rfl⟩) (sg_preT hK hP hD hT hS hA (ci := 7) (q0 := 0) rfl rfl) rfl rfl hl.1 rfl (lv_room (Nat.le_of_ble_eq_true rfl)) dL_setLoad_3 ⟨Nat.le_of_ble_eq_true rfl, Nat.le_of_ble_eq_true rfl⟩) hD hS hA (fun k v E ce q9 H locs hr1 hE hP hD hS hce hcv hcl => ?_) (fun r v H locs hr1 hP hD hS => ?_)
  · obtain ⟨hk, hu⟩ := hR1 k v hr1
    rcases sg_hx_c hk with ⟨ek, ec⟩ | hk
    · replace ek : k = 5 := ek
      subst ek
      replace hE : E = "java/util/NoSuchElementException" := hE
      subst hE
      refine vx_catch (own := RL) (name := "java/util/NoSuchElementException") hown [] ⟨0, 6, 7, 32⟩ [⟨0, 6, 11, 20⟩, ⟨0, 6, 15, 37⟩, ⟨0, 6, 19, 22⟩] (by rw [htb]; rfl) (fun z hz => absurd hz List.not_mem_nil) (by decide) (by decide) (hts (.classLink RL 32 "java/util/NoSuchElementException") (by decide +kernel)) (va_Nw.use rfl (hT.2.2.2.1 (293, "java/util/NoSuchElementException") (by decide))) hce hcv hcl ?_
      refine lv_astore_n (lv' := [(3, .ref q9), (0, .ref (ad 0)), (1, .int p1), (2, .int p2)]) hx hb dL_setLoad_7 rfl hl (by decide) rfl (fun ls hl => ?_)
      refine lv_bipush (v := (-75)) hx hb dL_setLoad_8 (by decide) ?_
      exact sg_lri hx hb hr hP hD hS dL_setLoad_10 ec hu hlocks (by decide) (by decide)
    · rcases sg_hx_c hk with ⟨ek, ec⟩ | hk
      · replace ek : k = 1 := ek
        subst ek
        replace hE : E = "java/lang/IllegalArgumentException" := hE
        subst hE
        refine vx_catch (own := RL) (name := "java/lang/IllegalArgumentException") hown [⟨0, 6, 7, 32⟩] ⟨0, 6, 11, 20⟩ [⟨0, 6, 15, 37⟩, ⟨0, 6, 19, 22⟩] (by rw [htb]; rfl) (List.forall_mem_cons.mpr ⟨Or.inr ⟨by decide, "java/util/NoSuchElementException", hts (.classLink RL 32 "java/util/NoSuchElementException") (by decide +kernel), hN ("java/lang/IllegalArgumentException", "java/util/NoSuchElementException") (by decide +kernel)⟩, fun _ h => absurd h List.not_mem_nil⟩) (by decide) (by decide) (hts (.classLink RL 20 "java/lang/IllegalArgumentException") (by decide +kernel)) (va_Nw.use rfl (hT.2.2.2.1 (54, "java/lang/IllegalArgumentException") (by decide))) hce hcv hcl ?_
        refine lv_astore_n (lv' := [(3, .ref q9), (0, .ref (ad 0)), (1, .int p1), (2, .int p2)]) hx hb dL_setLoad_11 rfl hl (by decide) rfl (fun ls hl => ?_)
        refine lv_bipush (v := (-78)) hx hb dL_setLoad_12 (by decide) ?_
        exact sg_lri hx hb hr hP hD hS dL_setLoad_14 ec hu hlocks (by decide) (by decide)
      · rcases sg_hx_c hk with ⟨ek, ec⟩ | hk
        · replace ek : k = 4 := ek
          subst ek
          replace hE : E = "java/lang/UnsupportedOperationException" := hE
          subst hE
          refine vx_catch (own := RL) (name := "java/lang/UnsupportedOperationException") hown [⟨0, 6, 7, 32⟩, ⟨0, 6, 11, 20⟩] ⟨0, 6, 15, 37⟩ [⟨0, 6, 19, 22⟩] (by rw [htb]; rfl) (List.forall_mem_cons.mpr ⟨Or.inr ⟨by decide, "java/util/NoSuchElementException", hts (.classLink RL 32 "java/util/NoSuchElementException") (by decide +kernel), hN ("java/lang/UnsupportedOperationException", "java/util/NoSuchElementException") (by decide +kernel)⟩, List.forall_mem_cons.mpr ⟨Or.inr ⟨by decide, "java/lang/IllegalArgumentException", hts (.classLink RL 20 "java/lang/IllegalArgumentException") (by decide +kernel), hN ("java/lang/UnsupportedOperationException", "java/lang/IllegalArgumentException") (by decide +kernel)⟩, fun _ h => absurd h List.not_mem_nil⟩⟩) (by decide) (by decide) (hts (.classLink RL 37 "java/lang/UnsupportedOperationException") (by decide +kernel)) (va_Nw.use rfl (hT.2.2.2.1 (178, "java/lang/UnsupportedOperationException") (by decide))) hce hcv hcl ?_
          refine lv_astore_n (lv' := [(3, .ref q9), (0, .ref (ad 0)), (1, .int p1), (2, .int p2)]) hx hb dL_setLoad_15 rfl hl (by decide) rfl (fun ls hl => ?_)
          refine lv_bipush (v := (-76)) hx hb dL_setLoad_16 (by decide) ?_
          exact sg_lri hx hb hr hP hD hS dL_setLoad_18 ec hu hlocks (by decide) (by decide)
        · rcases sg_hx_c hk with ⟨ek, ec⟩ | hk
          · replace ek : k = 0 := ek
            subst ek
            replace hE : E = "java/lang/IllegalStateException" := hE
            subst hE
            refine vx_catch (own := RL) (name := "java/lang/IllegalStateException") hown [⟨0, 6, 7, 32⟩, ⟨0, 6, 11, 20⟩, ⟨0, 6, 15, 37⟩] ⟨0, 6, 19, 22⟩ [] (by rw [htb]; rfl) (List.forall_mem_cons.mpr ⟨Or.inr ⟨by decide, "java/util/NoSuchElementException", hts (.classLink RL 32 "java/util/NoSuchElementException") (by decide +kernel), hN ("java/lang/IllegalStateException", "java/util/NoSuchElementException") (by decide +kernel)⟩, List.forall_mem_cons.mpr ⟨Or.inr ⟨by decide, "java/lang/IllegalArgumentException", hts (.classLink RL 20 "java/lang/IllegalArgumentException") (by decide +kernel), hN ("java/lang/IllegalStateException", "java/lang/IllegalArgumentException") (by decide +kernel)⟩, List.forall_mem_cons.mpr ⟨Or.inr ⟨by decide, "java/lang/UnsupportedOperationException", hts (.classLink RL 37 "java/lang/UnsupportedOperationException") (by decide +kernel), hN ("java/lang/IllegalStateException", "java/lang/UnsupportedOperationException") (by decide +kernel)⟩, fun _ h => absurd h List.not_mem_nil⟩⟩⟩) (by decide) (by decide) (hts (.classLink RL 22 "java/lang/IllegalStateException") (by decide +kernel)) (va_Nw.use rfl (hT.2.2.2.1 (104, "java/lang/IllegalStateException") (by decide))) hce hcv hcl ?_
            refine lv_astore_n (lv' := [(3, .ref q9), (0, .ref (ad 0)), (1, .int p1), (2, .int p2)]) hx hb dL_setLoad_19 rfl hl (by decide) rfl (fun ls hl => ?_)
            refine lv_bipush (v := (-79)) hx hb dL_setLoad_20 (by decide) ?_
            exact sg_lri hx hb hr hP hD hS dL_setLoad_22 ec hu hlocks (by decide) (by decide)
          · cases hk
  · obtain ⟨hq1, hq2⟩ := hR2 r v hr1
    replace hq1 := Option.some.inj hq1
    exact sg_lri hx hb hr hP hD hS dL_setLoad_6 hq1 hq2 hlocks (by decide) (by decide)
set_option maxRecDepth 100000 in
set_option maxHeartbeats 4000000 in
theorem c_L_setRelay (l : Launch) (hlt : l.stackTraces = false) (D : va_G) (cA : Nat → ClassId) (ad : Nat → Nat) (N : Nat) (u : sg_St) (p1 p2 p3 p4 : Int32) (r9 : Int32) (u9 : sg_St) (hf : fL_setRelay N u p1 p2 p3 p4 = some (r9, u9)) : sg_LI l D cA (sg_WX cA ad) yL_setRelay wsL_setRelay ({ frames := 10, cells := 3, slots := 18, locals := 446 }) [.ref (ad 0), .int p1, .int p2, .int p3, .int p4] u 3 18 r9 u9 := by
  obtain ⟨R, hf, hR1, hR2⟩ := sg_hc_s hf
  intro sz
  refine sg_ofWH (cc := cL_setRelay) (maxL := 6) (ret := (some .int)) (by decide) rfl ?_
  intro p e s m args below meth c s₁ B hml hv
  obtain ⟨rfl, ⟨hsz, hP, hK, hD0⟩, hT, hN⟩ := hv
  have hx := B.exec
  have hb := B.bytes
  have hr := B.returns
  have hts := atoms_spec (ws := wsL_setRelay) B.pre
  have hown : s.vm.findClass RL = some m.cls := findClass_of_methodNamed B.named
  have hlocks := B.notSynchronized
  have htb : c.exceptionTable.toList = tableOf [(0, 9, 10, 32), (0, 9, 15, 20), (0, 9, 20, 37)] := vx_table (x := ⟨"", "", ""⟩) B (hts _ List.mem_cons_self)
  subst hsz
  have hD := hD0.self (sz := s.heap.size)
  replace hP : va_P D vwCl (sg_WX cA ad u) s.heap := hP
  replace hD : va_D (va_A (sg_WX cA ad u) s.heap.size) (sg_WX cA ad u) := hD
  generalize hAe : va_A (sg_WX cA ad u) s.heap.size = A at hD hT ⊢
  have hA : ∀ q : Nat, s.heap.size ≤ q → A q := fun q h => by rw [← hAe]; exact Or.inr h
  have hS : va_S A s.heap s.heap [] := va_S.rf
  have hl := lv_entry ([.ref (ad 0), .int p1, .int p2, .int p3, .int p4]) (n := 6) (Nat.le_of_ble_eq_true rfl)
  rw [lg_entry_eq]
  generalize (lg_sl ([.ref (ad 0), .int p1, .int p2, .int p3, .int p4]) ++ List.replicate (6 - (lg_sl ([.ref (ad 0), .int p1, .int p2, .int p3, .int p4])).length) Slot.unset).toArray = ls at hl ⊢
  replace hl : lv_has ls 6 [(0, .ref (ad 0)), (1, .int p1), (2, .int p2), (3, .int p3), (4, .int p4)] := hl
  refine lv_aload_n hx hb dL_setRelay_0 rfl (lv_at hl 0 rfl) ?_
  refine lv_iload_n hx hb dL_setRelay_1 rfl (lv_at hl 1 rfl) ?_
  refine lv_iload_n hx hb dL_setRelay_2 rfl (lv_at hl 2 rfl) ?_
  refine lv_iload_n hx hb dL_setRelay_3 rfl (lv_at hl 3 rfl) ?_
  refine lv_iload hx hb dL_setRelay_4 (lv_at hl 4 rfl) ?_
  refine sg_gi (vx_runV (As := [.int p1, .int p2, .int p3, .int p4]) (rest := []) ⟨hx, hb, hml, hown, hts⟩ (c_X5_setRelay l hlt D cA ad N _ _ _ _ _ R hf _) (cwV 4 hts gL_setRelay_X5_setRelay rfl rfl rfl (by decide +kernel) ⟨Nat.le_of_ble_eq_true rfl, Nat.le_of_ble_eq_true rfl⟩) (sg_preT hK hP hD hT hS hA (ci := 7) (q0 := 0) rfl rfl) rfl rfl hl.1 rfl (lv_room (Nat.le_of_ble_eq_true rfl)) dL_setRelay_6 ⟨Nat.le_of_ble_eq_true rfl, Nat.le_of_ble_eq_true rfl⟩) hD hS hA (fun k v E ce q9 H locs hr1 hE hP hD hS hce hcv hcl => ?_) (fun r v H locs hr1 hP hD hS => ?_)
  · obtain ⟨hk, hu⟩ := hR1 k v hr1
    rcases sg_hx_c hk with ⟨ek, ec⟩ | hk
    · replace ek : k = 5 := ek
      subst ek
      replace hE : E = "java/util/NoSuchElementException" := hE
      subst hE
      refine vx_catch (own := RL) (name := "java/util/NoSuchElementException") hown [] ⟨0, 9, 10, 32⟩ [⟨0, 9, 15, 20⟩, ⟨0, 9, 20, 37⟩] (by rw [htb]; rfl) (fun z hz => absurd hz List.not_mem_nil) (by decide) (by decide) (hts (.classLink RL 32 "java/util/NoSuchElementException") (by decide +kernel)) (va_Nw.use rfl (hT.2.2.2.1 (293, "java/util/NoSuchElementException") (by decide))) hce hcv hcl ?_
      refine lv_astore (lv' := [(5, .ref q9), (0, .ref (ad 0)), (1, .int p1), (2, .int p2), (3, .int p3), (4, .int p4)]) hx hb dL_setRelay_10 hl (by decide) rfl (fun ls hl => ?_)
      refine lv_bipush (v := (-75)) hx hb dL_setRelay_12 (by decide) ?_
      exact sg_lri hx hb hr hP hD hS dL_setRelay_14 ec hu hlocks (by decide) (by decide)
    · rcases sg_hx_c hk with ⟨ek, ec⟩ | hk
      · replace ek : k = 1 := ek
        subst ek
        replace hE : E = "java/lang/IllegalArgumentException" := hE
        subst hE
        refine vx_catch (own := RL) (name := "java/lang/IllegalArgumentException") hown [⟨0, 9, 10, 32⟩] ⟨0, 9, 15, 20⟩ [⟨0, 9, 20, 37⟩] (by rw [htb]; rfl) (List.forall_mem_cons.mpr ⟨Or.inr ⟨by decide, "java/util/NoSuchElementException", hts (.classLink RL 32 "java/util/NoSuchElementException") (by decide +kernel), hN ("java/lang/IllegalArgumentException", "java/util/NoSuchElementException") (by decide +kernel)⟩, fun _ h => absurd h List.not_mem_nil⟩) (by decide) (by decide) (hts (.classLink RL 20 "java/lang/IllegalArgumentException") (by decide +kernel)) (va_Nw.use rfl (hT.2.2.2.1 (54, "java/lang/IllegalArgumentException") (by decide))) hce hcv hcl ?_
        refine lv_astore (lv' := [(5, .ref q9), (0, .ref (ad 0)), (1, .int p1), (2, .int p2), (3, .int p3), (4, .int p4)]) hx hb dL_setRelay_15 hl (by decide) rfl (fun ls hl => ?_)
        refine lv_bipush (v := (-78)) hx hb dL_setRelay_17 (by decide) ?_
        exact sg_lri hx hb hr hP hD hS dL_setRelay_19 ec hu hlocks (by decide) (by decide)
      · rcases sg_hx_c hk with ⟨ek, ec⟩ | hk
        · replace ek : k = 4 := ek
          subst ek
          replace hE : E = "java/lang/UnsupportedOperationException" := hE
          subst hE
          refine vx_catch (own := RL) (name := "java/lang/UnsupportedOperationException") hown [⟨0, 9, 10, 32⟩, ⟨0, 9, 15, 20⟩] ⟨0, 9, 20, 37⟩ [] (by rw [htb]; rfl) (List.forall_mem_cons.mpr ⟨Or.inr ⟨by decide, "java/util/NoSuchElementException", hts (.classLink RL 32 "java/util/NoSuchElementException") (by decide +kernel), hN ("java/lang/UnsupportedOperationException", "java/util/NoSuchElementException") (by decide +kernel)⟩, List.forall_mem_cons.mpr ⟨Or.inr ⟨by decide, "java/lang/IllegalArgumentException", hts (.classLink RL 20 "java/lang/IllegalArgumentException") (by decide +kernel), hN ("java/lang/UnsupportedOperationException", "java/lang/IllegalArgumentException") (by decide +kernel)⟩, fun _ h => absurd h List.not_mem_nil⟩⟩) (by decide) (by decide) (hts (.classLink RL 37 "java/lang/UnsupportedOperationException") (by decide +kernel)) (va_Nw.use rfl (hT.2.2.2.1 (178, "java/lang/UnsupportedOperationException") (by decide))) hce hcv hcl ?_
          refine lv_astore (lv' := [(5, .ref q9), (0, .ref (ad 0)), (1, .int p1), (2, .int p2), (3, .int p3), (4, .int p4)]) hx hb dL_setRelay_20 hl (by decide) rfl (fun ls hl => ?_)
          refine lv_bipush (v := (-76)) hx hb dL_setRelay_22 (by decide) ?_
          exact sg_lri hx hb hr hP hD hS dL_setRelay_24 ec hu hlocks (by decide) (by decide)
        · cases hk
  · obtain ⟨hq1, hq2⟩ := hR2 r v hr1
    replace hq1 := Option.some.inj hq1
    exact sg_lri hx hb hr hP hD hS dL_setRelay_9 hq1 hq2 hlocks (by decide) (by decide)
set_option maxRecDepth 100000 in
set_option maxHeartbeats 4000000 in
theorem c_L_close (l : Launch) (hlt : l.stackTraces = false) (D : va_G) (cA : Nat → ClassId) (ad : Nat → Nat) (N : Nat) (u : sg_St) (p1 : Int32) (r9 : Int32) (u9 : sg_St) (hf : fL_close N u p1 = some (r9, u9)) : sg_LI l D cA (sg_WX cA ad) yL_close wsL_close ({ frames := 19, cells := 1, slots := 6, locals := 494 }) [.ref (ad 0), .int p1] u 1 6 r9 u9 := by
  obtain ⟨R, hf, hR1, hR2⟩ := sg_hc_s hf
  intro sz
  refine sg_ofWH (cc := cL_close) (maxL := 3) (ret := (some .int)) (by decide) rfl ?_
  intro p e s m args below meth c s₁ B hml hv
  obtain ⟨rfl, ⟨hsz, hP, hK, hD0⟩, hT, hN⟩ := hv
  have hx := B.exec
  have hb := B.bytes
  have hr := B.returns
  have hts := atoms_spec (ws := wsL_close) B.pre
  have hown : s.vm.findClass RL = some m.cls := findClass_of_methodNamed B.named
  have hlocks := B.notSynchronized
  have htb : c.exceptionTable.toList = tableOf [(0, 5, 6, 32)] := vx_table (x := ⟨"", "", ""⟩) B (hts _ List.mem_cons_self)
  subst hsz
  have hD := hD0.self (sz := s.heap.size)
  replace hP : va_P D vwCl (sg_WX cA ad u) s.heap := hP
  replace hD : va_D (va_A (sg_WX cA ad u) s.heap.size) (sg_WX cA ad u) := hD
  generalize hAe : va_A (sg_WX cA ad u) s.heap.size = A at hD hT ⊢
  have hA : ∀ q : Nat, s.heap.size ≤ q → A q := fun q h => by rw [← hAe]; exact Or.inr h
  have hS : va_S A s.heap s.heap [] := va_S.rf
  have hl := lv_entry ([.ref (ad 0), .int p1]) (n := 3) (Nat.le_of_ble_eq_true rfl)
  rw [lg_entry_eq]
  generalize (lg_sl ([.ref (ad 0), .int p1]) ++ List.replicate (3 - (lg_sl ([.ref (ad 0), .int p1])).length) Slot.unset).toArray = ls at hl ⊢
  replace hl : lv_has ls 3 [(0, .ref (ad 0)), (1, .int p1)] := hl
  refine lv_aload_n hx hb dL_close_0 rfl (lv_at hl 0 rfl) ?_
  refine lv_iload_n hx hb dL_close_1 rfl (lv_at hl 1 rfl) ?_
  refine sg_gi (vx_runV (As := [.int p1]) (rest := []) ⟨hx, hb, hml, hown, hts⟩ (c_X5_close l hlt D cA ad N _ _ R hf _) (cwV 1 hts gL_close_X5_close rfl rfl rfl (by decide +kernel) ⟨Nat.le_of_ble_eq_true rfl, Nat.le_of_ble_eq_true rfl⟩) (sg_preT hK hP hD hT hS hA (ci := 7) (q0 := 0) rfl rfl) rfl rfl hl.1 rfl (lv_room (Nat.le_of_ble_eq_true rfl)) dL_close_2 ⟨Nat.le_of_ble_eq_true rfl, Nat.le_of_ble_eq_true rfl⟩) hD hS hA (fun k v E ce q9 H locs hr1 hE hP hD hS hce hcv hcl => ?_) (fun r v H locs hr1 hP hD hS => ?_)
  · obtain ⟨hk, hu⟩ := hR1 k v hr1
    rcases sg_hx_c hk with ⟨ek, ec⟩ | hk
    · replace ek : k = 5 := ek
      subst ek
      replace hE : E = "java/util/NoSuchElementException" := hE
      subst hE
      refine vx_catch (own := RL) (name := "java/util/NoSuchElementException") hown [] ⟨0, 5, 6, 32⟩ [] (by rw [htb]; rfl) (fun z hz => absurd hz List.not_mem_nil) (by decide) (by decide) (hts (.classLink RL 32 "java/util/NoSuchElementException") (by decide +kernel)) (va_Nw.use rfl (hT.2.2.2.1 (293, "java/util/NoSuchElementException") (by decide))) hce hcv hcl ?_
      refine lv_astore_n (lv' := [(2, .ref q9), (0, .ref (ad 0)), (1, .int p1)]) hx hb dL_close_6 rfl hl (by decide) rfl (fun ls hl => ?_)
      refine lv_bipush (v := (-75)) hx hb dL_close_7 (by decide) ?_
      exact sg_lri hx hb hr hP hD hS dL_close_9 ec hu hlocks (by decide) (by decide)
    · cases hk
  · obtain ⟨hq1, hq2⟩ := hR2 r v hr1
    replace hq1 := Option.some.inj hq1
    exact sg_lri hx hb hr hP hD hS dL_close_5 hq1 hq2 hlocks (by decide) (by decide)
set_option maxRecDepth 100000 in
set_option maxHeartbeats 4000000 in
theorem c_L_open (l : Launch) (hlt : l.stackTraces = false) (D : va_G) (cA : Nat → ClassId) (ad : Nat → Nat) (N : Nat) (u : sg_St) (p1 : Int32) (r9 : Int32) (u9 : sg_St) (hf : fL_open N u p1 = some (r9, u9)) : sg_LI l D cA (sg_WX cA ad) yL_open wsL_open ({ frames := 19, cells := 1, slots := 6, locals := 487 }) [.ref (ad 0), .int p1] u 1 6 r9 u9 := by
  obtain ⟨R, hf, hR1, hR2⟩ := sg_hc_s hf
  intro sz
  refine sg_ofWH (cc := cL_open) (maxL := 3) (ret := (some .int)) (by decide) rfl ?_
  intro p e s m args below meth c s₁ B hml hv
  obtain ⟨rfl, ⟨hsz, hP, hK, hD0⟩, hT, hN⟩ := hv
  have hx := B.exec
  have hb := B.bytes
  have hr := B.returns
  have hts := atoms_spec (ws := wsL_open) B.pre
  have hown : s.vm.findClass RL = some m.cls := findClass_of_methodNamed B.named
  have hlocks := B.notSynchronized
  have htb : c.exceptionTable.toList = tableOf [(0, 5, 6, 32)] := vx_table (x := ⟨"", "", ""⟩) B (hts _ List.mem_cons_self)
  subst hsz
  have hD := hD0.self (sz := s.heap.size)
  replace hP : va_P D vwCl (sg_WX cA ad u) s.heap := hP
  replace hD : va_D (va_A (sg_WX cA ad u) s.heap.size) (sg_WX cA ad u) := hD
  generalize hAe : va_A (sg_WX cA ad u) s.heap.size = A at hD hT ⊢
  have hA : ∀ q : Nat, s.heap.size ≤ q → A q := fun q h => by rw [← hAe]; exact Or.inr h
  have hS : va_S A s.heap s.heap [] := va_S.rf
  have hl := lv_entry ([.ref (ad 0), .int p1]) (n := 3) (Nat.le_of_ble_eq_true rfl)
  rw [lg_entry_eq]
  generalize (lg_sl ([.ref (ad 0), .int p1]) ++ List.replicate (3 - (lg_sl ([.ref (ad 0), .int p1])).length) Slot.unset).toArray = ls at hl ⊢
  replace hl : lv_has ls 3 [(0, .ref (ad 0)), (1, .int p1)] := hl
  refine lv_aload_n hx hb dL_open_0 rfl (lv_at hl 0 rfl) ?_
  refine lv_iload_n hx hb dL_open_1 rfl (lv_at hl 1 rfl) ?_
  refine sg_gi (vx_runV (As := [.int p1]) (rest := []) ⟨hx, hb, hml, hown, hts⟩ (c_X5_open l hlt D cA ad N _ _ R hf _) (cwV 1 hts gL_open_X5_open rfl rfl rfl (by decide +kernel) ⟨Nat.le_of_ble_eq_true rfl, Nat.le_of_ble_eq_true rfl⟩) (sg_preT hK hP hD hT hS hA (ci := 7) (q0 := 0) rfl rfl) rfl rfl hl.1 rfl (lv_room (Nat.le_of_ble_eq_true rfl)) dL_open_2 ⟨Nat.le_of_ble_eq_true rfl, Nat.le_of_ble_eq_true rfl⟩) hD hS hA (fun k v E ce q9 H locs hr1 hE hP hD hS hce hcv hcl => ?_) (fun r v H locs hr1 hP hD hS => ?_)
  · obtain ⟨hk, hu⟩ := hR1 k v hr1
    rcases sg_hx_c hk with ⟨ek, ec⟩ | hk
    · replace ek : k = 5 := ek
      subst ek
      replace hE : E = "java/util/NoSuchElementException" := hE
      subst hE
      refine vx_catch (own := RL) (name := "java/util/NoSuchElementException") hown [] ⟨0, 5, 6, 32⟩ [] (by rw [htb]; rfl) (fun z hz => absurd hz List.not_mem_nil) (by decide) (by decide) (hts (.classLink RL 32 "java/util/NoSuchElementException") (by decide +kernel)) (va_Nw.use rfl (hT.2.2.2.1 (293, "java/util/NoSuchElementException") (by decide))) hce hcv hcl ?_
      refine lv_astore_n (lv' := [(2, .ref q9), (0, .ref (ad 0)), (1, .int p1)]) hx hb dL_open_6 rfl hl (by decide) rfl (fun ls hl => ?_)
      refine lv_bipush (v := (-75)) hx hb dL_open_7 (by decide) ?_
      exact sg_lri hx hb hr hP hD hS dL_open_9 ec hu hlocks (by decide) (by decide)
    · cases hk
  · obtain ⟨hq1, hq2⟩ := hR2 r v hr1
    replace hq1 := Option.some.inj hq1
    exact sg_lri hx hb hr hP hD hS dL_open_5 hq1 hq2 hlocks (by decide) (by decide)
set_option maxRecDepth 100000 in
set_option maxHeartbeats 4000000 in
theorem c_L_canClose (l : Launch) (hlt : l.stackTraces = false) (D : va_G) (cA : Nat → ClassId) (ad : Nat → Nat) (N : Nat) (u : sg_St) (p1 : Int32) (r9 : Int32) (u9 : sg_St) (hf : fL_canClose N u p1 = some (r9, u9)) : sg_LI l D cA (sg_WX cA ad) yL_canClose wsL_canClose ({ frames := 19, cells := 1, slots := 6, locals := 493 }) [.ref (ad 0), .int p1] u 1 6 r9 u9 := by
  obtain ⟨R, hf, hR1, hR2⟩ := sg_hc_s hf
  intro sz
  refine sg_ofWH (cc := cL_canClose) (maxL := 3) (ret := (some .int)) (by decide) rfl ?_
  intro p e s m args below meth c s₁ B hml hv
  obtain ⟨rfl, ⟨hsz, hP, hK, hD0⟩, hT, hN⟩ := hv
  have hx := B.exec
  have hb := B.bytes
  have hr := B.returns
  have hts := atoms_spec (ws := wsL_canClose) B.pre
  have hown : s.vm.findClass RL = some m.cls := findClass_of_methodNamed B.named
  have hlocks := B.notSynchronized
  have htb : c.exceptionTable.toList = tableOf [(0, 5, 6, 32)] := vx_table (x := ⟨"", "", ""⟩) B (hts _ List.mem_cons_self)
  subst hsz
  have hD := hD0.self (sz := s.heap.size)
  replace hP : va_P D vwCl (sg_WX cA ad u) s.heap := hP
  replace hD : va_D (va_A (sg_WX cA ad u) s.heap.size) (sg_WX cA ad u) := hD
  generalize hAe : va_A (sg_WX cA ad u) s.heap.size = A at hD hT ⊢
  have hA : ∀ q : Nat, s.heap.size ≤ q → A q := fun q h => by rw [← hAe]; exact Or.inr h
  have hS : va_S A s.heap s.heap [] := va_S.rf
  have hl := lv_entry ([.ref (ad 0), .int p1]) (n := 3) (Nat.le_of_ble_eq_true rfl)
  rw [lg_entry_eq]
  generalize (lg_sl ([.ref (ad 0), .int p1]) ++ List.replicate (3 - (lg_sl ([.ref (ad 0), .int p1])).length) Slot.unset).toArray = ls at hl ⊢
  replace hl : lv_has ls 3 [(0, .ref (ad 0)), (1, .int p1)] := hl
  refine lv_aload_n hx hb dL_canClose_0 rfl (lv_at hl 0 rfl) ?_
  refine lv_iload_n hx hb dL_canClose_1 rfl (lv_at hl 1 rfl) ?_
  refine sg_gi (vx_runV (As := [.int p1]) (rest := []) ⟨hx, hb, hml, hown, hts⟩ (c_X5_canClose l hlt D cA ad N _ _ R hf _) (cwV 1 hts gL_canClose_X5_canClose rfl rfl rfl (by decide +kernel) ⟨Nat.le_of_ble_eq_true rfl, Nat.le_of_ble_eq_true rfl⟩) (sg_preT hK hP hD hT hS hA (ci := 7) (q0 := 0) rfl rfl) rfl rfl hl.1 rfl (lv_room (Nat.le_of_ble_eq_true rfl)) dL_canClose_2 ⟨Nat.le_of_ble_eq_true rfl, Nat.le_of_ble_eq_true rfl⟩) hD hS hA (fun k v E ce q9 H locs hr1 hE hP hD hS hce hcv hcl => ?_) (fun r v H locs hr1 hP hD hS => ?_)
  · obtain ⟨hk, hu⟩ := hR1 k v hr1
    rcases sg_hx_c hk with ⟨ek, ec⟩ | hk
    · replace ek : k = 5 := ek
      subst ek
      replace hE : E = "java/util/NoSuchElementException" := hE
      subst hE
      refine vx_catch (own := RL) (name := "java/util/NoSuchElementException") hown [] ⟨0, 5, 6, 32⟩ [] (by rw [htb]; rfl) (fun z hz => absurd hz List.not_mem_nil) (by decide) (by decide) (hts (.classLink RL 32 "java/util/NoSuchElementException") (by decide +kernel)) (va_Nw.use rfl (hT.2.2.2.1 (293, "java/util/NoSuchElementException") (by decide))) hce hcv hcl ?_
      refine lv_astore_n (lv' := [(2, .ref q9), (0, .ref (ad 0)), (1, .int p1)]) hx hb dL_canClose_6 rfl hl (by decide) rfl (fun ls hl => ?_)
      refine lv_bipush (v := (-75)) hx hb dL_canClose_7 (by decide) ?_
      exact sg_lri hx hb hr hP hD hS dL_canClose_9 ec hu hlocks (by decide) (by decide)
    · cases hk
  · obtain ⟨hq1, hq2⟩ := hR2 r v hr1
    replace hq1 := Option.some.inj hq1
    exact sg_lri hx hb hr hP hD hS dL_canClose_5 hq1 hq2 hlocks (by decide) (by decide)
set_option maxRecDepth 100000 in
set_option maxHeartbeats 4000000 in
theorem c_L_canOpen (l : Launch) (hlt : l.stackTraces = false) (D : va_G) (cA : Nat → ClassId) (ad : Nat → Nat) (N : Nat) (u : sg_St) (p1 : Int32) (r9 : Int32) (u9 : sg_St) (hf : fL_canOpen N u p1 = some (r9, u9)) : sg_LI l D cA (sg_WX cA ad) yL_canOpen wsL_canOpen ({ frames := 19, cells := 1, slots := 6, locals := 486 }) [.ref (ad 0), .int p1] u 1 6 r9 u9 := by
  obtain ⟨R, hf, hR1, hR2⟩ := sg_hc_s hf
  intro sz
  refine sg_ofWH (cc := cL_canOpen) (maxL := 3) (ret := (some .int)) (by decide) rfl ?_
  intro p e s m args below meth c s₁ B hml hv
  obtain ⟨rfl, ⟨hsz, hP, hK, hD0⟩, hT, hN⟩ := hv
  have hx := B.exec
  have hb := B.bytes
  have hr := B.returns
  have hts := atoms_spec (ws := wsL_canOpen) B.pre
  have hown : s.vm.findClass RL = some m.cls := findClass_of_methodNamed B.named
  have hlocks := B.notSynchronized
  have htb : c.exceptionTable.toList = tableOf [(0, 5, 6, 32)] := vx_table (x := ⟨"", "", ""⟩) B (hts _ List.mem_cons_self)
  subst hsz
  have hD := hD0.self (sz := s.heap.size)
  replace hP : va_P D vwCl (sg_WX cA ad u) s.heap := hP
  replace hD : va_D (va_A (sg_WX cA ad u) s.heap.size) (sg_WX cA ad u) := hD
  generalize hAe : va_A (sg_WX cA ad u) s.heap.size = A at hD hT ⊢
  have hA : ∀ q : Nat, s.heap.size ≤ q → A q := fun q h => by rw [← hAe]; exact Or.inr h
  have hS : va_S A s.heap s.heap [] := va_S.rf
  have hl := lv_entry ([.ref (ad 0), .int p1]) (n := 3) (Nat.le_of_ble_eq_true rfl)
  rw [lg_entry_eq]
  generalize (lg_sl ([.ref (ad 0), .int p1]) ++ List.replicate (3 - (lg_sl ([.ref (ad 0), .int p1])).length) Slot.unset).toArray = ls at hl ⊢
  replace hl : lv_has ls 3 [(0, .ref (ad 0)), (1, .int p1)] := hl
  refine lv_aload_n hx hb dL_canOpen_0 rfl (lv_at hl 0 rfl) ?_
  refine lv_iload_n hx hb dL_canOpen_1 rfl (lv_at hl 1 rfl) ?_
  refine sg_gi (vx_runV (As := [.int p1]) (rest := []) ⟨hx, hb, hml, hown, hts⟩ (c_X5_canOpen l hlt D cA ad N _ _ R hf _) (cwV 1 hts gL_canOpen_X5_canOpen rfl rfl rfl (by decide +kernel) ⟨Nat.le_of_ble_eq_true rfl, Nat.le_of_ble_eq_true rfl⟩) (sg_preT hK hP hD hT hS hA (ci := 7) (q0 := 0) rfl rfl) rfl rfl hl.1 rfl (lv_room (Nat.le_of_ble_eq_true rfl)) dL_canOpen_2 ⟨Nat.le_of_ble_eq_true rfl, Nat.le_of_ble_eq_true rfl⟩) hD hS hA (fun k v E ce q9 H locs hr1 hE hP hD hS hce hcv hcl => ?_) (fun r v H locs hr1 hP hD hS => ?_)
  · obtain ⟨hk, hu⟩ := hR1 k v hr1
    rcases sg_hx_c hk with ⟨ek, ec⟩ | hk
    · replace ek : k = 5 := ek
      subst ek
      replace hE : E = "java/util/NoSuchElementException" := hE
      subst hE
      refine vx_catch (own := RL) (name := "java/util/NoSuchElementException") hown [] ⟨0, 5, 6, 32⟩ [] (by rw [htb]; rfl) (fun z hz => absurd hz List.not_mem_nil) (by decide) (by decide) (hts (.classLink RL 32 "java/util/NoSuchElementException") (by decide +kernel)) (va_Nw.use rfl (hT.2.2.2.1 (293, "java/util/NoSuchElementException") (by decide))) hce hcv hcl ?_
      refine lv_astore_n (lv' := [(2, .ref q9), (0, .ref (ad 0)), (1, .int p1)]) hx hb dL_canOpen_6 rfl hl (by decide) rfl (fun ls hl => ?_)
      refine lv_bipush (v := (-75)) hx hb dL_canOpen_7 (by decide) ?_
      exact sg_lri hx hb hr hP hD hS dL_canOpen_9 ec hu hlocks (by decide) (by decide)
    · cases hk
  · obtain ⟨hq1, hq2⟩ := hR2 r v hr1
    replace hq1 := Option.some.inj hq1
    exact sg_lri hx hb hr hP hD hS dL_canOpen_5 hq1 hq2 hlocks (by decide) (by decide)
set_option maxRecDepth 100000 in
set_option maxHeartbeats 4000000 in
theorem c_L_fault (l : Launch) (hlt : l.stackTraces = false) (D : va_G) (cA : Nat → ClassId) (ad : Nat → Nat) (N : Nat) (u : sg_St) (p1 : Int32) (r9 : Int32) (u9 : sg_St) (hf : fL_fault N u p1 = some (r9, u9)) : sg_LI l D cA (sg_WX cA ad) yL_fault wsL_fault ({ frames := 18, cells := 2, slots := 12, locals := 485 }) [.ref (ad 0), .int p1] u 2 12 r9 u9 := by
  obtain ⟨R, hf, hR1, hR2⟩ := sg_hc_s hf
  intro sz
  refine sg_ofWH (cc := cL_fault) (maxL := 3) (ret := (some .int)) (by decide) rfl ?_
  intro p e s m args below meth c s₁ B hml hv
  obtain ⟨rfl, ⟨hsz, hP, hK, hD0⟩, hT, hN⟩ := hv
  have hx := B.exec
  have hb := B.bytes
  have hr := B.returns
  have hts := atoms_spec (ws := wsL_fault) B.pre
  have hown : s.vm.findClass RL = some m.cls := findClass_of_methodNamed B.named
  have hlocks := B.notSynchronized
  have htb : c.exceptionTable.toList = tableOf [(0, 5, 6, 32), (0, 5, 10, 22)] := vx_table (x := ⟨"", "", ""⟩) B (hts _ List.mem_cons_self)
  subst hsz
  have hD := hD0.self (sz := s.heap.size)
  replace hP : va_P D vwCl (sg_WX cA ad u) s.heap := hP
  replace hD : va_D (va_A (sg_WX cA ad u) s.heap.size) (sg_WX cA ad u) := hD
  generalize hAe : va_A (sg_WX cA ad u) s.heap.size = A at hD hT ⊢
  have hA : ∀ q : Nat, s.heap.size ≤ q → A q := fun q h => by rw [← hAe]; exact Or.inr h
  have hS : va_S A s.heap s.heap [] := va_S.rf
  have hl := lv_entry ([.ref (ad 0), .int p1]) (n := 3) (Nat.le_of_ble_eq_true rfl)
  rw [lg_entry_eq]
  generalize (lg_sl ([.ref (ad 0), .int p1]) ++ List.replicate (3 - (lg_sl ([.ref (ad 0), .int p1])).length) Slot.unset).toArray = ls at hl ⊢
  replace hl : lv_has ls 3 [(0, .ref (ad 0)), (1, .int p1)] := hl
  refine lv_aload_n hx hb dL_fault_0 rfl (lv_at hl 0 rfl) ?_
  refine lv_iload_n hx hb dL_fault_1 rfl (lv_at hl 1 rfl) ?_
  refine sg_gi (vx_runV (As := [.int p1]) (rest := []) ⟨hx, hb, hml, hown, hts⟩ (c_X5_fault l hlt D cA ad N _ _ R hf _) (cwV 1 hts gL_fault_X5_fault rfl rfl rfl (by decide +kernel) ⟨Nat.le_of_ble_eq_true rfl, Nat.le_of_ble_eq_true rfl⟩) (sg_preT hK hP hD hT hS hA (ci := 7) (q0 := 0) rfl rfl) rfl rfl hl.1 rfl (lv_room (Nat.le_of_ble_eq_true rfl)) dL_fault_2 ⟨Nat.le_of_ble_eq_true rfl, Nat.le_of_ble_eq_true rfl⟩) hD hS hA (fun k v E ce q9 H locs hr1 hE hP hD hS hce hcv hcl => ?_) (fun r v H locs hr1 hP hD hS => ?_)
  · obtain ⟨hk, hu⟩ := hR1 k v hr1
    rcases sg_hx_c hk with ⟨ek, ec⟩ | hk
    · replace ek : k = 5 := ek
      subst ek
      replace hE : E = "java/util/NoSuchElementException" := hE
      subst hE
      refine vx_catch (own := RL) (name := "java/util/NoSuchElementException") hown [] ⟨0, 5, 6, 32⟩ [⟨0, 5, 10, 22⟩] (by rw [htb]; rfl) (fun z hz => absurd hz List.not_mem_nil) (by decide) (by decide) (hts (.classLink RL 32 "java/util/NoSuchElementException") (by decide +kernel)) (va_Nw.use rfl (hT.2.2.2.1 (293, "java/util/NoSuchElementException") (by decide))) hce hcv hcl ?_
      refine lv_astore_n (lv' := [(2, .ref q9), (0, .ref (ad 0)), (1, .int p1)]) hx hb dL_fault_6 rfl hl (by decide) rfl (fun ls hl => ?_)
      refine lv_bipush (v := (-75)) hx hb dL_fault_7 (by decide) ?_
      exact sg_lri hx hb hr hP hD hS dL_fault_9 ec hu hlocks (by decide) (by decide)
    · rcases sg_hx_c hk with ⟨ek, ec⟩ | hk
      · replace ek : k = 0 := ek
        subst ek
        replace hE : E = "java/lang/IllegalStateException" := hE
        subst hE
        refine vx_catch (own := RL) (name := "java/lang/IllegalStateException") hown [⟨0, 5, 6, 32⟩] ⟨0, 5, 10, 22⟩ [] (by rw [htb]; rfl) (List.forall_mem_cons.mpr ⟨Or.inr ⟨by decide, "java/util/NoSuchElementException", hts (.classLink RL 32 "java/util/NoSuchElementException") (by decide +kernel), hN ("java/lang/IllegalStateException", "java/util/NoSuchElementException") (by decide +kernel)⟩, fun _ h => absurd h List.not_mem_nil⟩) (by decide) (by decide) (hts (.classLink RL 22 "java/lang/IllegalStateException") (by decide +kernel)) (va_Nw.use rfl (hT.2.2.2.1 (104, "java/lang/IllegalStateException") (by decide))) hce hcv hcl ?_
        refine lv_astore_n (lv' := [(2, .ref q9), (0, .ref (ad 0)), (1, .int p1)]) hx hb dL_fault_10 rfl hl (by decide) rfl (fun ls hl => ?_)
        refine lv_bipush (v := (-79)) hx hb dL_fault_11 (by decide) ?_
        exact sg_lri hx hb hr hP hD hS dL_fault_13 ec hu hlocks (by decide) (by decide)
      · cases hk
  · obtain ⟨hq1, hq2⟩ := hR2 r v hr1
    replace hq1 := Option.some.inj hq1
    exact sg_lri hx hb hr hP hD hS dL_fault_5 hq1 hq2 hlocks (by decide) (by decide)
set_option maxRecDepth 100000 in
set_option maxHeartbeats 4000000 in
theorem c_L_repair (l : Launch) (hlt : l.stackTraces = false) (D : va_G) (cA : Nat → ClassId) (ad : Nat → Nat) (N : Nat) (u : sg_St) (p1 : Int32) (r9 : Int32) (u9 : sg_St) (hf : fL_repair N u p1 = some (r9, u9)) : sg_LI l D cA (sg_WX cA ad) yL_repair wsL_repair ({ frames := 10, cells := 2, slots := 12, locals := 442 }) [.ref (ad 0), .int p1] u 2 12 r9 u9 := by
  obtain ⟨R, hf, hR1, hR2⟩ := sg_hc_s hf
  intro sz
  refine sg_ofWH (cc := cL_repair) (maxL := 3) (ret := (some .int)) (by decide) rfl ?_
  intro p e s m args below meth c s₁ B hml hv
  obtain ⟨rfl, ⟨hsz, hP, hK, hD0⟩, hT, hN⟩ := hv
  have hx := B.exec
  have hb := B.bytes
  have hr := B.returns
  have hts := atoms_spec (ws := wsL_repair) B.pre
  have hown : s.vm.findClass RL = some m.cls := findClass_of_methodNamed B.named
  have hlocks := B.notSynchronized
  have htb : c.exceptionTable.toList = tableOf [(0, 13, 14, 32), (0, 13, 18, 22)] := vx_table (x := ⟨"", "", ""⟩) B (hts _ List.mem_cons_self)
  subst hsz
  have hD := hD0.self (sz := s.heap.size)
  replace hP : va_P D vwCl (sg_WX cA ad u) s.heap := hP
  replace hD : va_D (va_A (sg_WX cA ad u) s.heap.size) (sg_WX cA ad u) := hD
  generalize hAe : va_A (sg_WX cA ad u) s.heap.size = A at hD hT ⊢
  have hA : ∀ q : Nat, s.heap.size ≤ q → A q := fun q h => by rw [← hAe]; exact Or.inr h
  have hS : va_S A s.heap s.heap [] := va_S.rf
  have hl := lv_entry ([.ref (ad 0), .int p1]) (n := 3) (Nat.le_of_ble_eq_true rfl)
  rw [lg_entry_eq]
  generalize (lg_sl ([.ref (ad 0), .int p1]) ++ List.replicate (3 - (lg_sl ([.ref (ad 0), .int p1])).length) Slot.unset).toArray = ls at hl ⊢
  replace hl : lv_has ls 3 [(0, .ref (ad 0)), (1, .int p1)] := hl
  refine lv_aload_n hx hb dL_repair_0 rfl (lv_at hl 0 rfl) ?_
  refine lv_iload_n hx hb dL_repair_1 rfl (lv_at hl 1 rfl) ?_
  refine sg_gi (vx_runV (As := [.int p1]) (rest := []) ⟨hx, hb, hml, hown, hts⟩ (c_X5_repair l hlt D cA ad N _ _ R hf _) (cwV 1 hts gL_repair_X5_repair rfl rfl rfl (by decide +kernel) ⟨Nat.le_of_ble_eq_true rfl, Nat.le_of_ble_eq_true rfl⟩) (sg_preT hK hP hD hT hS hA (ci := 7) (q0 := 0) rfl rfl) rfl rfl hl.1 rfl (lv_room (Nat.le_of_ble_eq_true rfl)) dL_repair_2 ⟨Nat.le_of_ble_eq_true rfl, Nat.le_of_ble_eq_true rfl⟩) hD hS hA (fun k v E ce q9 H locs hr1 hE hP hD hS hce hcv hcl => ?_) (fun r v H locs hr1 hP hD hS => ?_)
  · obtain ⟨hk, hu⟩ := hR1 k v hr1
    rcases sg_hx_c hk with ⟨ek, ec⟩ | hk
    · replace ek : k = 5 := ek
      subst ek
      replace hE : E = "java/util/NoSuchElementException" := hE
      subst hE
      refine vx_catch (own := RL) (name := "java/util/NoSuchElementException") hown [] ⟨0, 13, 14, 32⟩ [⟨0, 13, 18, 22⟩] (by rw [htb]; rfl) (fun z hz => absurd hz List.not_mem_nil) (by decide) (by decide) (hts (.classLink RL 32 "java/util/NoSuchElementException") (by decide +kernel)) (va_Nw.use rfl (hT.2.2.2.1 (293, "java/util/NoSuchElementException") (by decide))) hce hcv hcl ?_
      refine lv_astore_n (lv' := [(2, .ref q9), (0, .ref (ad 0)), (1, .int p1)]) hx hb dL_repair_14 rfl hl (by decide) rfl (fun ls hl => ?_)
      refine lv_bipush (v := (-75)) hx hb dL_repair_15 (by decide) ?_
      exact sg_lri hx hb hr hP hD hS dL_repair_17 ec hu hlocks (by decide) (by decide)
    · rcases sg_hx_c hk with ⟨ek, ec⟩ | hk
      · replace ek : k = 0 := ek
        subst ek
        replace hE : E = "java/lang/IllegalStateException" := hE
        subst hE
        refine vx_catch (own := RL) (name := "java/lang/IllegalStateException") hown [⟨0, 13, 14, 32⟩] ⟨0, 13, 18, 22⟩ [] (by rw [htb]; rfl) (List.forall_mem_cons.mpr ⟨Or.inr ⟨by decide, "java/util/NoSuchElementException", hts (.classLink RL 32 "java/util/NoSuchElementException") (by decide +kernel), hN ("java/lang/IllegalStateException", "java/util/NoSuchElementException") (by decide +kernel)⟩, fun _ h => absurd h List.not_mem_nil⟩) (by decide) (by decide) (hts (.classLink RL 22 "java/lang/IllegalStateException") (by decide +kernel)) (va_Nw.use rfl (hT.2.2.2.1 (104, "java/lang/IllegalStateException") (by decide))) hce hcv hcl ?_
        refine lv_astore_n (lv' := [(2, .ref q9), (0, .ref (ad 0)), (1, .int p1)]) hx hb dL_repair_18 rfl hl (by decide) rfl (fun ls hl => ?_)
        refine lv_bipush (v := (-79)) hx hb dL_repair_19 (by decide) ?_
        exact sg_lri hx hb hr hP hD hS dL_repair_21 ec hu hlocks (by decide) (by decide)
      · cases hk
  · obtain ⟨hq1, hq2⟩ := hR2 r v hr1
    replace hq1 := Option.some.inj hq1
    refine lv_if_eq (tgt := 12) hx hb dL_repair_5 (by decide) (fun hc => ?_) (fun hc => ?_)
    · rw [if_pos hc] at hq1
      refine lv_iconst (v := 0) hx hb dL_repair_12 (by decide) ?_
      exact sg_lri hx hb hr hP hD hS dL_repair_13 hq1 hq2 hlocks (by decide) (by decide)
    · rw [if_neg hc] at hq1
      refine lv_iconst (v := 1) hx hb dL_repair_8 (by decide) ?_
      refine lv_goto (tgt := 13) hx hb dL_repair_9 (by decide) ?_
      exact sg_lri hx hb hr hP hD hS dL_repair_13 hq1 hq2 hlocks (by decide) (by decide)
set_option maxRecDepth 100000 in
set_option maxHeartbeats 4000000 in
theorem c_L_reset (l : Launch) (hlt : l.stackTraces = false) (D : va_G) (cA : Nat → ClassId) (ad : Nat → Nat) (N : Nat) (u : sg_St) (p1 : Int32) (r9 : Int32) (u9 : sg_St) (hf : fL_reset N u p1 = some (r9, u9)) : sg_LI l D cA (sg_WX cA ad) yL_reset wsL_reset ({ frames := 10, cells := 2, slots := 12, locals := 442 }) [.ref (ad 0), .int p1] u 2 12 r9 u9 := by
  obtain ⟨R, hf, hR1, hR2⟩ := sg_hc_s hf
  intro sz
  refine sg_ofWH (cc := cL_reset) (maxL := 3) (ret := (some .int)) (by decide) rfl ?_
  intro p e s m args below meth c s₁ B hml hv
  obtain ⟨rfl, ⟨hsz, hP, hK, hD0⟩, hT, hN⟩ := hv
  have hx := B.exec
  have hb := B.bytes
  have hr := B.returns
  have hts := atoms_spec (ws := wsL_reset) B.pre
  have hown : s.vm.findClass RL = some m.cls := findClass_of_methodNamed B.named
  have hlocks := B.notSynchronized
  have htb : c.exceptionTable.toList = tableOf [(0, 5, 6, 32), (0, 5, 10, 37), (0, 5, 14, 22)] := vx_table (x := ⟨"", "", ""⟩) B (hts _ List.mem_cons_self)
  subst hsz
  have hD := hD0.self (sz := s.heap.size)
  replace hP : va_P D vwCl (sg_WX cA ad u) s.heap := hP
  replace hD : va_D (va_A (sg_WX cA ad u) s.heap.size) (sg_WX cA ad u) := hD
  generalize hAe : va_A (sg_WX cA ad u) s.heap.size = A at hD hT ⊢
  have hA : ∀ q : Nat, s.heap.size ≤ q → A q := fun q h => by rw [← hAe]; exact Or.inr h
  have hS : va_S A s.heap s.heap [] := va_S.rf
  have hl := lv_entry ([.ref (ad 0), .int p1]) (n := 3) (Nat.le_of_ble_eq_true rfl)
  rw [lg_entry_eq]
  generalize (lg_sl ([.ref (ad 0), .int p1]) ++ List.replicate (3 - (lg_sl ([.ref (ad 0), .int p1])).length) Slot.unset).toArray = ls at hl ⊢
  replace hl : lv_has ls 3 [(0, .ref (ad 0)), (1, .int p1)] := hl
  refine lv_aload_n hx hb dL_reset_0 rfl (lv_at hl 0 rfl) ?_
  refine lv_iload_n hx hb dL_reset_1 rfl (lv_at hl 1 rfl) ?_
  refine sg_gi (vx_runV (As := [.int p1]) (rest := []) ⟨hx, hb, hml, hown, hts⟩ (c_X5_reset l hlt D cA ad N _ _ R hf _) (cwV 1 hts gL_reset_X5_reset rfl rfl rfl (by decide +kernel) ⟨Nat.le_of_ble_eq_true rfl, Nat.le_of_ble_eq_true rfl⟩) (sg_preT hK hP hD hT hS hA (ci := 7) (q0 := 0) rfl rfl) rfl rfl hl.1 rfl (lv_room (Nat.le_of_ble_eq_true rfl)) dL_reset_2 ⟨Nat.le_of_ble_eq_true rfl, Nat.le_of_ble_eq_true rfl⟩) hD hS hA (fun k v E ce q9 H locs hr1 hE hP hD hS hce hcv hcl => ?_) (fun r v H locs hr1 hP hD hS => ?_)
  · obtain ⟨hk, hu⟩ := hR1 k v hr1
    rcases sg_hx_c hk with ⟨ek, ec⟩ | hk
    · replace ek : k = 5 := ek
      subst ek
      replace hE : E = "java/util/NoSuchElementException" := hE
      subst hE
      refine vx_catch (own := RL) (name := "java/util/NoSuchElementException") hown [] ⟨0, 5, 6, 32⟩ [⟨0, 5, 10, 37⟩, ⟨0, 5, 14, 22⟩] (by rw [htb]; rfl) (fun z hz => absurd hz List.not_mem_nil) (by decide) (by decide) (hts (.classLink RL 32 "java/util/NoSuchElementException") (by decide +kernel)) (va_Nw.use rfl (hT.2.2.2.1 (293, "java/util/NoSuchElementException") (by decide))) hce hcv hcl ?_
      refine lv_astore_n (lv' := [(2, .ref q9), (0, .ref (ad 0)), (1, .int p1)]) hx hb dL_reset_6 rfl hl (by decide) rfl (fun ls hl => ?_)
      refine lv_bipush (v := (-75)) hx hb dL_reset_7 (by decide) ?_
      exact sg_lri hx hb hr hP hD hS dL_reset_9 ec hu hlocks (by decide) (by decide)
    · rcases sg_hx_c hk with ⟨ek, ec⟩ | hk
      · replace ek : k = 4 := ek
        subst ek
        replace hE : E = "java/lang/UnsupportedOperationException" := hE
        subst hE
        refine vx_catch (own := RL) (name := "java/lang/UnsupportedOperationException") hown [⟨0, 5, 6, 32⟩] ⟨0, 5, 10, 37⟩ [⟨0, 5, 14, 22⟩] (by rw [htb]; rfl) (List.forall_mem_cons.mpr ⟨Or.inr ⟨by decide, "java/util/NoSuchElementException", hts (.classLink RL 32 "java/util/NoSuchElementException") (by decide +kernel), hN ("java/lang/UnsupportedOperationException", "java/util/NoSuchElementException") (by decide +kernel)⟩, fun _ h => absurd h List.not_mem_nil⟩) (by decide) (by decide) (hts (.classLink RL 37 "java/lang/UnsupportedOperationException") (by decide +kernel)) (va_Nw.use rfl (hT.2.2.2.1 (178, "java/lang/UnsupportedOperationException") (by decide))) hce hcv hcl ?_
        refine lv_astore_n (lv' := [(2, .ref q9), (0, .ref (ad 0)), (1, .int p1)]) hx hb dL_reset_10 rfl hl (by decide) rfl (fun ls hl => ?_)
        refine lv_bipush (v := (-76)) hx hb dL_reset_11 (by decide) ?_
        exact sg_lri hx hb hr hP hD hS dL_reset_13 ec hu hlocks (by decide) (by decide)
      · rcases sg_hx_c hk with ⟨ek, ec⟩ | hk
        · replace ek : k = 0 := ek
          subst ek
          replace hE : E = "java/lang/IllegalStateException" := hE
          subst hE
          refine vx_catch (own := RL) (name := "java/lang/IllegalStateException") hown [⟨0, 5, 6, 32⟩, ⟨0, 5, 10, 37⟩] ⟨0, 5, 14, 22⟩ [] (by rw [htb]; rfl) (List.forall_mem_cons.mpr ⟨Or.inr ⟨by decide, "java/util/NoSuchElementException", hts (.classLink RL 32 "java/util/NoSuchElementException") (by decide +kernel), hN ("java/lang/IllegalStateException", "java/util/NoSuchElementException") (by decide +kernel)⟩, List.forall_mem_cons.mpr ⟨Or.inr ⟨by decide, "java/lang/UnsupportedOperationException", hts (.classLink RL 37 "java/lang/UnsupportedOperationException") (by decide +kernel), hN ("java/lang/IllegalStateException", "java/lang/UnsupportedOperationException") (by decide +kernel)⟩, fun _ h => absurd h List.not_mem_nil⟩⟩) (by decide) (by decide) (hts (.classLink RL 22 "java/lang/IllegalStateException") (by decide +kernel)) (va_Nw.use rfl (hT.2.2.2.1 (104, "java/lang/IllegalStateException") (by decide))) hce hcv hcl ?_
          refine lv_astore_n (lv' := [(2, .ref q9), (0, .ref (ad 0)), (1, .int p1)]) hx hb dL_reset_14 rfl hl (by decide) rfl (fun ls hl => ?_)
          refine lv_bipush (v := (-79)) hx hb dL_reset_15 (by decide) ?_
          exact sg_lri hx hb hr hP hD hS dL_reset_17 ec hu hlocks (by decide) (by decide)
        · cases hk
  · obtain ⟨hq1, hq2⟩ := hR2 r v hr1
    replace hq1 := Option.some.inj hq1
    exact sg_lri hx hb hr hP hD hS dL_reset_5 hq1 hq2 hlocks (by decide) (by decide)
set_option maxRecDepth 100000 in
set_option maxHeartbeats 4000000 in
theorem c_L_isSource (l : Launch) (hlt : l.stackTraces = false) (D : va_G) (cA : Nat → ClassId) (ad : Nat → Nat) (N : Nat) (u : sg_St) (p1 : Int32) (r9 : Int32) (u9 : sg_St) (hf : fL_isSource N u p1 = some (r9, u9)) : sg_LI l D cA (sg_WX cA ad) yL_isSource wsL_isSource ({ frames := 10, cells := 1, slots := 6, locals := 442 }) [.ref (ad 0), .int p1] u 1 6 r9 u9 := by
  obtain ⟨R, hf, hR1, hR2⟩ := sg_hc_s hf
  intro sz
  refine sg_ofWH (cc := cL_isSource) (maxL := 3) (ret := (some .int)) (by decide) rfl ?_
  intro p e s m args below meth c s₁ B hml hv
  obtain ⟨rfl, ⟨hsz, hP, hK, hD0⟩, hT, hN⟩ := hv
  have hx := B.exec
  have hb := B.bytes
  have hr := B.returns
  have hts := atoms_spec (ws := wsL_isSource) B.pre
  have hown : s.vm.findClass RL = some m.cls := findClass_of_methodNamed B.named
  have hlocks := B.notSynchronized
  have htb : c.exceptionTable.toList = tableOf [(0, 13, 14, 32)] := vx_table (x := ⟨"", "", ""⟩) B (hts _ List.mem_cons_self)
  subst hsz
  have hD := hD0.self (sz := s.heap.size)
  replace hP : va_P D vwCl (sg_WX cA ad u) s.heap := hP
  replace hD : va_D (va_A (sg_WX cA ad u) s.heap.size) (sg_WX cA ad u) := hD
  generalize hAe : va_A (sg_WX cA ad u) s.heap.size = A at hD hT ⊢
  have hA : ∀ q : Nat, s.heap.size ≤ q → A q := fun q h => by rw [← hAe]; exact Or.inr h
  have hS : va_S A s.heap s.heap [] := va_S.rf
  have hl := lv_entry ([.ref (ad 0), .int p1]) (n := 3) (Nat.le_of_ble_eq_true rfl)
  rw [lg_entry_eq]
  generalize (lg_sl ([.ref (ad 0), .int p1]) ++ List.replicate (3 - (lg_sl ([.ref (ad 0), .int p1])).length) Slot.unset).toArray = ls at hl ⊢
  replace hl : lv_has ls 3 [(0, .ref (ad 0)), (1, .int p1)] := hl
  refine lv_aload_n hx hb dL_isSource_0 rfl (lv_at hl 0 rfl) ?_
  refine lv_iload_n hx hb dL_isSource_1 rfl (lv_at hl 1 rfl) ?_
  refine sg_gi (vx_runV (As := [.int p1]) (rest := []) ⟨hx, hb, hml, hown, hts⟩ (c_X5_isSource l hlt D cA ad N _ _ R hf _) (cwV 1 hts gL_isSource_X5_isSource rfl rfl rfl (by decide +kernel) ⟨Nat.le_of_ble_eq_true rfl, Nat.le_of_ble_eq_true rfl⟩) (sg_preT hK hP hD hT hS hA (ci := 7) (q0 := 0) rfl rfl) rfl rfl hl.1 rfl (lv_room (Nat.le_of_ble_eq_true rfl)) dL_isSource_2 ⟨Nat.le_of_ble_eq_true rfl, Nat.le_of_ble_eq_true rfl⟩) hD hS hA (fun k v E ce q9 H locs hr1 hE hP hD hS hce hcv hcl => ?_) (fun r v H locs hr1 hP hD hS => ?_)
  · obtain ⟨hk, hu⟩ := hR1 k v hr1
    rcases sg_hx_c hk with ⟨ek, ec⟩ | hk
    · replace ek : k = 5 := ek
      subst ek
      replace hE : E = "java/util/NoSuchElementException" := hE
      subst hE
      refine vx_catch (own := RL) (name := "java/util/NoSuchElementException") hown [] ⟨0, 13, 14, 32⟩ [] (by rw [htb]; rfl) (fun z hz => absurd hz List.not_mem_nil) (by decide) (by decide) (hts (.classLink RL 32 "java/util/NoSuchElementException") (by decide +kernel)) (va_Nw.use rfl (hT.2.2.2.1 (293, "java/util/NoSuchElementException") (by decide))) hce hcv hcl ?_
      refine lv_astore_n (lv' := [(2, .ref q9), (0, .ref (ad 0)), (1, .int p1)]) hx hb dL_isSource_14 rfl hl (by decide) rfl (fun ls hl => ?_)
      refine lv_bipush (v := (-75)) hx hb dL_isSource_15 (by decide) ?_
      exact sg_lri hx hb hr hP hD hS dL_isSource_17 ec hu hlocks (by decide) (by decide)
    · cases hk
  · obtain ⟨hq1, hq2⟩ := hR2 r v hr1
    replace hq1 := Option.some.inj hq1
    refine lv_if_eq (tgt := 12) hx hb dL_isSource_5 (by decide) (fun hc => ?_) (fun hc => ?_)
    · rw [if_pos hc] at hq1
      refine lv_iconst (v := 0) hx hb dL_isSource_12 (by decide) ?_
      exact sg_lri hx hb hr hP hD hS dL_isSource_13 hq1 hq2 hlocks (by decide) (by decide)
    · rw [if_neg hc] at hq1
      refine lv_iconst (v := 1) hx hb dL_isSource_8 (by decide) ?_
      refine lv_goto (tgt := 13) hx hb dL_isSource_9 (by decide) ?_
      exact sg_lri hx hb hr hP hD hS dL_isSource_13 hq1 hq2 hlocks (by decide) (by decide)
set_option maxRecDepth 100000 in
set_option maxHeartbeats 4000000 in
theorem c_L_loadOf (l : Launch) (hlt : l.stackTraces = false) (D : va_G) (cA : Nat → ClassId) (ad : Nat → Nat) (N : Nat) (u : sg_St) (p1 : Int32) (r9 : Int32) (u9 : sg_St) (hf : fL_loadOf N u p1 = some (r9, u9)) : sg_LI l D cA (sg_WX cA ad) yL_loadOf wsL_loadOf ({ frames := 10, cells := 1, slots := 6, locals := 442 }) [.ref (ad 0), .int p1] u 1 6 r9 u9 := by
  obtain ⟨R, hf, hR1, hR2⟩ := sg_hc_s hf
  intro sz
  refine sg_ofWH (cc := cL_loadOf) (maxL := 3) (ret := (some .int)) (by decide) rfl ?_
  intro p e s m args below meth c s₁ B hml hv
  obtain ⟨rfl, ⟨hsz, hP, hK, hD0⟩, hT, hN⟩ := hv
  have hx := B.exec
  have hb := B.bytes
  have hr := B.returns
  have hts := atoms_spec (ws := wsL_loadOf) B.pre
  have hown : s.vm.findClass RL = some m.cls := findClass_of_methodNamed B.named
  have hlocks := B.notSynchronized
  have htb : c.exceptionTable.toList = tableOf [(0, 5, 6, 32)] := vx_table (x := ⟨"", "", ""⟩) B (hts _ List.mem_cons_self)
  subst hsz
  have hD := hD0.self (sz := s.heap.size)
  replace hP : va_P D vwCl (sg_WX cA ad u) s.heap := hP
  replace hD : va_D (va_A (sg_WX cA ad u) s.heap.size) (sg_WX cA ad u) := hD
  generalize hAe : va_A (sg_WX cA ad u) s.heap.size = A at hD hT ⊢
  have hA : ∀ q : Nat, s.heap.size ≤ q → A q := fun q h => by rw [← hAe]; exact Or.inr h
  have hS : va_S A s.heap s.heap [] := va_S.rf
  have hl := lv_entry ([.ref (ad 0), .int p1]) (n := 3) (Nat.le_of_ble_eq_true rfl)
  rw [lg_entry_eq]
  generalize (lg_sl ([.ref (ad 0), .int p1]) ++ List.replicate (3 - (lg_sl ([.ref (ad 0), .int p1])).length) Slot.unset).toArray = ls at hl ⊢
  replace hl : lv_has ls 3 [(0, .ref (ad 0)), (1, .int p1)] := hl
  refine lv_aload_n hx hb dL_loadOf_0 rfl (lv_at hl 0 rfl) ?_
  refine lv_iload_n hx hb dL_loadOf_1 rfl (lv_at hl 1 rfl) ?_
  refine sg_gi (vx_runV (As := [.int p1]) (rest := []) ⟨hx, hb, hml, hown, hts⟩ (c_X5_loadOf l hlt D cA ad N _ _ R hf _) (cwV 1 hts gL_loadOf_X5_loadOf rfl rfl rfl (by decide +kernel) ⟨Nat.le_of_ble_eq_true rfl, Nat.le_of_ble_eq_true rfl⟩) (sg_preT hK hP hD hT hS hA (ci := 7) (q0 := 0) rfl rfl) rfl rfl hl.1 rfl (lv_room (Nat.le_of_ble_eq_true rfl)) dL_loadOf_2 ⟨Nat.le_of_ble_eq_true rfl, Nat.le_of_ble_eq_true rfl⟩) hD hS hA (fun k v E ce q9 H locs hr1 hE hP hD hS hce hcv hcl => ?_) (fun r v H locs hr1 hP hD hS => ?_)
  · obtain ⟨hk, hu⟩ := hR1 k v hr1
    rcases sg_hx_c hk with ⟨ek, ec⟩ | hk
    · replace ek : k = 5 := ek
      subst ek
      replace hE : E = "java/util/NoSuchElementException" := hE
      subst hE
      refine vx_catch (own := RL) (name := "java/util/NoSuchElementException") hown [] ⟨0, 5, 6, 32⟩ [] (by rw [htb]; rfl) (fun z hz => absurd hz List.not_mem_nil) (by decide) (by decide) (hts (.classLink RL 32 "java/util/NoSuchElementException") (by decide +kernel)) (va_Nw.use rfl (hT.2.2.2.1 (293, "java/util/NoSuchElementException") (by decide))) hce hcv hcl ?_
      refine lv_astore_n (lv' := [(2, .ref q9), (0, .ref (ad 0)), (1, .int p1)]) hx hb dL_loadOf_6 rfl hl (by decide) rfl (fun ls hl => ?_)
      refine lv_bipush (v := (-75)) hx hb dL_loadOf_7 (by decide) ?_
      exact sg_lri hx hb hr hP hD hS dL_loadOf_9 ec hu hlocks (by decide) (by decide)
    · cases hk
  · obtain ⟨hq1, hq2⟩ := hR2 r v hr1
    replace hq1 := Option.some.inj hq1
    exact sg_lri hx hb hr hP hD hS dL_loadOf_5 hq1 hq2 hlocks (by decide) (by decide)
set_option maxRecDepth 100000 in
set_option maxHeartbeats 4000000 in
theorem c_L_weight (l : Launch) (hlt : l.stackTraces = false) (D : va_G) (cA : Nat → ClassId) (ad : Nat → Nat) (N : Nat) (u : sg_St) (p1 : Int32) (r9 : Int32) (u9 : sg_St) (hf : fL_weight N u p1 = some (r9, u9)) : sg_LI l D cA (sg_WX cA ad) yL_weight wsL_weight ({ frames := 10, cells := 2, slots := 12, locals := 442 }) [.ref (ad 0), .int p1] u 2 12 r9 u9 := by
  obtain ⟨R, hf, hR1, hR2⟩ := sg_hc_s hf
  intro sz
  refine sg_ofWH (cc := cL_weight) (maxL := 3) (ret := (some .int)) (by decide) rfl ?_
  intro p e s m args below meth c s₁ B hml hv
  obtain ⟨rfl, ⟨hsz, hP, hK, hD0⟩, hT, hN⟩ := hv
  have hx := B.exec
  have hb := B.bytes
  have hr := B.returns
  have hts := atoms_spec (ws := wsL_weight) B.pre
  have hown : s.vm.findClass RL = some m.cls := findClass_of_methodNamed B.named
  have hlocks := B.notSynchronized
  have htb : c.exceptionTable.toList = tableOf [(0, 5, 6, 32), (0, 5, 10, 37)] := vx_table (x := ⟨"", "", ""⟩) B (hts _ List.mem_cons_self)
  subst hsz
  have hD := hD0.self (sz := s.heap.size)
  replace hP : va_P D vwCl (sg_WX cA ad u) s.heap := hP
  replace hD : va_D (va_A (sg_WX cA ad u) s.heap.size) (sg_WX cA ad u) := hD
  generalize hAe : va_A (sg_WX cA ad u) s.heap.size = A at hD hT ⊢
  have hA : ∀ q : Nat, s.heap.size ≤ q → A q := fun q h => by rw [← hAe]; exact Or.inr h
  have hS : va_S A s.heap s.heap [] := va_S.rf
  have hl := lv_entry ([.ref (ad 0), .int p1]) (n := 3) (Nat.le_of_ble_eq_true rfl)
  rw [lg_entry_eq]
  generalize (lg_sl ([.ref (ad 0), .int p1]) ++ List.replicate (3 - (lg_sl ([.ref (ad 0), .int p1])).length) Slot.unset).toArray = ls at hl ⊢
  replace hl : lv_has ls 3 [(0, .ref (ad 0)), (1, .int p1)] := hl
  refine lv_aload_n hx hb dL_weight_0 rfl (lv_at hl 0 rfl) ?_
  refine lv_iload_n hx hb dL_weight_1 rfl (lv_at hl 1 rfl) ?_
  refine sg_gi (vx_runV (As := [.int p1]) (rest := []) ⟨hx, hb, hml, hown, hts⟩ (c_X5_weight l hlt D cA ad N _ _ R hf _) (cwV 1 hts gL_weight_X5_weight rfl rfl rfl (by decide +kernel) ⟨Nat.le_of_ble_eq_true rfl, Nat.le_of_ble_eq_true rfl⟩) (sg_preT hK hP hD hT hS hA (ci := 7) (q0 := 0) rfl rfl) rfl rfl hl.1 rfl (lv_room (Nat.le_of_ble_eq_true rfl)) dL_weight_2 ⟨Nat.le_of_ble_eq_true rfl, Nat.le_of_ble_eq_true rfl⟩) hD hS hA (fun k v E ce q9 H locs hr1 hE hP hD hS hce hcv hcl => ?_) (fun r v H locs hr1 hP hD hS => ?_)
  · obtain ⟨hk, hu⟩ := hR1 k v hr1
    rcases sg_hx_c hk with ⟨ek, ec⟩ | hk
    · replace ek : k = 5 := ek
      subst ek
      replace hE : E = "java/util/NoSuchElementException" := hE
      subst hE
      refine vx_catch (own := RL) (name := "java/util/NoSuchElementException") hown [] ⟨0, 5, 6, 32⟩ [⟨0, 5, 10, 37⟩] (by rw [htb]; rfl) (fun z hz => absurd hz List.not_mem_nil) (by decide) (by decide) (hts (.classLink RL 32 "java/util/NoSuchElementException") (by decide +kernel)) (va_Nw.use rfl (hT.2.2.2.1 (293, "java/util/NoSuchElementException") (by decide))) hce hcv hcl ?_
      refine lv_astore_n (lv' := [(2, .ref q9), (0, .ref (ad 0)), (1, .int p1)]) hx hb dL_weight_6 rfl hl (by decide) rfl (fun ls hl => ?_)
      refine lv_bipush (v := (-75)) hx hb dL_weight_7 (by decide) ?_
      exact sg_lri hx hb hr hP hD hS dL_weight_9 ec hu hlocks (by decide) (by decide)
    · rcases sg_hx_c hk with ⟨ek, ec⟩ | hk
      · replace ek : k = 4 := ek
        subst ek
        replace hE : E = "java/lang/UnsupportedOperationException" := hE
        subst hE
        refine vx_catch (own := RL) (name := "java/lang/UnsupportedOperationException") hown [⟨0, 5, 6, 32⟩] ⟨0, 5, 10, 37⟩ [] (by rw [htb]; rfl) (List.forall_mem_cons.mpr ⟨Or.inr ⟨by decide, "java/util/NoSuchElementException", hts (.classLink RL 32 "java/util/NoSuchElementException") (by decide +kernel), hN ("java/lang/UnsupportedOperationException", "java/util/NoSuchElementException") (by decide +kernel)⟩, fun _ h => absurd h List.not_mem_nil⟩) (by decide) (by decide) (hts (.classLink RL 37 "java/lang/UnsupportedOperationException") (by decide +kernel)) (va_Nw.use rfl (hT.2.2.2.1 (178, "java/lang/UnsupportedOperationException") (by decide))) hce hcv hcl ?_
        refine lv_astore_n (lv' := [(2, .ref q9), (0, .ref (ad 0)), (1, .int p1)]) hx hb dL_weight_10 rfl hl (by decide) rfl (fun ls hl => ?_)
        refine lv_bipush (v := (-76)) hx hb dL_weight_11 (by decide) ?_
        exact sg_lri hx hb hr hP hD hS dL_weight_13 ec hu hlocks (by decide) (by decide)
      · cases hk
  · obtain ⟨hq1, hq2⟩ := hR2 r v hr1
    replace hq1 := Option.some.inj hq1
    exact sg_lri hx hb hr hP hD hS dL_weight_5 hq1 hq2 hlocks (by decide) (by decide)
set_option maxRecDepth 100000 in
set_option maxHeartbeats 4000000 in
theorem c_L_isClosed (l : Launch) (hlt : l.stackTraces = false) (D : va_G) (cA : Nat → ClassId) (ad : Nat → Nat) (N : Nat) (u : sg_St) (p1 : Int32) (r9 : Int32) (u9 : sg_St) (hf : fL_isClosed N u p1 = some (r9, u9)) : sg_LI l D cA (sg_WX cA ad) yL_isClosed wsL_isClosed ({ frames := 10, cells := 1, slots := 6, locals := 442 }) [.ref (ad 0), .int p1] u 1 6 r9 u9 := by
  obtain ⟨R, hf, hR1, hR2⟩ := sg_hc_s hf
  intro sz
  refine sg_ofWH (cc := cL_isClosed) (maxL := 3) (ret := (some .int)) (by decide) rfl ?_
  intro p e s m args below meth c s₁ B hml hv
  obtain ⟨rfl, ⟨hsz, hP, hK, hD0⟩, hT, hN⟩ := hv
  have hx := B.exec
  have hb := B.bytes
  have hr := B.returns
  have hts := atoms_spec (ws := wsL_isClosed) B.pre
  have hown : s.vm.findClass RL = some m.cls := findClass_of_methodNamed B.named
  have hlocks := B.notSynchronized
  have htb : c.exceptionTable.toList = tableOf [(0, 13, 14, 32)] := vx_table (x := ⟨"", "", ""⟩) B (hts _ List.mem_cons_self)
  subst hsz
  have hD := hD0.self (sz := s.heap.size)
  replace hP : va_P D vwCl (sg_WX cA ad u) s.heap := hP
  replace hD : va_D (va_A (sg_WX cA ad u) s.heap.size) (sg_WX cA ad u) := hD
  generalize hAe : va_A (sg_WX cA ad u) s.heap.size = A at hD hT ⊢
  have hA : ∀ q : Nat, s.heap.size ≤ q → A q := fun q h => by rw [← hAe]; exact Or.inr h
  have hS : va_S A s.heap s.heap [] := va_S.rf
  have hl := lv_entry ([.ref (ad 0), .int p1]) (n := 3) (Nat.le_of_ble_eq_true rfl)
  rw [lg_entry_eq]
  generalize (lg_sl ([.ref (ad 0), .int p1]) ++ List.replicate (3 - (lg_sl ([.ref (ad 0), .int p1])).length) Slot.unset).toArray = ls at hl ⊢
  replace hl : lv_has ls 3 [(0, .ref (ad 0)), (1, .int p1)] := hl
  refine lv_aload_n hx hb dL_isClosed_0 rfl (lv_at hl 0 rfl) ?_
  refine lv_iload_n hx hb dL_isClosed_1 rfl (lv_at hl 1 rfl) ?_
  refine sg_gi (vx_runV (As := [.int p1]) (rest := []) ⟨hx, hb, hml, hown, hts⟩ (c_X5_isClosed l hlt D cA ad N _ _ R hf _) (cwV 1 hts gL_isClosed_X5_isClosed rfl rfl rfl (by decide +kernel) ⟨Nat.le_of_ble_eq_true rfl, Nat.le_of_ble_eq_true rfl⟩) (sg_preT hK hP hD hT hS hA (ci := 7) (q0 := 0) rfl rfl) rfl rfl hl.1 rfl (lv_room (Nat.le_of_ble_eq_true rfl)) dL_isClosed_2 ⟨Nat.le_of_ble_eq_true rfl, Nat.le_of_ble_eq_true rfl⟩) hD hS hA (fun k v E ce q9 H locs hr1 hE hP hD hS hce hcv hcl => ?_) (fun r v H locs hr1 hP hD hS => ?_)
  · obtain ⟨hk, hu⟩ := hR1 k v hr1
    rcases sg_hx_c hk with ⟨ek, ec⟩ | hk
    · replace ek : k = 5 := ek
      subst ek
      replace hE : E = "java/util/NoSuchElementException" := hE
      subst hE
      refine vx_catch (own := RL) (name := "java/util/NoSuchElementException") hown [] ⟨0, 13, 14, 32⟩ [] (by rw [htb]; rfl) (fun z hz => absurd hz List.not_mem_nil) (by decide) (by decide) (hts (.classLink RL 32 "java/util/NoSuchElementException") (by decide +kernel)) (va_Nw.use rfl (hT.2.2.2.1 (293, "java/util/NoSuchElementException") (by decide))) hce hcv hcl ?_
      refine lv_astore_n (lv' := [(2, .ref q9), (0, .ref (ad 0)), (1, .int p1)]) hx hb dL_isClosed_14 rfl hl (by decide) rfl (fun ls hl => ?_)
      refine lv_bipush (v := (-75)) hx hb dL_isClosed_15 (by decide) ?_
      exact sg_lri hx hb hr hP hD hS dL_isClosed_17 ec hu hlocks (by decide) (by decide)
    · cases hk
  · obtain ⟨hq1, hq2⟩ := hR2 r v hr1
    replace hq1 := Option.some.inj hq1
    refine lv_if_eq (tgt := 12) hx hb dL_isClosed_5 (by decide) (fun hc => ?_) (fun hc => ?_)
    · rw [if_pos hc] at hq1
      refine lv_iconst (v := 0) hx hb dL_isClosed_12 (by decide) ?_
      exact sg_lri hx hb hr hP hD hS dL_isClosed_13 hq1 hq2 hlocks (by decide) (by decide)
    · rw [if_neg hc] at hq1
      refine lv_iconst (v := 1) hx hb dL_isClosed_8 (by decide) ?_
      refine lv_goto (tgt := 13) hx hb dL_isClosed_9 (by decide) ?_
      exact sg_lri hx hb hr hP hD hS dL_isClosed_13 hq1 hq2 hlocks (by decide) (by decide)
set_option maxRecDepth 100000 in
set_option maxHeartbeats 4000000 in
theorem c_L_isLocked (l : Launch) (hlt : l.stackTraces = false) (D : va_G) (cA : Nat → ClassId) (ad : Nat → Nat) (N : Nat) (u : sg_St) (p1 : Int32) (r9 : Int32) (u9 : sg_St) (hf : fL_isLocked N u p1 = some (r9, u9)) : sg_LI l D cA (sg_WX cA ad) yL_isLocked wsL_isLocked ({ frames := 10, cells := 1, slots := 6, locals := 442 }) [.ref (ad 0), .int p1] u 1 6 r9 u9 := by
  obtain ⟨R, hf, hR1, hR2⟩ := sg_hc_s hf
  intro sz
  refine sg_ofWH (cc := cL_isLocked) (maxL := 3) (ret := (some .int)) (by decide) rfl ?_
  intro p e s m args below meth c s₁ B hml hv
  obtain ⟨rfl, ⟨hsz, hP, hK, hD0⟩, hT, hN⟩ := hv
  have hx := B.exec
  have hb := B.bytes
  have hr := B.returns
  have hts := atoms_spec (ws := wsL_isLocked) B.pre
  have hown : s.vm.findClass RL = some m.cls := findClass_of_methodNamed B.named
  have hlocks := B.notSynchronized
  have htb : c.exceptionTable.toList = tableOf [(0, 13, 14, 32)] := vx_table (x := ⟨"", "", ""⟩) B (hts _ List.mem_cons_self)
  subst hsz
  have hD := hD0.self (sz := s.heap.size)
  replace hP : va_P D vwCl (sg_WX cA ad u) s.heap := hP
  replace hD : va_D (va_A (sg_WX cA ad u) s.heap.size) (sg_WX cA ad u) := hD
  generalize hAe : va_A (sg_WX cA ad u) s.heap.size = A at hD hT ⊢
  have hA : ∀ q : Nat, s.heap.size ≤ q → A q := fun q h => by rw [← hAe]; exact Or.inr h
  have hS : va_S A s.heap s.heap [] := va_S.rf
  have hl := lv_entry ([.ref (ad 0), .int p1]) (n := 3) (Nat.le_of_ble_eq_true rfl)
  rw [lg_entry_eq]
  generalize (lg_sl ([.ref (ad 0), .int p1]) ++ List.replicate (3 - (lg_sl ([.ref (ad 0), .int p1])).length) Slot.unset).toArray = ls at hl ⊢
  replace hl : lv_has ls 3 [(0, .ref (ad 0)), (1, .int p1)] := hl
  refine lv_aload_n hx hb dL_isLocked_0 rfl (lv_at hl 0 rfl) ?_
  refine lv_iload_n hx hb dL_isLocked_1 rfl (lv_at hl 1 rfl) ?_
  refine sg_gi (vx_runV (As := [.int p1]) (rest := []) ⟨hx, hb, hml, hown, hts⟩ (c_X5_isLocked l hlt D cA ad N _ _ R hf _) (cwV 1 hts gL_isLocked_X5_isLocked rfl rfl rfl (by decide +kernel) ⟨Nat.le_of_ble_eq_true rfl, Nat.le_of_ble_eq_true rfl⟩) (sg_preT hK hP hD hT hS hA (ci := 7) (q0 := 0) rfl rfl) rfl rfl hl.1 rfl (lv_room (Nat.le_of_ble_eq_true rfl)) dL_isLocked_2 ⟨Nat.le_of_ble_eq_true rfl, Nat.le_of_ble_eq_true rfl⟩) hD hS hA (fun k v E ce q9 H locs hr1 hE hP hD hS hce hcv hcl => ?_) (fun r v H locs hr1 hP hD hS => ?_)
  · obtain ⟨hk, hu⟩ := hR1 k v hr1
    rcases sg_hx_c hk with ⟨ek, ec⟩ | hk
    · replace ek : k = 5 := ek
      subst ek
      replace hE : E = "java/util/NoSuchElementException" := hE
      subst hE
      refine vx_catch (own := RL) (name := "java/util/NoSuchElementException") hown [] ⟨0, 13, 14, 32⟩ [] (by rw [htb]; rfl) (fun z hz => absurd hz List.not_mem_nil) (by decide) (by decide) (hts (.classLink RL 32 "java/util/NoSuchElementException") (by decide +kernel)) (va_Nw.use rfl (hT.2.2.2.1 (293, "java/util/NoSuchElementException") (by decide))) hce hcv hcl ?_
      refine lv_astore_n (lv' := [(2, .ref q9), (0, .ref (ad 0)), (1, .int p1)]) hx hb dL_isLocked_14 rfl hl (by decide) rfl (fun ls hl => ?_)
      refine lv_bipush (v := (-75)) hx hb dL_isLocked_15 (by decide) ?_
      exact sg_lri hx hb hr hP hD hS dL_isLocked_17 ec hu hlocks (by decide) (by decide)
    · cases hk
  · obtain ⟨hq1, hq2⟩ := hR2 r v hr1
    replace hq1 := Option.some.inj hq1
    refine lv_if_eq (tgt := 12) hx hb dL_isLocked_5 (by decide) (fun hc => ?_) (fun hc => ?_)
    · rw [if_pos hc] at hq1
      refine lv_iconst (v := 0) hx hb dL_isLocked_12 (by decide) ?_
      exact sg_lri hx hb hr hP hD hS dL_isLocked_13 hq1 hq2 hlocks (by decide) (by decide)
    · rw [if_neg hc] at hq1
      refine lv_iconst (v := 1) hx hb dL_isLocked_8 (by decide) ?_
      refine lv_goto (tgt := 13) hx hb dL_isLocked_9 (by decide) ?_
      exact sg_lri hx hb hr hP hD hS dL_isLocked_13 hq1 hq2 hlocks (by decide) (by decide)
set_option maxRecDepth 100000 in
set_option maxHeartbeats 4000000 in
theorem c_L_hasFault (l : Launch) (hlt : l.stackTraces = false) (D : va_G) (cA : Nat → ClassId) (ad : Nat → Nat) (N : Nat) (u : sg_St) (p1 : Int32) (r9 : Int32) (u9 : sg_St) (hf : fL_hasFault N u p1 = some (r9, u9)) : sg_LI l D cA (sg_WX cA ad) yL_hasFault wsL_hasFault ({ frames := 10, cells := 1, slots := 6, locals := 442 }) [.ref (ad 0), .int p1] u 1 6 r9 u9 := by
  obtain ⟨R, hf, hR1, hR2⟩ := sg_hc_s hf
  intro sz
  refine sg_ofWH (cc := cL_hasFault) (maxL := 3) (ret := (some .int)) (by decide) rfl ?_
  intro p e s m args below meth c s₁ B hml hv
  obtain ⟨rfl, ⟨hsz, hP, hK, hD0⟩, hT, hN⟩ := hv
  have hx := B.exec
  have hb := B.bytes
  have hr := B.returns
  have hts := atoms_spec (ws := wsL_hasFault) B.pre
  have hown : s.vm.findClass RL = some m.cls := findClass_of_methodNamed B.named
  have hlocks := B.notSynchronized
  have htb : c.exceptionTable.toList = tableOf [(0, 13, 14, 32)] := vx_table (x := ⟨"", "", ""⟩) B (hts _ List.mem_cons_self)
  subst hsz
  have hD := hD0.self (sz := s.heap.size)
  replace hP : va_P D vwCl (sg_WX cA ad u) s.heap := hP
  replace hD : va_D (va_A (sg_WX cA ad u) s.heap.size) (sg_WX cA ad u) := hD
  generalize hAe : va_A (sg_WX cA ad u) s.heap.size = A at hD hT ⊢
  have hA : ∀ q : Nat, s.heap.size ≤ q → A q := fun q h => by rw [← hAe]; exact Or.inr h
  have hS : va_S A s.heap s.heap [] := va_S.rf
  have hl := lv_entry ([.ref (ad 0), .int p1]) (n := 3) (Nat.le_of_ble_eq_true rfl)
  rw [lg_entry_eq]
  generalize (lg_sl ([.ref (ad 0), .int p1]) ++ List.replicate (3 - (lg_sl ([.ref (ad 0), .int p1])).length) Slot.unset).toArray = ls at hl ⊢
  replace hl : lv_has ls 3 [(0, .ref (ad 0)), (1, .int p1)] := hl
  refine lv_aload_n hx hb dL_hasFault_0 rfl (lv_at hl 0 rfl) ?_
  refine lv_iload_n hx hb dL_hasFault_1 rfl (lv_at hl 1 rfl) ?_
  refine sg_gi (vx_runV (As := [.int p1]) (rest := []) ⟨hx, hb, hml, hown, hts⟩ (c_X5_hasFault l hlt D cA ad N _ _ R hf _) (cwV 1 hts gL_hasFault_X5_hasFault rfl rfl rfl (by decide +kernel) ⟨Nat.le_of_ble_eq_true rfl, Nat.le_of_ble_eq_true rfl⟩) (sg_preT hK hP hD hT hS hA (ci := 7) (q0 := 0) rfl rfl) rfl rfl hl.1 rfl (lv_room (Nat.le_of_ble_eq_true rfl)) dL_hasFault_2 ⟨Nat.le_of_ble_eq_true rfl, Nat.le_of_ble_eq_true rfl⟩) hD hS hA (fun k v E ce q9 H locs hr1 hE hP hD hS hce hcv hcl => ?_) (fun r v H locs hr1 hP hD hS => ?_)
  · obtain ⟨hk, hu⟩ := hR1 k v hr1
    rcases sg_hx_c hk with ⟨ek, ec⟩ | hk
    · replace ek : k = 5 := ek
      subst ek
      replace hE : E = "java/util/NoSuchElementException" := hE
      subst hE
      refine vx_catch (own := RL) (name := "java/util/NoSuchElementException") hown [] ⟨0, 13, 14, 32⟩ [] (by rw [htb]; rfl) (fun z hz => absurd hz List.not_mem_nil) (by decide) (by decide) (hts (.classLink RL 32 "java/util/NoSuchElementException") (by decide +kernel)) (va_Nw.use rfl (hT.2.2.2.1 (293, "java/util/NoSuchElementException") (by decide))) hce hcv hcl ?_
      refine lv_astore_n (lv' := [(2, .ref q9), (0, .ref (ad 0)), (1, .int p1)]) hx hb dL_hasFault_14 rfl hl (by decide) rfl (fun ls hl => ?_)
      refine lv_bipush (v := (-75)) hx hb dL_hasFault_15 (by decide) ?_
      exact sg_lri hx hb hr hP hD hS dL_hasFault_17 ec hu hlocks (by decide) (by decide)
    · cases hk
  · obtain ⟨hq1, hq2⟩ := hR2 r v hr1
    replace hq1 := Option.some.inj hq1
    refine lv_if_eq (tgt := 12) hx hb dL_hasFault_5 (by decide) (fun hc => ?_) (fun hc => ?_)
    · rw [if_pos hc] at hq1
      refine lv_iconst (v := 0) hx hb dL_hasFault_12 (by decide) ?_
      exact sg_lri hx hb hr hP hD hS dL_hasFault_13 hq1 hq2 hlocks (by decide) (by decide)
    · rw [if_neg hc] at hq1
      refine lv_iconst (v := 1) hx hb dL_hasFault_8 (by decide) ?_
      refine lv_goto (tgt := 13) hx hb dL_hasFault_9 (by decide) ?_
      exact sg_lri hx hb hr hP hD hS dL_hasFault_13 hq1 hq2 hlocks (by decide) (by decide)
set_option maxRecDepth 100000 in
set_option maxHeartbeats 4000000 in
theorem c_L_islandOf (l : Launch) (hlt : l.stackTraces = false) (D : va_G) (cA : Nat → ClassId) (ad : Nat → Nat) (N : Nat) (u : sg_St) (p1 : Int32) (r9 : Int32) (u9 : sg_St) (hf : fL_islandOf N u p1 = some (r9, u9)) : sg_LI l D cA (sg_WX cA ad) yL_islandOf wsL_islandOf ({ frames := 10, cells := 1, slots := 6, locals := 442 }) [.ref (ad 0), .int p1] u 1 6 r9 u9 := by
  obtain ⟨R, hf, hR1, hR2⟩ := sg_hc_s hf
  intro sz
  refine sg_ofWH (cc := cL_islandOf) (maxL := 3) (ret := (some .int)) (by decide) rfl ?_
  intro p e s m args below meth c s₁ B hml hv
  obtain ⟨rfl, ⟨hsz, hP, hK, hD0⟩, hT, hN⟩ := hv
  have hx := B.exec
  have hb := B.bytes
  have hr := B.returns
  have hts := atoms_spec (ws := wsL_islandOf) B.pre
  have hown : s.vm.findClass RL = some m.cls := findClass_of_methodNamed B.named
  have hlocks := B.notSynchronized
  have htb : c.exceptionTable.toList = tableOf [(0, 5, 6, 32)] := vx_table (x := ⟨"", "", ""⟩) B (hts _ List.mem_cons_self)
  subst hsz
  have hD := hD0.self (sz := s.heap.size)
  replace hP : va_P D vwCl (sg_WX cA ad u) s.heap := hP
  replace hD : va_D (va_A (sg_WX cA ad u) s.heap.size) (sg_WX cA ad u) := hD
  generalize hAe : va_A (sg_WX cA ad u) s.heap.size = A at hD hT ⊢
  have hA : ∀ q : Nat, s.heap.size ≤ q → A q := fun q h => by rw [← hAe]; exact Or.inr h
  have hS : va_S A s.heap s.heap [] := va_S.rf
  have hl := lv_entry ([.ref (ad 0), .int p1]) (n := 3) (Nat.le_of_ble_eq_true rfl)
  rw [lg_entry_eq]
  generalize (lg_sl ([.ref (ad 0), .int p1]) ++ List.replicate (3 - (lg_sl ([.ref (ad 0), .int p1])).length) Slot.unset).toArray = ls at hl ⊢
  replace hl : lv_has ls 3 [(0, .ref (ad 0)), (1, .int p1)] := hl
  refine lv_aload_n hx hb dL_islandOf_0 rfl (lv_at hl 0 rfl) ?_
  refine lv_iload_n hx hb dL_islandOf_1 rfl (lv_at hl 1 rfl) ?_
  refine sg_gi (vx_runV (As := [.int p1]) (rest := []) ⟨hx, hb, hml, hown, hts⟩ (c_X5_islandOf l hlt D cA ad N _ _ R hf _) (cwV 1 hts gL_islandOf_X5_islandOf rfl rfl rfl (by decide +kernel) ⟨Nat.le_of_ble_eq_true rfl, Nat.le_of_ble_eq_true rfl⟩) (sg_preT hK hP hD hT hS hA (ci := 7) (q0 := 0) rfl rfl) rfl rfl hl.1 rfl (lv_room (Nat.le_of_ble_eq_true rfl)) dL_islandOf_2 ⟨Nat.le_of_ble_eq_true rfl, Nat.le_of_ble_eq_true rfl⟩) hD hS hA (fun k v E ce q9 H locs hr1 hE hP hD hS hce hcv hcl => ?_) (fun r v H locs hr1 hP hD hS => ?_)
  · obtain ⟨hk, hu⟩ := hR1 k v hr1
    rcases sg_hx_c hk with ⟨ek, ec⟩ | hk
    · replace ek : k = 5 := ek
      subst ek
      replace hE : E = "java/util/NoSuchElementException" := hE
      subst hE
      refine vx_catch (own := RL) (name := "java/util/NoSuchElementException") hown [] ⟨0, 5, 6, 32⟩ [] (by rw [htb]; rfl) (fun z hz => absurd hz List.not_mem_nil) (by decide) (by decide) (hts (.classLink RL 32 "java/util/NoSuchElementException") (by decide +kernel)) (va_Nw.use rfl (hT.2.2.2.1 (293, "java/util/NoSuchElementException") (by decide))) hce hcv hcl ?_
      refine lv_astore_n (lv' := [(2, .ref q9), (0, .ref (ad 0)), (1, .int p1)]) hx hb dL_islandOf_6 rfl hl (by decide) rfl (fun ls hl => ?_)
      refine lv_bipush (v := (-75)) hx hb dL_islandOf_7 (by decide) ?_
      exact sg_lri hx hb hr hP hD hS dL_islandOf_9 ec hu hlocks (by decide) (by decide)
    · cases hk
  · obtain ⟨hq1, hq2⟩ := hR2 r v hr1
    replace hq1 := Option.some.inj hq1
    exact sg_lri hx hb hr hP hD hS dL_islandOf_5 hq1 hq2 hlocks (by decide) (by decide)
set_option maxRecDepth 100000 in
set_option maxHeartbeats 4000000 in
theorem c_L_islandByRounds (l : Launch) (hlt : l.stackTraces = false) (D : va_G) (cA : Nat → ClassId) (ad : Nat → Nat) (N : Nat) (u : sg_St) (p1 : Int32) (r9 : Int32) (u9 : sg_St) (hf : fL_islandByRounds N u p1 = some (r9, u9)) : sg_LI l D cA (sg_WX cA ad) yL_islandByRounds wsL_islandByRounds ({ frames := 10, cells := 1, slots := 6, locals := 442 }) [.ref (ad 0), .int p1] u 1 6 r9 u9 := by
  obtain ⟨R, hf, hR1, hR2⟩ := sg_hc_s hf
  intro sz
  refine sg_ofWH (cc := cL_islandByRounds) (maxL := 3) (ret := (some .int)) (by decide) rfl ?_
  intro p e s m args below meth c s₁ B hml hv
  obtain ⟨rfl, ⟨hsz, hP, hK, hD0⟩, hT, hN⟩ := hv
  have hx := B.exec
  have hb := B.bytes
  have hr := B.returns
  have hts := atoms_spec (ws := wsL_islandByRounds) B.pre
  have hown : s.vm.findClass RL = some m.cls := findClass_of_methodNamed B.named
  have hlocks := B.notSynchronized
  have htb : c.exceptionTable.toList = tableOf [(0, 5, 6, 32)] := vx_table (x := ⟨"", "", ""⟩) B (hts _ List.mem_cons_self)
  subst hsz
  have hD := hD0.self (sz := s.heap.size)
  replace hP : va_P D vwCl (sg_WX cA ad u) s.heap := hP
  replace hD : va_D (va_A (sg_WX cA ad u) s.heap.size) (sg_WX cA ad u) := hD
  generalize hAe : va_A (sg_WX cA ad u) s.heap.size = A at hD hT ⊢
  have hA : ∀ q : Nat, s.heap.size ≤ q → A q := fun q h => by rw [← hAe]; exact Or.inr h
  have hS : va_S A s.heap s.heap [] := va_S.rf
  have hl := lv_entry ([.ref (ad 0), .int p1]) (n := 3) (Nat.le_of_ble_eq_true rfl)
  rw [lg_entry_eq]
  generalize (lg_sl ([.ref (ad 0), .int p1]) ++ List.replicate (3 - (lg_sl ([.ref (ad 0), .int p1])).length) Slot.unset).toArray = ls at hl ⊢
  replace hl : lv_has ls 3 [(0, .ref (ad 0)), (1, .int p1)] := hl
  refine lv_aload_n hx hb dL_islandByRounds_0 rfl (lv_at hl 0 rfl) ?_
  refine lv_iload_n hx hb dL_islandByRounds_1 rfl (lv_at hl 1 rfl) ?_
  refine sg_gi (vx_runV (As := [.int p1]) (rest := []) ⟨hx, hb, hml, hown, hts⟩ (c_X5_islandByRounds l hlt D cA ad N _ _ R hf _) (cwV 1 hts gL_islandByRounds_X5_islandByRounds rfl rfl rfl (by decide +kernel) ⟨Nat.le_of_ble_eq_true rfl, Nat.le_of_ble_eq_true rfl⟩) (sg_preT hK hP hD hT hS hA (ci := 7) (q0 := 0) rfl rfl) rfl rfl hl.1 rfl (lv_room (Nat.le_of_ble_eq_true rfl)) dL_islandByRounds_2 ⟨Nat.le_of_ble_eq_true rfl, Nat.le_of_ble_eq_true rfl⟩) hD hS hA (fun k v E ce q9 H locs hr1 hE hP hD hS hce hcv hcl => ?_) (fun r v H locs hr1 hP hD hS => ?_)
  · obtain ⟨hk, hu⟩ := hR1 k v hr1
    rcases sg_hx_c hk with ⟨ek, ec⟩ | hk
    · replace ek : k = 5 := ek
      subst ek
      replace hE : E = "java/util/NoSuchElementException" := hE
      subst hE
      refine vx_catch (own := RL) (name := "java/util/NoSuchElementException") hown [] ⟨0, 5, 6, 32⟩ [] (by rw [htb]; rfl) (fun z hz => absurd hz List.not_mem_nil) (by decide) (by decide) (hts (.classLink RL 32 "java/util/NoSuchElementException") (by decide +kernel)) (va_Nw.use rfl (hT.2.2.2.1 (293, "java/util/NoSuchElementException") (by decide))) hce hcv hcl ?_
      refine lv_astore_n (lv' := [(2, .ref q9), (0, .ref (ad 0)), (1, .int p1)]) hx hb dL_islandByRounds_6 rfl hl (by decide) rfl (fun ls hl => ?_)
      refine lv_bipush (v := (-75)) hx hb dL_islandByRounds_7 (by decide) ?_
      exact sg_lri hx hb hr hP hD hS dL_islandByRounds_9 ec hu hlocks (by decide) (by decide)
    · cases hk
  · obtain ⟨hq1, hq2⟩ := hR2 r v hr1
    replace hq1 := Option.some.inj hq1
    exact sg_lri hx hb hr hP hD hS dL_islandByRounds_5 hq1 hq2 hlocks (by decide) (by decide)
set_option maxRecDepth 100000 in
set_option maxHeartbeats 4000000 in
theorem c_L_isLive (l : Launch) (hlt : l.stackTraces = false) (D : va_G) (cA : Nat → ClassId) (ad : Nat → Nat) (N : Nat) (u : sg_St) (p1 : Int32) (r9 : Int32) (u9 : sg_St) (hf : fL_isLive N u p1 = some (r9, u9)) : sg_LI l D cA (sg_WX cA ad) yL_isLive wsL_isLive ({ frames := 10, cells := 1, slots := 6, locals := 442 }) [.ref (ad 0), .int p1] u 1 6 r9 u9 := by
  obtain ⟨R, hf, hR1, hR2⟩ := sg_hc_s hf
  intro sz
  refine sg_ofWH (cc := cL_isLive) (maxL := 3) (ret := (some .int)) (by decide) rfl ?_
  intro p e s m args below meth c s₁ B hml hv
  obtain ⟨rfl, ⟨hsz, hP, hK, hD0⟩, hT, hN⟩ := hv
  have hx := B.exec
  have hb := B.bytes
  have hr := B.returns
  have hts := atoms_spec (ws := wsL_isLive) B.pre
  have hown : s.vm.findClass RL = some m.cls := findClass_of_methodNamed B.named
  have hlocks := B.notSynchronized
  have htb : c.exceptionTable.toList = tableOf [(0, 13, 14, 32)] := vx_table (x := ⟨"", "", ""⟩) B (hts _ List.mem_cons_self)
  subst hsz
  have hD := hD0.self (sz := s.heap.size)
  replace hP : va_P D vwCl (sg_WX cA ad u) s.heap := hP
  replace hD : va_D (va_A (sg_WX cA ad u) s.heap.size) (sg_WX cA ad u) := hD
  generalize hAe : va_A (sg_WX cA ad u) s.heap.size = A at hD hT ⊢
  have hA : ∀ q : Nat, s.heap.size ≤ q → A q := fun q h => by rw [← hAe]; exact Or.inr h
  have hS : va_S A s.heap s.heap [] := va_S.rf
  have hl := lv_entry ([.ref (ad 0), .int p1]) (n := 3) (Nat.le_of_ble_eq_true rfl)
  rw [lg_entry_eq]
  generalize (lg_sl ([.ref (ad 0), .int p1]) ++ List.replicate (3 - (lg_sl ([.ref (ad 0), .int p1])).length) Slot.unset).toArray = ls at hl ⊢
  replace hl : lv_has ls 3 [(0, .ref (ad 0)), (1, .int p1)] := hl
  refine lv_aload_n hx hb dL_isLive_0 rfl (lv_at hl 0 rfl) ?_
  refine lv_iload_n hx hb dL_isLive_1 rfl (lv_at hl 1 rfl) ?_
  refine sg_gi (vx_runV (As := [.int p1]) (rest := []) ⟨hx, hb, hml, hown, hts⟩ (c_X5_isLive l hlt D cA ad N _ _ R hf _) (cwV 1 hts gL_isLive_X5_isLive rfl rfl rfl (by decide +kernel) ⟨Nat.le_of_ble_eq_true rfl, Nat.le_of_ble_eq_true rfl⟩) (sg_preT hK hP hD hT hS hA (ci := 7) (q0 := 0) rfl rfl) rfl rfl hl.1 rfl (lv_room (Nat.le_of_ble_eq_true rfl)) dL_isLive_2 ⟨Nat.le_of_ble_eq_true rfl, Nat.le_of_ble_eq_true rfl⟩) hD hS hA (fun k v E ce q9 H locs hr1 hE hP hD hS hce hcv hcl => ?_) (fun r v H locs hr1 hP hD hS => ?_)
  · obtain ⟨hk, hu⟩ := hR1 k v hr1
    rcases sg_hx_c hk with ⟨ek, ec⟩ | hk
    · replace ek : k = 5 := ek
      subst ek
      replace hE : E = "java/util/NoSuchElementException" := hE
      subst hE
      refine vx_catch (own := RL) (name := "java/util/NoSuchElementException") hown [] ⟨0, 13, 14, 32⟩ [] (by rw [htb]; rfl) (fun z hz => absurd hz List.not_mem_nil) (by decide) (by decide) (hts (.classLink RL 32 "java/util/NoSuchElementException") (by decide +kernel)) (va_Nw.use rfl (hT.2.2.2.1 (293, "java/util/NoSuchElementException") (by decide))) hce hcv hcl ?_
      refine lv_astore_n (lv' := [(2, .ref q9), (0, .ref (ad 0)), (1, .int p1)]) hx hb dL_isLive_14 rfl hl (by decide) rfl (fun ls hl => ?_)
      refine lv_bipush (v := (-75)) hx hb dL_isLive_15 (by decide) ?_
      exact sg_lri hx hb hr hP hD hS dL_isLive_17 ec hu hlocks (by decide) (by decide)
    · cases hk
  · obtain ⟨hq1, hq2⟩ := hR2 r v hr1
    replace hq1 := Option.some.inj hq1
    refine lv_if_eq (tgt := 12) hx hb dL_isLive_5 (by decide) (fun hc => ?_) (fun hc => ?_)
    · rw [if_pos hc] at hq1
      refine lv_iconst (v := 0) hx hb dL_isLive_12 (by decide) ?_
      exact sg_lri hx hb hr hP hD hS dL_isLive_13 hq1 hq2 hlocks (by decide) (by decide)
    · rw [if_neg hc] at hq1
      refine lv_iconst (v := 1) hx hb dL_isLive_8 (by decide) ?_
      refine lv_goto (tgt := 13) hx hb dL_isLive_9 (by decide) ?_
      exact sg_lri hx hb hr hP hD hS dL_isLive_13 hq1 hq2 hlocks (by decide) (by decide)
set_option maxRecDepth 100000 in
set_option maxHeartbeats 4000000 in
theorem c_L_sourceOf (l : Launch) (hlt : l.stackTraces = false) (D : va_G) (cA : Nat → ClassId) (ad : Nat → Nat) (N : Nat) (u : sg_St) (p1 : Int32) (r9 : Int32) (u9 : sg_St) (hf : fL_sourceOf N u p1 = some (r9, u9)) : sg_LI l D cA (sg_WX cA ad) yL_sourceOf wsL_sourceOf ({ frames := 10, cells := 2, slots := 12, locals := 443 }) [.ref (ad 0), .int p1] u 2 12 r9 u9 := by
  obtain ⟨R, hf, hR1, hR2⟩ := sg_hc_s hf
  intro sz
  refine sg_ofWH (cc := cL_sourceOf) (maxL := 3) (ret := (some .int)) (by decide) rfl ?_
  intro p e s m args below meth c s₁ B hml hv
  obtain ⟨rfl, ⟨hsz, hP, hK, hD0⟩, hT, hN⟩ := hv
  have hx := B.exec
  have hb := B.bytes
  have hr := B.returns
  have hts := atoms_spec (ws := wsL_sourceOf) B.pre
  have hown : s.vm.findClass RL = some m.cls := findClass_of_methodNamed B.named
  have hlocks := B.notSynchronized
  have htb : c.exceptionTable.toList = tableOf [(0, 5, 6, 32), (0, 5, 10, 22)] := vx_table (x := ⟨"", "", ""⟩) B (hts _ List.mem_cons_self)
  subst hsz
  have hD := hD0.self (sz := s.heap.size)
  replace hP : va_P D vwCl (sg_WX cA ad u) s.heap := hP
  replace hD : va_D (va_A (sg_WX cA ad u) s.heap.size) (sg_WX cA ad u) := hD
  generalize hAe : va_A (sg_WX cA ad u) s.heap.size = A at hD hT ⊢
  have hA : ∀ q : Nat, s.heap.size ≤ q → A q := fun q h => by rw [← hAe]; exact Or.inr h
  have hS : va_S A s.heap s.heap [] := va_S.rf
  have hl := lv_entry ([.ref (ad 0), .int p1]) (n := 3) (Nat.le_of_ble_eq_true rfl)
  rw [lg_entry_eq]
  generalize (lg_sl ([.ref (ad 0), .int p1]) ++ List.replicate (3 - (lg_sl ([.ref (ad 0), .int p1])).length) Slot.unset).toArray = ls at hl ⊢
  replace hl : lv_has ls 3 [(0, .ref (ad 0)), (1, .int p1)] := hl
  refine lv_aload_n hx hb dL_sourceOf_0 rfl (lv_at hl 0 rfl) ?_
  refine lv_iload_n hx hb dL_sourceOf_1 rfl (lv_at hl 1 rfl) ?_
  refine sg_gi (vx_runV (As := [.int p1]) (rest := []) ⟨hx, hb, hml, hown, hts⟩ (c_X5_sourceOf l hlt D cA ad N _ _ R hf _) (cwV 1 hts gL_sourceOf_X5_sourceOf rfl rfl rfl (by decide +kernel) ⟨Nat.le_of_ble_eq_true rfl, Nat.le_of_ble_eq_true rfl⟩) (sg_preT hK hP hD hT hS hA (ci := 7) (q0 := 0) rfl rfl) rfl rfl hl.1 rfl (lv_room (Nat.le_of_ble_eq_true rfl)) dL_sourceOf_2 ⟨Nat.le_of_ble_eq_true rfl, Nat.le_of_ble_eq_true rfl⟩) hD hS hA (fun k v E ce q9 H locs hr1 hE hP hD hS hce hcv hcl => ?_) (fun r v H locs hr1 hP hD hS => ?_)
  · obtain ⟨hk, hu⟩ := hR1 k v hr1
    rcases sg_hx_c hk with ⟨ek, ec⟩ | hk
    · replace ek : k = 5 := ek
      subst ek
      replace hE : E = "java/util/NoSuchElementException" := hE
      subst hE
      refine vx_catch (own := RL) (name := "java/util/NoSuchElementException") hown [] ⟨0, 5, 6, 32⟩ [⟨0, 5, 10, 22⟩] (by rw [htb]; rfl) (fun z hz => absurd hz List.not_mem_nil) (by decide) (by decide) (hts (.classLink RL 32 "java/util/NoSuchElementException") (by decide +kernel)) (va_Nw.use rfl (hT.2.2.2.1 (293, "java/util/NoSuchElementException") (by decide))) hce hcv hcl ?_
      refine lv_astore_n (lv' := [(2, .ref q9), (0, .ref (ad 0)), (1, .int p1)]) hx hb dL_sourceOf_6 rfl hl (by decide) rfl (fun ls hl => ?_)
      refine lv_bipush (v := (-75)) hx hb dL_sourceOf_7 (by decide) ?_
      exact sg_lri hx hb hr hP hD hS dL_sourceOf_9 ec hu hlocks (by decide) (by decide)
    · rcases sg_hx_c hk with ⟨ek, ec⟩ | hk
      · replace ek : k = 0 := ek
        subst ek
        replace hE : E = "java/lang/IllegalStateException" := hE
        subst hE
        refine vx_catch (own := RL) (name := "java/lang/IllegalStateException") hown [⟨0, 5, 6, 32⟩] ⟨0, 5, 10, 22⟩ [] (by rw [htb]; rfl) (List.forall_mem_cons.mpr ⟨Or.inr ⟨by decide, "java/util/NoSuchElementException", hts (.classLink RL 32 "java/util/NoSuchElementException") (by decide +kernel), hN ("java/lang/IllegalStateException", "java/util/NoSuchElementException") (by decide +kernel)⟩, fun _ h => absurd h List.not_mem_nil⟩) (by decide) (by decide) (hts (.classLink RL 22 "java/lang/IllegalStateException") (by decide +kernel)) (va_Nw.use rfl (hT.2.2.2.1 (104, "java/lang/IllegalStateException") (by decide))) hce hcv hcl ?_
        refine lv_astore_n (lv' := [(2, .ref q9), (0, .ref (ad 0)), (1, .int p1)]) hx hb dL_sourceOf_10 rfl hl (by decide) rfl (fun ls hl => ?_)
        refine lv_bipush (v := (-79)) hx hb dL_sourceOf_11 (by decide) ?_
        exact sg_lri hx hb hr hP hD hS dL_sourceOf_13 ec hu hlocks (by decide) (by decide)
      · cases hk
  · obtain ⟨hq1, hq2⟩ := hR2 r v hr1
    replace hq1 := Option.some.inj hq1
    exact sg_lri hx hb hr hP hD hS dL_sourceOf_5 hq1 hq2 hlocks (by decide) (by decide)
set_option maxRecDepth 100000 in
set_option maxHeartbeats 4000000 in
theorem c_L_islandLoad (l : Launch) (hlt : l.stackTraces = false) (D : va_G) (cA : Nat → ClassId) (ad : Nat → Nat) (N : Nat) (u : sg_St) (p1 : Int32) (r9 : Int32) (u9 : sg_St) (hf : fL_islandLoad N u p1 = some (r9, u9)) : sg_LI l D cA (sg_WX cA ad) yL_islandLoad wsL_islandLoad ({ frames := 10, cells := 1, slots := 6, locals := 442 }) [.ref (ad 0), .int p1] u 1 6 r9 u9 := by
  obtain ⟨R, hf, hR1, hR2⟩ := sg_hc_s hf
  intro sz
  refine sg_ofWH (cc := cL_islandLoad) (maxL := 3) (ret := (some .int)) (by decide) rfl ?_
  intro p e s m args below meth c s₁ B hml hv
  obtain ⟨rfl, ⟨hsz, hP, hK, hD0⟩, hT, hN⟩ := hv
  have hx := B.exec
  have hb := B.bytes
  have hr := B.returns
  have hts := atoms_spec (ws := wsL_islandLoad) B.pre
  have hown : s.vm.findClass RL = some m.cls := findClass_of_methodNamed B.named
  have hlocks := B.notSynchronized
  have htb : c.exceptionTable.toList = tableOf [(0, 5, 6, 32)] := vx_table (x := ⟨"", "", ""⟩) B (hts _ List.mem_cons_self)
  subst hsz
  have hD := hD0.self (sz := s.heap.size)
  replace hP : va_P D vwCl (sg_WX cA ad u) s.heap := hP
  replace hD : va_D (va_A (sg_WX cA ad u) s.heap.size) (sg_WX cA ad u) := hD
  generalize hAe : va_A (sg_WX cA ad u) s.heap.size = A at hD hT ⊢
  have hA : ∀ q : Nat, s.heap.size ≤ q → A q := fun q h => by rw [← hAe]; exact Or.inr h
  have hS : va_S A s.heap s.heap [] := va_S.rf
  have hl := lv_entry ([.ref (ad 0), .int p1]) (n := 3) (Nat.le_of_ble_eq_true rfl)
  rw [lg_entry_eq]
  generalize (lg_sl ([.ref (ad 0), .int p1]) ++ List.replicate (3 - (lg_sl ([.ref (ad 0), .int p1])).length) Slot.unset).toArray = ls at hl ⊢
  replace hl : lv_has ls 3 [(0, .ref (ad 0)), (1, .int p1)] := hl
  refine lv_aload_n hx hb dL_islandLoad_0 rfl (lv_at hl 0 rfl) ?_
  refine lv_iload_n hx hb dL_islandLoad_1 rfl (lv_at hl 1 rfl) ?_
  refine sg_gi (vx_runV (As := [.int p1]) (rest := []) ⟨hx, hb, hml, hown, hts⟩ (c_X5_islandLoad l hlt D cA ad N _ _ R hf _) (cwV 1 hts gL_islandLoad_X5_islandLoad rfl rfl rfl (by decide +kernel) ⟨Nat.le_of_ble_eq_true rfl, Nat.le_of_ble_eq_true rfl⟩) (sg_preT hK hP hD hT hS hA (ci := 7) (q0 := 0) rfl rfl) rfl rfl hl.1 rfl (lv_room (Nat.le_of_ble_eq_true rfl)) dL_islandLoad_2 ⟨Nat.le_of_ble_eq_true rfl, Nat.le_of_ble_eq_true rfl⟩) hD hS hA (fun k v E ce q9 H locs hr1 hE hP hD hS hce hcv hcl => ?_) (fun r v H locs hr1 hP hD hS => ?_)
  · obtain ⟨hk, hu⟩ := hR1 k v hr1
    rcases sg_hx_c hk with ⟨ek, ec⟩ | hk
    · replace ek : k = 5 := ek
      subst ek
      replace hE : E = "java/util/NoSuchElementException" := hE
      subst hE
      refine vx_catch (own := RL) (name := "java/util/NoSuchElementException") hown [] ⟨0, 5, 6, 32⟩ [] (by rw [htb]; rfl) (fun z hz => absurd hz List.not_mem_nil) (by decide) (by decide) (hts (.classLink RL 32 "java/util/NoSuchElementException") (by decide +kernel)) (va_Nw.use rfl (hT.2.2.2.1 (293, "java/util/NoSuchElementException") (by decide))) hce hcv hcl ?_
      refine lv_astore_n (lv' := [(2, .ref q9), (0, .ref (ad 0)), (1, .int p1)]) hx hb dL_islandLoad_6 rfl hl (by decide) rfl (fun ls hl => ?_)
      refine lv_bipush (v := (-75)) hx hb dL_islandLoad_7 (by decide) ?_
      exact sg_lri hx hb hr hP hD hS dL_islandLoad_9 ec hu hlocks (by decide) (by decide)
    · cases hk
  · obtain ⟨hq1, hq2⟩ := hR2 r v hr1
    replace hq1 := Option.some.inj hq1
    exact sg_lri hx hb hr hP hD hS dL_islandLoad_5 hq1 hq2 hlocks (by decide) (by decide)
set_option maxRecDepth 100000 in
set_option maxHeartbeats 4000000 in
theorem c_L_current (l : Launch) (hlt : l.stackTraces = false) (D : va_G) (cA : Nat → ClassId) (ad : Nat → Nat) (N : Nat) (u : sg_St) (p1 : Int32) (r9 : Int32) (u9 : sg_St) (hf : fL_current N u p1 = some (r9, u9)) : sg_LI l D cA (sg_WX cA ad) yL_current wsL_current ({ frames := 18, cells := 1, slots := 6, locals := 465 }) [.ref (ad 0), .int p1] u 1 6 r9 u9 := by
  obtain ⟨R, hf, hR1, hR2⟩ := sg_hc_s hf
  intro sz
  refine sg_ofWH (cc := cL_current) (maxL := 3) (ret := (some .int)) (by decide) rfl ?_
  intro p e s m args below meth c s₁ B hml hv
  obtain ⟨rfl, ⟨hsz, hP, hK, hD0⟩, hT, hN⟩ := hv
  have hx := B.exec
  have hb := B.bytes
  have hr := B.returns
  have hts := atoms_spec (ws := wsL_current) B.pre
  have hown : s.vm.findClass RL = some m.cls := findClass_of_methodNamed B.named
  have hlocks := B.notSynchronized
  have htb : c.exceptionTable.toList = tableOf [(0, 5, 6, 32)] := vx_table (x := ⟨"", "", ""⟩) B (hts _ List.mem_cons_self)
  subst hsz
  have hD := hD0.self (sz := s.heap.size)
  replace hP : va_P D vwCl (sg_WX cA ad u) s.heap := hP
  replace hD : va_D (va_A (sg_WX cA ad u) s.heap.size) (sg_WX cA ad u) := hD
  generalize hAe : va_A (sg_WX cA ad u) s.heap.size = A at hD hT ⊢
  have hA : ∀ q : Nat, s.heap.size ≤ q → A q := fun q h => by rw [← hAe]; exact Or.inr h
  have hS : va_S A s.heap s.heap [] := va_S.rf
  have hl := lv_entry ([.ref (ad 0), .int p1]) (n := 3) (Nat.le_of_ble_eq_true rfl)
  rw [lg_entry_eq]
  generalize (lg_sl ([.ref (ad 0), .int p1]) ++ List.replicate (3 - (lg_sl ([.ref (ad 0), .int p1])).length) Slot.unset).toArray = ls at hl ⊢
  replace hl : lv_has ls 3 [(0, .ref (ad 0)), (1, .int p1)] := hl
  refine lv_aload_n hx hb dL_current_0 rfl (lv_at hl 0 rfl) ?_
  refine lv_iload_n hx hb dL_current_1 rfl (lv_at hl 1 rfl) ?_
  refine sg_gi (vx_runV (As := [.int p1]) (rest := []) ⟨hx, hb, hml, hown, hts⟩ (c_X5_current l hlt D cA ad N _ _ R hf _) (cwV 1 hts gL_current_X5_current rfl rfl rfl (by decide +kernel) ⟨Nat.le_of_ble_eq_true rfl, Nat.le_of_ble_eq_true rfl⟩) (sg_preT hK hP hD hT hS hA (ci := 7) (q0 := 0) rfl rfl) rfl rfl hl.1 rfl (lv_room (Nat.le_of_ble_eq_true rfl)) dL_current_2 ⟨Nat.le_of_ble_eq_true rfl, Nat.le_of_ble_eq_true rfl⟩) hD hS hA (fun k v E ce q9 H locs hr1 hE hP hD hS hce hcv hcl => ?_) (fun r v H locs hr1 hP hD hS => ?_)
  · obtain ⟨hk, hu⟩ := hR1 k v hr1
    rcases sg_hx_c hk with ⟨ek, ec⟩ | hk
    · replace ek : k = 5 := ek
      subst ek
      replace hE : E = "java/util/NoSuchElementException" := hE
      subst hE
      refine vx_catch (own := RL) (name := "java/util/NoSuchElementException") hown [] ⟨0, 5, 6, 32⟩ [] (by rw [htb]; rfl) (fun z hz => absurd hz List.not_mem_nil) (by decide) (by decide) (hts (.classLink RL 32 "java/util/NoSuchElementException") (by decide +kernel)) (va_Nw.use rfl (hT.2.2.2.1 (293, "java/util/NoSuchElementException") (by decide))) hce hcv hcl ?_
      refine lv_astore_n (lv' := [(2, .ref q9), (0, .ref (ad 0)), (1, .int p1)]) hx hb dL_current_6 rfl hl (by decide) rfl (fun ls hl => ?_)
      refine lv_bipush (v := (-75)) hx hb dL_current_7 (by decide) ?_
      exact sg_lri hx hb hr hP hD hS dL_current_9 ec hu hlocks (by decide) (by decide)
    · cases hk
  · obtain ⟨hq1, hq2⟩ := hR2 r v hr1
    replace hq1 := Option.some.inj hq1
    exact sg_lri hx hb hr hP hD hS dL_current_5 hq1 hq2 hlocks (by decide) (by decide)
set_option maxRecDepth 100000 in
set_option maxHeartbeats 4000000 in
theorem c_L_currentByCutting (l : Launch) (hlt : l.stackTraces = false) (D : va_G) (cA : Nat → ClassId) (ad : Nat → Nat) (N : Nat) (u : sg_St) (p1 : Int32) (r9 : Int32) (u9 : sg_St) (hf : fL_currentByCutting N u p1 = some (r9, u9)) : sg_LI l D cA (sg_WX cA ad) yL_currentByCutting wsL_currentByCutting ({ frames := 10, cells := 1, slots := 6, locals := 442 }) [.ref (ad 0), .int p1] u 1 6 r9 u9 := by
  obtain ⟨R, hf, hR1, hR2⟩ := sg_hc_s hf
  intro sz
  refine sg_ofWH (cc := cL_currentByCutting) (maxL := 3) (ret := (some .int)) (by decide) rfl ?_
  intro p e s m args below meth c s₁ B hml hv
  obtain ⟨rfl, ⟨hsz, hP, hK, hD0⟩, hT, hN⟩ := hv
  have hx := B.exec
  have hb := B.bytes
  have hr := B.returns
  have hts := atoms_spec (ws := wsL_currentByCutting) B.pre
  have hown : s.vm.findClass RL = some m.cls := findClass_of_methodNamed B.named
  have hlocks := B.notSynchronized
  have htb : c.exceptionTable.toList = tableOf [(0, 5, 6, 32)] := vx_table (x := ⟨"", "", ""⟩) B (hts _ List.mem_cons_self)
  subst hsz
  have hD := hD0.self (sz := s.heap.size)
  replace hP : va_P D vwCl (sg_WX cA ad u) s.heap := hP
  replace hD : va_D (va_A (sg_WX cA ad u) s.heap.size) (sg_WX cA ad u) := hD
  generalize hAe : va_A (sg_WX cA ad u) s.heap.size = A at hD hT ⊢
  have hA : ∀ q : Nat, s.heap.size ≤ q → A q := fun q h => by rw [← hAe]; exact Or.inr h
  have hS : va_S A s.heap s.heap [] := va_S.rf
  have hl := lv_entry ([.ref (ad 0), .int p1]) (n := 3) (Nat.le_of_ble_eq_true rfl)
  rw [lg_entry_eq]
  generalize (lg_sl ([.ref (ad 0), .int p1]) ++ List.replicate (3 - (lg_sl ([.ref (ad 0), .int p1])).length) Slot.unset).toArray = ls at hl ⊢
  replace hl : lv_has ls 3 [(0, .ref (ad 0)), (1, .int p1)] := hl
  refine lv_aload_n hx hb dL_currentByCutting_0 rfl (lv_at hl 0 rfl) ?_
  refine lv_iload_n hx hb dL_currentByCutting_1 rfl (lv_at hl 1 rfl) ?_
  refine sg_gi (vx_runV (As := [.int p1]) (rest := []) ⟨hx, hb, hml, hown, hts⟩ (c_X5_currentByCutting l hlt D cA ad N _ _ R hf _) (cwV 1 hts gL_currentByCutting_X5_currentByCutting rfl rfl rfl (by decide +kernel) ⟨Nat.le_of_ble_eq_true rfl, Nat.le_of_ble_eq_true rfl⟩) (sg_preT hK hP hD hT hS hA (ci := 7) (q0 := 0) rfl rfl) rfl rfl hl.1 rfl (lv_room (Nat.le_of_ble_eq_true rfl)) dL_currentByCutting_2 ⟨Nat.le_of_ble_eq_true rfl, Nat.le_of_ble_eq_true rfl⟩) hD hS hA (fun k v E ce q9 H locs hr1 hE hP hD hS hce hcv hcl => ?_) (fun r v H locs hr1 hP hD hS => ?_)
  · obtain ⟨hk, hu⟩ := hR1 k v hr1
    rcases sg_hx_c hk with ⟨ek, ec⟩ | hk
    · replace ek : k = 5 := ek
      subst ek
      replace hE : E = "java/util/NoSuchElementException" := hE
      subst hE
      refine vx_catch (own := RL) (name := "java/util/NoSuchElementException") hown [] ⟨0, 5, 6, 32⟩ [] (by rw [htb]; rfl) (fun z hz => absurd hz List.not_mem_nil) (by decide) (by decide) (hts (.classLink RL 32 "java/util/NoSuchElementException") (by decide +kernel)) (va_Nw.use rfl (hT.2.2.2.1 (293, "java/util/NoSuchElementException") (by decide))) hce hcv hcl ?_
      refine lv_astore_n (lv' := [(2, .ref q9), (0, .ref (ad 0)), (1, .int p1)]) hx hb dL_currentByCutting_6 rfl hl (by decide) rfl (fun ls hl => ?_)
      refine lv_bipush (v := (-75)) hx hb dL_currentByCutting_7 (by decide) ?_
      exact sg_lri hx hb hr hP hD hS dL_currentByCutting_9 ec hu hlocks (by decide) (by decide)
    · cases hk
  · obtain ⟨hq1, hq2⟩ := hR2 r v hr1
    replace hq1 := Option.some.inj hq1
    exact sg_lri hx hb hr hP hD hS dL_currentByCutting_5 hq1 hq2 hlocks (by decide) (by decide)
set_option maxRecDepth 100000 in
set_option maxHeartbeats 4000000 in
theorem c_L_distance (l : Launch) (hlt : l.stackTraces = false) (D : va_G) (cA : Nat → ClassId) (ad : Nat → Nat) (N : Nat) (u : sg_St) (p1 : Int32) (r9 : Int32) (u9 : sg_St) (hf : fL_distance N u p1 = some (r9, u9)) : sg_LI l D cA (sg_WX cA ad) yL_distance wsL_distance ({ frames := 18, cells := 2, slots := 12, locals := 481 }) [.ref (ad 0), .int p1] u 2 12 r9 u9 := by
  obtain ⟨R, hf, hR1, hR2⟩ := sg_hc_s hf
  intro sz
  refine sg_ofWH (cc := cL_distance) (maxL := 3) (ret := (some .int)) (by decide) rfl ?_
  intro p e s m args below meth c s₁ B hml hv
  obtain ⟨rfl, ⟨hsz, hP, hK, hD0⟩, hT, hN⟩ := hv
  have hx := B.exec
  have hb := B.bytes
  have hr := B.returns
  have hts := atoms_spec (ws := wsL_distance) B.pre
  have hown : s.vm.findClass RL = some m.cls := findClass_of_methodNamed B.named
  have hlocks := B.notSynchronized
  have htb : c.exceptionTable.toList = tableOf [(0, 5, 6, 32), (0, 5, 10, 22)] := vx_table (x := ⟨"", "", ""⟩) B (hts _ List.mem_cons_self)
  subst hsz
  have hD := hD0.self (sz := s.heap.size)
  replace hP : va_P D vwCl (sg_WX cA ad u) s.heap := hP
  replace hD : va_D (va_A (sg_WX cA ad u) s.heap.size) (sg_WX cA ad u) := hD
  generalize hAe : va_A (sg_WX cA ad u) s.heap.size = A at hD hT ⊢
  have hA : ∀ q : Nat, s.heap.size ≤ q → A q := fun q h => by rw [← hAe]; exact Or.inr h
  have hS : va_S A s.heap s.heap [] := va_S.rf
  have hl := lv_entry ([.ref (ad 0), .int p1]) (n := 3) (Nat.le_of_ble_eq_true rfl)
  rw [lg_entry_eq]
  generalize (lg_sl ([.ref (ad 0), .int p1]) ++ List.replicate (3 - (lg_sl ([.ref (ad 0), .int p1])).length) Slot.unset).toArray = ls at hl ⊢
  replace hl : lv_has ls 3 [(0, .ref (ad 0)), (1, .int p1)] := hl
  refine lv_aload_n hx hb dL_distance_0 rfl (lv_at hl 0 rfl) ?_
  refine lv_iload_n hx hb dL_distance_1 rfl (lv_at hl 1 rfl) ?_
  refine sg_gi (vx_runV (As := [.int p1]) (rest := []) ⟨hx, hb, hml, hown, hts⟩ (c_X5_distance l hlt D cA ad N _ _ R hf _) (cwV 1 hts gL_distance_X5_distance rfl rfl rfl (by decide +kernel) ⟨Nat.le_of_ble_eq_true rfl, Nat.le_of_ble_eq_true rfl⟩) (sg_preT hK hP hD hT hS hA (ci := 7) (q0 := 0) rfl rfl) rfl rfl hl.1 rfl (lv_room (Nat.le_of_ble_eq_true rfl)) dL_distance_2 ⟨Nat.le_of_ble_eq_true rfl, Nat.le_of_ble_eq_true rfl⟩) hD hS hA (fun k v E ce q9 H locs hr1 hE hP hD hS hce hcv hcl => ?_) (fun r v H locs hr1 hP hD hS => ?_)
  · obtain ⟨hk, hu⟩ := hR1 k v hr1
    rcases sg_hx_c hk with ⟨ek, ec⟩ | hk
    · replace ek : k = 5 := ek
      subst ek
      replace hE : E = "java/util/NoSuchElementException" := hE
      subst hE
      refine vx_catch (own := RL) (name := "java/util/NoSuchElementException") hown [] ⟨0, 5, 6, 32⟩ [⟨0, 5, 10, 22⟩] (by rw [htb]; rfl) (fun z hz => absurd hz List.not_mem_nil) (by decide) (by decide) (hts (.classLink RL 32 "java/util/NoSuchElementException") (by decide +kernel)) (va_Nw.use rfl (hT.2.2.2.1 (293, "java/util/NoSuchElementException") (by decide))) hce hcv hcl ?_
      refine lv_astore_n (lv' := [(2, .ref q9), (0, .ref (ad 0)), (1, .int p1)]) hx hb dL_distance_6 rfl hl (by decide) rfl (fun ls hl => ?_)
      refine lv_bipush (v := (-75)) hx hb dL_distance_7 (by decide) ?_
      exact sg_lri hx hb hr hP hD hS dL_distance_9 ec hu hlocks (by decide) (by decide)
    · rcases sg_hx_c hk with ⟨ek, ec⟩ | hk
      · replace ek : k = 0 := ek
        subst ek
        replace hE : E = "java/lang/IllegalStateException" := hE
        subst hE
        refine vx_catch (own := RL) (name := "java/lang/IllegalStateException") hown [⟨0, 5, 6, 32⟩] ⟨0, 5, 10, 22⟩ [] (by rw [htb]; rfl) (List.forall_mem_cons.mpr ⟨Or.inr ⟨by decide, "java/util/NoSuchElementException", hts (.classLink RL 32 "java/util/NoSuchElementException") (by decide +kernel), hN ("java/lang/IllegalStateException", "java/util/NoSuchElementException") (by decide +kernel)⟩, fun _ h => absurd h List.not_mem_nil⟩) (by decide) (by decide) (hts (.classLink RL 22 "java/lang/IllegalStateException") (by decide +kernel)) (va_Nw.use rfl (hT.2.2.2.1 (104, "java/lang/IllegalStateException") (by decide))) hce hcv hcl ?_
        refine lv_astore_n (lv' := [(2, .ref q9), (0, .ref (ad 0)), (1, .int p1)]) hx hb dL_distance_10 rfl hl (by decide) rfl (fun ls hl => ?_)
        refine lv_bipush (v := (-79)) hx hb dL_distance_11 (by decide) ?_
        exact sg_lri hx hb hr hP hD hS dL_distance_13 ec hu hlocks (by decide) (by decide)
      · cases hk
  · obtain ⟨hq1, hq2⟩ := hR2 r v hr1
    replace hq1 := Option.some.inj hq1
    exact sg_lri hx hb hr hP hD hS dL_distance_5 hq1 hq2 hlocks (by decide) (by decide)
set_option maxRecDepth 100000 in
set_option maxHeartbeats 4000000 in
theorem c_L_pathAt (l : Launch) (hlt : l.stackTraces = false) (D : va_G) (cA : Nat → ClassId) (ad : Nat → Nat) (N : Nat) (u : sg_St) (p1 p2 : Int32) (r9 : Int32) (u9 : sg_St) (hf : fL_pathAt N u p1 p2 = some (r9, u9)) : sg_LI l D cA (sg_WX cA ad) yL_pathAt wsL_pathAt ({ frames := 18, cells := 3, slots := 18, locals := 483 }) [.ref (ad 0), .int p1, .int p2] u 3 18 r9 u9 := by
  obtain ⟨R, hf, hR1, hR2⟩ := sg_hc_s hf
  intro sz
  refine sg_ofWH (cc := cL_pathAt) (maxL := 4) (ret := (some .int)) (by decide) rfl ?_
  intro p e s m args below meth c s₁ B hml hv
  obtain ⟨rfl, ⟨hsz, hP, hK, hD0⟩, hT, hN⟩ := hv
  have hx := B.exec
  have hb := B.bytes
  have hr := B.returns
  have hts := atoms_spec (ws := wsL_pathAt) B.pre
  have hown : s.vm.findClass RL = some m.cls := findClass_of_methodNamed B.named
  have hlocks := B.notSynchronized
  have htb : c.exceptionTable.toList = tableOf [(0, 6, 7, 32), (0, 6, 11, 22), (0, 6, 15, 111)] := vx_table (x := ⟨"", "", ""⟩) B (hts _ List.mem_cons_self)
  subst hsz
  have hD := hD0.self (sz := s.heap.size)
  replace hP : va_P D vwCl (sg_WX cA ad u) s.heap := hP
  replace hD : va_D (va_A (sg_WX cA ad u) s.heap.size) (sg_WX cA ad u) := hD
  generalize hAe : va_A (sg_WX cA ad u) s.heap.size = A at hD hT ⊢
  have hA : ∀ q : Nat, s.heap.size ≤ q → A q := fun q h => by rw [← hAe]; exact Or.inr h
  have hS : va_S A s.heap s.heap [] := va_S.rf
  have hl := lv_entry ([.ref (ad 0), .int p1, .int p2]) (n := 4) (Nat.le_of_ble_eq_true rfl)
  rw [lg_entry_eq]
  generalize (lg_sl ([.ref (ad 0), .int p1, .int p2]) ++ List.replicate (4 - (lg_sl ([.ref (ad 0), .int p1, .int p2])).length) Slot.unset).toArray = ls at hl ⊢
  replace hl : lv_has ls 4 [(0, .ref (ad 0)), (1, .int p1), (2, .int p2)] := hl
  refine lv_aload_n hx hb dL_pathAt_0 rfl (lv_at hl 0 rfl) ?_
  refine lv_iload_n hx hb dL_pathAt_1 rfl (lv_at hl 1 rfl) ?_
  refine lv_iload_n hx hb dL_pathAt_2 rfl (lv_at hl 2 rfl) ?_
  refine sg_gi (vx_runV (As := [.int p1, .int p2]) (rest := []) ⟨hx, hb, hml, hown, hts⟩ (c_X5_pathAt l hlt D cA ad N _ _ _ R hf _) (cwV 2 hts gL_pathAt_X5_pathAt rfl rfl rfl (by decide +kernel) ⟨Nat.le_of_ble_eq_true rfl, Nat.le_of_ble_eq_true rfl⟩) (sg_preT hK hP hD hT hS hA (ci := 7) (q0 := 0) rfl rfl) rfl rfl hl.1 rfl (lv_room (Nat.le_of_ble_eq_true rfl)) dL_pathAt_3 ⟨Nat.le_of_ble_eq_true rfl, Nat.le_of_ble_eq_true rfl⟩) hD hS hA (fun k v E ce q9 H locs hr1 hE hP hD hS hce hcv hcl => ?_) (fun r v H locs hr1 hP hD hS => ?_)
  · obtain ⟨hk, hu⟩ := hR1 k v hr1
    rcases sg_hx_c hk with ⟨ek, ec⟩ | hk
    · replace ek : k = 5 := ek
      subst ek
      replace hE : E = "java/util/NoSuchElementException" := hE
      subst hE
      refine vx_catch (own := RL) (name := "java/util/NoSuchElementException") hown [] ⟨0, 6, 7, 32⟩ [⟨0, 6, 11, 22⟩, ⟨0, 6, 15, 111⟩] (by rw [htb]; rfl) (fun z hz => absurd hz List.not_mem_nil) (by decide) (by decide) (hts (.classLink RL 32 "java/util/NoSuchElementException") (by decide +kernel)) (va_Nw.use rfl (hT.2.2.2.1 (293, "java/util/NoSuchElementException") (by decide))) hce hcv hcl ?_
      refine lv_astore_n (lv' := [(3, .ref q9), (0, .ref (ad 0)), (1, .int p1), (2, .int p2)]) hx hb dL_pathAt_7 rfl hl (by decide) rfl (fun ls hl => ?_)
      refine lv_bipush (v := (-75)) hx hb dL_pathAt_8 (by decide) ?_
      exact sg_lri hx hb hr hP hD hS dL_pathAt_10 ec hu hlocks (by decide) (by decide)
    · rcases sg_hx_c hk with ⟨ek, ec⟩ | hk
      · replace ek : k = 0 := ek
        subst ek
        replace hE : E = "java/lang/IllegalStateException" := hE
        subst hE
        refine vx_catch (own := RL) (name := "java/lang/IllegalStateException") hown [⟨0, 6, 7, 32⟩] ⟨0, 6, 11, 22⟩ [⟨0, 6, 15, 111⟩] (by rw [htb]; rfl) (List.forall_mem_cons.mpr ⟨Or.inr ⟨by decide, "java/util/NoSuchElementException", hts (.classLink RL 32 "java/util/NoSuchElementException") (by decide +kernel), hN ("java/lang/IllegalStateException", "java/util/NoSuchElementException") (by decide +kernel)⟩, fun _ h => absurd h List.not_mem_nil⟩) (by decide) (by decide) (hts (.classLink RL 22 "java/lang/IllegalStateException") (by decide +kernel)) (va_Nw.use rfl (hT.2.2.2.1 (104, "java/lang/IllegalStateException") (by decide))) hce hcv hcl ?_
        refine lv_astore_n (lv' := [(3, .ref q9), (0, .ref (ad 0)), (1, .int p1), (2, .int p2)]) hx hb dL_pathAt_11 rfl hl (by decide) rfl (fun ls hl => ?_)
        refine lv_bipush (v := (-79)) hx hb dL_pathAt_12 (by decide) ?_
        exact sg_lri hx hb hr hP hD hS dL_pathAt_14 ec hu hlocks (by decide) (by decide)
      · rcases sg_hx_c hk with ⟨ek, ec⟩ | hk
        · replace ek : k = 2 := ek
          subst ek
          replace hE : E = "java/lang/IndexOutOfBoundsException" := hE
          subst hE
          refine vx_catch (own := RL) (name := "java/lang/IndexOutOfBoundsException") hown [⟨0, 6, 7, 32⟩, ⟨0, 6, 11, 22⟩] ⟨0, 6, 15, 111⟩ [] (by rw [htb]; rfl) (List.forall_mem_cons.mpr ⟨Or.inr ⟨by decide, "java/util/NoSuchElementException", hts (.classLink RL 32 "java/util/NoSuchElementException") (by decide +kernel), hN ("java/lang/IndexOutOfBoundsException", "java/util/NoSuchElementException") (by decide +kernel)⟩, List.forall_mem_cons.mpr ⟨Or.inr ⟨by decide, "java/lang/IllegalStateException", hts (.classLink RL 22 "java/lang/IllegalStateException") (by decide +kernel), hN ("java/lang/IndexOutOfBoundsException", "java/lang/IllegalStateException") (by decide +kernel)⟩, fun _ h => absurd h List.not_mem_nil⟩⟩) (by decide) (by decide) (hts (.classLink RL 111 "java/lang/IndexOutOfBoundsException") (by decide +kernel)) (va_Nw.use rfl (hT.2.2.2.1 (228, "java/lang/IndexOutOfBoundsException") (by decide))) hce hcv hcl ?_
          refine lv_astore_n (lv' := [(3, .ref q9), (0, .ref (ad 0)), (1, .int p1), (2, .int p2)]) hx hb dL_pathAt_15 rfl hl (by decide) rfl (fun ls hl => ?_)
          refine lv_bipush (v := (-77)) hx hb dL_pathAt_16 (by decide) ?_
          exact sg_lri hx hb hr hP hD hS dL_pathAt_18 ec hu hlocks (by decide) (by decide)
        · cases hk
  · obtain ⟨hq1, hq2⟩ := hR2 r v hr1
    replace hq1 := Option.some.inj hq1
    exact sg_lri hx hb hr hP hD hS dL_pathAt_6 hq1 hq2 hlocks (by decide) (by decide)
set_option maxRecDepth 100000 in
set_option maxHeartbeats 4000000 in
theorem c_L_faultCurrent (l : Launch) (hlt : l.stackTraces = false) (D : va_G) (cA : Nat → ClassId) (ad : Nat → Nat) (N : Nat) (u : sg_St) (p1 : Int32) (r9 : Int32) (u9 : sg_St) (hf : fL_faultCurrent N u p1 = some (r9, u9)) : sg_LI l D cA (sg_WX cA ad) yL_faultCurrent wsL_faultCurrent ({ frames := 18, cells := 2, slots := 12, locals := 482 }) [.ref (ad 0), .int p1] u 2 12 r9 u9 := by
  obtain ⟨R, hf, hR1, hR2⟩ := sg_hc_s hf
  intro sz
  refine sg_ofWH (cc := cL_faultCurrent) (maxL := 3) (ret := (some .int)) (by decide) rfl ?_
  intro p e s m args below meth c s₁ B hml hv
  obtain ⟨rfl, ⟨hsz, hP, hK, hD0⟩, hT, hN⟩ := hv
  have hx := B.exec
  have hb := B.bytes
  have hr := B.returns
  have hts := atoms_spec (ws := wsL_faultCurrent) B.pre
  have hown : s.vm.findClass RL = some m.cls := findClass_of_methodNamed B.named
  have hlocks := B.notSynchronized
  have htb : c.exceptionTable.toList = tableOf [(0, 5, 6, 32), (0, 5, 10, 22)] := vx_table (x := ⟨"", "", ""⟩) B (hts _ List.mem_cons_self)
  subst hsz
  have hD := hD0.self (sz := s.heap.size)
  replace hP : va_P D vwCl (sg_WX cA ad u) s.heap := hP
  replace hD : va_D (va_A (sg_WX cA ad u) s.heap.size) (sg_WX cA ad u) := hD
  generalize hAe : va_A (sg_WX cA ad u) s.heap.size = A at hD hT ⊢
  have hA : ∀ q : Nat, s.heap.size ≤ q → A q := fun q h => by rw [← hAe]; exact Or.inr h
  have hS : va_S A s.heap s.heap [] := va_S.rf
  have hl := lv_entry ([.ref (ad 0), .int p1]) (n := 3) (Nat.le_of_ble_eq_true rfl)
  rw [lg_entry_eq]
  generalize (lg_sl ([.ref (ad 0), .int p1]) ++ List.replicate (3 - (lg_sl ([.ref (ad 0), .int p1])).length) Slot.unset).toArray = ls at hl ⊢
  replace hl : lv_has ls 3 [(0, .ref (ad 0)), (1, .int p1)] := hl
  refine lv_aload_n hx hb dL_faultCurrent_0 rfl (lv_at hl 0 rfl) ?_
  refine lv_iload_n hx hb dL_faultCurrent_1 rfl (lv_at hl 1 rfl) ?_
  refine sg_gi (vx_runV (As := [.int p1]) (rest := []) ⟨hx, hb, hml, hown, hts⟩ (c_X5_faultCurrent l hlt D cA ad N _ _ R hf _) (cwV 1 hts gL_faultCurrent_X5_faultCurrent rfl rfl rfl (by decide +kernel) ⟨Nat.le_of_ble_eq_true rfl, Nat.le_of_ble_eq_true rfl⟩) (sg_preT hK hP hD hT hS hA (ci := 7) (q0 := 0) rfl rfl) rfl rfl hl.1 rfl (lv_room (Nat.le_of_ble_eq_true rfl)) dL_faultCurrent_2 ⟨Nat.le_of_ble_eq_true rfl, Nat.le_of_ble_eq_true rfl⟩) hD hS hA (fun k v E ce q9 H locs hr1 hE hP hD hS hce hcv hcl => ?_) (fun r v H locs hr1 hP hD hS => ?_)
  · obtain ⟨hk, hu⟩ := hR1 k v hr1
    rcases sg_hx_c hk with ⟨ek, ec⟩ | hk
    · replace ek : k = 5 := ek
      subst ek
      replace hE : E = "java/util/NoSuchElementException" := hE
      subst hE
      refine vx_catch (own := RL) (name := "java/util/NoSuchElementException") hown [] ⟨0, 5, 6, 32⟩ [⟨0, 5, 10, 22⟩] (by rw [htb]; rfl) (fun z hz => absurd hz List.not_mem_nil) (by decide) (by decide) (hts (.classLink RL 32 "java/util/NoSuchElementException") (by decide +kernel)) (va_Nw.use rfl (hT.2.2.2.1 (293, "java/util/NoSuchElementException") (by decide))) hce hcv hcl ?_
      refine lv_astore_n (lv' := [(2, .ref q9), (0, .ref (ad 0)), (1, .int p1)]) hx hb dL_faultCurrent_6 rfl hl (by decide) rfl (fun ls hl => ?_)
      refine lv_bipush (v := (-75)) hx hb dL_faultCurrent_7 (by decide) ?_
      exact sg_lri hx hb hr hP hD hS dL_faultCurrent_9 ec hu hlocks (by decide) (by decide)
    · rcases sg_hx_c hk with ⟨ek, ec⟩ | hk
      · replace ek : k = 0 := ek
        subst ek
        replace hE : E = "java/lang/IllegalStateException" := hE
        subst hE
        refine vx_catch (own := RL) (name := "java/lang/IllegalStateException") hown [⟨0, 5, 6, 32⟩] ⟨0, 5, 10, 22⟩ [] (by rw [htb]; rfl) (List.forall_mem_cons.mpr ⟨Or.inr ⟨by decide, "java/util/NoSuchElementException", hts (.classLink RL 32 "java/util/NoSuchElementException") (by decide +kernel), hN ("java/lang/IllegalStateException", "java/util/NoSuchElementException") (by decide +kernel)⟩, fun _ h => absurd h List.not_mem_nil⟩) (by decide) (by decide) (hts (.classLink RL 22 "java/lang/IllegalStateException") (by decide +kernel)) (va_Nw.use rfl (hT.2.2.2.1 (104, "java/lang/IllegalStateException") (by decide))) hce hcv hcl ?_
        refine lv_astore_n (lv' := [(2, .ref q9), (0, .ref (ad 0)), (1, .int p1)]) hx hb dL_faultCurrent_10 rfl hl (by decide) rfl (fun ls hl => ?_)
        refine lv_bipush (v := (-79)) hx hb dL_faultCurrent_11 (by decide) ?_
        exact sg_lri hx hb hr hP hD hS dL_faultCurrent_13 ec hu hlocks (by decide) (by decide)
      · cases hk
  · obtain ⟨hq1, hq2⟩ := hR2 r v hr1
    replace hq1 := Option.some.inj hq1
    exact sg_lri hx hb hr hP hD hS dL_faultCurrent_5 hq1 hq2 hlocks (by decide) (by decide)
set_option maxRecDepth 100000 in
set_option maxHeartbeats 4000000 in
theorem c_L_tripTime (l : Launch) (hlt : l.stackTraces = false) (D : va_G) (cA : Nat → ClassId) (ad : Nat → Nat) (N : Nat) (u : sg_St) (p1 p2 : Int32) (r9 : Int32) (u9 : sg_St) (hf : fL_tripTime N u p1 p2 = some (r9, u9)) : sg_LI l D cA (sg_WX cA ad) yL_tripTime wsL_tripTime ({ frames := 10, cells := 3, slots := 18, locals := 443 }) [.ref (ad 0), .int p1, .int p2] u 3 18 r9 u9 := by
  obtain ⟨R, hf, hR1, hR2⟩ := sg_hc_s hf
  intro sz
  refine sg_ofWH (cc := cL_tripTime) (maxL := 4) (ret := (some .int)) (by decide) rfl ?_
  intro p e s m args below meth c s₁ B hml hv
  obtain ⟨rfl, ⟨hsz, hP, hK, hD0⟩, hT, hN⟩ := hv
  have hx := B.exec
  have hb := B.bytes
  have hr := B.returns
  have hts := atoms_spec (ws := wsL_tripTime) B.pre
  have hown : s.vm.findClass RL = some m.cls := findClass_of_methodNamed B.named
  have hlocks := B.notSynchronized
  have htb : c.exceptionTable.toList = tableOf [(0, 6, 7, 32), (0, 6, 11, 20), (0, 6, 15, 37)] := vx_table (x := ⟨"", "", ""⟩) B (hts _ List.mem_cons_self)
  subst hsz
  have hD := hD0.self (sz := s.heap.size)
  replace hP : va_P D vwCl (sg_WX cA ad u) s.heap := hP
  replace hD : va_D (va_A (sg_WX cA ad u) s.heap.size) (sg_WX cA ad u) := hD
  generalize hAe : va_A (sg_WX cA ad u) s.heap.size = A at hD hT ⊢
  have hA : ∀ q : Nat, s.heap.size ≤ q → A q := fun q h => by rw [← hAe]; exact Or.inr h
  have hS : va_S A s.heap s.heap [] := va_S.rf
  have hl := lv_entry ([.ref (ad 0), .int p1, .int p2]) (n := 4) (Nat.le_of_ble_eq_true rfl)
  rw [lg_entry_eq]
  generalize (lg_sl ([.ref (ad 0), .int p1, .int p2]) ++ List.replicate (4 - (lg_sl ([.ref (ad 0), .int p1, .int p2])).length) Slot.unset).toArray = ls at hl ⊢
  replace hl : lv_has ls 4 [(0, .ref (ad 0)), (1, .int p1), (2, .int p2)] := hl
  refine lv_aload_n hx hb dL_tripTime_0 rfl (lv_at hl 0 rfl) ?_
  refine lv_iload_n hx hb dL_tripTime_1 rfl (lv_at hl 1 rfl) ?_
  refine lv_iload_n hx hb dL_tripTime_2 rfl (lv_at hl 2 rfl) ?_
  refine sg_gi (vx_runV (As := [.int p1, .int p2]) (rest := []) ⟨hx, hb, hml, hown, hts⟩ (c_X5_tripTime l hlt D cA ad N _ _ _ R hf _) (cwV 2 hts gL_tripTime_X5_tripTime rfl rfl rfl (by decide +kernel) ⟨Nat.le_of_ble_eq_true rfl, Nat.le_of_ble_eq_true rfl⟩) (sg_preT hK hP hD hT hS hA (ci := 7) (q0 := 0) rfl rfl) rfl rfl hl.1 rfl (lv_room (Nat.le_of_ble_eq_true rfl)) dL_tripTime_3 ⟨Nat.le_of_ble_eq_true rfl, Nat.le_of_ble_eq_true rfl⟩) hD hS hA (fun k v E ce q9 H locs hr1 hE hP hD hS hce hcv hcl => ?_) (fun r v H locs hr1 hP hD hS => ?_)
  · obtain ⟨hk, hu⟩ := hR1 k v hr1
    rcases sg_hx_c hk with ⟨ek, ec⟩ | hk
    · replace ek : k = 5 := ek
      subst ek
      replace hE : E = "java/util/NoSuchElementException" := hE
      subst hE
      refine vx_catch (own := RL) (name := "java/util/NoSuchElementException") hown [] ⟨0, 6, 7, 32⟩ [⟨0, 6, 11, 20⟩, ⟨0, 6, 15, 37⟩] (by rw [htb]; rfl) (fun z hz => absurd hz List.not_mem_nil) (by decide) (by decide) (hts (.classLink RL 32 "java/util/NoSuchElementException") (by decide +kernel)) (va_Nw.use rfl (hT.2.2.2.1 (293, "java/util/NoSuchElementException") (by decide))) hce hcv hcl ?_
      refine lv_astore_n (lv' := [(3, .ref q9), (0, .ref (ad 0)), (1, .int p1), (2, .int p2)]) hx hb dL_tripTime_7 rfl hl (by decide) rfl (fun ls hl => ?_)
      refine lv_bipush (v := (-75)) hx hb dL_tripTime_8 (by decide) ?_
      exact sg_lri hx hb hr hP hD hS dL_tripTime_10 ec hu hlocks (by decide) (by decide)
    · rcases sg_hx_c hk with ⟨ek, ec⟩ | hk
      · replace ek : k = 1 := ek
        subst ek
        replace hE : E = "java/lang/IllegalArgumentException" := hE
        subst hE
        refine vx_catch (own := RL) (name := "java/lang/IllegalArgumentException") hown [⟨0, 6, 7, 32⟩] ⟨0, 6, 11, 20⟩ [⟨0, 6, 15, 37⟩] (by rw [htb]; rfl) (List.forall_mem_cons.mpr ⟨Or.inr ⟨by decide, "java/util/NoSuchElementException", hts (.classLink RL 32 "java/util/NoSuchElementException") (by decide +kernel), hN ("java/lang/IllegalArgumentException", "java/util/NoSuchElementException") (by decide +kernel)⟩, fun _ h => absurd h List.not_mem_nil⟩) (by decide) (by decide) (hts (.classLink RL 20 "java/lang/IllegalArgumentException") (by decide +kernel)) (va_Nw.use rfl (hT.2.2.2.1 (54, "java/lang/IllegalArgumentException") (by decide))) hce hcv hcl ?_
        refine lv_astore_n (lv' := [(3, .ref q9), (0, .ref (ad 0)), (1, .int p1), (2, .int p2)]) hx hb dL_tripTime_11 rfl hl (by decide) rfl (fun ls hl => ?_)
        refine lv_bipush (v := (-78)) hx hb dL_tripTime_12 (by decide) ?_
        exact sg_lri hx hb hr hP hD hS dL_tripTime_14 ec hu hlocks (by decide) (by decide)
      · rcases sg_hx_c hk with ⟨ek, ec⟩ | hk
        · replace ek : k = 4 := ek
          subst ek
          replace hE : E = "java/lang/UnsupportedOperationException" := hE
          subst hE
          refine vx_catch (own := RL) (name := "java/lang/UnsupportedOperationException") hown [⟨0, 6, 7, 32⟩, ⟨0, 6, 11, 20⟩] ⟨0, 6, 15, 37⟩ [] (by rw [htb]; rfl) (List.forall_mem_cons.mpr ⟨Or.inr ⟨by decide, "java/util/NoSuchElementException", hts (.classLink RL 32 "java/util/NoSuchElementException") (by decide +kernel), hN ("java/lang/UnsupportedOperationException", "java/util/NoSuchElementException") (by decide +kernel)⟩, List.forall_mem_cons.mpr ⟨Or.inr ⟨by decide, "java/lang/IllegalArgumentException", hts (.classLink RL 20 "java/lang/IllegalArgumentException") (by decide +kernel), hN ("java/lang/UnsupportedOperationException", "java/lang/IllegalArgumentException") (by decide +kernel)⟩, fun _ h => absurd h List.not_mem_nil⟩⟩) (by decide) (by decide) (hts (.classLink RL 37 "java/lang/UnsupportedOperationException") (by decide +kernel)) (va_Nw.use rfl (hT.2.2.2.1 (178, "java/lang/UnsupportedOperationException") (by decide))) hce hcv hcl ?_
          refine lv_astore_n (lv' := [(3, .ref q9), (0, .ref (ad 0)), (1, .int p1), (2, .int p2)]) hx hb dL_tripTime_15 rfl hl (by decide) rfl (fun ls hl => ?_)
          refine lv_bipush (v := (-76)) hx hb dL_tripTime_16 (by decide) ?_
          exact sg_lri hx hb hr hP hD hS dL_tripTime_18 ec hu hlocks (by decide) (by decide)
        · cases hk
  · obtain ⟨hq1, hq2⟩ := hR2 r v hr1
    replace hq1 := Option.some.inj hq1
    exact sg_lri hx hb hr hP hD hS dL_tripTime_6 hq1 hq2 hlocks (by decide) (by decide)
set_option maxRecDepth 100000 in
set_option maxHeartbeats 4000000 in
theorem c_L_wouldTrip (l : Launch) (hlt : l.stackTraces = false) (D : va_G) (cA : Nat → ClassId) (ad : Nat → Nat) (N : Nat) (u : sg_St) (p1 : Int32) (r9 : Int32) (u9 : sg_St) (hf : fL_wouldTrip N u p1 = some (r9, u9)) : sg_LI l D cA (sg_WX cA ad) yL_wouldTrip wsL_wouldTrip ({ frames := 18, cells := 1, slots := 6, locals := 483 }) [.ref (ad 0), .int p1] u 1 6 r9 u9 := by
  obtain ⟨R, hf, hR1, hR2⟩ := sg_hc_s hf
  intro sz
  refine sg_ofWH (cc := cL_wouldTrip) (maxL := 3) (ret := (some .int)) (by decide) rfl ?_
  intro p e s m args below meth c s₁ B hml hv
  obtain ⟨rfl, ⟨hsz, hP, hK, hD0⟩, hT, hN⟩ := hv
  have hx := B.exec
  have hb := B.bytes
  have hr := B.returns
  have hts := atoms_spec (ws := wsL_wouldTrip) B.pre
  have hown : s.vm.findClass RL = some m.cls := findClass_of_methodNamed B.named
  have hlocks := B.notSynchronized
  have htb : c.exceptionTable.toList = tableOf [(0, 5, 6, 32)] := vx_table (x := ⟨"", "", ""⟩) B (hts _ List.mem_cons_self)
  subst hsz
  have hD := hD0.self (sz := s.heap.size)
  replace hP : va_P D vwCl (sg_WX cA ad u) s.heap := hP
  replace hD : va_D (va_A (sg_WX cA ad u) s.heap.size) (sg_WX cA ad u) := hD
  generalize hAe : va_A (sg_WX cA ad u) s.heap.size = A at hD hT ⊢
  have hA : ∀ q : Nat, s.heap.size ≤ q → A q := fun q h => by rw [← hAe]; exact Or.inr h
  have hS : va_S A s.heap s.heap [] := va_S.rf
  have hl := lv_entry ([.ref (ad 0), .int p1]) (n := 3) (Nat.le_of_ble_eq_true rfl)
  rw [lg_entry_eq]
  generalize (lg_sl ([.ref (ad 0), .int p1]) ++ List.replicate (3 - (lg_sl ([.ref (ad 0), .int p1])).length) Slot.unset).toArray = ls at hl ⊢
  replace hl : lv_has ls 3 [(0, .ref (ad 0)), (1, .int p1)] := hl
  refine lv_aload_n hx hb dL_wouldTrip_0 rfl (lv_at hl 0 rfl) ?_
  refine lv_iload_n hx hb dL_wouldTrip_1 rfl (lv_at hl 1 rfl) ?_
  refine sg_gi (vx_runV (As := [.int p1]) (rest := []) ⟨hx, hb, hml, hown, hts⟩ (c_X5_wouldTrip l hlt D cA ad N _ _ R hf _) (cwV 1 hts gL_wouldTrip_X5_wouldTrip rfl rfl rfl (by decide +kernel) ⟨Nat.le_of_ble_eq_true rfl, Nat.le_of_ble_eq_true rfl⟩) (sg_preT hK hP hD hT hS hA (ci := 7) (q0 := 0) rfl rfl) rfl rfl hl.1 rfl (lv_room (Nat.le_of_ble_eq_true rfl)) dL_wouldTrip_2 ⟨Nat.le_of_ble_eq_true rfl, Nat.le_of_ble_eq_true rfl⟩) hD hS hA (fun k v E ce q9 H locs hr1 hE hP hD hS hce hcv hcl => ?_) (fun r v H locs hr1 hP hD hS => ?_)
  · obtain ⟨hk, hu⟩ := hR1 k v hr1
    rcases sg_hx_c hk with ⟨ek, ec⟩ | hk
    · replace ek : k = 5 := ek
      subst ek
      replace hE : E = "java/util/NoSuchElementException" := hE
      subst hE
      refine vx_catch (own := RL) (name := "java/util/NoSuchElementException") hown [] ⟨0, 5, 6, 32⟩ [] (by rw [htb]; rfl) (fun z hz => absurd hz List.not_mem_nil) (by decide) (by decide) (hts (.classLink RL 32 "java/util/NoSuchElementException") (by decide +kernel)) (va_Nw.use rfl (hT.2.2.2.1 (293, "java/util/NoSuchElementException") (by decide))) hce hcv hcl ?_
      refine lv_astore_n (lv' := [(2, .ref q9), (0, .ref (ad 0)), (1, .int p1)]) hx hb dL_wouldTrip_6 rfl hl (by decide) rfl (fun ls hl => ?_)
      refine lv_bipush (v := (-75)) hx hb dL_wouldTrip_7 (by decide) ?_
      exact sg_lri hx hb hr hP hD hS dL_wouldTrip_9 ec hu hlocks (by decide) (by decide)
    · cases hk
  · obtain ⟨hq1, hq2⟩ := hR2 r v hr1
    replace hq1 := Option.some.inj hq1
    exact sg_lri hx hb hr hP hD hS dL_wouldTrip_5 hq1 hq2 hlocks (by decide) (by decide)
set_option maxRecDepth 100000 in
set_option maxHeartbeats 4000000 in
theorem c_L_isSelective (l : Launch) (hlt : l.stackTraces = false) (D : va_G) (cA : Nat → ClassId) (ad : Nat → Nat) (N : Nat) (u : sg_St) (p1 : Int32) (r9 : Int32) (u9 : sg_St) (hf : fL_isSelective N u p1 = some (r9, u9)) : sg_LI l D cA (sg_WX cA ad) yL_isSelective wsL_isSelective ({ frames := 18, cells := 1, slots := 6, locals := 483 }) [.ref (ad 0), .int p1] u 1 6 r9 u9 := by
  obtain ⟨R, hf, hR1, hR2⟩ := sg_hc_s hf
  intro sz
  refine sg_ofWH (cc := cL_isSelective) (maxL := 3) (ret := (some .int)) (by decide) rfl ?_
  intro p e s m args below meth c s₁ B hml hv
  obtain ⟨rfl, ⟨hsz, hP, hK, hD0⟩, hT, hN⟩ := hv
  have hx := B.exec
  have hb := B.bytes
  have hr := B.returns
  have hts := atoms_spec (ws := wsL_isSelective) B.pre
  have hown : s.vm.findClass RL = some m.cls := findClass_of_methodNamed B.named
  have hlocks := B.notSynchronized
  have htb : c.exceptionTable.toList = tableOf [(0, 13, 14, 32)] := vx_table (x := ⟨"", "", ""⟩) B (hts _ List.mem_cons_self)
  subst hsz
  have hD := hD0.self (sz := s.heap.size)
  replace hP : va_P D vwCl (sg_WX cA ad u) s.heap := hP
  replace hD : va_D (va_A (sg_WX cA ad u) s.heap.size) (sg_WX cA ad u) := hD
  generalize hAe : va_A (sg_WX cA ad u) s.heap.size = A at hD hT ⊢
  have hA : ∀ q : Nat, s.heap.size ≤ q → A q := fun q h => by rw [← hAe]; exact Or.inr h
  have hS : va_S A s.heap s.heap [] := va_S.rf
  have hl := lv_entry ([.ref (ad 0), .int p1]) (n := 3) (Nat.le_of_ble_eq_true rfl)
  rw [lg_entry_eq]
  generalize (lg_sl ([.ref (ad 0), .int p1]) ++ List.replicate (3 - (lg_sl ([.ref (ad 0), .int p1])).length) Slot.unset).toArray = ls at hl ⊢
  replace hl : lv_has ls 3 [(0, .ref (ad 0)), (1, .int p1)] := hl
  refine lv_aload_n hx hb dL_isSelective_0 rfl (lv_at hl 0 rfl) ?_
  refine lv_iload_n hx hb dL_isSelective_1 rfl (lv_at hl 1 rfl) ?_
  refine sg_gi (vx_runV (As := [.int p1]) (rest := []) ⟨hx, hb, hml, hown, hts⟩ (c_X5_isSelective l hlt D cA ad N _ _ R hf _) (cwV 1 hts gL_isSelective_X5_isSelective rfl rfl rfl (by decide +kernel) ⟨Nat.le_of_ble_eq_true rfl, Nat.le_of_ble_eq_true rfl⟩) (sg_preT hK hP hD hT hS hA (ci := 7) (q0 := 0) rfl rfl) rfl rfl hl.1 rfl (lv_room (Nat.le_of_ble_eq_true rfl)) dL_isSelective_2 ⟨Nat.le_of_ble_eq_true rfl, Nat.le_of_ble_eq_true rfl⟩) hD hS hA (fun k v E ce q9 H locs hr1 hE hP hD hS hce hcv hcl => ?_) (fun r v H locs hr1 hP hD hS => ?_)
  · obtain ⟨hk, hu⟩ := hR1 k v hr1
    rcases sg_hx_c hk with ⟨ek, ec⟩ | hk
    · replace ek : k = 5 := ek
      subst ek
      replace hE : E = "java/util/NoSuchElementException" := hE
      subst hE
      refine vx_catch (own := RL) (name := "java/util/NoSuchElementException") hown [] ⟨0, 13, 14, 32⟩ [] (by rw [htb]; rfl) (fun z hz => absurd hz List.not_mem_nil) (by decide) (by decide) (hts (.classLink RL 32 "java/util/NoSuchElementException") (by decide +kernel)) (va_Nw.use rfl (hT.2.2.2.1 (293, "java/util/NoSuchElementException") (by decide))) hce hcv hcl ?_
      refine lv_astore_n (lv' := [(2, .ref q9), (0, .ref (ad 0)), (1, .int p1)]) hx hb dL_isSelective_14 rfl hl (by decide) rfl (fun ls hl => ?_)
      refine lv_bipush (v := (-75)) hx hb dL_isSelective_15 (by decide) ?_
      exact sg_lri hx hb hr hP hD hS dL_isSelective_17 ec hu hlocks (by decide) (by decide)
    · cases hk
  · obtain ⟨hq1, hq2⟩ := hR2 r v hr1
    replace hq1 := Option.some.inj hq1
    refine lv_if_eq (tgt := 12) hx hb dL_isSelective_5 (by decide) (fun hc => ?_) (fun hc => ?_)
    · rw [if_pos hc] at hq1
      refine lv_iconst (v := 0) hx hb dL_isSelective_12 (by decide) ?_
      exact sg_lri hx hb hr hP hD hS dL_isSelective_13 hq1 hq2 hlocks (by decide) (by decide)
    · rw [if_neg hc] at hq1
      refine lv_iconst (v := 1) hx hb dL_isSelective_8 (by decide) ?_
      refine lv_goto (tgt := 13) hx hb dL_isSelective_9 (by decide) ?_
      exact sg_lri hx hb hr hP hD hS dL_isSelective_13 hq1 hq2 hlocks (by decide) (by decide)
set_option maxRecDepth 100000 in
set_option maxHeartbeats 4000000 in
theorem c_L_margin (l : Launch) (hlt : l.stackTraces = false) (D : va_G) (cA : Nat → ClassId) (ad : Nat → Nat) (N : Nat) (u : sg_St) (p1 : Int32) (r9 : Int32) (u9 : sg_St) (hf : fL_margin N u p1 = some (r9, u9)) : sg_LI l D cA (sg_WX cA ad) yL_margin wsL_margin ({ frames := 18, cells := 2, slots := 12, locals := 485 }) [.ref (ad 0), .int p1] u 2 12 r9 u9 := by
  obtain ⟨R, hf, hR1, hR2⟩ := sg_hc_s hf
  intro sz
  refine sg_ofWH (cc := cL_margin) (maxL := 3) (ret := (some .int)) (by decide) rfl ?_
  intro p e s m args below meth c s₁ B hml hv
  obtain ⟨rfl, ⟨hsz, hP, hK, hD0⟩, hT, hN⟩ := hv
  have hx := B.exec
  have hb := B.bytes
  have hr := B.returns
  have hts := atoms_spec (ws := wsL_margin) B.pre
  have hown : s.vm.findClass RL = some m.cls := findClass_of_methodNamed B.named
  have hlocks := B.notSynchronized
  have htb : c.exceptionTable.toList = tableOf [(0, 5, 6, 32), (0, 5, 10, 22), (0, 5, 14, 37)] := vx_table (x := ⟨"", "", ""⟩) B (hts _ List.mem_cons_self)
  subst hsz
  have hD := hD0.self (sz := s.heap.size)
  replace hP : va_P D vwCl (sg_WX cA ad u) s.heap := hP
  replace hD : va_D (va_A (sg_WX cA ad u) s.heap.size) (sg_WX cA ad u) := hD
  generalize hAe : va_A (sg_WX cA ad u) s.heap.size = A at hD hT ⊢
  have hA : ∀ q : Nat, s.heap.size ≤ q → A q := fun q h => by rw [← hAe]; exact Or.inr h
  have hS : va_S A s.heap s.heap [] := va_S.rf
  have hl := lv_entry ([.ref (ad 0), .int p1]) (n := 3) (Nat.le_of_ble_eq_true rfl)
  rw [lg_entry_eq]
  generalize (lg_sl ([.ref (ad 0), .int p1]) ++ List.replicate (3 - (lg_sl ([.ref (ad 0), .int p1])).length) Slot.unset).toArray = ls at hl ⊢
  replace hl : lv_has ls 3 [(0, .ref (ad 0)), (1, .int p1)] := hl
  refine lv_aload_n hx hb dL_margin_0 rfl (lv_at hl 0 rfl) ?_
  refine lv_iload_n hx hb dL_margin_1 rfl (lv_at hl 1 rfl) ?_
  refine sg_gi (vx_runV (As := [.int p1]) (rest := []) ⟨hx, hb, hml, hown, hts⟩ (c_X5_margin l hlt D cA ad N _ _ R hf _) (cwV 1 hts gL_margin_X5_margin rfl rfl rfl (by decide +kernel) ⟨Nat.le_of_ble_eq_true rfl, Nat.le_of_ble_eq_true rfl⟩) (sg_preT hK hP hD hT hS hA (ci := 7) (q0 := 0) rfl rfl) rfl rfl hl.1 rfl (lv_room (Nat.le_of_ble_eq_true rfl)) dL_margin_2 ⟨Nat.le_of_ble_eq_true rfl, Nat.le_of_ble_eq_true rfl⟩) hD hS hA (fun k v E ce q9 H locs hr1 hE hP hD hS hce hcv hcl => ?_) (fun r v H locs hr1 hP hD hS => ?_)
  · obtain ⟨hk, hu⟩ := hR1 k v hr1
    rcases sg_hx_c hk with ⟨ek, ec⟩ | hk
    · replace ek : k = 5 := ek
      subst ek
      replace hE : E = "java/util/NoSuchElementException" := hE
      subst hE
      refine vx_catch (own := RL) (name := "java/util/NoSuchElementException") hown [] ⟨0, 5, 6, 32⟩ [⟨0, 5, 10, 22⟩, ⟨0, 5, 14, 37⟩] (by rw [htb]; rfl) (fun z hz => absurd hz List.not_mem_nil) (by decide) (by decide) (hts (.classLink RL 32 "java/util/NoSuchElementException") (by decide +kernel)) (va_Nw.use rfl (hT.2.2.2.1 (293, "java/util/NoSuchElementException") (by decide))) hce hcv hcl ?_
      refine lv_astore_n (lv' := [(2, .ref q9), (0, .ref (ad 0)), (1, .int p1)]) hx hb dL_margin_6 rfl hl (by decide) rfl (fun ls hl => ?_)
      refine lv_bipush (v := (-75)) hx hb dL_margin_7 (by decide) ?_
      exact sg_lri hx hb hr hP hD hS dL_margin_9 ec hu hlocks (by decide) (by decide)
    · rcases sg_hx_c hk with ⟨ek, ec⟩ | hk
      · replace ek : k = 0 := ek
        subst ek
        replace hE : E = "java/lang/IllegalStateException" := hE
        subst hE
        refine vx_catch (own := RL) (name := "java/lang/IllegalStateException") hown [⟨0, 5, 6, 32⟩] ⟨0, 5, 10, 22⟩ [⟨0, 5, 14, 37⟩] (by rw [htb]; rfl) (List.forall_mem_cons.mpr ⟨Or.inr ⟨by decide, "java/util/NoSuchElementException", hts (.classLink RL 32 "java/util/NoSuchElementException") (by decide +kernel), hN ("java/lang/IllegalStateException", "java/util/NoSuchElementException") (by decide +kernel)⟩, fun _ h => absurd h List.not_mem_nil⟩) (by decide) (by decide) (hts (.classLink RL 22 "java/lang/IllegalStateException") (by decide +kernel)) (va_Nw.use rfl (hT.2.2.2.1 (104, "java/lang/IllegalStateException") (by decide))) hce hcv hcl ?_
        refine lv_astore_n (lv' := [(2, .ref q9), (0, .ref (ad 0)), (1, .int p1)]) hx hb dL_margin_10 rfl hl (by decide) rfl (fun ls hl => ?_)
        refine lv_bipush (v := (-79)) hx hb dL_margin_11 (by decide) ?_
        exact sg_lri hx hb hr hP hD hS dL_margin_13 ec hu hlocks (by decide) (by decide)
      · rcases sg_hx_c hk with ⟨ek, ec⟩ | hk
        · replace ek : k = 4 := ek
          subst ek
          replace hE : E = "java/lang/UnsupportedOperationException" := hE
          subst hE
          refine vx_catch (own := RL) (name := "java/lang/UnsupportedOperationException") hown [⟨0, 5, 6, 32⟩, ⟨0, 5, 10, 22⟩] ⟨0, 5, 14, 37⟩ [] (by rw [htb]; rfl) (List.forall_mem_cons.mpr ⟨Or.inr ⟨by decide, "java/util/NoSuchElementException", hts (.classLink RL 32 "java/util/NoSuchElementException") (by decide +kernel), hN ("java/lang/UnsupportedOperationException", "java/util/NoSuchElementException") (by decide +kernel)⟩, List.forall_mem_cons.mpr ⟨Or.inr ⟨by decide, "java/lang/IllegalStateException", hts (.classLink RL 22 "java/lang/IllegalStateException") (by decide +kernel), hN ("java/lang/UnsupportedOperationException", "java/lang/IllegalStateException") (by decide +kernel)⟩, fun _ h => absurd h List.not_mem_nil⟩⟩) (by decide) (by decide) (hts (.classLink RL 37 "java/lang/UnsupportedOperationException") (by decide +kernel)) (va_Nw.use rfl (hT.2.2.2.1 (178, "java/lang/UnsupportedOperationException") (by decide))) hce hcv hcl ?_
          refine lv_astore_n (lv' := [(2, .ref q9), (0, .ref (ad 0)), (1, .int p1)]) hx hb dL_margin_14 rfl hl (by decide) rfl (fun ls hl => ?_)
          refine lv_bipush (v := (-76)) hx hb dL_margin_15 (by decide) ?_
          exact sg_lri hx hb hr hP hD hS dL_margin_17 ec hu hlocks (by decide) (by decide)
        · cases hk
  · obtain ⟨hq1, hq2⟩ := hR2 r v hr1
    replace hq1 := Option.some.inj hq1
    exact sg_lri hx hb hr hP hD hS dL_margin_5 hq1 hq2 hlocks (by decide) (by decide)
set_option maxRecDepth 100000 in
set_option maxHeartbeats 4000000 in
theorem c_L_bestAt (l : Launch) (hlt : l.stackTraces = false) (D : va_G) (cA : Nat → ClassId) (ad : Nat → Nat) (N : Nat) (u : sg_St) (p1 : Int32) (r9 : Int32) (u9 : sg_St) (hf : fL_bestAt N u p1 = some (r9, u9)) : sg_LI l D cA (sg_WX cA ad) yL_bestAt wsL_bestAt ({ frames := 36, cells := 1, slots := 6, locals := 913 }) [.ref (ad 0), .int p1] u 1 6 r9 u9 := by
  obtain ⟨R, hf, hR1, hR2⟩ := sg_hc_s hf
  intro sz
  refine sg_ofWH (cc := cL_bestAt) (maxL := 3) (ret := (some .int)) (by decide) rfl ?_
  intro p e s m args below meth c s₁ B hml hv
  obtain ⟨rfl, ⟨hsz, hP, hK, hD0⟩, hT, hN⟩ := hv
  have hx := B.exec
  have hb := B.bytes
  have hr := B.returns
  have hts := atoms_spec (ws := wsL_bestAt) B.pre
  have hown : s.vm.findClass RL = some m.cls := findClass_of_methodNamed B.named
  have hlocks := B.notSynchronized
  have htb : c.exceptionTable.toList = tableOf [(0, 5, 6, 111)] := vx_table (x := ⟨"", "", ""⟩) B (hts _ List.mem_cons_self)
  subst hsz
  have hD := hD0.self (sz := s.heap.size)
  replace hP : va_P D vwCl (sg_WX cA ad u) s.heap := hP
  replace hD : va_D (va_A (sg_WX cA ad u) s.heap.size) (sg_WX cA ad u) := hD
  generalize hAe : va_A (sg_WX cA ad u) s.heap.size = A at hD hT ⊢
  have hA : ∀ q : Nat, s.heap.size ≤ q → A q := fun q h => by rw [← hAe]; exact Or.inr h
  have hS : va_S A s.heap s.heap [] := va_S.rf
  have hl := lv_entry ([.ref (ad 0), .int p1]) (n := 3) (Nat.le_of_ble_eq_true rfl)
  rw [lg_entry_eq]
  generalize (lg_sl ([.ref (ad 0), .int p1]) ++ List.replicate (3 - (lg_sl ([.ref (ad 0), .int p1])).length) Slot.unset).toArray = ls at hl ⊢
  replace hl : lv_has ls 3 [(0, .ref (ad 0)), (1, .int p1)] := hl
  refine lv_aload_n hx hb dL_bestAt_0 rfl (lv_at hl 0 rfl) ?_
  refine lv_iload_n hx hb dL_bestAt_1 rfl (lv_at hl 1 rfl) ?_
  refine sg_gi (vx_runV (As := [.int p1]) (rest := []) ⟨hx, hb, hml, hown, hts⟩ (c_X5_bestAt l hlt D cA ad N _ _ R hf _) (cwV 1 hts gL_bestAt_X5_bestAt rfl rfl rfl (by decide +kernel) ⟨Nat.le_of_ble_eq_true rfl, Nat.le_of_ble_eq_true rfl⟩) (sg_preT hK hP hD hT hS hA (ci := 7) (q0 := 0) rfl rfl) rfl rfl hl.1 rfl (lv_room (Nat.le_of_ble_eq_true rfl)) dL_bestAt_2 ⟨Nat.le_of_ble_eq_true rfl, Nat.le_of_ble_eq_true rfl⟩) hD hS hA (fun k v E ce q9 H locs hr1 hE hP hD hS hce hcv hcl => ?_) (fun r v H locs hr1 hP hD hS => ?_)
  · obtain ⟨hk, hu⟩ := hR1 k v hr1
    rcases sg_hx_c hk with ⟨ek, ec⟩ | hk
    · replace ek : k = 2 := ek
      subst ek
      replace hE : E = "java/lang/IndexOutOfBoundsException" := hE
      subst hE
      refine vx_catch (own := RL) (name := "java/lang/IndexOutOfBoundsException") hown [] ⟨0, 5, 6, 111⟩ [] (by rw [htb]; rfl) (fun z hz => absurd hz List.not_mem_nil) (by decide) (by decide) (hts (.classLink RL 111 "java/lang/IndexOutOfBoundsException") (by decide +kernel)) (va_Nw.use rfl (hT.2.2.2.1 (228, "java/lang/IndexOutOfBoundsException") (by decide))) hce hcv hcl ?_
      refine lv_astore_n (lv' := [(2, .ref q9), (0, .ref (ad 0)), (1, .int p1)]) hx hb dL_bestAt_6 rfl hl (by decide) rfl (fun ls hl => ?_)
      refine lv_bipush (v := (-77)) hx hb dL_bestAt_7 (by decide) ?_
      exact sg_lri hx hb hr hP hD hS dL_bestAt_9 ec hu hlocks (by decide) (by decide)
    · cases hk
  · obtain ⟨hq1, hq2⟩ := hR2 r v hr1
    replace hq1 := Option.some.inj hq1
    exact sg_lri hx hb hr hP hD hS dL_bestAt_5 hq1 hq2 hlocks (by decide) (by decide)
set_option maxRecDepth 100000 in
set_option maxHeartbeats 4000000 in
theorem c_L_valueByTrying (l : Launch) (hlt : l.stackTraces = false) (D : va_G) (cA : Nat → ClassId) (ad : Nat → Nat) (N : Nat) (u : sg_St) (r9 : Int32) (u9 : sg_St) (hf : fL_valueByTrying N u = some (r9, u9)) : sg_LI l D cA (sg_WX cA ad) yL_valueByTrying wsL_valueByTrying ({ frames := 21, cells := 1, slots := 6, locals := 536 }) [.ref (ad 0)] u 1 6 r9 u9 := by
  obtain ⟨R, hf, hR1, hR2⟩ := sg_hc_s hf
  intro sz
  refine sg_ofWH (cc := cL_valueByTrying) (maxL := 2) (ret := (some .int)) (by decide) rfl ?_
  intro p e s m args below meth c s₁ B hml hv
  obtain ⟨rfl, ⟨hsz, hP, hK, hD0⟩, hT, hN⟩ := hv
  have hx := B.exec
  have hb := B.bytes
  have hr := B.returns
  have hts := atoms_spec (ws := wsL_valueByTrying) B.pre
  have hown : s.vm.findClass RL = some m.cls := findClass_of_methodNamed B.named
  have hlocks := B.notSynchronized
  have htb : c.exceptionTable.toList = tableOf [(0, 4, 5, 37)] := vx_table (x := ⟨"", "", ""⟩) B (hts _ List.mem_cons_self)
  subst hsz
  have hD := hD0.self (sz := s.heap.size)
  replace hP : va_P D vwCl (sg_WX cA ad u) s.heap := hP
  replace hD : va_D (va_A (sg_WX cA ad u) s.heap.size) (sg_WX cA ad u) := hD
  generalize hAe : va_A (sg_WX cA ad u) s.heap.size = A at hD hT ⊢
  have hA : ∀ q : Nat, s.heap.size ≤ q → A q := fun q h => by rw [← hAe]; exact Or.inr h
  have hS : va_S A s.heap s.heap [] := va_S.rf
  have hl := lv_entry ([.ref (ad 0)]) (n := 2) (Nat.le_of_ble_eq_true rfl)
  rw [lg_entry_eq]
  generalize (lg_sl ([.ref (ad 0)]) ++ List.replicate (2 - (lg_sl ([.ref (ad 0)])).length) Slot.unset).toArray = ls at hl ⊢
  replace hl : lv_has ls 2 [(0, .ref (ad 0))] := hl
  refine lv_aload_n hx hb dL_valueByTrying_0 rfl (lv_at hl 0 rfl) ?_
  refine sg_gi (vx_runV (As := []) (rest := []) ⟨hx, hb, hml, hown, hts⟩ (c_X5_valueByTrying l hlt D cA ad N _ R hf _) (cwV 0 hts gL_valueByTrying_X5_valueByTrying rfl rfl rfl (by decide +kernel) ⟨Nat.le_of_ble_eq_true rfl, Nat.le_of_ble_eq_true rfl⟩) (sg_preT hK hP hD hT hS hA (ci := 7) (q0 := 0) rfl rfl) rfl rfl hl.1 rfl (lv_room (Nat.le_of_ble_eq_true rfl)) dL_valueByTrying_1 ⟨Nat.le_of_ble_eq_true rfl, Nat.le_of_ble_eq_true rfl⟩) hD hS hA (fun k v E ce q9 H locs hr1 hE hP hD hS hce hcv hcl => ?_) (fun r v H locs hr1 hP hD hS => ?_)
  · obtain ⟨hk, hu⟩ := hR1 k v hr1
    rcases sg_hx_c hk with ⟨ek, ec⟩ | hk
    · replace ek : k = 4 := ek
      subst ek
      replace hE : E = "java/lang/UnsupportedOperationException" := hE
      subst hE
      refine vx_catch (own := RL) (name := "java/lang/UnsupportedOperationException") hown [] ⟨0, 4, 5, 37⟩ [] (by rw [htb]; rfl) (fun z hz => absurd hz List.not_mem_nil) (by decide) (by decide) (hts (.classLink RL 37 "java/lang/UnsupportedOperationException") (by decide +kernel)) (va_Nw.use rfl (hT.2.2.2.1 (178, "java/lang/UnsupportedOperationException") (by decide))) hce hcv hcl ?_
      refine lv_astore_n (lv' := [(1, .ref q9), (0, .ref (ad 0))]) hx hb dL_valueByTrying_5 rfl hl (by decide) rfl (fun ls hl => ?_)
      refine lv_bipush (v := (-76)) hx hb dL_valueByTrying_6 (by decide) ?_
      exact sg_lri hx hb hr hP hD hS dL_valueByTrying_8 ec hu hlocks (by decide) (by decide)
    · cases hk
  · obtain ⟨hq1, hq2⟩ := hR2 r v hr1
    replace hq1 := Option.some.inj hq1
    exact sg_lri hx hb hr hP hD hS dL_valueByTrying_4 hq1 hq2 hlocks (by decide) (by decide)
set_option maxRecDepth 100000 in
set_option maxHeartbeats 4000000 in
theorem c_L_sizeByTrying (l : Launch) (hlt : l.stackTraces = false) (D : va_G) (cA : Nat → ClassId) (ad : Nat → Nat) (N : Nat) (u : sg_St) (r9 : Int32) (u9 : sg_St) (hf : fL_sizeByTrying N u = some (r9, u9)) : sg_LI l D cA (sg_WX cA ad) yL_sizeByTrying wsL_sizeByTrying ({ frames := 21, cells := 1, slots := 6, locals := 536 }) [.ref (ad 0)] u 1 6 r9 u9 := by
  obtain ⟨R, hf, hR1, hR2⟩ := sg_hc_s hf
  intro sz
  refine sg_ofWH (cc := cL_sizeByTrying) (maxL := 2) (ret := (some .int)) (by decide) rfl ?_
  intro p e s m args below meth c s₁ B hml hv
  obtain ⟨rfl, ⟨hsz, hP, hK, hD0⟩, hT, hN⟩ := hv
  have hx := B.exec
  have hb := B.bytes
  have hr := B.returns
  have hts := atoms_spec (ws := wsL_sizeByTrying) B.pre
  have hown : s.vm.findClass RL = some m.cls := findClass_of_methodNamed B.named
  have hlocks := B.notSynchronized
  have htb : c.exceptionTable.toList = tableOf [(0, 4, 5, 37)] := vx_table (x := ⟨"", "", ""⟩) B (hts _ List.mem_cons_self)
  subst hsz
  have hD := hD0.self (sz := s.heap.size)
  replace hP : va_P D vwCl (sg_WX cA ad u) s.heap := hP
  replace hD : va_D (va_A (sg_WX cA ad u) s.heap.size) (sg_WX cA ad u) := hD
  generalize hAe : va_A (sg_WX cA ad u) s.heap.size = A at hD hT ⊢
  have hA : ∀ q : Nat, s.heap.size ≤ q → A q := fun q h => by rw [← hAe]; exact Or.inr h
  have hS : va_S A s.heap s.heap [] := va_S.rf
  have hl := lv_entry ([.ref (ad 0)]) (n := 2) (Nat.le_of_ble_eq_true rfl)
  rw [lg_entry_eq]
  generalize (lg_sl ([.ref (ad 0)]) ++ List.replicate (2 - (lg_sl ([.ref (ad 0)])).length) Slot.unset).toArray = ls at hl ⊢
  replace hl : lv_has ls 2 [(0, .ref (ad 0))] := hl
  refine lv_aload_n hx hb dL_sizeByTrying_0 rfl (lv_at hl 0 rfl) ?_
  refine sg_gi (vx_runV (As := []) (rest := []) ⟨hx, hb, hml, hown, hts⟩ (c_X5_sizeByTrying l hlt D cA ad N _ R hf _) (cwV 0 hts gL_sizeByTrying_X5_sizeByTrying rfl rfl rfl (by decide +kernel) ⟨Nat.le_of_ble_eq_true rfl, Nat.le_of_ble_eq_true rfl⟩) (sg_preT hK hP hD hT hS hA (ci := 7) (q0 := 0) rfl rfl) rfl rfl hl.1 rfl (lv_room (Nat.le_of_ble_eq_true rfl)) dL_sizeByTrying_1 ⟨Nat.le_of_ble_eq_true rfl, Nat.le_of_ble_eq_true rfl⟩) hD hS hA (fun k v E ce q9 H locs hr1 hE hP hD hS hce hcv hcl => ?_) (fun r v H locs hr1 hP hD hS => ?_)
  · obtain ⟨hk, hu⟩ := hR1 k v hr1
    rcases sg_hx_c hk with ⟨ek, ec⟩ | hk
    · replace ek : k = 4 := ek
      subst ek
      replace hE : E = "java/lang/UnsupportedOperationException" := hE
      subst hE
      refine vx_catch (own := RL) (name := "java/lang/UnsupportedOperationException") hown [] ⟨0, 4, 5, 37⟩ [] (by rw [htb]; rfl) (fun z hz => absurd hz List.not_mem_nil) (by decide) (by decide) (hts (.classLink RL 37 "java/lang/UnsupportedOperationException") (by decide +kernel)) (va_Nw.use rfl (hT.2.2.2.1 (178, "java/lang/UnsupportedOperationException") (by decide))) hce hcv hcl ?_
      refine lv_astore_n (lv' := [(1, .ref q9), (0, .ref (ad 0))]) hx hb dL_sizeByTrying_5 rfl hl (by decide) rfl (fun ls hl => ?_)
      refine lv_bipush (v := (-76)) hx hb dL_sizeByTrying_6 (by decide) ?_
      exact sg_lri hx hb hr hP hD hS dL_sizeByTrying_8 ec hu hlocks (by decide) (by decide)
    · cases hk
  · obtain ⟨hq1, hq2⟩ := hR2 r v hr1
    replace hq1 := Option.some.inj hq1
    exact sg_lri hx hb hr hP hD hS dL_sizeByTrying_4 hq1 hq2 hlocks (by decide) (by decide)
set_option maxRecDepth 100000 in
set_option maxHeartbeats 4000000 in
theorem c_L_liveShare (l : Launch) (hlt : l.stackTraces = false) (D : va_G) (cA : Nat → ClassId) (ad : Nat → Nat) (N : Nat) (u : sg_St) (r9 : UInt32) (u9 : sg_St) (hf : fL_liveShare N u = some (r9, u9)) : sg_LF l D cA (sg_WX cA ad) yL_liveShare wsL_liveShare ({ frames := 9, cells := 1, slots := 6, locals := 421 }) [.ref (ad 0)] u 1 6 r9 u9 := by
  obtain ⟨R, hf, hR1, hR2⟩ := sg_hc_s hf
  intro sz
  refine sg_ofWH (cc := cL_liveShare) (maxL := 2) (ret := (some .float)) (by decide) rfl ?_
  intro p e s m args below meth c s₁ B hml hv
  obtain ⟨rfl, ⟨hsz, hP, hK, hD0⟩, hT, hN⟩ := hv
  have hx := B.exec
  have hb := B.bytes
  have hr := B.returns
  have hts := atoms_spec (ws := wsL_liveShare) B.pre
  have hown : s.vm.findClass RL = some m.cls := findClass_of_methodNamed B.named
  have hlocks := B.notSynchronized
  have htb : c.exceptionTable.toList = tableOf [(0, 4, 5, 142)] := vx_table (x := ⟨"", "", ""⟩) B (hts _ List.mem_cons_self)
  subst hsz
  have hD := hD0.self (sz := s.heap.size)
  replace hP : va_P D vwCl (sg_WX cA ad u) s.heap := hP
  replace hD : va_D (va_A (sg_WX cA ad u) s.heap.size) (sg_WX cA ad u) := hD
  generalize hAe : va_A (sg_WX cA ad u) s.heap.size = A at hD hT ⊢
  have hA : ∀ q : Nat, s.heap.size ≤ q → A q := fun q h => by rw [← hAe]; exact Or.inr h
  have hS : va_S A s.heap s.heap [] := va_S.rf
  have hl := lv_entry ([.ref (ad 0)]) (n := 2) (Nat.le_of_ble_eq_true rfl)
  rw [lg_entry_eq]
  generalize (lg_sl ([.ref (ad 0)]) ++ List.replicate (2 - (lg_sl ([.ref (ad 0)])).length) Slot.unset).toArray = ls at hl ⊢
  replace hl : lv_has ls 2 [(0, .ref (ad 0))] := hl
  refine lv_aload_n hx hb dL_liveShare_0 rfl (lv_at hl 0 rfl) ?_
  refine sg_gf (vx_runV (As := []) (rest := []) ⟨hx, hb, hml, hown, hts⟩ (c_X5_liveShare l hlt D cA ad N _ R hf _) (cwV 0 hts gL_liveShare_X5_liveShare rfl rfl rfl (by decide +kernel) ⟨Nat.le_of_ble_eq_true rfl, Nat.le_of_ble_eq_true rfl⟩) (sg_preT hK hP hD hT hS hA (ci := 7) (q0 := 0) rfl rfl) rfl rfl hl.1 rfl (lv_room (Nat.le_of_ble_eq_true rfl)) dL_liveShare_1 ⟨Nat.le_of_ble_eq_true rfl, Nat.le_of_ble_eq_true rfl⟩) hD hS hA (fun k v E ce q9 H locs hr1 hE hP hD hS hce hcv hcl => ?_) (fun r v H locs hr1 hP hD hS => ?_)
  · obtain ⟨hk, hu⟩ := hR1 k v hr1
    rcases sg_hx_c hk with ⟨ek, ec⟩ | hk
    · replace ek : k = 3 := ek
      subst ek
      replace hE : E = "java/lang/ArithmeticException" := hE
      subst hE
      refine vx_catch (own := RL) (name := "java/lang/ArithmeticException") hown [] ⟨0, 4, 5, 142⟩ [] (by rw [htb]; rfl) (fun z hz => absurd hz List.not_mem_nil) (by decide) (by decide) (hts (.classLink RL 142 "java/lang/ArithmeticException") (by decide +kernel)) (va_Nw.use rfl (hT.2.2.2.1 (279, "java/lang/ArithmeticException") (by decide))) hce hcv hcl ?_
      refine lv_astore_n (lv' := [(1, .ref q9), (0, .ref (ad 0))]) hx hb dL_liveShare_5 rfl hl (by decide) rfl (fun ls hl => ?_)
      refine lv_ldcf (v := 3264479232) hx hb hown (hts (.constantFloat RL 144 3264479232) (by decide +kernel)) dL_liveShare_6 ?_
      exact sg_lrf hx hb hr hP hD hS dL_liveShare_8 ec hu hlocks (by decide) (by decide)
    · cases hk
  · obtain ⟨hq1, hq2⟩ := hR2 r v hr1
    replace hq1 := Option.some.inj hq1
    exact sg_lrf hx hb hr hP hD hS dL_liveShare_4 hq1 hq2 hlocks (by decide) (by decide)
