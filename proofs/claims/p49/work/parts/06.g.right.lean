set_option maxRecDepth 100000 in
set_option maxHeartbeats 8000000 in
theorem c_L_isRight (l : Launch) (hlt : l.stackTraces = false) (D : va_G) (cA : Nat → ClassId) (ad : Nat → Nat) (x0 x1 x2 : Nat) (N : Nat) (a : sg_St) (u : sg_St) (p1 : Int32) (r9 : Int32) (u9 : sg_St) (hf : fL_isRight N a u p1 = some (r9, u9)) : sg_LI l D cA (fun z => sg_WX cA ad z ++ sg_X3 cA x0 x1 x2 a) yL_isRight wsL_isRight ({ frames := 19, cells := 394, slots := 2368, locals := 507 }) [.ref (ad 0), .int p1, .ref x1, .ref x2, .ref x0] u 394 2368 r9 u9 := by
  intro sz
  refine Met.ofW (cc := cL_isRight) (maxL := 15) (ret := (some .boolean)) (by decide) rfl ?_
  intro p e s m args below meth c s₁ B hml hv
  obtain ⟨rfl, ⟨hsz, hP, hK, hD0⟩, hT, hN⟩ := hv
  have hx := B.exec
  have hb := B.bytes
  have hr := B.returns
  have hts := atoms_spec (ws := wsL_isRight) B.pre
  have hown : s.vm.findClass RL = some m.cls := findClass_of_methodNamed B.named
  have hlocks := B.notSynchronized
  subst hsz
  have hD := hD0.self (sz := s.heap.size)
  replace hP : va_P D vwCl (sg_WX cA ad u ++ sg_X3 cA x0 x1 x2 a) s.heap := hP
  replace hD : va_D (va_A (sg_WX cA ad u ++ sg_X3 cA x0 x1 x2 a) s.heap.size) (sg_WX cA ad u ++ sg_X3 cA x0 x1 x2 a) := hD
  replace hT : sg_TT (va_A (sg_WX cA ad u ++ sg_X3 cA x0 x1 x2 a) s.heap.size) s := hT
  show W p l e _ s m _ below meth c s.heap [] 0 0 (MQ below (va_Qi (fun x y => x = r9 ∧ y = u9) (sg_BX D (fun z => sg_WX cA ad z ++ sg_X3 cA x0 x1 x2 a) (va_A (sg_WX cA ad u ++ sg_X3 cA x0 x1 x2 a) s.heap.size)) (va_A (sg_WX cA ad u ++ sg_X3 cA x0 x1 x2 a) s.heap.size)) _ s 394 2368 (va_A (sg_WX cA ad u ++ sg_X3 cA x0 x1 x2 a) s.heap.size)) _
  generalize hAe : va_A (sg_WX cA ad u ++ sg_X3 cA x0 x1 x2 a) s.heap.size = A at hD hT ⊢
  have hA : ∀ q : Nat, s.heap.size ≤ q → A q := fun q h => by rw [← hAe]; exact Or.inr h
  have hS : va_S A s.heap s.heap [] := va_S.rf
  have hl := lv_entry ([.ref (ad 0), .int p1, .ref x1, .ref x2, .ref x0]) (n := 15) (Nat.le_of_ble_eq_true rfl)
  rw [lg_entry_eq]
  generalize (lg_sl ([.ref (ad 0), .int p1, .ref x1, .ref x2, .ref x0]) ++ List.replicate (15 - (lg_sl ([.ref (ad 0), .int p1, .ref x1, .ref x2, .ref x0])).length) Slot.unset).toArray = ls at hl ⊢
  replace hl : lv_has ls 15 [(0, .ref (ad 0)), (1, .int p1), (2, .ref x1), (3, .ref x2), (4, .ref x0)] := hl
  unfold fL_isRight at hf
  refine lv_iconst (v := 0) hx hb dL_isRight_0 (by decide) ?_
  refine lv_istore (lv' := [(5, .int 0), (0, .ref (ad 0)), (1, .int p1), (2, .ref x1), (3, .ref x2), (4, .ref x0)]) hx hb dL_isRight_1 hl (by decide) rfl (fun ls hl => ?_)
  refine lv_iconst (v := 0) hx hb dL_isRight_3 (by decide) ?_
  refine lv_istore (lv' := [(6, .int 0), (5, .int 0), (0, .ref (ad 0)), (1, .int p1), (2, .ref x1), (3, .ref x2), (4, .ref x0)]) hx hb dL_isRight_4 hl (by decide) rfl (fun ls hl => ?_)
  refine lv_iconst (v := 0) hx hb dL_isRight_6 (by decide) ?_
  refine lv_istore (lv' := [(7, .int 0), (6, .int 0), (5, .int 0), (0, .ref (ad 0)), (1, .int p1), (2, .ref x1), (3, .ref x2), (4, .ref x0)]) hx hb dL_isRight_7 hl (by decide) rfl (fun ls hl => ?_)
  refine lv_bipush (v := 10) hx hb dL_isRight_9 (by decide) ?_
  refine sg_newa (atype := .int) (ty := .int) (a0 := (10, .inl (fun _ => 0))) (N' := 10) 0 hx hb (hts (.arrayClass .int) (by decide +kernel)) rfl (fun _ h => h) rfl hK hP hD hS hA (fun _ => rfl) (by decide) rfl (by decide) (Nat.le_of_ble_eq_true rfl) (Nat.le_of_ble_eq_true rfl) dL_isRight_11 (fun x3 H hP hD hS => ?_)
  replace hP : va_P D vwCl (sg_WX cA ad u ++ (sg_X4 cA x0 x1 x2 x3 a ((fun _ => 0)))) H := hP
  replace hD : va_D A (sg_WX cA ad u ++ (sg_X4 cA x0 x1 x2 x3 a ((fun _ => 0)))) := hD
  have hL21 : ∀ (v1 : Int32) (v5 : Int32), ∀ (n : Nat) (x : sg_St × (Nat → Int32) × Int32 × Int32 × Int32 × Int32) (r9x : sg_St × (Nat → Int32) × Int32 × Int32 × Int32), sg_it (fun x => fL_isRight_L21 N a x.1 x.2.1 v1 v5 x.2.2.1 x.2.2.2.1 x.2.2.2.2.1 x.2.2.2.2.2) n x = some r9x → ∀ kc kz KE ZE : Nat, kc + n * 12 ≤ KE → kz + n * 72 ≤ ZE → KE ≤ 394 → ZE ≤ 2368 → ∀ (H : Heap) (locs : List Loc) (ls : Array Slot), va_P D vwCl (sg_WX cA ad x.1 ++ (sg_X4 cA x0 x1 x2 x3 a x.2.1)) H → va_D A (sg_WX cA ad x.1 ++ (sg_X4 cA x0 x1 x2 x3 a x.2.1)) → va_S A s.heap H locs → lv_has ls 15 [(0, .ref (ad 0)), (1, .int v1), (2, .ref x1), (3, .ref x2), (4, .ref x0), (5, .int v5), (6, .int x.2.2.1), (7, .int x.2.2.2.1), (8, .ref x3), (9, .int x.2.2.2.2.1), (10, .int x.2.2.2.2.2)] → (∀ (H : Heap) (locs : List Loc) (ls : Array Slot), va_P D vwCl (sg_WX cA ad r9x.1 ++ (sg_X4 cA x0 x1 x2 x3 a r9x.2.1)) H → va_D A (sg_WX cA ad r9x.1 ++ (sg_X4 cA x0 x1 x2 x3 a r9x.2.1)) → va_S A s.heap H locs → lv_has ls 15 [(0, .ref (ad 0)), (1, .int v1), (2, .ref x1), (3, .ref x2), (4, .ref x0), (5, .int v5), (6, .int r9x.2.2.1), (7, .int r9x.2.2.2.1), (8, .ref x3), (9, .int r9x.2.2.2.2)] → W p l e (headSpec wsL_isRight ({ frames := 19, cells := 394, slots := 2368, locals := 507 })).room s m ([.ref (ad 0), .int p1, .ref x1, .ref x2, .ref x0] : List Value).toArray below meth c H locs KE ZE (MQ below (va_Qi (fun x y => x = r9 ∧ y = u9) (sg_BX D (fun z => sg_WX cA ad z ++ sg_X3 cA x0 x1 x2 a) A) A) ([.ref (ad 0), .int p1, .ref x1, .ref x2, .ref x0] : List Value).toArray s 394 2368 A) (F0 m 199 ls [])) → W p l e (headSpec wsL_isRight ({ frames := 19, cells := 394, slots := 2368, locals := 507 })).room s m ([.ref (ad 0), .int p1, .ref x1, .ref x2, .ref x0] : List Value).toArray below meth c H locs kc kz (MQ below (va_Qi (fun x y => x = r9 ∧ y = u9) (sg_BX D (fun z => sg_WX cA ad z ++ sg_X3 cA x0 x1 x2 a) A) A) ([.ref (ad 0), .int p1, .ref x1, .ref x2, .ref x0] : List Value).toArray s 394 2368 A) (F0 m 21 ls []) := by
    intro v1 v5
    refine sg_loopN _ ?_
    intro n x y r9x hf hI hy kc kz KE ZE hKn hZn hKR hZR H locs ls hP hD hS hl hk
    replace hf : fL_isRight_L21 N a x.1 x.2.1 v1 v5 x.2.2.1 x.2.2.2.1 x.2.2.2.2.1 x.2.2.2.2.2 = some y := hf
    have hJ190 : ∀ (u : sg_St) (w : Nat → Int32) (v6 : Int32) (v7 : Int32) (v10 : Int32) (k0 : Int32) (k1 : Int32) (H : Heap) (locs : List Loc) (ls : Array Slot), fL_isRight_j190 N a u w v1 v5 v6 v7 v10 k0 k1 = some y → va_P D vwCl (sg_WX cA ad u ++ (sg_X4 cA x0 x1 x2 x3 a w)) H → va_D A (sg_WX cA ad u ++ (sg_X4 cA x0 x1 x2 x3 a w)) → va_S A s.heap H locs → lv_has ls 15 [(0, .ref (ad 0)), (1, .int v1), (2, .ref x1), (3, .ref x2), (4, .ref x0), (5, .int v5), (6, .int v6), (7, .int v7), (8, .ref x3), (10, .int v10)] → W p l e (headSpec wsL_isRight ({ frames := 19, cells := 394, slots := 2368, locals := 507 })).room s m ([.ref (ad 0), .int p1, .ref x1, .ref x2, .ref x0] : List Value).toArray below meth c H locs (kc + 12) (kz + 72) (MQ below (va_Qi (fun x y => x = r9 ∧ y = u9) (sg_BX D (fun z => sg_WX cA ad z ++ sg_X3 cA x0 x1 x2 a) A) A) ([.ref (ad 0), .int p1, .ref x1, .ref x2, .ref x0] : List Value).toArray s 394 2368 A) (F0 m 190 ls [.int k1, .int k0]) := by
      intro u w v6 v7 v10 k0 k1 H locs ls hf hP hD hS hl
      unfold fL_isRight_j190 at hf
      refine lv_iand hx hb dL_isRight_190 ?_
      refine lv_istore (lv' := [(9, .int (k0 &&& k1)), (0, .ref (ad 0)), (1, .int v1), (2, .ref x1), (3, .ref x2), (4, .ref x0), (5, .int v5), (6, .int v6), (7, .int v7), (8, .ref x3), (10, .int v10)]) hx hb dL_isRight_191 hl (by decide) rfl (fun ls hl => ?_)
      refine lv_iinc (v := v10 + 1) (lv' := [(10, .int (v10 + 1)), (9, .int (k0 &&& k1)), (0, .ref (ad 0)), (1, .int v1), (2, .ref x1), (3, .ref x2), (4, .ref x0), (5, .int v5), (6, .int v6), (7, .int v7), (8, .ref x3)]) hx hb dL_isRight_193 hl (k := 10) rfl rfl (by decide) rfl (fun ls hl => ?_)
      refine lv_goto (tgt := 21) hx hb dL_isRight_196 (by decide) ?_
      refine W.widen (k := kc + 12) (n := kz + 72) (by omega) (by omega) ?_
      exact hI _ (Option.some.inj hf).symm (kc + 12) (kz + 72) KE ZE (by omega) (by omega) hKR hZR _ _ _ hP hD hS (lv_sub hl [2, 3, 4, 5, 6, 7, 8, 9, 10, 1, 0] rfl) hk
    have hJ189 : ∀ (u : sg_St) (w : Nat → Int32) (v6 : Int32) (v7 : Int32) (v10 : Int32) (k0 : Int32) (H : Heap) (locs : List Loc) (ls : Array Slot), fL_isRight_j189 N a u w v1 v5 v6 v7 v10 k0 = some y → va_P D vwCl (sg_WX cA ad u ++ (sg_X4 cA x0 x1 x2 x3 a w)) H → va_D A (sg_WX cA ad u ++ (sg_X4 cA x0 x1 x2 x3 a w)) → va_S A s.heap H locs → lv_has ls 15 [(0, .ref (ad 0)), (1, .int v1), (2, .ref x1), (3, .ref x2), (4, .ref x0), (5, .int v5), (6, .int v6), (7, .int v7), (8, .ref x3), (10, .int v10)] → W p l e (headSpec wsL_isRight ({ frames := 19, cells := 394, slots := 2368, locals := 507 })).room s m ([.ref (ad 0), .int p1, .ref x1, .ref x2, .ref x0] : List Value).toArray below meth c H locs (kc + 12) (kz + 72) (MQ below (va_Qi (fun x y => x = r9 ∧ y = u9) (sg_BX D (fun z => sg_WX cA ad z ++ sg_X3 cA x0 x1 x2 a) A) A) ([.ref (ad 0), .int p1, .ref x1, .ref x2, .ref x0] : List Value).toArray s 394 2368 A) (F0 m 189 ls [.int k0]) := by
      intro u w v6 v7 v10 k0 H locs ls hf hP hD hS hl
      unfold fL_isRight_j189 at hf
      refine lv_iconst (v := 0) hx hb dL_isRight_189 (by decide) ?_
      exact hJ190 _ _ _ _ _ _ _ _ _ _ hf hP hD hS (lv_sub hl [0, 1, 2, 3, 4, 5, 6, 7, 8, 9] rfl)
    have hJ152 : ∀ (u : sg_St) (w : Nat → Int32) (v6 : Int32) (v7 : Int32) (v10 : Int32) (v11 : Int32) (v12 : Int32) (k0 : Int32) (k1 : Int32) (k2 : Int32) (H : Heap) (locs : List Loc) (ls : Array Slot), fL_isRight_j152 N a u w v1 v5 v6 v7 v10 v11 v12 k0 k1 k2 = some y → va_P D vwCl (sg_WX cA ad u ++ (sg_X4 cA x0 x1 x2 x3 a w)) H → va_D A (sg_WX cA ad u ++ (sg_X4 cA x0 x1 x2 x3 a w)) → va_S A s.heap H locs → lv_has ls 15 [(0, .ref (ad 0)), (1, .int v1), (2, .ref x1), (3, .ref x2), (4, .ref x0), (5, .int v5), (6, .int v6), (7, .int v7), (8, .ref x3), (10, .int v10), (11, .int v11), (12, .int v12)] → W p l e (headSpec wsL_isRight ({ frames := 19, cells := 394, slots := 2368, locals := 507 })).room s m ([.ref (ad 0), .int p1, .ref x1, .ref x2, .ref x0] : List Value).toArray below meth c H locs (kc + 10) (kz + 60) (MQ below (va_Qi (fun x y => x = r9 ∧ y = u9) (sg_BX D (fun z => sg_WX cA ad z ++ sg_X3 cA x0 x1 x2 a) A) A) ([.ref (ad 0), .int p1, .ref x1, .ref x2, .ref x0] : List Value).toArray s 394 2368 A) (F0 m 152 ls [.int k2, .int k1, .int k0]) := by
      intro u w v6 v7 v10 v11 v12 k0 k1 k2 H locs ls hf hP hD hS hl
      unfold fL_isRight_j152 at hf
      refine lv_icmp_ne (tgt := 189) hx hb dL_isRight_152 (by decide) (fun c11 => ?_) (fun c11 => ?_)
      · have hf := sg_in c11 hf
        refine W.widen (k := kc + 12) (n := kz + 72) (by omega) (by omega) ?_
        exact hJ189 _ _ _ _ _ _ _ _ _ hf hP hD hS (lv_sub hl [0, 1, 2, 3, 4, 5, 6, 7, 8, 9] rfl)
      · have hf := sg_ip c11 hf
        refine lv_iload hx hb dL_isRight_155 (lv_at hl 11 rfl) ?_
        refine lv_if_lt (tgt := 185) hx hb dL_isRight_157 (by decide) (fun c10 => ?_) (fun c10 => ?_)
        · have hf := sg_ip c10 hf
          refine lv_iconst (v := 1) hx hb dL_isRight_185 (by decide) ?_
          refine lv_goto (tgt := 190) hx hb dL_isRight_186 (by decide) ?_
          refine W.widen (k := kc + 12) (n := kz + 72) (by omega) (by omega) ?_
          exact hJ190 _ _ _ _ _ _ _ _ _ _ hf hP hD hS (lv_sub hl [0, 1, 2, 3, 4, 5, 6, 7, 8, 9] rfl)
        · have hf := sg_in c10 hf
          refine lv_aload_n hx hb dL_isRight_160 rfl (lv_at hl 0 rfl) ?_
          refine lv_iload hx hb dL_isRight_161 (lv_at hl 11 rfl) ?_
          obtain ⟨r1, u3, hc2, hf⟩ := sg_b2_s hf
          refine sg_li (Wf := sg_WX cA ad) (vx_runSW (hh := [(0, 5, 6, 32)]) (As := [.ref (ad 0), .int v12]) (rest := [.int k0]) ⟨hx, hb, hml, hown, hts⟩ (c_L_islandOf l hlt D cA ad N _ _ _ _ hc2 _) (vx_cwSW (hh := [(0, 5, 6, 32)]) 2 hts gL_isRight_L_islandOf rfl rfl rfl (by decide +kernel) ⟨Nat.le_of_ble_eq_true rfl, Nat.le_of_ble_eq_true rfl⟩) (sg_preL (w0 := sg_WX cA ad u) hK (sg_Pl hP) (sg_Dl hD) hT hN hS hA) rfl rfl hl.1 rfl (lv_room (Nat.le_of_ble_eq_true rfl)) dL_isRight_163 ⟨by show kc + 10 + 1 ≤ 394; omega, by show kz + 60 + 6 ≤ 2368; omega⟩) hP hD hS hA (fun H locs hP hD hS => ?_)
          refine lv_iload hx hb dL_isRight_166 (lv_at hl 10 rfl) ?_
          refine lv_icmp_ne (tgt := 189) hx hb dL_isRight_168 (by decide) (fun c9 => ?_) (fun c9 => ?_)
          · have hf := sg_in c9 hf
            refine W.widen (k := kc + 12) (n := kz + 72) (by omega) (by omega) ?_
            exact hJ189 _ _ _ _ _ _ _ _ _ hf hP hD hS (lv_sub hl [0, 1, 2, 3, 4, 5, 6, 7, 8, 9] rfl)
          · have hf := sg_ip c9 hf
            refine lv_aload_n hx hb dL_isRight_171 rfl (lv_at hl 0 rfl) ?_
            refine lv_iload hx hb dL_isRight_172 (lv_at hl 9 rfl) ?_
            obtain ⟨r4, u6, hc5, hf⟩ := sg_b2_s hf
            refine sg_li (Wf := sg_WX cA ad) (vx_runSW (hh := [(0, 5, 6, 32)]) (As := [.ref (ad 0), .int v10]) (rest := [.int k0]) ⟨hx, hb, hml, hown, hts⟩ (c_L_islandLoad l hlt D cA ad N _ _ _ _ hc5 _) (vx_cwSW (hh := [(0, 5, 6, 32)]) 2 hts gL_isRight_L_islandLoad rfl rfl rfl (by decide +kernel) ⟨Nat.le_of_ble_eq_true rfl, Nat.le_of_ble_eq_true rfl⟩) (sg_preL (w0 := sg_WX cA ad u3) hK (sg_Pl hP) (sg_Dl hD) hT hN hS hA) rfl rfl hl.1 rfl (lv_room (Nat.le_of_ble_eq_true rfl)) dL_isRight_174 ⟨by show kc + 11 + 1 ≤ 394; omega, by show kz + 66 + 6 ≤ 2368; omega⟩) hP hD hS hA (fun H locs hP hD hS => ?_)
            refine lv_aload hx hb dL_isRight_177 (lv_at hl 4 rfl) ?_
            refine lv_iload hx hb dL_isRight_179 (lv_at hl 11 rfl) ?_
            obtain ⟨hg7, hf⟩ := sg_g_s hf
            refine va_iald hx hb hK.1 hP 17 0 rfl rfl (sg_inb_s hg7) dL_isRight_181 ?_
            refine lv_icmp_gt (tgt := 189) hx hb dL_isRight_182 (by decide) (fun c8 => ?_) (fun c8 => ?_)
            · have hf := sg_ip c8 hf
              exact hJ189 _ _ _ _ _ _ _ _ _ hf hP hD hS (lv_sub hl [0, 1, 2, 3, 4, 5, 6, 7, 8, 9] rfl)
            · have hf := sg_in c8 hf
              refine lv_iconst (v := 1) hx hb dL_isRight_185 (by decide) ?_
              refine lv_goto (tgt := 190) hx hb dL_isRight_186 (by decide) ?_
              exact hJ190 _ _ _ _ _ _ _ _ _ _ hf hP hD hS (lv_sub hl [0, 1, 2, 3, 4, 5, 6, 7, 8, 9] rfl)
    have hJ137 : ∀ (u : sg_St) (w : Nat → Int32) (v6 : Int32) (v7 : Int32) (v10 : Int32) (v11 : Int32) (v12 : Int32) (k0 : Int32) (k1 : Int32) (H : Heap) (locs : List Loc) (ls : Array Slot), fL_isRight_j137 N a u w v1 v5 v6 v7 v10 v11 v12 k0 k1 = some y → va_P D vwCl (sg_WX cA ad u ++ (sg_X4 cA x0 x1 x2 x3 a w)) H → va_D A (sg_WX cA ad u ++ (sg_X4 cA x0 x1 x2 x3 a w)) → va_S A s.heap H locs → lv_has ls 15 [(0, .ref (ad 0)), (1, .int v1), (2, .ref x1), (3, .ref x2), (4, .ref x0), (5, .int v5), (6, .int v6), (7, .int v7), (8, .ref x3), (10, .int v10), (11, .int v11), (12, .int v12)] → W p l e (headSpec wsL_isRight ({ frames := 19, cells := 394, slots := 2368, locals := 507 })).room s m ([.ref (ad 0), .int p1, .ref x1, .ref x2, .ref x0] : List Value).toArray below meth c H locs (kc + 9) (kz + 54) (MQ below (va_Qi (fun x y => x = r9 ∧ y = u9) (sg_BX D (fun z => sg_WX cA ad z ++ sg_X3 cA x0 x1 x2 a) A) A) ([.ref (ad 0), .int p1, .ref x1, .ref x2, .ref x0] : List Value).toArray s 394 2368 A) (F0 m 137 ls [.int k1, .int k0]) := by
      intro u w v6 v7 v10 v11 v12 k0 k1 H locs ls hf hP hD hS hl
      unfold fL_isRight_j137 at hf
      refine lv_aload_n hx hb dL_isRight_137 rfl (lv_at hl 0 rfl) ?_
      refine lv_iload hx hb dL_isRight_138 (lv_at hl 9 rfl) ?_
      obtain ⟨r1, u3, hc2, hf⟩ := sg_b2_s hf
      refine sg_li (Wf := sg_WX cA ad) (vx_runSW (hh := [(0, 13, 14, 32)]) (As := [.ref (ad 0), .int v10]) (rest := [.int k1, .int k0]) ⟨hx, hb, hml, hown, hts⟩ (c_L_isLive l hlt D cA ad N _ _ _ _ hc2 _) (vx_cwSW (hh := [(0, 13, 14, 32)]) 2 hts gL_isRight_L_isLive rfl rfl rfl (by decide +kernel) ⟨Nat.le_of_ble_eq_true rfl, Nat.le_of_ble_eq_true rfl⟩) (sg_preL (w0 := sg_WX cA ad u) hK (sg_Pl hP) (sg_Dl hD) hT hN hS hA) rfl rfl hl.1 rfl (lv_room (Nat.le_of_ble_eq_true rfl)) dL_isRight_140 ⟨by show kc + 9 + 1 ≤ 394; omega, by show kz + 54 + 6 ≤ 2368; omega⟩) hP hD hS hA (fun H locs hP hD hS => ?_)
      refine lv_iconst (v := 1) hx hb dL_isRight_143 (by decide) ?_
      refine lv_icmp_ne (tgt := 151) hx hb dL_isRight_144 (by decide) (fun c4 => ?_) (fun c4 => ?_)
      · have hf := sg_in c4 hf
        refine lv_iconst (v := 0) hx hb dL_isRight_151 (by decide) ?_
        exact hJ152 _ _ _ _ _ _ _ _ _ _ _ _ _ hf hP hD hS (lv_sub hl [0, 1, 2, 3, 4, 5, 6, 7, 8, 9, 10, 11] rfl)
      · have hf := sg_ip c4 hf
        refine lv_iconst (v := 1) hx hb dL_isRight_147 (by decide) ?_
        refine lv_goto (tgt := 152) hx hb dL_isRight_148 (by decide) ?_
        exact hJ152 _ _ _ _ _ _ _ _ _ _ _ _ _ hf hP hD hS (lv_sub hl [0, 1, 2, 3, 4, 5, 6, 7, 8, 9, 10, 11] rfl)
    have hJ79 : ∀ (u : sg_St) (w : Nat → Int32) (v7 : Int32) (v9 : Int32) (v10 : Int32) (v11 : Int32) (v12 : Int32) (k0 : Int32) (k1 : Int32) (H : Heap) (locs : List Loc) (ls : Array Slot), fL_isRight_j79 N a u w v1 v5 v7 v9 v10 v11 v12 k0 k1 = some y → va_P D vwCl (sg_WX cA ad u ++ (sg_X4 cA x0 x1 x2 x3 a w)) H → va_D A (sg_WX cA ad u ++ (sg_X4 cA x0 x1 x2 x3 a w)) → va_S A s.heap H locs → lv_has ls 15 [(0, .ref (ad 0)), (1, .int v1), (2, .ref x1), (3, .ref x2), (4, .ref x0), (5, .int v5), (7, .int v7), (8, .ref x3), (9, .int v9), (10, .int v10), (11, .int v11), (12, .int v12)] → W p l e (headSpec wsL_isRight ({ frames := 19, cells := 394, slots := 2368, locals := 507 })).room s m ([.ref (ad 0), .int p1, .ref x1, .ref x2, .ref x0] : List Value).toArray below meth c H locs (kc + 6) (kz + 36) (MQ below (va_Qi (fun x y => x = r9 ∧ y = u9) (sg_BX D (fun z => sg_WX cA ad z ++ sg_X3 cA x0 x1 x2 a) A) A) ([.ref (ad 0), .int p1, .ref x1, .ref x2, .ref x0] : List Value).toArray s 394 2368 A) (F0 m 79 ls [.int k1, .int k0]) := by
      intro u w v7 v9 v10 v11 v12 k0 k1 H locs ls hf hP hD hS hl
      unfold fL_isRight_j79 at hf
      refine lv_iadd hx hb dL_isRight_79 ?_
      refine lv_istore (lv' := [(6, .int (k0 + k1)), (0, .ref (ad 0)), (1, .int v1), (2, .ref x1), (3, .ref x2), (4, .ref x0), (5, .int v5), (7, .int v7), (8, .ref x3), (9, .int v9), (10, .int v10), (11, .int v11), (12, .int v12)]) hx hb dL_isRight_80 hl (by decide) rfl (fun ls hl => ?_)
      refine lv_aload hx hb dL_isRight_82 (lv_at hl 8 rfl) ?_
      refine lv_iload hx hb dL_isRight_84 (lv_at hl 11 rfl) ?_
      refine lv_dup2_11 hx hb dL_isRight_86 rfl rfl ?_
      obtain ⟨hg1, hf⟩ := sg_g_s hf
      refine va_iald hx hb hK.1 hP 20 0 rfl rfl (sg_inb_s hg1) dL_isRight_87 ?_
      refine lv_aload_n hx hb dL_isRight_88 rfl (lv_at hl 1 rfl) ?_
      refine lv_iload hx hb dL_isRight_89 (lv_at hl 10 rfl) ?_
      obtain ⟨r2, u4, hc3, hf⟩ := sg_b2_s hf
      refine sg_li (Wf := sg_WX cA ad) (vx_runSW (hh := [(0, 13, 14, 32)]) (As := [.ref (ad 0), .int v10]) (rest := [.int (w (v11).toNatClampNeg), .int v11, .ref x3]) ⟨hx, hb, hml, hown, hts⟩ (c_L_isSource l hlt D cA ad N _ _ _ _ hc3 _) (vx_cwSW (hh := [(0, 13, 14, 32)]) 2 hts gL_isRight_L_isSource rfl rfl rfl (by decide +kernel) ⟨Nat.le_of_ble_eq_true rfl, Nat.le_of_ble_eq_true rfl⟩) (sg_preL (w0 := sg_WX cA ad u) hK (sg_Pl hP) (sg_Dl hD) hT hN hS hA) rfl rfl hl.1 rfl (lv_room (Nat.le_of_ble_eq_true rfl)) dL_isRight_91 ⟨by show kc + 6 + 1 ≤ 394; omega, by show kz + 36 + 6 ≤ 2368; omega⟩) hP hD hS hA (fun H locs hP hD hS => ?_)
      refine lv_iadd hx hb dL_isRight_94 ?_
      obtain ⟨hg5, hf⟩ := sg_g_s hf
      refine va_iast hx hb hK.1 hP hD hS 20 0 rfl rfl (sg_inb_s hg5) dL_isRight_95 (fun H locs hP hD hS => ?_)
      replace hP : va_P D vwCl (sg_WX cA ad u4 ++ (sg_X4 cA x0 x1 x2 x3 a (upd w (v11).toNatClampNeg ((w (v11).toNatClampNeg) + r2)))) H := by rw [← sg_X4_3]; exact hP
      replace hD : va_D A (sg_WX cA ad u4 ++ (sg_X4 cA x0 x1 x2 x3 a (upd w (v11).toNatClampNeg ((w (v11).toNatClampNeg) + r2)))) := by rw [← sg_X4_3]; exact hD
      refine lv_iload hx hb dL_isRight_96 (lv_at hl 9 rfl) ?_
      refine lv_iload hx hb dL_isRight_98 (lv_at hl 11 rfl) ?_
      refine lv_aload_n hx hb dL_isRight_100 rfl (lv_at hl 1 rfl) ?_
      refine lv_iload hx hb dL_isRight_101 (lv_at hl 10 rfl) ?_
      obtain ⟨r6, u8, hc7, hf⟩ := sg_b2_s hf
      refine sg_li (Wf := sg_WX cA ad) (vx_runSW (hh := [(0, 5, 6, 32)]) (As := [.ref (ad 0), .int v10]) (rest := [.int v11, .int v9]) ⟨hx, hb, hml, hown, hts⟩ (c_L_islandByRounds l hlt D cA ad N _ _ _ _ hc7 _) (vx_cwSW (hh := [(0, 5, 6, 32)]) 2 hts gL_isRight_L_islandByRounds rfl rfl rfl (by decide +kernel) ⟨Nat.le_of_ble_eq_true rfl, Nat.le_of_ble_eq_true rfl⟩) (sg_preL (w0 := sg_WX cA ad u4) hK (sg_Pl hP) (sg_Dl hD) hT hN hS hA) rfl rfl hl.1 rfl (lv_room (Nat.le_of_ble_eq_true rfl)) dL_isRight_103 ⟨by show kc + 7 + 1 ≤ 394; omega, by show kz + 42 + 6 ≤ 2368; omega⟩) hP hD hS hA (fun H locs hP hD hS => ?_)
      refine lv_icmp_ne (tgt := 189) hx hb dL_isRight_106 (by decide) (fun c15 => ?_) (fun c15 => ?_)
      · have hf := sg_in c15 hf
        refine W.widen (k := kc + 12) (n := kz + 72) (by omega) (by omega) ?_
        exact hJ189 _ _ _ _ _ _ _ _ _ hf hP hD hS (lv_sub hl [1, 2, 3, 4, 5, 6, 0, 7, 8, 10] rfl)
      · have hf := sg_ip c15 hf
        refine lv_aload_n hx hb dL_isRight_109 rfl (lv_at hl 1 rfl) ?_
        refine lv_iload hx hb dL_isRight_110 (lv_at hl 11 rfl) ?_
        obtain ⟨r9, u11, hc10, hf⟩ := sg_b2_s hf
        refine sg_li (Wf := sg_WX cA ad) (vx_runSW (hh := [(0, 5, 6, 32)]) (As := [.ref (ad 0), .int v11]) (rest := [.int v9]) ⟨hx, hb, hml, hown, hts⟩ (c_L_islandOf l hlt D cA ad N _ _ _ _ hc10 _) (vx_cwSW (hh := [(0, 5, 6, 32)]) 2 hts gL_isRight_L_islandOf rfl rfl rfl (by decide +kernel) ⟨Nat.le_of_ble_eq_true rfl, Nat.le_of_ble_eq_true rfl⟩) (sg_preL (w0 := sg_WX cA ad u8) hK (sg_Pl hP) (sg_Dl hD) hT hN hS hA) rfl rfl hl.1 rfl (lv_room (Nat.le_of_ble_eq_true rfl)) dL_isRight_112 ⟨by show kc + 8 + 1 ≤ 394; omega, by show kz + 48 + 6 ≤ 2368; omega⟩) hP hD hS hA (fun H locs hP hD hS => ?_)
        refine lv_iload hx hb dL_isRight_115 (lv_at hl 11 rfl) ?_
        refine lv_icmp_ne (tgt := 189) hx hb dL_isRight_117 (by decide) (fun c14 => ?_) (fun c14 => ?_)
        · have hf := sg_in c14 hf
          refine W.widen (k := kc + 12) (n := kz + 72) (by omega) (by omega) ?_
          exact hJ189 _ _ _ _ _ _ _ _ _ hf hP hD hS (lv_sub hl [1, 2, 3, 4, 5, 6, 0, 7, 8, 10] rfl)
        · have hf := sg_ip c14 hf
          refine lv_iload hx hb dL_isRight_120 (lv_at hl 11 rfl) ?_
          refine lv_iload hx hb dL_isRight_122 (lv_at hl 10 rfl) ?_
          refine lv_icmp_gt (tgt := 189) hx hb dL_isRight_124 (by decide) (fun c13 => ?_) (fun c13 => ?_)
          · have hf := sg_ip c13 hf
            refine W.widen (k := kc + 12) (n := kz + 72) (by omega) (by omega) ?_
            exact hJ189 _ _ _ _ _ _ _ _ _ hf hP hD hS (lv_sub hl [1, 2, 3, 4, 5, 6, 0, 7, 8, 10] rfl)
          · have hf := sg_in c13 hf
            refine lv_iload hx hb dL_isRight_127 (lv_at hl 12 rfl) ?_
            refine lv_if_lt (tgt := 136) hx hb dL_isRight_129 (by decide) (fun c12 => ?_) (fun c12 => ?_)
            · have hf := sg_ip c12 hf
              refine lv_iconst (v := 0) hx hb dL_isRight_136 (by decide) ?_
              exact hJ137 _ _ _ _ _ _ _ _ _ _ _ _ hf hP hD hS (lv_sub hl [1, 2, 3, 4, 5, 6, 0, 7, 8, 10, 11, 12] rfl)
            · have hf := sg_in c12 hf
              refine lv_iconst (v := 1) hx hb dL_isRight_132 (by decide) ?_
              refine lv_goto (tgt := 137) hx hb dL_isRight_133 (by decide) ?_
              exact hJ137 _ _ _ _ _ _ _ _ _ _ _ _ hf hP hD hS (lv_sub hl [1, 2, 3, 4, 5, 6, 0, 7, 8, 10, 11, 12] rfl)
    unfold fL_isRight_L21 at hf
    refine lv_iload hx hb dL_isRight_21 (lv_at hl 10 rfl) ?_
    refine lv_aload_n hx hb dL_isRight_23 rfl (lv_at hl 0 rfl) ?_
    obtain ⟨r1, hc2, hf⟩ := sg_b_s hf
    refine sg_lj (va_runV (As := []) (rest := [.int x.2.2.2.2.2]) ⟨hx, hb, hml, hown, hts⟩ (c_X5_nodes l D cA ad N _ _ hc2 _) (cwV 0 hts gL_isRight_X5_nodes rfl rfl rfl (by decide +kernel) ⟨Nat.le_of_ble_eq_true rfl, Nat.le_of_ble_eq_true rfl⟩) (sg_pre (Wf := sg_WX cA ad) hK (sg_Pl hP) (sg_Dl hD) (ci := 7) (q0 := 0) rfl rfl) rfl rfl hl.1 rfl (lv_room (Nat.le_of_ble_eq_true rfl)) dL_isRight_24 ⟨by show kc + 0 + 0 ≤ 394; omega, by show kz + 0 + 0 ≤ 2368; omega⟩) hP hD hS hA (fun H locs hP hD hS => ?_)
    refine lv_icmp_ge (tgt := 199) hx hb dL_isRight_27 (by decide) (fun c20 => ?_) (fun c20 => ?_)
    · have hf := sg_ip c20 hf
      have hq := hy _ (Option.some.inj hf).symm
      subst hq
      refine W.widen (k := KE) (n := ZE) (by omega) (by omega) ?_
      exact hk _ _ _ hP hD hS (lv_sub hl [0, 1, 2, 3, 4, 5, 6, 7, 8, 9] rfl)
    · have hf := sg_in c20 hf
      refine lv_aload_n hx hb dL_isRight_30 rfl (lv_at hl 0 rfl) ?_
      refine lv_iload hx hb dL_isRight_31 (lv_at hl 10 rfl) ?_
      obtain ⟨r4, u6, hc5, hf⟩ := sg_b2_s hf
      refine sg_li (Wf := sg_WX cA ad) (vx_runSW (hh := [(0, 5, 6, 32)]) (As := [.ref (ad 0), .int x.2.2.2.2.2]) (rest := []) ⟨hx, hb, hml, hown, hts⟩ (c_L_islandOf l hlt D cA ad N _ _ _ _ hc5 _) (vx_cwSW (hh := [(0, 5, 6, 32)]) 2 hts gL_isRight_L_islandOf rfl rfl rfl (by decide +kernel) ⟨Nat.le_of_ble_eq_true rfl, Nat.le_of_ble_eq_true rfl⟩) (sg_preL (w0 := sg_WX cA ad x.1) hK (sg_Pl hP) (sg_Dl hD) hT hN hS hA) rfl rfl hl.1 rfl (lv_room (Nat.le_of_ble_eq_true rfl)) dL_isRight_33 ⟨by show kc + 0 + 1 ≤ 394; omega, by show kz + 0 + 6 ≤ 2368; omega⟩) hP hD hS hA (fun H locs hP hD hS => ?_)
      refine lv_istore (lv' := [(11, .int r4), (0, .ref (ad 0)), (1, .int v1), (2, .ref x1), (3, .ref x2), (4, .ref x0), (5, .int v5), (6, .int x.2.2.1), (7, .int x.2.2.2.1), (8, .ref x3), (9, .int x.2.2.2.2.1), (10, .int x.2.2.2.2.2)]) hx hb dL_isRight_36 hl (by decide) rfl (fun ls hl => ?_)
      refine lv_aload_n hx hb dL_isRight_38 rfl (lv_at hl 1 rfl) ?_
      refine lv_iload hx hb dL_isRight_39 (lv_at hl 11 rfl) ?_
      obtain ⟨r7, u9, hc8, hf⟩ := sg_b2_s hf
      refine sg_li (Wf := sg_WX cA ad) (vx_runSW (hh := [(0, 5, 6, 32), (0, 5, 10, 22)]) (As := [.ref (ad 0), .int x.2.2.2.2.2]) (rest := []) ⟨hx, hb, hml, hown, hts⟩ (c_L_sourceOf l hlt D cA ad N _ _ _ _ hc8 _) (vx_cwSW (hh := [(0, 5, 6, 32), (0, 5, 10, 22)]) 2 hts gL_isRight_L_sourceOf rfl rfl rfl (by decide +kernel) ⟨Nat.le_of_ble_eq_true rfl, Nat.le_of_ble_eq_true rfl⟩) (sg_preL (w0 := sg_WX cA ad u6) hK (sg_Pl hP) (sg_Dl hD) hT hN hS hA) rfl rfl hl.1 rfl (lv_room (Nat.le_of_ble_eq_true rfl)) dL_isRight_41 ⟨by show kc + 1 + 2 ≤ 394; omega, by show kz + 6 + 12 ≤ 2368; omega⟩) hP hD hS hA (fun H locs hP hD hS => ?_)
      refine lv_istore (lv' := [(12, .int r7), (11, .int r4), (0, .ref (ad 0)), (1, .int v1), (2, .ref x1), (3, .ref x2), (4, .ref x0), (5, .int v5), (6, .int x.2.2.1), (7, .int x.2.2.2.1), (8, .ref x3), (9, .int x.2.2.2.2.1), (10, .int x.2.2.2.2.2)]) hx hb dL_isRight_44 hl (by decide) rfl (fun ls hl => ?_)
      refine lv_iload hx hb dL_isRight_46 (lv_at hl 9 rfl) ?_
      refine lv_aload_n hx hb dL_isRight_48 rfl (lv_at hl 2 rfl) ?_
      refine lv_iload hx hb dL_isRight_49 (lv_at hl 12 rfl) ?_
      obtain ⟨r10, u12, hc11, hf⟩ := sg_b2_s hf
      refine sg_li (Wf := sg_WX cA ad) (vx_runSW (hh := [(0, 5, 6, 32)]) (As := [.ref (ad 0), .int x.2.2.2.2.2]) (rest := [.int x.2.2.2.1]) ⟨hx, hb, hml, hown, hts⟩ (c_L_loadOf l hlt D cA ad N _ _ _ _ hc11 _) (vx_cwSW (hh := [(0, 5, 6, 32)]) 2 hts gL_isRight_L_loadOf rfl rfl rfl (by decide +kernel) ⟨Nat.le_of_ble_eq_true rfl, Nat.le_of_ble_eq_true rfl⟩) (sg_preL (w0 := sg_WX cA ad u9) hK (sg_Pl hP) (sg_Dl hD) hT hN hS hA) rfl rfl hl.1 rfl (lv_room (Nat.le_of_ble_eq_true rfl)) dL_isRight_51 ⟨by show kc + 3 + 1 ≤ 394; omega, by show kz + 18 + 6 ≤ 2368; omega⟩) hP hD hS hA (fun H locs hP hD hS => ?_)
      refine lv_iadd hx hb dL_isRight_54 ?_
      refine lv_istore (lv' := [(7, .int (x.2.2.2.1 + r10)), (12, .int r7), (11, .int r4), (0, .ref (ad 0)), (1, .int v1), (2, .ref x1), (3, .ref x2), (4, .ref x0), (5, .int v5), (6, .int x.2.2.1), (8, .ref x3), (9, .int x.2.2.2.2.1), (10, .int x.2.2.2.2.2)]) hx hb dL_isRight_55 hl (by decide) rfl (fun ls hl => ?_)
      refine lv_iload hx hb dL_isRight_57 (lv_at hl 9 rfl) ?_
      refine lv_aload_n hx hb dL_isRight_59 rfl (lv_at hl 3 rfl) ?_
      refine lv_iload hx hb dL_isRight_60 (lv_at hl 12 rfl) ?_
      obtain ⟨r13, u15, hc14, hf⟩ := sg_b2_s hf
      refine sg_li (Wf := sg_WX cA ad) (vx_runSW (hh := [(0, 13, 14, 32)]) (As := [.ref (ad 0), .int x.2.2.2.2.2]) (rest := [.int x.2.2.1]) ⟨hx, hb, hml, hown, hts⟩ (c_L_isLive l hlt D cA ad N _ _ _ _ hc14 _) (vx_cwSW (hh := [(0, 13, 14, 32)]) 2 hts gL_isRight_L_isLive rfl rfl rfl (by decide +kernel) ⟨Nat.le_of_ble_eq_true rfl, Nat.le_of_ble_eq_true rfl⟩) (sg_preL (w0 := sg_WX cA ad u12) hK (sg_Pl hP) (sg_Dl hD) hT hN hS hA) rfl rfl hl.1 rfl (lv_room (Nat.le_of_ble_eq_true rfl)) dL_isRight_62 ⟨by show kc + 4 + 1 ≤ 394; omega, by show kz + 24 + 6 ≤ 2368; omega⟩) hP hD hS hA (fun H locs hP hD hS => ?_)
      refine lv_iconst (v := 1) hx hb dL_isRight_65 (by decide) ?_
      refine lv_icmp_ne (tgt := 78) hx hb dL_isRight_66 (by decide) (fun c19 => ?_) (fun c19 => ?_)
      · have hf := sg_in c19 hf
        refine lv_iconst (v := 0) hx hb dL_isRight_78 (by decide) ?_
        refine W.widen (k := kc + 6) (n := kz + 36) (by omega) (by omega) ?_
        exact hJ79 _ _ _ _ _ _ _ _ _ _ _ _ hf hP hD hS (lv_sub hl [3, 4, 5, 6, 7, 8, 0, 10, 11, 12, 2, 1] rfl)
      · have hf := sg_ip c19 hf
        refine lv_aload_n hx hb dL_isRight_69 rfl (lv_at hl 3 rfl) ?_
        refine lv_iload hx hb dL_isRight_70 (lv_at hl 12 rfl) ?_
        obtain ⟨r16, u18, hc17, hf⟩ := sg_b2_s hf
        refine sg_li (Wf := sg_WX cA ad) (vx_runSW (hh := [(0, 5, 6, 32)]) (As := [.ref (ad 0), .int x.2.2.2.2.2]) (rest := [.int x.2.2.1]) ⟨hx, hb, hml, hown, hts⟩ (c_L_loadOf l hlt D cA ad N _ _ _ _ hc17 _) (vx_cwSW (hh := [(0, 5, 6, 32)]) 2 hts gL_isRight_L_loadOf rfl rfl rfl (by decide +kernel) ⟨Nat.le_of_ble_eq_true rfl, Nat.le_of_ble_eq_true rfl⟩) (sg_preL (w0 := sg_WX cA ad u15) hK (sg_Pl hP) (sg_Dl hD) hT hN hS hA) rfl rfl hl.1 rfl (lv_room (Nat.le_of_ble_eq_true rfl)) dL_isRight_72 ⟨by show kc + 5 + 1 ≤ 394; omega, by show kz + 30 + 6 ≤ 2368; omega⟩) hP hD hS hA (fun H locs hP hD hS => ?_)
        refine lv_goto (tgt := 79) hx hb dL_isRight_75 (by decide) ?_
        exact hJ79 _ _ _ _ _ _ _ _ _ _ _ _ hf hP hD hS (lv_sub hl [3, 4, 5, 6, 7, 8, 0, 10, 11, 12, 2, 1] rfl)
  have hL202 : ∀ (v1 : Int32) (v5 : Int32) (v6 : Int32) (v7 : Int32), ∀ (n : Nat) (x : sg_St × (Nat → Int32) × Int32 × Int32) (r9x : sg_St × (Nat → Int32) × Int32), sg_it (fun x => fL_isRight_L202 N a x.1 x.2.1 v1 v5 v6 v7 x.2.2.1 x.2.2.2) n x = some r9x → ∀ kc kz KE ZE : Nat, kc + n * 0 ≤ KE → kz + n * 0 ≤ ZE → KE ≤ 394 → ZE ≤ 2368 → ∀ (H : Heap) (locs : List Loc) (ls : Array Slot), va_P D vwCl (sg_WX cA ad x.1 ++ (sg_X4 cA x0 x1 x2 x3 a x.2.1)) H → va_D A (sg_WX cA ad x.1 ++ (sg_X4 cA x0 x1 x2 x3 a x.2.1)) → va_S A s.heap H locs → lv_has ls 15 [(0, .ref (ad 0)), (1, .int v1), (2, .ref x1), (3, .ref x2), (4, .ref x0), (5, .int v5), (6, .int v6), (7, .int v7), (8, .ref x3), (9, .int x.2.2.1), (10, .int x.2.2.2)] → (∀ (H : Heap) (locs : List Loc) (ls : Array Slot), va_P D vwCl (sg_WX cA ad r9x.1 ++ (sg_X4 cA x0 x1 x2 x3 a r9x.2.1)) H → va_D A (sg_WX cA ad r9x.1 ++ (sg_X4 cA x0 x1 x2 x3 a r9x.2.1)) → va_S A s.heap H locs → lv_has ls 15 [(0, .ref (ad 0)), (1, .int v1), (2, .ref x1), (3, .ref x2), (4, .ref x0), (5, .int v5), (6, .int v6), (7, .int v7), (9, .int r9x.2.2)] → W p l e (headSpec wsL_isRight ({ frames := 19, cells := 394, slots := 2368, locals := 507 })).room s m ([.ref (ad 0), .int p1, .ref x1, .ref x2, .ref x0] : List Value).toArray below meth c H locs KE ZE (MQ below (va_Qi (fun x y => x = r9 ∧ y = u9) (sg_BX D (fun z => sg_WX cA ad z ++ sg_X3 cA x0 x1 x2 a) A) A) ([.ref (ad 0), .int p1, .ref x1, .ref x2, .ref x0] : List Value).toArray s 394 2368 A) (F0 m 234 ls [])) → W p l e (headSpec wsL_isRight ({ frames := 19, cells := 394, slots := 2368, locals := 507 })).room s m ([.ref (ad 0), .int p1, .ref x1, .ref x2, .ref x0] : List Value).toArray below meth c H locs kc kz (MQ below (va_Qi (fun x y => x = r9 ∧ y = u9) (sg_BX D (fun z => sg_WX cA ad z ++ sg_X3 cA x0 x1 x2 a) A) A) ([.ref (ad 0), .int p1, .ref x1, .ref x2, .ref x0] : List Value).toArray s 394 2368 A) (F0 m 202 ls []) := by
    intro v1 v5 v6 v7
    refine sg_loopN _ ?_
    intro n x y r9x hf hI hy kc kz KE ZE hKn hZn hKR hZR H locs ls hP hD hS hl hk
    replace hf : fL_isRight_L202 N a x.1 x.2.1 v1 v5 v6 v7 x.2.2.1 x.2.2.2 = some y := hf
    have hJ225 : ∀ (u : sg_St) (w : Nat → Int32) (v10 : Int32) (k0 : Int32) (k1 : Int32) (H : Heap) (locs : List Loc) (ls : Array Slot), fL_isRight_j225 N a u w v1 v5 v6 v7 v10 k0 k1 = some y → va_P D vwCl (sg_WX cA ad u ++ (sg_X4 cA x0 x1 x2 x3 a w)) H → va_D A (sg_WX cA ad u ++ (sg_X4 cA x0 x1 x2 x3 a w)) → va_S A s.heap H locs → lv_has ls 15 [(0, .ref (ad 0)), (1, .int v1), (2, .ref x1), (3, .ref x2), (4, .ref x0), (5, .int v5), (6, .int v6), (7, .int v7), (8, .ref x3), (10, .int v10)] → W p l e (headSpec wsL_isRight ({ frames := 19, cells := 394, slots := 2368, locals := 507 })).room s m ([.ref (ad 0), .int p1, .ref x1, .ref x2, .ref x0] : List Value).toArray below meth c H locs (kc + 0) (kz + 0) (MQ below (va_Qi (fun x y => x = r9 ∧ y = u9) (sg_BX D (fun z => sg_WX cA ad z ++ sg_X3 cA x0 x1 x2 a) A) A) ([.ref (ad 0), .int p1, .ref x1, .ref x2, .ref x0] : List Value).toArray s 394 2368 A) (F0 m 225 ls [.int k1, .int k0]) := by
      intro u w v10 k0 k1 H locs ls hf hP hD hS hl
      unfold fL_isRight_j225 at hf
      refine lv_iand hx hb dL_isRight_225 ?_
      refine lv_istore (lv' := [(9, .int (k0 &&& k1)), (0, .ref (ad 0)), (1, .int v1), (2, .ref x1), (3, .ref x2), (4, .ref x0), (5, .int v5), (6, .int v6), (7, .int v7), (8, .ref x3), (10, .int v10)]) hx hb dL_isRight_226 hl (by decide) rfl (fun ls hl => ?_)
      refine lv_iinc (v := v10 + 1) (lv' := [(10, .int (v10 + 1)), (9, .int (k0 &&& k1)), (0, .ref (ad 0)), (1, .int v1), (2, .ref x1), (3, .ref x2), (4, .ref x0), (5, .int v5), (6, .int v6), (7, .int v7), (8, .ref x3)]) hx hb dL_isRight_228 hl (k := 10) rfl rfl (by decide) rfl (fun ls hl => ?_)
      refine lv_goto (tgt := 202) hx hb dL_isRight_231 (by decide) ?_
      refine W.widen (k := kc + 0) (n := kz + 0) (by omega) (by omega) ?_
      exact hI _ (Option.some.inj hf).symm (kc + 0) (kz + 0) KE ZE (by omega) (by omega) hKR hZR _ _ _ hP hD hS (lv_sub hl [2, 3, 4, 5, 6, 7, 8, 9, 10, 1, 0] rfl) hk
    unfold fL_isRight_L202 at hf
    refine lv_iload hx hb dL_isRight_202 (lv_at hl 10 rfl) ?_
    refine lv_bipush (v := 10) hx hb dL_isRight_204 (by decide) ?_
    refine lv_icmp_ge (tgt := 234) hx hb dL_isRight_206 (by decide) (fun c3 => ?_) (fun c3 => ?_)
    · have hf := sg_ip c3 hf
      have hq := hy _ (Option.some.inj hf).symm
      subst hq
      refine W.widen (k := KE) (n := ZE) (by omega) (by omega) ?_
      exact hk _ _ _ hP hD hS (lv_sub hl [0, 1, 2, 3, 4, 5, 6, 7, 9] rfl)
    · have hf := sg_in c3 hf
      refine lv_iload hx hb dL_isRight_209 (lv_at hl 9 rfl) ?_
      refine lv_aload hx hb dL_isRight_211 (lv_at hl 8 rfl) ?_
      refine lv_iload hx hb dL_isRight_213 (lv_at hl 10 rfl) ?_
      obtain ⟨hg1, hf⟩ := sg_g_s hf
      refine va_iald hx hb hK.1 hP 20 0 rfl rfl (sg_inb_s hg1) dL_isRight_215 ?_
      refine lv_iconst (v := 1) hx hb dL_isRight_216 (by decide) ?_
      refine lv_icmp_gt (tgt := 224) hx hb dL_isRight_217 (by decide) (fun c2 => ?_) (fun c2 => ?_)
      · have hf := sg_ip c2 hf
        refine lv_iconst (v := 0) hx hb dL_isRight_224 (by decide) ?_
        exact hJ225 _ _ _ _ _ _ _ _ hf hP hD hS (lv_sub hl [0, 1, 2, 3, 4, 5, 6, 7, 8, 10] rfl)
      · have hf := sg_in c2 hf
        refine lv_iconst (v := 1) hx hb dL_isRight_220 (by decide) ?_
        refine lv_goto (tgt := 225) hx hb dL_isRight_221 (by decide) ?_
        exact hJ225 _ _ _ _ _ _ _ _ hf hP hD hS (lv_sub hl [0, 1, 2, 3, 4, 5, 6, 7, 8, 10] rfl)
  have hL237 : ∀ (v1 : Int32) (v6 : Int32) (v7 : Int32), ∀ (n : Nat) (x : sg_St × (Nat → Int32) × Int32 × Int32 × Int32) (r9x : sg_St × (Nat → Int32) × Int32 × Int32), sg_it (fun x => fL_isRight_L237 N a x.1 x.2.1 v1 v6 v7 x.2.2.1 x.2.2.2.1 x.2.2.2.2) n x = some r9x → ∀ kc kz KE ZE : Nat, kc + n * 20 ≤ KE → kz + n * 120 ≤ ZE → KE ≤ 394 → ZE ≤ 2368 → ∀ (H : Heap) (locs : List Loc) (ls : Array Slot), va_P D vwCl (sg_WX cA ad x.1 ++ (sg_X4 cA x0 x1 x2 x3 a x.2.1)) H → va_D A (sg_WX cA ad x.1 ++ (sg_X4 cA x0 x1 x2 x3 a x.2.1)) → va_S A s.heap H locs → lv_has ls 15 [(0, .ref (ad 0)), (1, .int v1), (2, .ref x1), (3, .ref x2), (4, .ref x0), (5, .int x.2.2.1), (6, .int v6), (7, .int v7), (9, .int x.2.2.2.1), (10, .int x.2.2.2.2)] → (∀ (H : Heap) (locs : List Loc) (ls : Array Slot), va_P D vwCl (sg_WX cA ad r9x.1 ++ (sg_X4 cA x0 x1 x2 x3 a r9x.2.1)) H → va_D A (sg_WX cA ad r9x.1 ++ (sg_X4 cA x0 x1 x2 x3 a r9x.2.1)) → va_S A s.heap H locs → lv_has ls 15 [(0, .ref (ad 0)), (5, .int r9x.2.2.1), (6, .int v6), (7, .int v7), (9, .int r9x.2.2.2)] → W p l e (headSpec wsL_isRight ({ frames := 19, cells := 394, slots := 2368, locals := 507 })).room s m ([.ref (ad 0), .int p1, .ref x1, .ref x2, .ref x0] : List Value).toArray below meth c H locs KE ZE (MQ below (va_Qi (fun x y => x = r9 ∧ y = u9) (sg_BX D (fun z => sg_WX cA ad z ++ sg_X3 cA x0 x1 x2 a) A) A) ([.ref (ad 0), .int p1, .ref x1, .ref x2, .ref x0] : List Value).toArray s 394 2368 A) (F0 m 556 ls [])) → W p l e (headSpec wsL_isRight ({ frames := 19, cells := 394, slots := 2368, locals := 507 })).room s m ([.ref (ad 0), .int p1, .ref x1, .ref x2, .ref x0] : List Value).toArray below meth c H locs kc kz (MQ below (va_Qi (fun x y => x = r9 ∧ y = u9) (sg_BX D (fun z => sg_WX cA ad z ++ sg_X3 cA x0 x1 x2 a) A) A) ([.ref (ad 0), .int p1, .ref x1, .ref x2, .ref x0] : List Value).toArray s 394 2368 A) (F0 m 237 ls []) := by
    intro v1 v6 v7
    refine sg_loopN _ ?_
    intro n x y r9x hf hI hy kc kz KE ZE hKn hZn hKR hZR H locs ls hP hD hS hl hk
    replace hf : fL_isRight_L237 N a x.1 x.2.1 v1 v6 v7 x.2.2.1 x.2.2.2.1 x.2.2.2.2 = some y := hf
    have hJ547 : ∀ (u : sg_St) (w : Nat → Int32) (v5 : Int32) (v10 : Int32) (k0 : Int32) (k1 : Int32) (H : Heap) (locs : List Loc) (ls : Array Slot), fL_isRight_j547 N a u w v1 v5 v6 v7 v10 k0 k1 = some y → va_P D vwCl (sg_WX cA ad u ++ (sg_X4 cA x0 x1 x2 x3 a w)) H → va_D A (sg_WX cA ad u ++ (sg_X4 cA x0 x1 x2 x3 a w)) → va_S A s.heap H locs → lv_has ls 15 [(0, .ref (ad 0)), (1, .int v1), (2, .ref x1), (3, .ref x2), (4, .ref x0), (5, .int v5), (6, .int v6), (7, .int v7), (10, .int v10)] → W p l e (headSpec wsL_isRight ({ frames := 19, cells := 394, slots := 2368, locals := 507 })).room s m ([.ref (ad 0), .int p1, .ref x1, .ref x2, .ref x0] : List Value).toArray below meth c H locs (kc + 20) (kz + 120) (MQ below (va_Qi (fun x y => x = r9 ∧ y = u9) (sg_BX D (fun z => sg_WX cA ad z ++ sg_X3 cA x0 x1 x2 a) A) A) ([.ref (ad 0), .int p1, .ref x1, .ref x2, .ref x0] : List Value).toArray s 394 2368 A) (F0 m 547 ls [.int k1, .int k0]) := by
      intro u w v5 v10 k0 k1 H locs ls hf hP hD hS hl
      unfold fL_isRight_j547 at hf
      refine lv_iand hx hb dL_isRight_547 ?_
      refine lv_istore (lv' := [(9, .int (k0 &&& k1)), (0, .ref (ad 0)), (1, .int v1), (2, .ref x1), (3, .ref x2), (4, .ref x0), (5, .int v5), (6, .int v6), (7, .int v7), (10, .int v10)]) hx hb dL_isRight_548 hl (by decide) rfl (fun ls hl => ?_)
      refine lv_iinc (v := v10 + 1) (lv' := [(10, .int (v10 + 1)), (9, .int (k0 &&& k1)), (0, .ref (ad 0)), (1, .int v1), (2, .ref x1), (3, .ref x2), (4, .ref x0), (5, .int v5), (6, .int v6), (7, .int v7)]) hx hb dL_isRight_550 hl (k := 9) rfl rfl (by decide) rfl (fun ls hl => ?_)
      refine lv_goto (tgt := 237) hx hb dL_isRight_553 (by decide) ?_
      refine W.widen (k := kc + 20) (n := kz + 120) (by omega) (by omega) ?_
      exact hI _ (Option.some.inj hf).symm (kc + 20) (kz + 120) KE ZE (by omega) (by omega) hKR hZR _ _ _ hP hD hS (lv_sub hl [2, 3, 4, 5, 6, 7, 8, 9, 1, 0] rfl) hk
    have hJ497 : ∀ (u : sg_St) (w : Nat → Int32) (v5 : Int32) (v10 : Int32) (k0 : Int32) (k1 : Int32) (H : Heap) (locs : List Loc) (ls : Array Slot), fL_isRight_j497 N a u w v1 v5 v6 v7 v10 k0 k1 = some y → va_P D vwCl (sg_WX cA ad u ++ (sg_X4 cA x0 x1 x2 x3 a w)) H → va_D A (sg_WX cA ad u ++ (sg_X4 cA x0 x1 x2 x3 a w)) → va_S A s.heap H locs → lv_has ls 15 [(0, .ref (ad 0)), (1, .int v1), (2, .ref x1), (3, .ref x2), (4, .ref x0), (5, .int v5), (6, .int v6), (7, .int v7), (10, .int v10)] → W p l e (headSpec wsL_isRight ({ frames := 19, cells := 394, slots := 2368, locals := 507 })).room s m ([.ref (ad 0), .int p1, .ref x1, .ref x2, .ref x0] : List Value).toArray below meth c H locs (kc + 17) (kz + 102) (MQ below (va_Qi (fun x y => x = r9 ∧ y = u9) (sg_BX D (fun z => sg_WX cA ad z ++ sg_X3 cA x0 x1 x2 a) A) A) ([.ref (ad 0), .int p1, .ref x1, .ref x2, .ref x0] : List Value).toArray s 394 2368 A) (F0 m 497 ls [.int k1, .int k0]) := by
      intro u w v5 v10 k0 k1 H locs ls hf hP hD hS hl
      unfold fL_isRight_j497 at hf
      refine lv_iand hx hb dL_isRight_497 ?_
      refine lv_istore (lv' := [(9, .int (k0 &&& k1)), (0, .ref (ad 0)), (1, .int v1), (2, .ref x1), (3, .ref x2), (4, .ref x0), (5, .int v5), (6, .int v6), (7, .int v7), (10, .int v10)]) hx hb dL_isRight_498 hl (by decide) rfl (fun ls hl => ?_)
      refine lv_iload hx hb dL_isRight_500 (lv_at hl 0 rfl) ?_
      refine lv_aload_n hx hb dL_isRight_502 rfl (lv_at hl 1 rfl) ?_
      refine lv_iload hx hb dL_isRight_503 (lv_at hl 9 rfl) ?_
      obtain ⟨r1, u3, hc2, hf⟩ := sg_b2_s hf
      refine sg_li (Wf := sg_WX cA ad) (vx_runSW (hh := [(0, 13, 14, 32)]) (As := [.ref (ad 0), .int v10]) (rest := [.int (k0 &&& k1)]) ⟨hx, hb, hml, hown, hts⟩ (c_L_isSelective l hlt D cA ad N _ _ _ _ hc2 _) (vx_cwSW (hh := [(0, 13, 14, 32)]) 2 hts gL_isRight_L_isSelective rfl rfl rfl (by decide +kernel) ⟨Nat.le_of_ble_eq_true rfl, Nat.le_of_ble_eq_true rfl⟩) (sg_preL (w0 := sg_WX cA ad u) hK (sg_Pl hP) (sg_Dl hD) hT hN hS hA) rfl rfl hl.1 rfl (lv_room (Nat.le_of_ble_eq_true rfl)) dL_isRight_505 ⟨by show kc + 17 + 1 ≤ 394; omega, by show kz + 102 + 6 ≤ 2368; omega⟩) hP hD hS hA (fun H locs hP hD hS => ?_)
      refine lv_iconst (v := 1) hx hb dL_isRight_508 (by decide) ?_
      refine lv_icmp_ne (tgt := 531) hx hb dL_isRight_509 (by decide) (fun c12 => ?_) (fun c12 => ?_)
      · have hf := sg_in c12 hf
        refine lv_aload_n hx hb dL_isRight_531 rfl (lv_at hl 1 rfl) ?_
        refine lv_iload hx hb dL_isRight_532 (lv_at hl 9 rfl) ?_
        obtain ⟨r4, u6, hc5, hf⟩ := sg_b2_s hf
        refine sg_li (Wf := sg_WX cA ad) (vx_runSW (hh := [(0, 5, 6, 32), (0, 5, 10, 22), (0, 5, 14, 37)]) (As := [.ref (ad 0), .int v10]) (rest := [.int (k0 &&& k1)]) ⟨hx, hb, hml, hown, hts⟩ (c_L_margin l hlt D cA ad N _ _ _ _ hc5 _) (vx_cwSW (hh := [(0, 5, 6, 32), (0, 5, 10, 22), (0, 5, 14, 37)]) 2 hts gL_isRight_L_margin rfl rfl rfl (by decide +kernel) ⟨Nat.le_of_ble_eq_true rfl, Nat.le_of_ble_eq_true rfl⟩) (sg_preL (w0 := sg_WX cA ad u3) hK (sg_Pl hP) (sg_Dl hD) hT hN hS hA) rfl rfl hl.1 rfl (lv_room (Nat.le_of_ble_eq_true rfl)) dL_isRight_534 ⟨by show kc + 18 + 2 ≤ 394; omega, by show kz + 108 + 12 ≤ 2368; omega⟩) hP hD hS hA (fun H locs hP hD hS => ?_)
        refine lv_bipush (v := (-79)) hx hb dL_isRight_537 (by decide) ?_
        refine lv_icmp_ne (tgt := 546) hx hb dL_isRight_539 (by decide) (fun c7 => ?_) (fun c7 => ?_)
        · have hf := sg_in c7 hf
          refine lv_iconst (v := 0) hx hb dL_isRight_546 (by decide) ?_
          exact hJ547 _ _ _ _ _ _ _ _ _ hf hP hD hS (lv_sub hl [1, 2, 3, 4, 5, 6, 7, 8, 9] rfl)
        · have hf := sg_ip c7 hf
          refine lv_iconst (v := 1) hx hb dL_isRight_542 (by decide) ?_
          refine lv_goto (tgt := 547) hx hb dL_isRight_543 (by decide) ?_
          exact hJ547 _ _ _ _ _ _ _ _ _ hf hP hD hS (lv_sub hl [1, 2, 3, 4, 5, 6, 7, 8, 9] rfl)
      · have hf := sg_ip c12 hf
        refine lv_aload_n hx hb dL_isRight_512 rfl (lv_at hl 1 rfl) ?_
        refine lv_iload hx hb dL_isRight_513 (lv_at hl 9 rfl) ?_
        obtain ⟨r8, u10, hc9, hf⟩ := sg_b2_s hf
        refine sg_li (Wf := sg_WX cA ad) (vx_runSW (hh := [(0, 5, 6, 32)]) (As := [.ref (ad 0), .int v10]) (rest := [.int (k0 &&& k1)]) ⟨hx, hb, hml, hown, hts⟩ (c_L_wouldTrip l hlt D cA ad N _ _ _ _ hc9 _) (vx_cwSW (hh := [(0, 5, 6, 32)]) 2 hts gL_isRight_L_wouldTrip rfl rfl rfl (by decide +kernel) ⟨Nat.le_of_ble_eq_true rfl, Nat.le_of_ble_eq_true rfl⟩) (sg_preL (w0 := sg_WX cA ad u3) hK (sg_Pl hP) (sg_Dl hD) hT hN hS hA) rfl rfl hl.1 rfl (lv_room (Nat.le_of_ble_eq_true rfl)) dL_isRight_515 ⟨by show kc + 18 + 1 ≤ 394; omega, by show kz + 108 + 6 ≤ 2368; omega⟩) hP hD hS hA (fun H locs hP hD hS => ?_)
        refine lv_iload hx hb dL_isRight_518 (lv_at hl 9 rfl) ?_
        refine lv_icmp_ne (tgt := 527) hx hb dL_isRight_520 (by decide) (fun c11 => ?_) (fun c11 => ?_)
        · have hf := sg_in c11 hf
          refine lv_iconst (v := 0) hx hb dL_isRight_527 (by decide) ?_
          refine lv_goto (tgt := 547) hx hb dL_isRight_528 (by decide) ?_
          refine W.widen (k := kc + 20) (n := kz + 120) (by omega) (by omega) ?_
          exact hJ547 _ _ _ _ _ _ _ _ _ hf hP hD hS (lv_sub hl [1, 2, 3, 4, 5, 6, 7, 8, 9] rfl)
        · have hf := sg_ip c11 hf
          refine lv_iconst (v := 1) hx hb dL_isRight_523 (by decide) ?_
          refine lv_goto (tgt := 547) hx hb dL_isRight_524 (by decide) ?_
          refine W.widen (k := kc + 20) (n := kz + 120) (by omega) (by omega) ?_
          exact hJ547 _ _ _ _ _ _ _ _ _ hf hP hD hS (lv_sub hl [1, 2, 3, 4, 5, 6, 7, 8, 9] rfl)
    have hJ411 : ∀ (u : sg_St) (w : Nat → Int32) (v5 : Int32) (v10 : Int32) (v13 : Int32) (k0 : Int32) (k1 : Int32) (H : Heap) (locs : List Loc) (ls : Array Slot), fL_isRight_j411 N a u w v1 v5 v6 v7 v10 v13 k0 k1 = some y → va_P D vwCl (sg_WX cA ad u ++ (sg_X4 cA x0 x1 x2 x3 a w)) H → va_D A (sg_WX cA ad u ++ (sg_X4 cA x0 x1 x2 x3 a w)) → va_S A s.heap H locs → lv_has ls 15 [(0, .ref (ad 0)), (1, .int v1), (2, .ref x1), (3, .ref x2), (4, .ref x0), (5, .int v5), (6, .int v6), (7, .int v7), (10, .int v10), (13, .int v13)] → W p l e (headSpec wsL_isRight ({ frames := 19, cells := 394, slots := 2368, locals := 507 })).room s m ([.ref (ad 0), .int p1, .ref x1, .ref x2, .ref x0] : List Value).toArray below meth c H locs (kc + 8) (kz + 48) (MQ below (va_Qi (fun x y => x = r9 ∧ y = u9) (sg_BX D (fun z => sg_WX cA ad z ++ sg_X3 cA x0 x1 x2 a) A) A) ([.ref (ad 0), .int p1, .ref x1, .ref x2, .ref x0] : List Value).toArray s 394 2368 A) (F0 m 411 ls [.int k1, .int k0]) := by
      intro u w v5 v10 v13 k0 k1 H locs ls hf hP hD hS hl
      unfold fL_isRight_j411 at hf
      refine lv_iand hx hb dL_isRight_411 ?_
      refine lv_istore (lv' := [(9, .int (k0 &&& k1)), (0, .ref (ad 0)), (1, .int v1), (2, .ref x1), (3, .ref x2), (4, .ref x0), (5, .int v5), (6, .int v6), (7, .int v7), (10, .int v10), (13, .int v13)]) hx hb dL_isRight_412 hl (by decide) rfl (fun ls hl => ?_)
      refine lv_aload_n hx hb dL_isRight_414 rfl (lv_at hl 1 rfl) ?_
      refine lv_iload hx hb dL_isRight_415 (lv_at hl 9 rfl) ?_
      obtain ⟨r1, u3, hc2, hf⟩ := sg_b2_s hf
      refine sg_li (Wf := sg_WX cA ad) (vx_runSW (hh := [(0, 5, 6, 32), (0, 5, 10, 22)]) (As := [.ref (ad 0), .int v10]) (rest := []) ⟨hx, hb, hml, hown, hts⟩ (c_L_distance l hlt D cA ad N _ _ _ _ hc2 _) (vx_cwSW (hh := [(0, 5, 6, 32), (0, 5, 10, 22)]) 2 hts gL_isRight_L_distance rfl rfl rfl (by decide +kernel) ⟨Nat.le_of_ble_eq_true rfl, Nat.le_of_ble_eq_true rfl⟩) (sg_preL (w0 := sg_WX cA ad u) hK (sg_Pl hP) (sg_Dl hD) hT hN hS hA) rfl rfl hl.1 rfl (lv_room (Nat.le_of_ble_eq_true rfl)) dL_isRight_417 ⟨by show kc + 8 + 2 ≤ 394; omega, by show kz + 48 + 12 ≤ 2368; omega⟩) hP hD hS hA (fun H locs hP hD hS => ?_)
      refine lv_istore (lv' := [(14, .int r1), (9, .int (k0 &&& k1)), (0, .ref (ad 0)), (1, .int v1), (2, .ref x1), (3, .ref x2), (4, .ref x0), (5, .int v5), (6, .int v6), (7, .int v7), (10, .int v10), (13, .int v13)]) hx hb dL_isRight_420 hl (by decide) rfl (fun ls hl => ?_)
      refine lv_iload hx hb dL_isRight_422 (lv_at hl 1 rfl) ?_
      refine lv_iload hx hb dL_isRight_424 (lv_at hl 11 rfl) ?_
      refine lv_if_eq (tgt := 485) hx hb dL_isRight_426 (by decide) (fun c20 => ?_) (fun c20 => ?_)
      · have hf := sg_ip c20 hf
        refine lv_iload hx hb dL_isRight_485 (lv_at hl 0 rfl) ?_
        refine lv_bipush (v := (-79)) hx hb dL_isRight_487 (by decide) ?_
        refine lv_icmp_ne (tgt := 496) hx hb dL_isRight_489 (by decide) (fun c4 => ?_) (fun c4 => ?_)
        · have hf := sg_in c4 hf
          refine lv_iconst (v := 0) hx hb dL_isRight_496 (by decide) ?_
          refine W.widen (k := kc + 17) (n := kz + 102) (by omega) (by omega) ?_
          exact hJ497 _ _ _ _ _ _ _ _ _ hf hP hD hS (lv_sub hl [2, 3, 4, 5, 6, 7, 8, 9, 10] rfl)
        · have hf := sg_ip c4 hf
          refine lv_iconst (v := 1) hx hb dL_isRight_492 (by decide) ?_
          refine lv_goto (tgt := 497) hx hb dL_isRight_493 (by decide) ?_
          refine W.widen (k := kc + 17) (n := kz + 102) (by omega) (by omega) ?_
          exact hJ497 _ _ _ _ _ _ _ _ _ hf hP hD hS (lv_sub hl [2, 3, 4, 5, 6, 7, 8, 9, 10] rfl)
      · have hf := sg_in c20 hf
        refine lv_iload hx hb dL_isRight_429 (lv_at hl 0 rfl) ?_
        refine lv_if_le (tgt := 481) hx hb dL_isRight_431 (by decide) (fun c19 => ?_) (fun c19 => ?_)
        · have hf := sg_ip c19 hf
          refine lv_iconst (v := 0) hx hb dL_isRight_481 (by decide) ?_
          refine lv_goto (tgt := 497) hx hb dL_isRight_482 (by decide) ?_
          refine W.widen (k := kc + 17) (n := kz + 102) (by omega) (by omega) ?_
          exact hJ497 _ _ _ _ _ _ _ _ _ hf hP hD hS (lv_sub hl [2, 3, 4, 5, 6, 7, 8, 9, 10] rfl)
        · have hf := sg_in c19 hf
          refine lv_aload_n hx hb dL_isRight_434 rfl (lv_at hl 2 rfl) ?_
          refine lv_iload hx hb dL_isRight_435 (lv_at hl 10 rfl) ?_
          refine lv_iload hx hb dL_isRight_437 (lv_at hl 0 rfl) ?_
          refine lv_iconst (v := 1) hx hb dL_isRight_439 (by decide) ?_
          refine lv_isub hx hb dL_isRight_440 ?_
          obtain ⟨r5, u7, hc6, hf⟩ := sg_b2_s hf
          refine sg_li (Wf := sg_WX cA ad) (vx_runSW (hh := [(0, 6, 7, 32), (0, 6, 11, 22), (0, 6, 15, 111)]) (As := [.ref (ad 0), .int v10, .int (r1 - 1)]) (rest := [.int (k0 &&& k1)]) ⟨hx, hb, hml, hown, hts⟩ (c_L_pathAt l hlt D cA ad N _ _ _ _ _ hc6 _) (vx_cwSW (hh := [(0, 6, 7, 32), (0, 6, 11, 22), (0, 6, 15, 111)]) 3 hts gL_isRight_L_pathAt rfl rfl rfl (by decide +kernel) ⟨Nat.le_of_ble_eq_true rfl, Nat.le_of_ble_eq_true rfl⟩) (sg_preL (w0 := sg_WX cA ad u3) hK (sg_Pl hP) (sg_Dl hD) hT hN hS hA) rfl rfl hl.1 rfl (lv_room (Nat.le_of_ble_eq_true rfl)) dL_isRight_441 ⟨by show kc + 10 + 3 ≤ 394; omega, by show kz + 60 + 18 ≤ 2368; omega⟩) hP hD hS hA (fun H locs hP hD hS => ?_)
          refine lv_iload hx hb dL_isRight_444 (lv_at hl 10 rfl) ?_
          refine lv_icmp_ne (tgt := 481) hx hb dL_isRight_446 (by decide) (fun c18 => ?_) (fun c18 => ?_)
          · have hf := sg_in c18 hf
            refine lv_iconst (v := 0) hx hb dL_isRight_481 (by decide) ?_
            refine lv_goto (tgt := 497) hx hb dL_isRight_482 (by decide) ?_
            refine W.widen (k := kc + 17) (n := kz + 102) (by omega) (by omega) ?_
            exact hJ497 _ _ _ _ _ _ _ _ _ hf hP hD hS (lv_sub hl [2, 3, 4, 5, 6, 7, 8, 9, 10] rfl)
          · have hf := sg_ip c18 hf
            refine lv_aload_n hx hb dL_isRight_449 rfl (lv_at hl 2 rfl) ?_
            refine lv_iload hx hb dL_isRight_450 (lv_at hl 10 rfl) ?_
            obtain ⟨r8, u10, hc9, hf⟩ := sg_b2_s hf
            refine sg_li (Wf := sg_WX cA ad) (vx_runSW (hh := [(0, 5, 6, 32), (0, 5, 10, 22)]) (As := [.ref (ad 0), .int v10]) (rest := [.int (k0 &&& k1)]) ⟨hx, hb, hml, hown, hts⟩ (c_L_faultCurrent l hlt D cA ad N _ _ _ _ hc9 _) (vx_cwSW (hh := [(0, 5, 6, 32), (0, 5, 10, 22)]) 2 hts gL_isRight_L_faultCurrent rfl rfl rfl (by decide +kernel) ⟨Nat.le_of_ble_eq_true rfl, Nat.le_of_ble_eq_true rfl⟩) (sg_preL (w0 := sg_WX cA ad u7) hK (sg_Pl hP) (sg_Dl hD) hT hN hS hA) rfl rfl hl.1 rfl (lv_room (Nat.le_of_ble_eq_true rfl)) dL_isRight_452 ⟨by show kc + 13 + 2 ≤ 394; omega, by show kz + 78 + 12 ≤ 2368; omega⟩) hP hD hS hA (fun H locs hP hD hS => ?_)
            refine lv_bipush (v := 10) hx hb dL_isRight_455 (by decide) ?_
            refine lv_aload hx hb dL_isRight_457 (lv_at hl 6 rfl) ?_
            refine lv_aload_n hx hb dL_isRight_459 rfl (lv_at hl 2 rfl) ?_
            refine lv_aload_n hx hb dL_isRight_460 rfl (lv_at hl 4 rfl) ?_
            refine lv_iconst (v := 2) hx hb dL_isRight_461 (by decide) ?_
            refine lv_iload hx hb dL_isRight_462 (lv_at hl 10 rfl) ?_
            refine lv_imul hx hb dL_isRight_464 ?_
            obtain ⟨hg11, hf⟩ := sg_g_s hf
            refine va_iald hx hb hK.1 hP 18 0 rfl rfl (sg_inb_s hg11) dL_isRight_465 ?_
            obtain ⟨r12, u14, hc13, hf⟩ := sg_b2_s hf
            refine sg_li (Wf := sg_WX cA ad) (vx_runSW (hh := [(0, 5, 6, 32), (0, 5, 10, 22)]) (As := [.ref (ad 0), .int (a 1 (2 * v10).toNatClampNeg)]) (rest := [.ref x0, .int 10, .int r8, .int (k0 &&& k1)]) ⟨hx, hb, hml, hown, hts⟩ (c_L_sourceOf l hlt D cA ad N _ _ _ _ hc13 _) (vx_cwSW (hh := [(0, 5, 6, 32), (0, 5, 10, 22)]) 2 hts gL_isRight_L_sourceOf rfl rfl rfl (by decide +kernel) ⟨Nat.le_of_ble_eq_true rfl, Nat.le_of_ble_eq_true rfl⟩) (sg_preL (w0 := sg_WX cA ad u10) hK (sg_Pl hP) (sg_Dl hD) hT hN hS hA) rfl rfl hl.1 rfl (lv_room (Nat.le_of_ble_eq_true rfl)) dL_isRight_466 ⟨by show kc + 15 + 2 ≤ 394; omega, by show kz + 90 + 12 ≤ 2368; omega⟩) hP hD hS hA (fun H locs hP hD hS => ?_)
            obtain ⟨hg15, hf⟩ := sg_g_s hf
            refine va_iald hx hb hK.1 hP 17 0 rfl rfl (sg_inb_s hg15) dL_isRight_469 ?_
            refine lv_imul hx hb dL_isRight_470 ?_
            refine lv_iload hx hb dL_isRight_471 (lv_at hl 0 rfl) ?_
            obtain ⟨hg16, hf⟩ := sg_g_s hf
            refine lv_idiv hx hb dL_isRight_473 (of_decide_eq_true hg16) ?_
            refine lv_icmp_ne (tgt := 481) hx hb dL_isRight_474 (by decide) (fun c17 => ?_) (fun c17 => ?_)
            · have hf := sg_in c17 hf
              refine lv_iconst (v := 0) hx hb dL_isRight_481 (by decide) ?_
              refine lv_goto (tgt := 497) hx hb dL_isRight_482 (by decide) ?_
              exact hJ497 _ _ _ _ _ _ _ _ _ hf hP hD hS (lv_sub hl [2, 3, 4, 5, 6, 7, 8, 9, 10] rfl)
            · have hf := sg_ip c17 hf
              refine lv_iconst (v := 1) hx hb dL_isRight_477 (by decide) ?_
              refine lv_goto (tgt := 497) hx hb dL_isRight_478 (by decide) ?_
              exact hJ497 _ _ _ _ _ _ _ _ _ hf hP hD hS (lv_sub hl [2, 3, 4, 5, 6, 7, 8, 9, 10] rfl)
    have hJ410 : ∀ (u : sg_St) (w : Nat → Int32) (v5 : Int32) (v10 : Int32) (v13 : Int32) (k0 : Int32) (H : Heap) (locs : List Loc) (ls : Array Slot), fL_isRight_j410 N a u w v1 v5 v6 v7 v10 v13 k0 = some y → va_P D vwCl (sg_WX cA ad u ++ (sg_X4 cA x0 x1 x2 x3 a w)) H → va_D A (sg_WX cA ad u ++ (sg_X4 cA x0 x1 x2 x3 a w)) → va_S A s.heap H locs → lv_has ls 15 [(0, .ref (ad 0)), (1, .int v1), (2, .ref x1), (3, .ref x2), (4, .ref x0), (5, .int v5), (6, .int v6), (7, .int v7), (10, .int v10), (13, .int v13)] → W p l e (headSpec wsL_isRight ({ frames := 19, cells := 394, slots := 2368, locals := 507 })).room s m ([.ref (ad 0), .int p1, .ref x1, .ref x2, .ref x0] : List Value).toArray below meth c H locs (kc + 8) (kz + 48) (MQ below (va_Qi (fun x y => x = r9 ∧ y = u9) (sg_BX D (fun z => sg_WX cA ad z ++ sg_X3 cA x0 x1 x2 a) A) A) ([.ref (ad 0), .int p1, .ref x1, .ref x2, .ref x0] : List Value).toArray s 394 2368 A) (F0 m 410 ls [.int k0]) := by
      intro u w v5 v10 v13 k0 H locs ls hf hP hD hS hl
      unfold fL_isRight_j410 at hf
      refine lv_iconst (v := 0) hx hb dL_isRight_410 (by decide) ?_
      exact hJ411 _ _ _ _ _ _ _ _ _ _ hf hP hD hS (lv_sub hl [0, 1, 2, 3, 4, 5, 6, 7, 8, 9] rfl)
    have hJ391 : ∀ (u : sg_St) (w : Nat → Int32) (v5 : Int32) (v10 : Int32) (v12 : Int32) (v13 : Int32) (k0 : Int32) (H : Heap) (locs : List Loc) (ls : Array Slot), fL_isRight_j391 N a u w v1 v5 v6 v7 v10 v12 v13 k0 = some y → va_P D vwCl (sg_WX cA ad u ++ (sg_X4 cA x0 x1 x2 x3 a w)) H → va_D A (sg_WX cA ad u ++ (sg_X4 cA x0 x1 x2 x3 a w)) → va_S A s.heap H locs → lv_has ls 15 [(0, .ref (ad 0)), (1, .int v1), (2, .ref x1), (3, .ref x2), (4, .ref x0), (5, .int v5), (6, .int v6), (7, .int v7), (10, .int v10), (12, .int v12), (13, .int v13)] → W p l e (headSpec wsL_isRight ({ frames := 19, cells := 394, slots := 2368, locals := 507 })).room s m ([.ref (ad 0), .int p1, .ref x1, .ref x2, .ref x0] : List Value).toArray below meth c H locs (kc + 7) (kz + 42) (MQ below (va_Qi (fun x y => x = r9 ∧ y = u9) (sg_BX D (fun z => sg_WX cA ad z ++ sg_X3 cA x0 x1 x2 a) A) A) ([.ref (ad 0), .int p1, .ref x1, .ref x2, .ref x0] : List Value).toArray s 394 2368 A) (F0 m 391 ls [.int k0]) := by
      intro u w v5 v10 v12 v13 k0 H locs ls hf hP hD hS hl
      unfold fL_isRight_j391 at hf
      refine lv_iload hx hb dL_isRight_391 (lv_at hl 9 rfl) ?_
      refine lv_if_eq (tgt := 406) hx hb dL_isRight_393 (by decide) (fun c5 => ?_) (fun c5 => ?_)
      · have hf := sg_ip c5 hf
        refine lv_iconst (v := 1) hx hb dL_isRight_406 (by decide) ?_
        refine lv_goto (tgt := 411) hx hb dL_isRight_407 (by decide) ?_
        refine W.widen (k := kc + 8) (n := kz + 48) (by omega) (by omega) ?_
        exact hJ411 _ _ _ _ _ _ _ _ _ _ hf hP hD hS (lv_sub hl [0, 1, 2, 3, 4, 5, 6, 7, 8, 10] rfl)
      · have hf := sg_in c5 hf
        refine lv_aload_n hx hb dL_isRight_396 rfl (lv_at hl 0 rfl) ?_
        refine lv_iload hx hb dL_isRight_397 (lv_at hl 8 rfl) ?_
        obtain ⟨r1, u3, hc2, hf⟩ := sg_b2_s hf
        refine sg_li (Wf := sg_WX cA ad) (vx_runSW (hh := [(0, 13, 14, 32)]) (As := [.ref (ad 0), .int v10]) (rest := [.int k0]) ⟨hx, hb, hml, hown, hts⟩ (c_L_isLocked l hlt D cA ad N _ _ _ _ hc2 _) (vx_cwSW (hh := [(0, 13, 14, 32)]) 2 hts gL_isRight_L_isLocked rfl rfl rfl (by decide +kernel) ⟨Nat.le_of_ble_eq_true rfl, Nat.le_of_ble_eq_true rfl⟩) (sg_preL (w0 := sg_WX cA ad u) hK (sg_Pl hP) (sg_Dl hD) hT hN hS hA) rfl rfl hl.1 rfl (lv_room (Nat.le_of_ble_eq_true rfl)) dL_isRight_399 ⟨by show kc + 7 + 1 ≤ 394; omega, by show kz + 42 + 6 ≤ 2368; omega⟩) hP hD hS hA (fun H locs hP hD hS => ?_)
        refine lv_iconst (v := 1) hx hb dL_isRight_402 (by decide) ?_
        refine lv_icmp_eq (tgt := 410) hx hb dL_isRight_403 (by decide) (fun c4 => ?_) (fun c4 => ?_)
        · have hf := sg_ip c4 hf
          exact hJ410 _ _ _ _ _ _ _ _ _ hf hP hD hS (lv_sub hl [0, 1, 2, 3, 4, 5, 6, 7, 8, 10] rfl)
        · have hf := sg_in c4 hf
          refine lv_iconst (v := 1) hx hb dL_isRight_406 (by decide) ?_
          refine lv_goto (tgt := 411) hx hb dL_isRight_407 (by decide) ?_
          exact hJ411 _ _ _ _ _ _ _ _ _ _ hf hP hD hS (lv_sub hl [0, 1, 2, 3, 4, 5, 6, 7, 8, 10] rfl)
    have hJ376 : ∀ (u : sg_St) (w : Nat → Int32) (v5 : Int32) (v10 : Int32) (v12 : Int32) (v13 : Int32) (k0 : Int32) (H : Heap) (locs : List Loc) (ls : Array Slot), fL_isRight_j376 N a u w v1 v5 v6 v7 v10 v12 v13 k0 = some y → va_P D vwCl (sg_WX cA ad u ++ (sg_X4 cA x0 x1 x2 x3 a w)) H → va_D A (sg_WX cA ad u ++ (sg_X4 cA x0 x1 x2 x3 a w)) → va_S A s.heap H locs → lv_has ls 15 [(0, .ref (ad 0)), (1, .int v1), (2, .ref x1), (3, .ref x2), (4, .ref x0), (5, .int v5), (6, .int v6), (7, .int v7), (10, .int v10), (12, .int v12), (13, .int v13)] → W p l e (headSpec wsL_isRight ({ frames := 19, cells := 394, slots := 2368, locals := 507 })).room s m ([.ref (ad 0), .int p1, .ref x1, .ref x2, .ref x0] : List Value).toArray below meth c H locs (kc + 6) (kz + 36) (MQ below (va_Qi (fun x y => x = r9 ∧ y = u9) (sg_BX D (fun z => sg_WX cA ad z ++ sg_X3 cA x0 x1 x2 a) A) A) ([.ref (ad 0), .int p1, .ref x1, .ref x2, .ref x0] : List Value).toArray s 394 2368 A) (F0 m 376 ls [.int k0]) := by
      intro u w v5 v10 v12 v13 k0 H locs ls hf hP hD hS hl
      unfold fL_isRight_j376 at hf
      refine lv_iload hx hb dL_isRight_376 (lv_at hl 10 rfl) ?_
      refine lv_if_eq (tgt := 391) hx hb dL_isRight_378 (by decide) (fun c5 => ?_) (fun c5 => ?_)
      · have hf := sg_ip c5 hf
        refine W.widen (k := kc + 7) (n := kz + 42) (by omega) (by omega) ?_
        exact hJ391 _ _ _ _ _ _ _ _ _ _ hf hP hD hS (lv_sub hl [0, 1, 2, 3, 4, 5, 6, 7, 8, 9, 10] rfl)
      · have hf := sg_in c5 hf
        refine lv_aload_n hx hb dL_isRight_381 rfl (lv_at hl 0 rfl) ?_
        refine lv_iload hx hb dL_isRight_382 (lv_at hl 8 rfl) ?_
        obtain ⟨r1, u3, hc2, hf⟩ := sg_b2_s hf
        refine sg_li (Wf := sg_WX cA ad) (vx_runSW (hh := [(0, 13, 14, 32)]) (As := [.ref (ad 0), .int v10]) (rest := [.int k0]) ⟨hx, hb, hml, hown, hts⟩ (c_L_hasFault l hlt D cA ad N _ _ _ _ hc2 _) (vx_cwSW (hh := [(0, 13, 14, 32)]) 2 hts gL_isRight_L_hasFault rfl rfl rfl (by decide +kernel) ⟨Nat.le_of_ble_eq_true rfl, Nat.le_of_ble_eq_true rfl⟩) (sg_preL (w0 := sg_WX cA ad u) hK (sg_Pl hP) (sg_Dl hD) hT hN hS hA) rfl rfl hl.1 rfl (lv_room (Nat.le_of_ble_eq_true rfl)) dL_isRight_384 ⟨by show kc + 6 + 1 ≤ 394; omega, by show kz + 36 + 6 ≤ 2368; omega⟩) hP hD hS hA (fun H locs hP hD hS => ?_)
        refine lv_iconst (v := 1) hx hb dL_isRight_387 (by decide) ?_
        refine lv_icmp_eq (tgt := 410) hx hb dL_isRight_388 (by decide) (fun c4 => ?_) (fun c4 => ?_)
        · have hf := sg_ip c4 hf
          refine W.widen (k := kc + 8) (n := kz + 48) (by omega) (by omega) ?_
          exact hJ410 _ _ _ _ _ _ _ _ _ hf hP hD hS (lv_sub hl [0, 1, 2, 3, 4, 5, 6, 7, 8, 10] rfl)
        · have hf := sg_in c4 hf
          exact hJ391 _ _ _ _ _ _ _ _ _ _ hf hP hD hS (lv_sub hl [0, 1, 2, 3, 4, 5, 6, 7, 8, 9, 10] rfl)
    have hJ346 : ∀ (u : sg_St) (w : Nat → Int32) (v5 : Int32) (v10 : Int32) (v12 : Int32) (v13 : Int32) (k0 : Int32) (H : Heap) (locs : List Loc) (ls : Array Slot), fL_isRight_j346 N a u w v1 v5 v6 v7 v10 v12 v13 k0 = some y → va_P D vwCl (sg_WX cA ad u ++ (sg_X4 cA x0 x1 x2 x3 a w)) H → va_D A (sg_WX cA ad u ++ (sg_X4 cA x0 x1 x2 x3 a w)) → va_S A s.heap H locs → lv_has ls 15 [(0, .ref (ad 0)), (1, .int v1), (2, .ref x1), (3, .ref x2), (4, .ref x0), (5, .int v5), (6, .int v6), (7, .int v7), (10, .int v10), (12, .int v12), (13, .int v13)] → W p l e (headSpec wsL_isRight ({ frames := 19, cells := 394, slots := 2368, locals := 507 })).room s m ([.ref (ad 0), .int p1, .ref x1, .ref x2, .ref x0] : List Value).toArray below meth c H locs (kc + 4) (kz + 24) (MQ below (va_Qi (fun x y => x = r9 ∧ y = u9) (sg_BX D (fun z => sg_WX cA ad z ++ sg_X3 cA x0 x1 x2 a) A) A) ([.ref (ad 0), .int p1, .ref x1, .ref x2, .ref x0] : List Value).toArray s 394 2368 A) (F0 m 346 ls [.int k0]) := by
      intro u w v5 v10 v12 v13 k0 H locs ls hf hP hD hS hl
      unfold fL_isRight_j346 at hf
      refine lv_iload hx hb dL_isRight_346 (lv_at hl 9 rfl) ?_
      refine lv_if_eq (tgt := 376) hx hb dL_isRight_348 (by decide) (fun c10 => ?_) (fun c10 => ?_)
      · have hf := sg_ip c10 hf
        refine W.widen (k := kc + 6) (n := kz + 36) (by omega) (by omega) ?_
        exact hJ376 _ _ _ _ _ _ _ _ _ _ hf hP hD hS (lv_sub hl [0, 1, 2, 3, 4, 5, 6, 7, 8, 9, 10] rfl)
      · have hf := sg_in c10 hf
        refine lv_aload_n hx hb dL_isRight_351 rfl (lv_at hl 0 rfl) ?_
        refine lv_aload_n hx hb dL_isRight_352 rfl (lv_at hl 2 rfl) ?_
        refine lv_iconst (v := 2) hx hb dL_isRight_353 (by decide) ?_
        refine lv_iload hx hb dL_isRight_354 (lv_at hl 8 rfl) ?_
        refine lv_imul hx hb dL_isRight_356 ?_
        obtain ⟨hg1, hf⟩ := sg_g_s hf
        refine va_iald hx hb hK.1 hP 18 0 rfl rfl (sg_inb_s hg1) dL_isRight_357 ?_
        obtain ⟨r2, u4, hc3, hf⟩ := sg_b2_s hf
        refine sg_li (Wf := sg_WX cA ad) (vx_runSW (hh := [(0, 5, 6, 32)]) (As := [.ref (ad 0), .int (a 1 (2 * v10).toNatClampNeg)]) (rest := [.int k0]) ⟨hx, hb, hml, hown, hts⟩ (c_L_islandOf l hlt D cA ad N _ _ _ _ hc3 _) (vx_cwSW (hh := [(0, 5, 6, 32)]) 2 hts gL_isRight_L_islandOf rfl rfl rfl (by decide +kernel) ⟨Nat.le_of_ble_eq_true rfl, Nat.le_of_ble_eq_true rfl⟩) (sg_preL (w0 := sg_WX cA ad u) hK (sg_Pl hP) (sg_Dl hD) hT hN hS hA) rfl rfl hl.1 rfl (lv_room (Nat.le_of_ble_eq_true rfl)) dL_isRight_358 ⟨by show kc + 4 + 1 ≤ 394; omega, by show kz + 24 + 6 ≤ 2368; omega⟩) hP hD hS hA (fun H locs hP hD hS => ?_)
        refine lv_aload_n hx hb dL_isRight_361 rfl (lv_at hl 0 rfl) ?_
        refine lv_aload_n hx hb dL_isRight_362 rfl (lv_at hl 2 rfl) ?_
        refine lv_iconst (v := 2) hx hb dL_isRight_363 (by decide) ?_
        refine lv_iload hx hb dL_isRight_364 (lv_at hl 8 rfl) ?_
        refine lv_imul hx hb dL_isRight_366 ?_
        refine lv_iconst (v := 1) hx hb dL_isRight_367 (by decide) ?_
        refine lv_iadd hx hb dL_isRight_368 ?_
        obtain ⟨hg5, hf⟩ := sg_g_s hf
        refine va_iald hx hb hK.1 hP 18 0 rfl rfl (sg_inb_s hg5) dL_isRight_369 ?_
        obtain ⟨r6, u8, hc7, hf⟩ := sg_b2_s hf
        refine sg_li (Wf := sg_WX cA ad) (vx_runSW (hh := [(0, 5, 6, 32)]) (As := [.ref (ad 0), .int (a 1 ((2 * v10) + 1).toNatClampNeg)]) (rest := [.int r2, .int k0]) ⟨hx, hb, hml, hown, hts⟩ (c_L_islandOf l hlt D cA ad N _ _ _ _ hc7 _) (vx_cwSW (hh := [(0, 5, 6, 32)]) 2 hts gL_isRight_L_islandOf rfl rfl rfl (by decide +kernel) ⟨Nat.le_of_ble_eq_true rfl, Nat.le_of_ble_eq_true rfl⟩) (sg_preL (w0 := sg_WX cA ad u4) hK (sg_Pl hP) (sg_Dl hD) hT hN hS hA) rfl rfl hl.1 rfl (lv_room (Nat.le_of_ble_eq_true rfl)) dL_isRight_370 ⟨by show kc + 5 + 1 ≤ 394; omega, by show kz + 30 + 6 ≤ 2368; omega⟩) hP hD hS hA (fun H locs hP hD hS => ?_)
        refine lv_icmp_ne (tgt := 410) hx hb dL_isRight_373 (by decide) (fun c9 => ?_) (fun c9 => ?_)
        · have hf := sg_in c9 hf
          refine W.widen (k := kc + 8) (n := kz + 48) (by omega) (by omega) ?_
          exact hJ410 _ _ _ _ _ _ _ _ _ hf hP hD hS (lv_sub hl [0, 1, 2, 3, 4, 5, 6, 7, 8, 10] rfl)
        · have hf := sg_ip c9 hf
          exact hJ376 _ _ _ _ _ _ _ _ _ _ hf hP hD hS (lv_sub hl [0, 1, 2, 3, 4, 5, 6, 7, 8, 9, 10] rfl)
    have hJ306 : ∀ (u : sg_St) (w : Nat → Int32) (v9 : Int32) (v10 : Int32) (v11 : Int32) (v12 : Int32) (v13 : Int32) (k0 : Int32) (k1 : Int32) (H : Heap) (locs : List Loc) (ls : Array Slot), fL_isRight_j306 N a u w v1 v6 v7 v9 v10 v11 v12 v13 k0 k1 = some y → va_P D vwCl (sg_WX cA ad u ++ (sg_X4 cA x0 x1 x2 x3 a w)) H → va_D A (sg_WX cA ad u ++ (sg_X4 cA x0 x1 x2 x3 a w)) → va_S A s.heap H locs → lv_has ls 15 [(0, .ref (ad 0)), (1, .int v1), (2, .ref x1), (3, .ref x2), (4, .ref x0), (6, .int v6), (7, .int v7), (9, .int v9), (10, .int v10), (11, .int v11), (12, .int v12), (13, .int v13)] → W p l e (headSpec wsL_isRight ({ frames := 19, cells := 394, slots := 2368, locals := 507 })).room s m ([.ref (ad 0), .int p1, .ref x1, .ref x2, .ref x0] : List Value).toArray below meth c H locs (kc + 3) (kz + 18) (MQ below (va_Qi (fun x y => x = r9 ∧ y = u9) (sg_BX D (fun z => sg_WX cA ad z ++ sg_X3 cA x0 x1 x2 a) A) A) ([.ref (ad 0), .int p1, .ref x1, .ref x2, .ref x0] : List Value).toArray s 394 2368 A) (F0 m 306 ls [.int k1, .int k0]) := by
      intro u w v9 v10 v11 v12 v13 k0 k1 H locs ls hf hP hD hS hl
      unfold fL_isRight_j306 at hf
      refine lv_iadd hx hb dL_isRight_306 ?_
      refine lv_istore (lv' := [(5, .int (k0 + k1)), (0, .ref (ad 0)), (1, .int v1), (2, .ref x1), (3, .ref x2), (4, .ref x0), (6, .int v6), (7, .int v7), (9, .int v9), (10, .int v10), (11, .int v11), (12, .int v12), (13, .int v13)]) hx hb dL_isRight_307 hl (by decide) rfl (fun ls hl => ?_)
      refine lv_iload hx hb dL_isRight_309 (lv_at hl 8 rfl) ?_
      refine lv_iload hx hb dL_isRight_311 (lv_at hl 10 rfl) ?_
      refine lv_aload_n hx hb dL_isRight_313 rfl (lv_at hl 1 rfl) ?_
      refine lv_iload hx hb dL_isRight_314 (lv_at hl 9 rfl) ?_
      obtain ⟨r1, u3, hc2, hf⟩ := sg_b2_s hf
      refine sg_li (Wf := sg_WX cA ad) (vx_runSW (hh := [(0, 5, 6, 32)]) (As := [.ref (ad 0), .int v10]) (rest := [.int v11, .int v9]) ⟨hx, hb, hml, hown, hts⟩ (c_L_currentByCutting l hlt D cA ad N _ _ _ _ hc2 _) (vx_cwSW (hh := [(0, 5, 6, 32)]) 2 hts gL_isRight_L_currentByCutting rfl rfl rfl (by decide +kernel) ⟨Nat.le_of_ble_eq_true rfl, Nat.le_of_ble_eq_true rfl⟩) (sg_preL (w0 := sg_WX cA ad u) hK (sg_Pl hP) (sg_Dl hD) hT hN hS hA) rfl rfl hl.1 rfl (lv_room (Nat.le_of_ble_eq_true rfl)) dL_isRight_316 ⟨by show kc + 3 + 1 ≤ 394; omega, by show kz + 18 + 6 ≤ 2368; omega⟩) hP hD hS hA (fun H locs hP hD hS => ?_)
      refine lv_icmp_ne (tgt := 410) hx hb dL_isRight_319 (by decide) (fun c9 => ?_) (fun c9 => ?_)
      · have hf := sg_in c9 hf
        refine W.widen (k := kc + 8) (n := kz + 48) (by omega) (by omega) ?_
        exact hJ410 _ _ _ _ _ _ _ _ _ hf hP hD hS (lv_sub hl [1, 2, 3, 4, 5, 0, 6, 7, 9, 12] rfl)
      · have hf := sg_ip c9 hf
        refine lv_iload hx hb dL_isRight_322 (lv_at hl 10 rfl) ?_
        refine lv_if_lt (tgt := 410) hx hb dL_isRight_324 (by decide) (fun c8 => ?_) (fun c8 => ?_)
        · have hf := sg_ip c8 hf
          refine W.widen (k := kc + 8) (n := kz + 48) (by omega) (by omega) ?_
          exact hJ410 _ _ _ _ _ _ _ _ _ hf hP hD hS (lv_sub hl [1, 2, 3, 4, 5, 0, 6, 7, 9, 12] rfl)
        · have hf := sg_in c8 hf
          refine lv_iload hx hb dL_isRight_327 (lv_at hl 10 rfl) ?_
          refine lv_aload_n hx hb dL_isRight_329 rfl (lv_at hl 4 rfl) ?_
          refine lv_iload hx hb dL_isRight_330 (lv_at hl 9 rfl) ?_
          obtain ⟨hg4, hf⟩ := sg_g_s hf
          refine va_iald hx hb hK.1 hP 19 0 rfl rfl (sg_inb_s hg4) dL_isRight_332 ?_
          refine lv_icmp_gt (tgt := 410) hx hb dL_isRight_333 (by decide) (fun c7 => ?_) (fun c7 => ?_)
          · have hf := sg_ip c7 hf
            refine W.widen (k := kc + 8) (n := kz + 48) (by omega) (by omega) ?_
            exact hJ410 _ _ _ _ _ _ _ _ _ hf hP hD hS (lv_sub hl [1, 2, 3, 4, 5, 0, 6, 7, 9, 12] rfl)
          · have hf := sg_in c7 hf
            refine lv_iload hx hb dL_isRight_336 (lv_at hl 12 rfl) ?_
            refine lv_if_ne (tgt := 346) hx hb dL_isRight_338 (by decide) (fun c6 => ?_) (fun c6 => ?_)
            · have hf := sg_in c6 hf
              exact hJ346 _ _ _ _ _ _ _ _ _ _ hf hP hD hS (lv_sub hl [1, 2, 3, 4, 5, 0, 6, 7, 9, 11, 12] rfl)
            · have hf := sg_ip c6 hf
              refine lv_iload hx hb dL_isRight_341 (lv_at hl 10 rfl) ?_
              refine lv_if_ne (tgt := 410) hx hb dL_isRight_343 (by decide) (fun c5 => ?_) (fun c5 => ?_)
              · have hf := sg_in c5 hf
                refine W.widen (k := kc + 8) (n := kz + 48) (by omega) (by omega) ?_
                exact hJ410 _ _ _ _ _ _ _ _ _ hf hP hD hS (lv_sub hl [1, 2, 3, 4, 5, 0, 6, 7, 9, 12] rfl)
              · have hf := sg_ip c5 hf
                exact hJ346 _ _ _ _ _ _ _ _ _ _ hf hP hD hS (lv_sub hl [1, 2, 3, 4, 5, 0, 6, 7, 9, 11, 12] rfl)
    have hJ292 : ∀ (u : sg_St) (w : Nat → Int32) (v5 : Int32) (v9 : Int32) (v10 : Int32) (v11 : Int32) (v12 : Int32) (k0 : Int32) (H : Heap) (locs : List Loc) (ls : Array Slot), fL_isRight_j292 N a u w v1 v5 v6 v7 v9 v10 v11 v12 k0 = some y → va_P D vwCl (sg_WX cA ad u ++ (sg_X4 cA x0 x1 x2 x3 a w)) H → va_D A (sg_WX cA ad u ++ (sg_X4 cA x0 x1 x2 x3 a w)) → va_S A s.heap H locs → lv_has ls 15 [(0, .ref (ad 0)), (1, .int v1), (2, .ref x1), (3, .ref x2), (4, .ref x0), (5, .int v5), (6, .int v6), (7, .int v7), (9, .int v9), (10, .int v10), (11, .int v11), (12, .int v12)] → W p l e (headSpec wsL_isRight ({ frames := 19, cells := 394, slots := 2368, locals := 507 })).room s m ([.ref (ad 0), .int p1, .ref x1, .ref x2, .ref x0] : List Value).toArray below meth c H locs (kc + 3) (kz + 18) (MQ below (va_Qi (fun x y => x = r9 ∧ y = u9) (sg_BX D (fun z => sg_WX cA ad z ++ sg_X3 cA x0 x1 x2 a) A) A) ([.ref (ad 0), .int p1, .ref x1, .ref x2, .ref x0] : List Value).toArray s 394 2368 A) (F0 m 292 ls [.int k0]) := by
      intro u w v5 v9 v10 v11 v12 k0 H locs ls hf hP hD hS hl
      unfold fL_isRight_j292 at hf
      refine lv_istore (lv' := [(13, .int k0), (0, .ref (ad 0)), (1, .int v1), (2, .ref x1), (3, .ref x2), (4, .ref x0), (5, .int v5), (6, .int v6), (7, .int v7), (9, .int v9), (10, .int v10), (11, .int v11), (12, .int v12)]) hx hb dL_isRight_292 hl (by decide) rfl (fun ls hl => ?_)
      refine lv_iload hx hb dL_isRight_294 (lv_at hl 6 rfl) ?_
      refine lv_iload hx hb dL_isRight_296 (lv_at hl 12 rfl) ?_
      refine lv_if_eq (tgt := 305) hx hb dL_isRight_298 (by decide) (fun c1 => ?_) (fun c1 => ?_)
      · have hf := sg_ip c1 hf
        refine lv_iconst (v := 0) hx hb dL_isRight_305 (by decide) ?_
        exact hJ306 _ _ _ _ _ _ _ _ _ _ _ _ hf hP hD hS (lv_sub hl [1, 2, 3, 4, 5, 7, 8, 9, 10, 11, 12, 0] rfl)
      · have hf := sg_in c1 hf
        refine lv_iconst (v := 1) hx hb dL_isRight_301 (by decide) ?_
        refine lv_goto (tgt := 306) hx hb dL_isRight_302 (by decide) ?_
        exact hJ306 _ _ _ _ _ _ _ _ _ _ _ _ hf hP hD hS (lv_sub hl [1, 2, 3, 4, 5, 7, 8, 9, 10, 11, 12, 0] rfl)
    have hJ291 : ∀ (u : sg_St) (w : Nat → Int32) (v5 : Int32) (v9 : Int32) (v10 : Int32) (v11 : Int32) (v12 : Int32) (H : Heap) (locs : List Loc) (ls : Array Slot), fL_isRight_j291 N a u w v1 v5 v6 v7 v9 v10 v11 v12 = some y → va_P D vwCl (sg_WX cA ad u ++ (sg_X4 cA x0 x1 x2 x3 a w)) H → va_D A (sg_WX cA ad u ++ (sg_X4 cA x0 x1 x2 x3 a w)) → va_S A s.heap H locs → lv_has ls 15 [(0, .ref (ad 0)), (1, .int v1), (2, .ref x1), (3, .ref x2), (4, .ref x0), (5, .int v5), (6, .int v6), (7, .int v7), (9, .int v9), (10, .int v10), (11, .int v11), (12, .int v12)] → W p l e (headSpec wsL_isRight ({ frames := 19, cells := 394, slots := 2368, locals := 507 })).room s m ([.ref (ad 0), .int p1, .ref x1, .ref x2, .ref x0] : List Value).toArray below meth c H locs (kc + 3) (kz + 18) (MQ below (va_Qi (fun x y => x = r9 ∧ y = u9) (sg_BX D (fun z => sg_WX cA ad z ++ sg_X3 cA x0 x1 x2 a) A) A) ([.ref (ad 0), .int p1, .ref x1, .ref x2, .ref x0] : List Value).toArray s 394 2368 A) (F0 m 291 ls []) := by
      intro u w v5 v9 v10 v11 v12 H locs ls hf hP hD hS hl
      unfold fL_isRight_j291 at hf
      refine lv_iconst (v := 0) hx hb dL_isRight_291 (by decide) ?_
      exact hJ292 _ _ _ _ _ _ _ _ _ _ _ hf hP hD hS (lv_sub hl [0, 1, 2, 3, 4, 5, 6, 7, 8, 9, 10, 11] rfl)
    have hJ266 : ∀ (u : sg_St) (w : Nat → Int32) (v5 : Int32) (v9 : Int32) (v10 : Int32) (v11 : Int32) (k0 : Int32) (H : Heap) (locs : List Loc) (ls : Array Slot), fL_isRight_j266 N a u w v1 v5 v6 v7 v9 v10 v11 k0 = some y → va_P D vwCl (sg_WX cA ad u ++ (sg_X4 cA x0 x1 x2 x3 a w)) H → va_D A (sg_WX cA ad u ++ (sg_X4 cA x0 x1 x2 x3 a w)) → va_S A s.heap H locs → lv_has ls 15 [(0, .ref (ad 0)), (1, .int v1), (2, .ref x1), (3, .ref x2), (4, .ref x0), (5, .int v5), (6, .int v6), (7, .int v7), (9, .int v9), (10, .int v10), (11, .int v11)] → W p l e (headSpec wsL_isRight ({ frames := 19, cells := 394, slots := 2368, locals := 507 })).room s m ([.ref (ad 0), .int p1, .ref x1, .ref x2, .ref x0] : List Value).toArray below meth c H locs (kc + 2) (kz + 12) (MQ below (va_Qi (fun x y => x = r9 ∧ y = u9) (sg_BX D (fun z => sg_WX cA ad z ++ sg_X3 cA x0 x1 x2 a) A) A) ([.ref (ad 0), .int p1, .ref x1, .ref x2, .ref x0] : List Value).toArray s 394 2368 A) (F0 m 266 ls [.int k0]) := by
      intro u w v5 v9 v10 v11 k0 H locs ls hf hP hD hS hl
      unfold fL_isRight_j266 at hf
      refine lv_istore (lv' := [(12, .int k0), (0, .ref (ad 0)), (1, .int v1), (2, .ref x1), (3, .ref x2), (4, .ref x0), (5, .int v5), (6, .int v6), (7, .int v7), (9, .int v9), (10, .int v10), (11, .int v11)]) hx hb dL_isRight_266 hl (by decide) rfl (fun ls hl => ?_)
      refine lv_iload hx hb dL_isRight_268 (lv_at hl 0 rfl) ?_
      refine lv_if_eq (tgt := 291) hx hb dL_isRight_270 (by decide) (fun c6 => ?_) (fun c6 => ?_)
      · have hf := sg_ip c6 hf
        refine W.widen (k := kc + 3) (n := kz + 18) (by omega) (by omega) ?_
        exact hJ291 _ _ _ _ _ _ _ _ _ _ hf hP hD hS (lv_sub hl [1, 2, 3, 4, 5, 6, 7, 8, 9, 10, 11, 0] rfl)
      · have hf := sg_in c6 hf
        refine lv_aload_n hx hb dL_isRight_273 rfl (lv_at hl 1 rfl) ?_
        refine lv_aload_n hx hb dL_isRight_274 rfl (lv_at hl 3 rfl) ?_
        refine lv_iconst (v := 2) hx hb dL_isRight_275 (by decide) ?_
        refine lv_iload hx hb dL_isRight_276 (lv_at hl 10 rfl) ?_
        refine lv_imul hx hb dL_isRight_278 ?_
        obtain ⟨hg1, hf⟩ := sg_g_s hf
        refine va_iald hx hb hK.1 hP 18 0 rfl rfl (sg_inb_s hg1) dL_isRight_279 ?_
        obtain ⟨r2, u4, hc3, hf⟩ := sg_b2_s hf
        refine sg_li (Wf := sg_WX cA ad) (vx_runSW (hh := [(0, 13, 14, 32)]) (As := [.ref (ad 0), .int (a 1 (2 * v10).toNatClampNeg)]) (rest := []) ⟨hx, hb, hml, hown, hts⟩ (c_L_isLive l hlt D cA ad N _ _ _ _ hc3 _) (vx_cwSW (hh := [(0, 13, 14, 32)]) 2 hts gL_isRight_L_isLive rfl rfl rfl (by decide +kernel) ⟨Nat.le_of_ble_eq_true rfl, Nat.le_of_ble_eq_true rfl⟩) (sg_preL (w0 := sg_WX cA ad u) hK (sg_Pl hP) (sg_Dl hD) hT hN hS hA) rfl rfl hl.1 rfl (lv_room (Nat.le_of_ble_eq_true rfl)) dL_isRight_280 ⟨by show kc + 2 + 1 ≤ 394; omega, by show kz + 12 + 6 ≤ 2368; omega⟩) hP hD hS hA (fun H locs hP hD hS => ?_)
        refine lv_iconst (v := 1) hx hb dL_isRight_283 (by decide) ?_
        refine lv_icmp_ne (tgt := 291) hx hb dL_isRight_284 (by decide) (fun c5 => ?_) (fun c5 => ?_)
        · have hf := sg_in c5 hf
          exact hJ291 _ _ _ _ _ _ _ _ _ _ hf hP hD hS (lv_sub hl [1, 2, 3, 4, 5, 6, 7, 8, 9, 10, 11, 0] rfl)
        · have hf := sg_ip c5 hf
          refine lv_iconst (v := 1) hx hb dL_isRight_287 (by decide) ?_
          refine lv_goto (tgt := 292) hx hb dL_isRight_288 (by decide) ?_
          exact hJ292 _ _ _ _ _ _ _ _ _ _ _ hf hP hD hS (lv_sub hl [1, 2, 3, 4, 5, 6, 7, 8, 9, 10, 11, 0] rfl)
    unfold fL_isRight_L237 at hf
    refine lv_iload hx hb dL_isRight_237 (lv_at hl 9 rfl) ?_
    refine lv_iload_n hx hb dL_isRight_239 rfl (lv_at hl 1 rfl) ?_
    refine lv_icmp_ge (tgt := 556) hx hb dL_isRight_240 (by decide) (fun c8 => ?_) (fun c8 => ?_)
    · have hf := sg_ip c8 hf
      have hq := hy _ (Option.some.inj hf).symm
      subst hq
      refine W.widen (k := KE) (n := ZE) (by omega) (by omega) ?_
      exact hk _ _ _ hP hD hS (lv_sub hl [0, 5, 6, 7, 8] rfl)
    · have hf := sg_in c8 hf
      refine lv_aload_n hx hb dL_isRight_243 rfl (lv_at hl 0 rfl) ?_
      refine lv_iload hx hb dL_isRight_244 (lv_at hl 9 rfl) ?_
      obtain ⟨r1, u3, hc2, hf⟩ := sg_b2_s hf
      refine sg_li (Wf := sg_WX cA ad) (vx_runSW (hh := [(0, 5, 6, 32)]) (As := [.ref (ad 0), .int x.2.2.2.2]) (rest := []) ⟨hx, hb, hml, hown, hts⟩ (c_L_current l hlt D cA ad N _ _ _ _ hc2 _) (vx_cwSW (hh := [(0, 5, 6, 32)]) 2 hts gL_isRight_L_current rfl rfl rfl (by decide +kernel) ⟨Nat.le_of_ble_eq_true rfl, Nat.le_of_ble_eq_true rfl⟩) (sg_preL (w0 := sg_WX cA ad x.1) hK (sg_Pl hP) (sg_Dl hD) hT hN hS hA) rfl rfl hl.1 rfl (lv_room (Nat.le_of_ble_eq_true rfl)) dL_isRight_246 ⟨by show kc + 0 + 1 ≤ 394; omega, by show kz + 0 + 6 ≤ 2368; omega⟩) hP hD hS hA (fun H locs hP hD hS => ?_)
      refine lv_istore (lv' := [(11, .int r1), (0, .ref (ad 0)), (1, .int v1), (2, .ref x1), (3, .ref x2), (4, .ref x0), (5, .int x.2.2.1), (6, .int v6), (7, .int v7), (9, .int x.2.2.2.1), (10, .int x.2.2.2.2)]) hx hb dL_isRight_249 hl (by decide) rfl (fun ls hl => ?_)
      refine lv_aload_n hx hb dL_isRight_251 rfl (lv_at hl 1 rfl) ?_
      refine lv_iload hx hb dL_isRight_252 (lv_at hl 10 rfl) ?_
      obtain ⟨r4, u6, hc5, hf⟩ := sg_b2_s hf
      refine sg_li (Wf := sg_WX cA ad) (vx_runSW (hh := [(0, 13, 14, 32)]) (As := [.ref (ad 0), .int x.2.2.2.2]) (rest := []) ⟨hx, hb, hml, hown, hts⟩ (c_L_isClosed l hlt D cA ad N _ _ _ _ hc5 _) (vx_cwSW (hh := [(0, 13, 14, 32)]) 2 hts gL_isRight_L_isClosed rfl rfl rfl (by decide +kernel) ⟨Nat.le_of_ble_eq_true rfl, Nat.le_of_ble_eq_true rfl⟩) (sg_preL (w0 := sg_WX cA ad u3) hK (sg_Pl hP) (sg_Dl hD) hT hN hS hA) rfl rfl hl.1 rfl (lv_room (Nat.le_of_ble_eq_true rfl)) dL_isRight_254 ⟨by show kc + 1 + 1 ≤ 394; omega, by show kz + 6 + 6 ≤ 2368; omega⟩) hP hD hS hA (fun H locs hP hD hS => ?_)
      refine lv_iconst (v := 1) hx hb dL_isRight_257 (by decide) ?_
      refine lv_icmp_ne (tgt := 265) hx hb dL_isRight_258 (by decide) (fun c7 => ?_) (fun c7 => ?_)
      · have hf := sg_in c7 hf
        refine lv_iconst (v := 0) hx hb dL_isRight_265 (by decide) ?_
        exact hJ266 _ _ _ _ _ _ _ _ _ _ hf hP hD hS (lv_sub hl [1, 2, 3, 4, 5, 6, 7, 8, 9, 10, 0] rfl)
      · have hf := sg_ip c7 hf
        refine lv_iconst (v := 1) hx hb dL_isRight_261 (by decide) ?_
        refine lv_goto (tgt := 266) hx hb dL_isRight_262 (by decide) ?_
        exact hJ266 _ _ _ _ _ _ _ _ _ _ hf hP hD hS (lv_sub hl [1, 2, 3, 4, 5, 6, 7, 8, 9, 10, 0] rfl)
  have hJ616 : ∀ (u : sg_St) (w : Nat → Int32) (H : Heap) (locs : List Loc) (ls : Array Slot), fL_isRight_j616 N a u w = some (r9, u9) → va_P D vwCl (sg_WX cA ad u ++ (sg_X4 cA x0 x1 x2 x3 a w)) H → va_D A (sg_WX cA ad u ++ (sg_X4 cA x0 x1 x2 x3 a w)) → va_S A s.heap H locs → lv_has ls 15 [] → W p l e (headSpec wsL_isRight ({ frames := 19, cells := 394, slots := 2368, locals := 507 })).room s m ([.ref (ad 0), .int p1, .ref x1, .ref x2, .ref x0] : List Value).toArray below meth c H locs (394) (2368) (MQ below (va_Qi (fun x y => x = r9 ∧ y = u9) (sg_BX D (fun z => sg_WX cA ad z ++ sg_X3 cA x0 x1 x2 a) A) A) ([.ref (ad 0), .int p1, .ref x1, .ref x2, .ref x0] : List Value).toArray s 394 2368 A) (F0 m 616 ls []) := by
    intro u w H locs ls hf hP hD hS hl
    unfold fL_isRight_j616 at hf
    refine lv_iconst (v := 0) hx hb dL_isRight_616 (by decide) ?_
    obtain ⟨hg1, hf⟩ := sg_g_s hf
    have hq := Option.some.inj hf
    replace hP : va_P D vwCl (sg_WX cA ad u ++ sg_X3 cA x0 x1 x2 a) H := hP.sub [0, 1, 2, 3, 4, 5, 6, 7, 8, 9, 10, 11, 12, 13, 14, 15, 16, 17, 18, 19] rfl
    replace hD : va_D A (sg_WX cA ad u ++ sg_X3 cA x0 x1 x2 a) := hD.sub [0, 1, 2, 3, 4, 5, 6, 7, 8, 9, 10, 11, 12, 13, 14, 15, 16, 17, 18, 19] (by decide) rfl
    exact sg_lrz (Wf := fun z => sg_WX cA ad z ++ sg_X3 cA x0 x1 x2 a) hx hb hr (sg_nz hg1) hP hD hS dL_isRight_617 (congrArg Prod.fst hq) (congrArg Prod.snd hq) hlocks (Nat.le_of_ble_eq_true rfl) (Nat.le_of_ble_eq_true rfl)
  have hJ608 : ∀ (u : sg_St) (w : Nat → Int32) (k0 : UInt32) (k1 : UInt32) (H : Heap) (locs : List Loc) (ls : Array Slot), fL_isRight_j608 N a u w k0 k1 = some (r9, u9) → va_P D vwCl (sg_WX cA ad u ++ (sg_X4 cA x0 x1 x2 x3 a w)) H → va_D A (sg_WX cA ad u ++ (sg_X4 cA x0 x1 x2 x3 a w)) → va_S A s.heap H locs → lv_has ls 15 [] → W p l e (headSpec wsL_isRight ({ frames := 19, cells := 394, slots := 2368, locals := 507 })).room s m ([.ref (ad 0), .int p1, .ref x1, .ref x2, .ref x0] : List Value).toArray below meth c H locs (394) (2368) (MQ below (va_Qi (fun x y => x = r9 ∧ y = u9) (sg_BX D (fun z => sg_WX cA ad z ++ sg_X3 cA x0 x1 x2 a) A) A) ([.ref (ad 0), .int p1, .ref x1, .ref x2, .ref x0] : List Value).toArray s 394 2368 A) (F0 m 608 ls [.float k1, .float k0]) := by
    intro u w k0 k1 H locs ls hf hP hD hS hl
    unfold fL_isRight_j608 at hf
    refine lv_fcmp hx hb dL_isRight_608 ?_
    refine lv_if_ne (tgt := 616) hx hb dL_isRight_609 (by decide) (fun c2 => ?_) (fun c2 => ?_)
    · have hf := sg_in c2 hf
      exact hJ616 _ _ _ _ _ hf hP hD hS (lv_sub hl [] rfl)
    · have hf := sg_ip c2 hf
      refine lv_iconst (v := 1) hx hb dL_isRight_612 (by decide) ?_
      refine lv_goto (tgt := 617) hx hb dL_isRight_613 (by decide) ?_
      obtain ⟨hg1, hf⟩ := sg_g_s hf
      have hq := Option.some.inj hf
      replace hP : va_P D vwCl (sg_WX cA ad u ++ sg_X3 cA x0 x1 x2 a) H := hP.sub [0, 1, 2, 3, 4, 5, 6, 7, 8, 9, 10, 11, 12, 13, 14, 15, 16, 17, 18, 19] rfl
      replace hD : va_D A (sg_WX cA ad u ++ sg_X3 cA x0 x1 x2 a) := hD.sub [0, 1, 2, 3, 4, 5, 6, 7, 8, 9, 10, 11, 12, 13, 14, 15, 16, 17, 18, 19] (by decide) rfl
      exact sg_lrz (Wf := fun z => sg_WX cA ad z ++ sg_X3 cA x0 x1 x2 a) hx hb hr (sg_nz hg1) hP hD hS dL_isRight_617 (congrArg Prod.fst hq) (congrArg Prod.snd hq) hlocks (Nat.le_of_ble_eq_true rfl) (Nat.le_of_ble_eq_true rfl)
  refine lv_astore (lv' := [(8, .ref x3), (7, .int 0), (6, .int 0), (5, .int 0), (0, .ref (ad 0)), (1, .int p1), (2, .ref x1), (3, .ref x2), (4, .ref x0)]) hx hb dL_isRight_13 hl (by decide) rfl (fun ls hl => ?_)
  refine lv_iconst (v := 1) hx hb dL_isRight_15 (by decide) ?_
  refine lv_istore (lv' := [(9, .int 1), (8, .ref x3), (7, .int 0), (6, .int 0), (5, .int 0), (0, .ref (ad 0)), (1, .int p1), (2, .ref x1), (3, .ref x2), (4, .ref x0)]) hx hb dL_isRight_16 hl (by decide) rfl (fun ls hl => ?_)
  refine lv_iconst (v := 0) hx hb dL_isRight_18 (by decide) ?_
  refine lv_istore (lv' := [(10, .int 0), (9, .int 1), (8, .ref x3), (7, .int 0), (6, .int 0), (5, .int 0), (0, .ref (ad 0)), (1, .int p1), (2, .ref x1), (3, .ref x2), (4, .ref x0)]) hx hb dL_isRight_19 hl (by decide) rfl (fun ls hl => ?_)
  obtain ⟨e1, hc2, hf⟩ := sg_b_s hf
  refine hL21 _ _ _ _ _ hc2 1 10 133 802 (Nat.le_of_ble_eq_true rfl) (Nat.le_of_ble_eq_true rfl) (Nat.le_of_ble_eq_true rfl) (Nat.le_of_ble_eq_true rfl) _ _ _ hP hD hS (lv_sub hl [6, 7, 8, 9, 10, 5, 4, 3, 2, 1, 0] rfl) (fun H locs ls hP hD hS hl => ?_)
  refine lv_iconst (v := 0) hx hb dL_isRight_199 (by decide) ?_
  refine lv_istore (lv' := [(10, .int 0), (0, .ref (ad 0)), (1, .int p1), (2, .ref x1), (3, .ref x2), (4, .ref x0), (5, .int 0), (6, .int e1.2.2.1), (7, .int e1.2.2.2.1), (8, .ref x3), (9, .int e1.2.2.2.2)]) hx hb dL_isRight_200 hl (by decide) rfl (fun ls hl => ?_)
  obtain ⟨e3, hc4, hf⟩ := sg_b_s hf
  refine hL202 _ _ _ _ _ _ _ hc4 133 802 133 802 (Nat.le_of_ble_eq_true rfl) (Nat.le_of_ble_eq_true rfl) (Nat.le_of_ble_eq_true rfl) (Nat.le_of_ble_eq_true rfl) _ _ _ hP hD hS (lv_sub hl [1, 2, 3, 4, 5, 6, 7, 8, 9, 10, 0] rfl) (fun H locs ls hP hD hS hl => ?_)
  refine lv_iconst (v := 0) hx hb dL_isRight_234 (by decide) ?_
  refine lv_istore (lv' := [(10, .int 0), (0, .ref (ad 0)), (1, .int p1), (2, .ref x1), (3, .ref x2), (4, .ref x0), (5, .int 0), (6, .int e1.2.2.1), (7, .int e1.2.2.2.1), (9, .int e3.2.2)]) hx hb dL_isRight_235 hl (by decide) rfl (fun ls hl => ?_)
  obtain ⟨e5, hc6, hf⟩ := sg_b_s hf
  refine hL237 _ _ _ _ _ _ hc6 133 802 393 2362 (Nat.le_of_ble_eq_true rfl) (Nat.le_of_ble_eq_true rfl) (Nat.le_of_ble_eq_true rfl) (Nat.le_of_ble_eq_true rfl) _ _ _ hP hD hS (lv_sub hl [1, 2, 3, 4, 5, 6, 7, 8, 9, 0] rfl) (fun H locs ls hP hD hS hl => ?_)
  refine lv_iload hx hb dL_isRight_556 (lv_at hl 4 rfl) ?_
  refine lv_if_eq (tgt := 616) hx hb dL_isRight_558 (by decide) (fun c23 => ?_) (fun c23 => ?_)
  · have hf := sg_ip c23 hf
    refine W.widen (k := 394) (n := 2368) (Nat.le_of_ble_eq_true rfl) (Nat.le_of_ble_eq_true rfl) ?_
    exact hJ616 _ _ _ _ _ hf hP hD hS (lv_sub hl [] rfl)
  · have hf := sg_in c23 hf
    refine lv_aload_n hx hb dL_isRight_561 rfl (lv_at hl 0 rfl) ?_
    obtain ⟨r7, hc8, hf⟩ := sg_b_s hf
    refine sg_lj (va_runV (As := []) (rest := []) ⟨hx, hb, hml, hown, hts⟩ (c_X5_islands l D cA ad N _ _ hc8 _) (cwV 0 hts gL_isRight_X5_islands rfl rfl rfl (by decide +kernel) ⟨Nat.le_of_ble_eq_true rfl, Nat.le_of_ble_eq_true rfl⟩) (sg_pre (Wf := sg_WX cA ad) hK (sg_Pl hP) (sg_Dl hD) (ci := 7) (q0 := 0) rfl rfl) rfl rfl hl.1 rfl (lv_room (Nat.le_of_ble_eq_true rfl)) dL_isRight_562 ⟨Nat.le_of_ble_eq_true rfl, Nat.le_of_ble_eq_true rfl⟩) hP hD hS hA (fun H locs hP hD hS => ?_)
    refine lv_aload_n hx hb dL_isRight_565 rfl (lv_at hl 0 rfl) ?_
    obtain ⟨r10, hc11, hf⟩ := sg_b_s hf
    refine sg_lj (va_runV (As := []) (rest := [.int r7]) ⟨hx, hb, hml, hown, hts⟩ (c_X5_nodes l D cA ad N _ _ hc11 _) (cwV 0 hts gL_isRight_X5_nodes rfl rfl rfl (by decide +kernel) ⟨Nat.le_of_ble_eq_true rfl, Nat.le_of_ble_eq_true rfl⟩) (sg_pre (Wf := sg_WX cA ad) hK (sg_Pl hP) (sg_Dl hD) (ci := 7) (q0 := 0) rfl rfl) rfl rfl hl.1 rfl (lv_room (Nat.le_of_ble_eq_true rfl)) dL_isRight_566 ⟨Nat.le_of_ble_eq_true rfl, Nat.le_of_ble_eq_true rfl⟩) hP hD hS hA (fun H locs hP hD hS => ?_)
    refine lv_iload hx hb dL_isRight_569 (lv_at hl 1 rfl) ?_
    refine lv_isub hx hb dL_isRight_571 ?_
    refine lv_icmp_ne (tgt := 616) hx hb dL_isRight_572 (by decide) (fun c22 => ?_) (fun c22 => ?_)
    · have hf := sg_in c22 hf
      refine W.widen (k := 394) (n := 2368) (Nat.le_of_ble_eq_true rfl) (Nat.le_of_ble_eq_true rfl) ?_
      exact hJ616 _ _ _ _ _ hf hP hD hS (lv_sub hl [] rfl)
    · have hf := sg_ip c22 hf
      refine lv_aload_n hx hb dL_isRight_575 rfl (lv_at hl 0 rfl) ?_
      obtain ⟨r13, hc14, hf⟩ := sg_b_s hf
      refine sg_lj (va_runV (As := []) (rest := []) ⟨hx, hb, hml, hown, hts⟩ (c_X5_darkLoad l D cA ad N _ _ hc14 _) (cwV 0 hts gL_isRight_X5_darkLoad rfl rfl rfl (by decide +kernel) ⟨Nat.le_of_ble_eq_true rfl, Nat.le_of_ble_eq_true rfl⟩) (sg_pre (Wf := sg_WX cA ad) hK (sg_Pl hP) (sg_Dl hD) (ci := 7) (q0 := 0) rfl rfl) rfl rfl hl.1 rfl (lv_room (Nat.le_of_ble_eq_true rfl)) dL_isRight_576 ⟨Nat.le_of_ble_eq_true rfl, Nat.le_of_ble_eq_true rfl⟩) hP hD hS hA (fun H locs hP hD hS => ?_)
      refine lv_iload hx hb dL_isRight_579 (lv_at hl 3 rfl) ?_
      refine lv_iload hx hb dL_isRight_581 (lv_at hl 2 rfl) ?_
      refine lv_isub hx hb dL_isRight_583 ?_
      refine lv_icmp_ne (tgt := 616) hx hb dL_isRight_584 (by decide) (fun c21 => ?_) (fun c21 => ?_)
      · have hf := sg_in c21 hf
        refine W.widen (k := 394) (n := 2368) (Nat.le_of_ble_eq_true rfl) (Nat.le_of_ble_eq_true rfl) ?_
        exact hJ616 _ _ _ _ _ hf hP hD hS (lv_sub hl [] rfl)
      · have hf := sg_ip c21 hf
        refine lv_aload_n hx hb dL_isRight_587 rfl (lv_at hl 0 rfl) ?_
        obtain ⟨r16, u18, hc17, hf⟩ := sg_b2_s hf
        refine sg_lf (Wf := sg_WX cA ad) (vx_runSW (hh := [(0, 4, 5, 142)]) (As := [.ref (ad 0)]) (rest := []) ⟨hx, hb, hml, hown, hts⟩ (c_L_liveShare l hlt D cA ad N _ _ _ hc17 _) (vx_cwSW (hh := [(0, 4, 5, 142)]) 1 hts gL_isRight_L_liveShare rfl rfl rfl (by decide +kernel) ⟨Nat.le_of_ble_eq_true rfl, Nat.le_of_ble_eq_true rfl⟩) (sg_preL (w0 := sg_WX cA ad e5.1) hK (sg_Pl hP) (sg_Dl hD) hT hN hS hA) rfl rfl hl.1 rfl (lv_room (Nat.le_of_ble_eq_true rfl)) dL_isRight_588 ⟨Nat.le_of_ble_eq_true rfl, Nat.le_of_ble_eq_true rfl⟩) hP hD hS hA (fun H locs hP hD hS => ?_)
        refine lv_iload hx hb dL_isRight_591 (lv_at hl 3 rfl) ?_
        refine lv_if_ne (tgt := 601) hx hb dL_isRight_593 (by decide) (fun c20 => ?_) (fun c20 => ?_)
        · have hf := sg_in c20 hf
          refine lv_iload hx hb dL_isRight_601 (lv_at hl 2 rfl) ?_
          refine lv_i2f hx hb dL_isRight_603 ?_
          refine lv_iload hx hb dL_isRight_604 (lv_at hl 3 rfl) ?_
          refine lv_i2f hx hb dL_isRight_606 ?_
          obtain ⟨hg19, hf⟩ := sg_g_s hf
          refine lv_fdiv hx hb dL_isRight_607 (sg_n32 hg19) ?_
          exact hJ608 _ _ _ _ _ _ _ hf hP hD hS (lv_sub hl [] rfl)
        · have hf := sg_ip c20 hf
          refine lv_ldcf (v := 3264479232) hx hb hown (hts (.constantFloat RL 144 (3264479232)) (by decide +kernel)) dL_isRight_596 ?_
          refine lv_goto (tgt := 608) hx hb dL_isRight_598 (by decide) ?_
          exact hJ608 _ _ _ _ _ _ _ hf hP hD hS (lv_sub hl [] rfl)
