set_option maxRecDepth 100000 in
set_option maxHeartbeats 4000000 in
theorem lw_case0 {p : Program} {l : Launch} {e : Env} {s : State} {m : MethodId} {below : List Frame} {meth : Method} {c : Code} {b L : Nat} {xs : Nat → Int32} {D : va_G} {cA : Nat → ClassId} {ax am : Nat → Nat} {qo qe N : Nat} {I : sg_St → sg_St → Prop} {Q : State → Prop} {cells slots : Nat} {H : Heap} {locs : List Loc} {ls : Array Slot} {x5 : Int32} {u v : sg_St} {o : Nat → Int64} {od : Nat → UInt64} (hlt : l.stackTraces = false) (C0 : sg_LA p s m meth c b L xs D cA) (hB : ∃ (R : (Nat ⊕ Int32) × sg_St) (r1 : Int32) (v1 : sg_St), fX5_addSource N u (xs (x5 + 1).toNatClampNeg) = some R ∧ fX6_addSource N v (xs (x5 + 1).toNatClampNeg) = some (r1, v1) ∧ sg_Rel I [1, 0] R r1 v1) (hv1 : vp_in (x5 + 1) L) (hP : va_P D vwCl (sg_WW cA ax am qo qe u v o od) H) (hD : va_D (fun q : Nat => s.heap.size ≤ q) (sg_WW cA ax am qo qe u v o od)) (hS : va_S (fun q : Nat => s.heap.size ≤ q) s.heap H locs) (hl : lv_has ls 9 [(0, .ref b), (1, .ref (ax 0)), (2, .ref (am 0)), (3, .ref qo), (4, .ref qe), (5, .int x5)]) (hcs : cells + 10 ≤ 649553 ∧ slots + 60 ≤ 7063476) (kk : ∀ (u' v' : sg_St) (o' : Nat → Int64) (od' : Nat → UInt64) (H : Heap) (locs : List Loc) (ls : Array Slot), I u' v' → va_P D vwCl (sg_WW cA ax am qo qe u' v' o' od') H → va_D (fun q : Nat => s.heap.size ≤ q) (sg_WW cA ax am qo qe u' v' o' od') → va_S (fun q : Nat => s.heap.size ≤ q) s.heap H locs → lv_has ls 9 [(0, .ref b), (1, .ref (ax 0)), (2, .ref (am 0)), (3, .ref qo), (4, .ref qe), (5, .int x5)] → W p l e room_1 s m #[Value.ref b] below meth c H locs (cells + 10) (slots + 60) Q (F0 m 2656 ls [])) : W p l e room_1 s m #[Value.ref b] below meth c H locs cells slots Q (F0 m 244 ls []) := by
  obtain ⟨hx, hb, hr, hml, hown, hts, hX, hbl, hK, hT, hN, hlocks⟩ := C0
  have hA : ∀ q : Nat, s.heap.size ≤ q → (fun q : Nat => s.heap.size ≤ q) q := fun _ h => h
  have hbA : ¬ (fun q : Nat => s.heap.size ≤ q) b := Nat.not_le.mpr hbl
  obtain ⟨R, r1, v1, hf1, hf2, hRel⟩ := hB
  have hR9 : ∀ k t, R = (.inl k, t) → k ∈ [1, 0] := fun k t e9 => sg_Rel_in hRel e9
  refine lv_aload_n hx hb dL_law_244 rfl (lv_at hl 1 rfl) ?_
  refine lv_aload_n hx hb dL_law_245 rfl (lv_at hl 0 rfl) ?_
  refine lv_iload hx hb dL_law_246 (lv_at hl 5 rfl) ?_
  refine lv_iconst (v := 1) hx hb dL_law_248 (by decide) ?_
  refine lv_iadd hx hb dL_law_249 ?_
  refine va_sld hx hb hX hbl hbA hS hv1 dL_law_250 ?_
  refine lv_aload_n hx hb dL_law_251 rfl (lv_at hl 3 rfl) ?_
  refine sg_hw (vx_runSW (As := [.ref (ax 0), .int (xs (x5 + 1).toNatClampNeg), .ref qo]) (rest := []) ⟨hx, hb, hml, hown, hts⟩ (c_L_addSource l hlt D cA ax qo o N u _ R hf1 hR9 _) (vx_cwSW (hh := [(0, 9, 12, 13), (0, 9, 15, 15)]) 3 hts gL_law_L_addSource rfl rfl rfl (by decide +kernel) ⟨Nat.le_of_ble_eq_true rfl, Nat.le_of_ble_eq_true rfl⟩) (sg_preL (w0 := sg_WL cA ax qo u o) hK (hP.sub [0, 2, 3, 4, 5, 6, 7, 8, 9, 10, 11, 12, 13, 14, 15, 16, 17, 18] rfl) (hD.sub [0, 2, 3, 4, 5, 6, 7, 8, 9, 10, 11, 12, 13, 14, 15, 16, 17, 18] (by decide) rfl) hT hN hS hA) rfl rfl hl.1 rfl (lv_room (Nat.le_of_ble_eq_true rfl)) dL_law_252 ⟨by show cells + 2 ≤ 649553; omega, by show slots + 12 ≤ 7063476; omega⟩) hP hD hS hA (fun r u1 o1 H locs hlp hP hD hS => ?_)
  obtain ⟨hth, hI1, hout⟩ := sg_agree (by decide) hRel hlp
  refine lv_istore (lv' := [(6, .int r), (0, .ref b), (1, .ref (ax 0)), (2, .ref (am 0)), (3, .ref qo), (4, .ref qe), (5, .int x5)]) hx hb dL_law_255 hl (by decide) rfl (fun ls hl => ?_)
  refine lv_aload_n hx hb dL_law_257 rfl (lv_at hl 3 rfl) ?_
  refine lv_aload_n hx hb dL_law_258 rfl (lv_at hl 1 rfl) ?_
  refine lv_iload hx hb dL_law_259 (lv_at hl 6 rfl) ?_
  refine lv_iconst (v := 1) hx hb dL_law_261 (by decide) ?_
  refine lv_iadd hx hb dL_law_262 ?_
  refine va_sld hx hb hX hbl hbA hS hv1 dL_law_263 ?_
  refine sg_mi (va_runV (As := [.int (xs (x5 + 1).toNatClampNeg)]) (rest := []) ⟨hx, hb, hml, hown, hts⟩ (c_X6_addSource l D cA am N _ _ _ _ hf2 _) (cwV 1 hts gL_law_X6_addSource rfl rfl rfl (by decide +kernel) ⟨Nat.le_of_ble_eq_true rfl, Nat.le_of_ble_eq_true rfl⟩) (sg_pre (Wf := sg_WM cA am) hK (hP.sub [19, 20, 21, 22, 23, 24, 25, 26, 27, 28, 29, 30, 31, 32, 33, 34, 35, 36, 37, 38] rfl) (hD.sub [19, 20, 21, 22, 23, 24, 25, 26, 27, 28, 29, 30, 31, 32, 33, 34, 35, 36, 37, 38] (by decide) rfl) (ci := 8) (q0 := 0) rfl rfl) rfl rfl hl.1 rfl (lv_room (Nat.le_of_ble_eq_true rfl)) dL_law_264 ⟨by show cells + 2 + 0 ≤ 649553; omega, by show slots + 12 + 0 ≤ 7063476; omega⟩) hP hD hS hA (fun H locs hP hD hS => ?_)
  refine lv_istore (lv' := [(7, .int r1), (6, .int r), (0, .ref b), (1, .ref (ax 0)), (2, .ref (am 0)), (3, .ref qo), (4, .ref qe), (5, .int x5)]) hx hb dL_law_267 hl (by decide) rfl (fun ls hl => ?_)
  refine lv_aload_n hx hb dL_law_269 rfl (lv_at hl 4 rfl) ?_
  refine sg_mi (va_runV (As := []) (rest := []) ⟨hx, hb, hml, hown, hts⟩ (c_X6_thrown l D cA am N v1 (v1 0 0) rfl _) (cwV 0 hts gL_law_X6_thrown rfl rfl rfl (by decide +kernel) ⟨Nat.le_of_ble_eq_true rfl, Nat.le_of_ble_eq_true rfl⟩) (sg_pre (Wf := sg_WM cA am) hK (hP.sub [19, 20, 21, 22, 23, 24, 25, 26, 27, 28, 29, 30, 31, 32, 33, 34, 35, 36, 37, 38] rfl) (hD.sub [19, 20, 21, 22, 23, 24, 25, 26, 27, 28, 29, 30, 31, 32, 33, 34, 35, 36, 37, 38] (by decide) rfl) (ci := 8) (q0 := 0) rfl rfl) rfl rfl hl.1 rfl (lv_room (Nat.le_of_ble_eq_true rfl)) dL_law_270 ⟨by show cells + 2 + 0 ≤ 649553; omega, by show slots + 12 + 0 ≤ 7063476; omega⟩) hP hD hS hA (fun H locs hP hD hS => ?_)
  refine lv_iload hx hb dL_law_273 (lv_at hl 1 rfl) ?_
  refine lv_icmp_eq (tgt := 280) hx hb dL_law_275 (by decide) (fun _ => ?_) (fun hz3 => absurd hth hz3)
  refine lv_iload hx hb dL_law_280 (lv_at hl 1 rfl) ?_
  refine lv_if_ne (tgt := 297) hx hb dL_law_282 (by decide) (fun hr0 => ?_) (fun hr0 => ?_)
  · refine lv_goto (tgt := 2656) hx hb dL_law_297 (by decide) ?_
    refine W.widen (k := cells + 10) (n := slots + 60) (by omega) (by omega) ?_
    exact kk _ _ _ _ _ _ _ hI1 hP hD hS (lv_sub hl [2, 3, 4, 5, 6, 7] rfl)
  · obtain ⟨ho, hRr⟩ := hout hr0
    subst ho
    refine lv_aload_n hx hb dL_law_285 rfl (lv_at hl 5 rfl) ?_
    refine lv_iconst (v := 0) hx hb dL_law_286 (by decide) ?_
    refine va_lald hx hb hK.1 hP 0 2 rfl rfl (sg_inb_s (i := 0) (n := 1) (by decide)) dL_law_287 ?_
    refine lv_iload hx hb dL_law_288 (lv_at hl 0 rfl) ?_
    refine lv_i2l (v := r1.toInt64) hx hb dL_law_290 rfl ?_
    refine W.lcmp hx hb dL_law_291 ?_
    refine lv_if_eq (tgt := 297) hx hb dL_law_292 (by decide) (fun _ => ?_) (fun hz4 => absurd (by first | exact sg_cmp64 | exact sg_cmpB0 hb1 | exact sg_cmpB1 hb1) hz4)
    refine lv_goto (tgt := 2656) hx hb dL_law_297 (by decide) ?_
    refine W.widen (k := cells + 10) (n := slots + 60) (by omega) (by omega) ?_
    exact kk _ _ _ _ _ _ _ hI1 hP hD hS (lv_sub hl [2, 3, 4, 5, 6, 7] rfl)
set_option maxRecDepth 100000 in
set_option maxHeartbeats 4000000 in
theorem lw_case1 {p : Program} {l : Launch} {e : Env} {s : State} {m : MethodId} {below : List Frame} {meth : Method} {c : Code} {b L : Nat} {xs : Nat → Int32} {D : va_G} {cA : Nat → ClassId} {ax am : Nat → Nat} {qo qe N : Nat} {I : sg_St → sg_St → Prop} {Q : State → Prop} {cells slots : Nat} {H : Heap} {locs : List Loc} {ls : Array Slot} {x5 : Int32} {u v : sg_St} {o : Nat → Int64} {od : Nat → UInt64} (hlt : l.stackTraces = false) (C0 : sg_LA p s m meth c b L xs D cA) (hB : ∃ (R : (Nat ⊕ Int32) × sg_St) (r1 : Int32) (v1 : sg_St), fX5_addBus N u (xs (x5 + 1).toNatClampNeg) (xs (x5 + 2).toNatClampNeg) = some R ∧ fX6_addBus N v (xs (x5 + 1).toNatClampNeg) (xs (x5 + 2).toNatClampNeg) = some (r1, v1) ∧ sg_Rel I [1, 0] R r1 v1) (hv1 : vp_in (x5 + 1) L) (hv2 : vp_in (x5 + 2) L) (hP : va_P D vwCl (sg_WW cA ax am qo qe u v o od) H) (hD : va_D (fun q : Nat => s.heap.size ≤ q) (sg_WW cA ax am qo qe u v o od)) (hS : va_S (fun q : Nat => s.heap.size ≤ q) s.heap H locs) (hl : lv_has ls 9 [(0, .ref b), (1, .ref (ax 0)), (2, .ref (am 0)), (3, .ref qo), (4, .ref qe), (5, .int x5)]) (hcs : cells + 10 ≤ 649553 ∧ slots + 60 ≤ 7063476) (kk : ∀ (u' v' : sg_St) (o' : Nat → Int64) (od' : Nat → UInt64) (H : Heap) (locs : List Loc) (ls : Array Slot), I u' v' → va_P D vwCl (sg_WW cA ax am qo qe u' v' o' od') H → va_D (fun q : Nat => s.heap.size ≤ q) (sg_WW cA ax am qo qe u' v' o' od') → va_S (fun q : Nat => s.heap.size ≤ q) s.heap H locs → lv_has ls 9 [(0, .ref b), (1, .ref (ax 0)), (2, .ref (am 0)), (3, .ref qo), (4, .ref qe), (5, .int x5)] → W p l e room_1 s m #[Value.ref b] below meth c H locs (cells + 10) (slots + 60) Q (F0 m 2656 ls [])) : W p l e room_1 s m #[Value.ref b] below meth c H locs cells slots Q (F0 m 300 ls []) := by
  obtain ⟨hx, hb, hr, hml, hown, hts, hX, hbl, hK, hT, hN, hlocks⟩ := C0
  have hA : ∀ q : Nat, s.heap.size ≤ q → (fun q : Nat => s.heap.size ≤ q) q := fun _ h => h
  have hbA : ¬ (fun q : Nat => s.heap.size ≤ q) b := Nat.not_le.mpr hbl
  obtain ⟨R, r1, v1, hf1, hf2, hRel⟩ := hB
  have hR9 : ∀ k t, R = (.inl k, t) → k ∈ [1, 0] := fun k t e9 => sg_Rel_in hRel e9
  refine lv_aload_n hx hb dL_law_300 rfl (lv_at hl 1 rfl) ?_
  refine lv_aload_n hx hb dL_law_301 rfl (lv_at hl 0 rfl) ?_
  refine lv_iload hx hb dL_law_302 (lv_at hl 5 rfl) ?_
  refine lv_iconst (v := 1) hx hb dL_law_304 (by decide) ?_
  refine lv_iadd hx hb dL_law_305 ?_
  refine va_sld hx hb hX hbl hbA hS hv1 dL_law_306 ?_
  refine lv_aload_n hx hb dL_law_307 rfl (lv_at hl 0 rfl) ?_
  refine lv_iload hx hb dL_law_308 (lv_at hl 5 rfl) ?_
  refine lv_iconst (v := 2) hx hb dL_law_310 (by decide) ?_
  refine lv_iadd hx hb dL_law_311 ?_
  refine va_sld hx hb hX hbl hbA hS hv2 dL_law_312 ?_
  refine lv_aload_n hx hb dL_law_313 rfl (lv_at hl 3 rfl) ?_
  refine sg_hw (vx_runSW (As := [.ref (ax 0), .int (xs (x5 + 1).toNatClampNeg), .int (xs (x5 + 2).toNatClampNeg), .ref qo]) (rest := []) ⟨hx, hb, hml, hown, hts⟩ (c_L_addBus l hlt D cA ax qo o N u _ _ R hf1 hR9 _) (vx_cwSW (hh := [(0, 10, 13, 13), (0, 10, 17, 15)]) 4 hts gL_law_L_addBus rfl rfl rfl (by decide +kernel) ⟨Nat.le_of_ble_eq_true rfl, Nat.le_of_ble_eq_true rfl⟩) (sg_preL (w0 := sg_WL cA ax qo u o) hK (hP.sub [0, 2, 3, 4, 5, 6, 7, 8, 9, 10, 11, 12, 13, 14, 15, 16, 17, 18] rfl) (hD.sub [0, 2, 3, 4, 5, 6, 7, 8, 9, 10, 11, 12, 13, 14, 15, 16, 17, 18] (by decide) rfl) hT hN hS hA) rfl rfl hl.1 rfl (lv_room (Nat.le_of_ble_eq_true rfl)) dL_law_314 ⟨by show cells + 3 ≤ 649553; omega, by show slots + 18 ≤ 7063476; omega⟩) hP hD hS hA (fun r u1 o1 H locs hlp hP hD hS => ?_)
  obtain ⟨hth, hI1, hout⟩ := sg_agree (by decide) hRel hlp
  refine lv_istore (lv' := [(6, .int r), (0, .ref b), (1, .ref (ax 0)), (2, .ref (am 0)), (3, .ref qo), (4, .ref qe), (5, .int x5)]) hx hb dL_law_317 hl (by decide) rfl (fun ls hl => ?_)
  refine lv_aload_n hx hb dL_law_319 rfl (lv_at hl 3 rfl) ?_
  refine lv_aload_n hx hb dL_law_320 rfl (lv_at hl 1 rfl) ?_
  refine lv_iload hx hb dL_law_321 (lv_at hl 6 rfl) ?_
  refine lv_iconst (v := 1) hx hb dL_law_323 (by decide) ?_
  refine lv_iadd hx hb dL_law_324 ?_
  refine va_sld hx hb hX hbl hbA hS hv1 dL_law_325 ?_
  refine lv_aload_n hx hb dL_law_326 rfl (lv_at hl 1 rfl) ?_
  refine lv_iload hx hb dL_law_327 (lv_at hl 6 rfl) ?_
  refine lv_iconst (v := 2) hx hb dL_law_329 (by decide) ?_
  refine lv_iadd hx hb dL_law_330 ?_
  refine va_sld hx hb hX hbl hbA hS hv2 dL_law_331 ?_
  refine sg_mi (va_runV (As := [.int (xs (x5 + 1).toNatClampNeg), .int (xs (x5 + 2).toNatClampNeg)]) (rest := []) ⟨hx, hb, hml, hown, hts⟩ (c_X6_addBus l D cA am N _ _ _ _ _ hf2 _) (cwV 2 hts gL_law_X6_addBus rfl rfl rfl (by decide +kernel) ⟨Nat.le_of_ble_eq_true rfl, Nat.le_of_ble_eq_true rfl⟩) (sg_pre (Wf := sg_WM cA am) hK (hP.sub [19, 20, 21, 22, 23, 24, 25, 26, 27, 28, 29, 30, 31, 32, 33, 34, 35, 36, 37, 38] rfl) (hD.sub [19, 20, 21, 22, 23, 24, 25, 26, 27, 28, 29, 30, 31, 32, 33, 34, 35, 36, 37, 38] (by decide) rfl) (ci := 8) (q0 := 0) rfl rfl) rfl rfl hl.1 rfl (lv_room (Nat.le_of_ble_eq_true rfl)) dL_law_332 ⟨by show cells + 3 + 0 ≤ 649553; omega, by show slots + 18 + 0 ≤ 7063476; omega⟩) hP hD hS hA (fun H locs hP hD hS => ?_)
  refine lv_istore (lv' := [(7, .int r1), (6, .int r), (0, .ref b), (1, .ref (ax 0)), (2, .ref (am 0)), (3, .ref qo), (4, .ref qe), (5, .int x5)]) hx hb dL_law_335 hl (by decide) rfl (fun ls hl => ?_)
  refine lv_aload_n hx hb dL_law_337 rfl (lv_at hl 4 rfl) ?_
  refine sg_mi (va_runV (As := []) (rest := []) ⟨hx, hb, hml, hown, hts⟩ (c_X6_thrown l D cA am N v1 (v1 0 0) rfl _) (cwV 0 hts gL_law_X6_thrown rfl rfl rfl (by decide +kernel) ⟨Nat.le_of_ble_eq_true rfl, Nat.le_of_ble_eq_true rfl⟩) (sg_pre (Wf := sg_WM cA am) hK (hP.sub [19, 20, 21, 22, 23, 24, 25, 26, 27, 28, 29, 30, 31, 32, 33, 34, 35, 36, 37, 38] rfl) (hD.sub [19, 20, 21, 22, 23, 24, 25, 26, 27, 28, 29, 30, 31, 32, 33, 34, 35, 36, 37, 38] (by decide) rfl) (ci := 8) (q0 := 0) rfl rfl) rfl rfl hl.1 rfl (lv_room (Nat.le_of_ble_eq_true rfl)) dL_law_338 ⟨by show cells + 3 + 0 ≤ 649553; omega, by show slots + 18 + 0 ≤ 7063476; omega⟩) hP hD hS hA (fun H locs hP hD hS => ?_)
  refine lv_iload hx hb dL_law_341 (lv_at hl 1 rfl) ?_
  refine lv_icmp_eq (tgt := 348) hx hb dL_law_343 (by decide) (fun _ => ?_) (fun hz3 => absurd hth hz3)
  refine lv_iload hx hb dL_law_348 (lv_at hl 1 rfl) ?_
  refine lv_if_ne (tgt := 365) hx hb dL_law_350 (by decide) (fun hr0 => ?_) (fun hr0 => ?_)
  · refine lv_goto (tgt := 2656) hx hb dL_law_365 (by decide) ?_
    refine W.widen (k := cells + 10) (n := slots + 60) (by omega) (by omega) ?_
    exact kk _ _ _ _ _ _ _ hI1 hP hD hS (lv_sub hl [2, 3, 4, 5, 6, 7] rfl)
  · obtain ⟨ho, hRr⟩ := hout hr0
    subst ho
    refine lv_aload_n hx hb dL_law_353 rfl (lv_at hl 5 rfl) ?_
    refine lv_iconst (v := 0) hx hb dL_law_354 (by decide) ?_
    refine va_lald hx hb hK.1 hP 0 2 rfl rfl (sg_inb_s (i := 0) (n := 1) (by decide)) dL_law_355 ?_
    refine lv_iload hx hb dL_law_356 (lv_at hl 0 rfl) ?_
    refine lv_i2l (v := r1.toInt64) hx hb dL_law_358 rfl ?_
    refine W.lcmp hx hb dL_law_359 ?_
    refine lv_if_eq (tgt := 365) hx hb dL_law_360 (by decide) (fun _ => ?_) (fun hz4 => absurd (by first | exact sg_cmp64 | exact sg_cmpB0 hb1 | exact sg_cmpB1 hb1) hz4)
    refine lv_goto (tgt := 2656) hx hb dL_law_365 (by decide) ?_
    refine W.widen (k := cells + 10) (n := slots + 60) (by omega) (by omega) ?_
    exact kk _ _ _ _ _ _ _ hI1 hP hD hS (lv_sub hl [2, 3, 4, 5, 6, 7] rfl)
set_option maxRecDepth 100000 in
set_option maxHeartbeats 4000000 in
theorem lw_case2 {p : Program} {l : Launch} {e : Env} {s : State} {m : MethodId} {below : List Frame} {meth : Method} {c : Code} {b L : Nat} {xs : Nat → Int32} {D : va_G} {cA : Nat → ClassId} {ax am : Nat → Nat} {qo qe N : Nat} {I : sg_St → sg_St → Prop} {Q : State → Prop} {cells slots : Nat} {H : Heap} {locs : List Loc} {ls : Array Slot} {x5 : Int32} {u v : sg_St} {o : Nat → Int64} {od : Nat → UInt64} (hlt : l.stackTraces = false) (C0 : sg_LA p s m meth c b L xs D cA) (hB : ∃ (R : (Nat ⊕ Int32) × sg_St) (r1 : Int32) (v1 : sg_St), fX5_addLine N u (xs (x5 + 1).toNatClampNeg) (xs (x5 + 2).toNatClampNeg) (xs (x5 + 3).toNatClampNeg) (sg_nb (xs (x5 + 4).toNatClampNeg)) = some R ∧ fX6_addLine N v (xs (x5 + 1).toNatClampNeg) (xs (x5 + 2).toNatClampNeg) (xs (x5 + 3).toNatClampNeg) (sg_nb (xs (x5 + 4).toNatClampNeg)) = some (r1, v1) ∧ sg_Rel I [5, 1, 0] R r1 v1) (hv1 : vp_in (x5 + 1) L) (hv2 : vp_in (x5 + 2) L) (hv3 : vp_in (x5 + 3) L) (hv4 : vp_in (x5 + 4) L) (hP : va_P D vwCl (sg_WW cA ax am qo qe u v o od) H) (hD : va_D (fun q : Nat => s.heap.size ≤ q) (sg_WW cA ax am qo qe u v o od)) (hS : va_S (fun q : Nat => s.heap.size ≤ q) s.heap H locs) (hl : lv_has ls 9 [(0, .ref b), (1, .ref (ax 0)), (2, .ref (am 0)), (3, .ref qo), (4, .ref qe), (5, .int x5)]) (hcs : cells + 10 ≤ 649553 ∧ slots + 60 ≤ 7063476) (kk : ∀ (u' v' : sg_St) (o' : Nat → Int64) (od' : Nat → UInt64) (H : Heap) (locs : List Loc) (ls : Array Slot), I u' v' → va_P D vwCl (sg_WW cA ax am qo qe u' v' o' od') H → va_D (fun q : Nat => s.heap.size ≤ q) (sg_WW cA ax am qo qe u' v' o' od') → va_S (fun q : Nat => s.heap.size ≤ q) s.heap H locs → lv_has ls 9 [(0, .ref b), (1, .ref (ax 0)), (2, .ref (am 0)), (3, .ref qo), (4, .ref qe), (5, .int x5)] → W p l e room_1 s m #[Value.ref b] below meth c H locs (cells + 10) (slots + 60) Q (F0 m 2656 ls [])) : W p l e room_1 s m #[Value.ref b] below meth c H locs cells slots Q (F0 m 368 ls []) := by
  obtain ⟨hx, hb, hr, hml, hown, hts, hX, hbl, hK, hT, hN, hlocks⟩ := C0
  have hA : ∀ q : Nat, s.heap.size ≤ q → (fun q : Nat => s.heap.size ≤ q) q := fun _ h => h
  have hbA : ¬ (fun q : Nat => s.heap.size ≤ q) b := Nat.not_le.mpr hbl
  obtain ⟨R, r1, v1, hf1, hf2, hRel⟩ := hB
  have hR9 : ∀ k t, R = (.inl k, t) → k ∈ [5, 1, 0] := fun k t e9 => sg_Rel_in hRel e9
  refine lv_aload_n hx hb dL_law_368 rfl (lv_at hl 1 rfl) ?_
  refine lv_aload_n hx hb dL_law_369 rfl (lv_at hl 0 rfl) ?_
  refine lv_iload hx hb dL_law_370 (lv_at hl 5 rfl) ?_
  refine lv_iconst (v := 1) hx hb dL_law_372 (by decide) ?_
  refine lv_iadd hx hb dL_law_373 ?_
  refine va_sld hx hb hX hbl hbA hS hv1 dL_law_374 ?_
  refine lv_aload_n hx hb dL_law_375 rfl (lv_at hl 0 rfl) ?_
  refine lv_iload hx hb dL_law_376 (lv_at hl 5 rfl) ?_
  refine lv_iconst (v := 2) hx hb dL_law_378 (by decide) ?_
  refine lv_iadd hx hb dL_law_379 ?_
  refine va_sld hx hb hX hbl hbA hS hv2 dL_law_380 ?_
  refine lv_aload_n hx hb dL_law_381 rfl (lv_at hl 0 rfl) ?_
  refine lv_iload hx hb dL_law_382 (lv_at hl 5 rfl) ?_
  refine lv_iconst (v := 3) hx hb dL_law_384 (by decide) ?_
  refine lv_iadd hx hb dL_law_385 ?_
  refine va_sld hx hb hX hbl hbA hS hv3 dL_law_386 ?_
  refine lv_aload_n hx hb dL_law_387 rfl (lv_at hl 0 rfl) ?_
  refine lv_iload hx hb dL_law_388 (lv_at hl 5 rfl) ?_
  refine lv_iconst (v := 4) hx hb dL_law_390 (by decide) ?_
  refine lv_iadd hx hb dL_law_391 ?_
  refine va_sld hx hb hX hbl hbA hS hv4 dL_law_392 ?_
  refine lv_if_eq (tgt := 400) hx hb dL_law_393 (by decide) (fun hz => ?_) (fun hz => ?_)
  · rw [sg_nb, if_pos hz] at hf1 hf2
    refine lv_iconst (v := 0) hx hb dL_law_400 (by decide) ?_
    refine lv_aload_n hx hb dL_law_401 rfl (lv_at hl 3 rfl) ?_
    refine sg_hw (vx_runSW (As := [.ref (ax 0), .int (xs (x5 + 1).toNatClampNeg), .int (xs (x5 + 2).toNatClampNeg), .int (xs (x5 + 3).toNatClampNeg), .int 0, .ref qo]) (rest := []) ⟨hx, hb, hml, hown, hts⟩ (c_L_addLine l hlt D cA ax qo o N u _ _ _ _ R hf1 hR9 _) (vx_cwSW (hh := [(0, 14, 17, 25), (0, 14, 21, 13), (0, 14, 25, 15)]) 6 hts gL_law_L_addLine rfl rfl rfl (by decide +kernel) ⟨Nat.le_of_ble_eq_true rfl, Nat.le_of_ble_eq_true rfl⟩) (sg_preL (w0 := sg_WL cA ax qo u o) hK (hP.sub [0, 2, 3, 4, 5, 6, 7, 8, 9, 10, 11, 12, 13, 14, 15, 16, 17, 18] rfl) (hD.sub [0, 2, 3, 4, 5, 6, 7, 8, 9, 10, 11, 12, 13, 14, 15, 16, 17, 18] (by decide) rfl) hT hN hS hA) rfl rfl hl.1 rfl (lv_room (Nat.le_of_ble_eq_true rfl)) dL_law_402 ⟨by show cells + 4 ≤ 649553; omega, by show slots + 24 ≤ 7063476; omega⟩) hP hD hS hA (fun r u1 o1 H locs hlp hP hD hS => ?_)
    obtain ⟨hth, hI1, hout⟩ := sg_agree (by decide) hRel hlp
    refine lv_istore (lv' := [(6, .int r), (0, .ref b), (1, .ref (ax 0)), (2, .ref (am 0)), (3, .ref qo), (4, .ref qe), (5, .int x5)]) hx hb dL_law_405 hl (by decide) rfl (fun ls hl => ?_)
    refine lv_aload_n hx hb dL_law_407 rfl (lv_at hl 3 rfl) ?_
    refine lv_aload_n hx hb dL_law_408 rfl (lv_at hl 1 rfl) ?_
    refine lv_iload hx hb dL_law_409 (lv_at hl 6 rfl) ?_
    refine lv_iconst (v := 1) hx hb dL_law_411 (by decide) ?_
    refine lv_iadd hx hb dL_law_412 ?_
    refine va_sld hx hb hX hbl hbA hS hv1 dL_law_413 ?_
    refine lv_aload_n hx hb dL_law_414 rfl (lv_at hl 1 rfl) ?_
    refine lv_iload hx hb dL_law_415 (lv_at hl 6 rfl) ?_
    refine lv_iconst (v := 2) hx hb dL_law_417 (by decide) ?_
    refine lv_iadd hx hb dL_law_418 ?_
    refine va_sld hx hb hX hbl hbA hS hv2 dL_law_419 ?_
    refine lv_aload_n hx hb dL_law_420 rfl (lv_at hl 1 rfl) ?_
    refine lv_iload hx hb dL_law_421 (lv_at hl 6 rfl) ?_
    refine lv_iconst (v := 3) hx hb dL_law_423 (by decide) ?_
    refine lv_iadd hx hb dL_law_424 ?_
    refine va_sld hx hb hX hbl hbA hS hv3 dL_law_425 ?_
    refine lv_aload_n hx hb dL_law_426 rfl (lv_at hl 1 rfl) ?_
    refine lv_iload hx hb dL_law_427 (lv_at hl 6 rfl) ?_
    refine lv_iconst (v := 4) hx hb dL_law_429 (by decide) ?_
    refine lv_iadd hx hb dL_law_430 ?_
    refine va_sld hx hb hX hbl hbA hS hv4 dL_law_431 ?_
    refine lv_if_eq (tgt := 439) hx hb dL_law_432 (by decide) (fun _ => ?_) (fun hz2 => absurd hz hz2)
    refine lv_iconst (v := 0) hx hb dL_law_439 (by decide) ?_
    refine sg_mi (va_runV (As := [.int (xs (x5 + 1).toNatClampNeg), .int (xs (x5 + 2).toNatClampNeg), .int (xs (x5 + 3).toNatClampNeg), .int 0]) (rest := []) ⟨hx, hb, hml, hown, hts⟩ (c_X6_addLine l D cA am N _ _ _ _ _ _ _ hf2 _) (cwV 4 hts gL_law_X6_addLine rfl rfl rfl (by decide +kernel) ⟨Nat.le_of_ble_eq_true rfl, Nat.le_of_ble_eq_true rfl⟩) (sg_pre (Wf := sg_WM cA am) hK (hP.sub [19, 20, 21, 22, 23, 24, 25, 26, 27, 28, 29, 30, 31, 32, 33, 34, 35, 36, 37, 38] rfl) (hD.sub [19, 20, 21, 22, 23, 24, 25, 26, 27, 28, 29, 30, 31, 32, 33, 34, 35, 36, 37, 38] (by decide) rfl) (ci := 8) (q0 := 0) rfl rfl) rfl rfl hl.1 rfl (lv_room (Nat.le_of_ble_eq_true rfl)) dL_law_440 ⟨by show cells + 4 + 0 ≤ 649553; omega, by show slots + 24 + 0 ≤ 7063476; omega⟩) hP hD hS hA (fun H locs hP hD hS => ?_)
    refine lv_istore (lv' := [(7, .int r1), (6, .int r), (0, .ref b), (1, .ref (ax 0)), (2, .ref (am 0)), (3, .ref qo), (4, .ref qe), (5, .int x5)]) hx hb dL_law_443 hl (by decide) rfl (fun ls hl => ?_)
    refine lv_aload_n hx hb dL_law_445 rfl (lv_at hl 4 rfl) ?_
    refine sg_mi (va_runV (As := []) (rest := []) ⟨hx, hb, hml, hown, hts⟩ (c_X6_thrown l D cA am N v1 (v1 0 0) rfl _) (cwV 0 hts gL_law_X6_thrown rfl rfl rfl (by decide +kernel) ⟨Nat.le_of_ble_eq_true rfl, Nat.le_of_ble_eq_true rfl⟩) (sg_pre (Wf := sg_WM cA am) hK (hP.sub [19, 20, 21, 22, 23, 24, 25, 26, 27, 28, 29, 30, 31, 32, 33, 34, 35, 36, 37, 38] rfl) (hD.sub [19, 20, 21, 22, 23, 24, 25, 26, 27, 28, 29, 30, 31, 32, 33, 34, 35, 36, 37, 38] (by decide) rfl) (ci := 8) (q0 := 0) rfl rfl) rfl rfl hl.1 rfl (lv_room (Nat.le_of_ble_eq_true rfl)) dL_law_446 ⟨by show cells + 4 + 0 ≤ 649553; omega, by show slots + 24 + 0 ≤ 7063476; omega⟩) hP hD hS hA (fun H locs hP hD hS => ?_)
    refine lv_iload hx hb dL_law_449 (lv_at hl 1 rfl) ?_
    refine lv_icmp_eq (tgt := 456) hx hb dL_law_451 (by decide) (fun _ => ?_) (fun hz3 => absurd hth hz3)
    refine lv_iload hx hb dL_law_456 (lv_at hl 1 rfl) ?_
    refine lv_if_ne (tgt := 473) hx hb dL_law_458 (by decide) (fun hr0 => ?_) (fun hr0 => ?_)
    · refine lv_goto (tgt := 2656) hx hb dL_law_473 (by decide) ?_
      refine W.widen (k := cells + 10) (n := slots + 60) (by omega) (by omega) ?_
      exact kk _ _ _ _ _ _ _ hI1 hP hD hS (lv_sub hl [2, 3, 4, 5, 6, 7] rfl)
    · obtain ⟨ho, hRr⟩ := hout hr0
      subst ho
      refine lv_aload_n hx hb dL_law_461 rfl (lv_at hl 5 rfl) ?_
      refine lv_iconst (v := 0) hx hb dL_law_462 (by decide) ?_
      refine va_lald hx hb hK.1 hP 0 2 rfl rfl (sg_inb_s (i := 0) (n := 1) (by decide)) dL_law_463 ?_
      refine lv_iload hx hb dL_law_464 (lv_at hl 0 rfl) ?_
      refine lv_i2l (v := r1.toInt64) hx hb dL_law_466 rfl ?_
      refine W.lcmp hx hb dL_law_467 ?_
      refine lv_if_eq (tgt := 473) hx hb dL_law_468 (by decide) (fun _ => ?_) (fun hz4 => absurd (by first | exact sg_cmp64 | exact sg_cmpB0 hb1 | exact sg_cmpB1 hb1) hz4)
      refine lv_goto (tgt := 2656) hx hb dL_law_473 (by decide) ?_
      refine W.widen (k := cells + 10) (n := slots + 60) (by omega) (by omega) ?_
      exact kk _ _ _ _ _ _ _ hI1 hP hD hS (lv_sub hl [2, 3, 4, 5, 6, 7] rfl)
  · rw [sg_nb, if_neg hz] at hf1 hf2
    refine lv_iconst (v := 1) hx hb dL_law_396 (by decide) ?_
    refine lv_goto (tgt := 401) hx hb dL_law_397 (by decide) ?_
    refine lv_aload_n hx hb dL_law_401 rfl (lv_at hl 3 rfl) ?_
    refine sg_hw (vx_runSW (As := [.ref (ax 0), .int (xs (x5 + 1).toNatClampNeg), .int (xs (x5 + 2).toNatClampNeg), .int (xs (x5 + 3).toNatClampNeg), .int 1, .ref qo]) (rest := []) ⟨hx, hb, hml, hown, hts⟩ (c_L_addLine l hlt D cA ax qo o N u _ _ _ _ R hf1 hR9 _) (vx_cwSW (hh := [(0, 14, 17, 25), (0, 14, 21, 13), (0, 14, 25, 15)]) 6 hts gL_law_L_addLine rfl rfl rfl (by decide +kernel) ⟨Nat.le_of_ble_eq_true rfl, Nat.le_of_ble_eq_true rfl⟩) (sg_preL (w0 := sg_WL cA ax qo u o) hK (hP.sub [0, 2, 3, 4, 5, 6, 7, 8, 9, 10, 11, 12, 13, 14, 15, 16, 17, 18] rfl) (hD.sub [0, 2, 3, 4, 5, 6, 7, 8, 9, 10, 11, 12, 13, 14, 15, 16, 17, 18] (by decide) rfl) hT hN hS hA) rfl rfl hl.1 rfl (lv_room (Nat.le_of_ble_eq_true rfl)) dL_law_402 ⟨by show cells + 4 ≤ 649553; omega, by show slots + 24 ≤ 7063476; omega⟩) hP hD hS hA (fun r u1 o1 H locs hlp hP hD hS => ?_)
    obtain ⟨hth, hI1, hout⟩ := sg_agree (by decide) hRel hlp
    refine lv_istore (lv' := [(6, .int r), (0, .ref b), (1, .ref (ax 0)), (2, .ref (am 0)), (3, .ref qo), (4, .ref qe), (5, .int x5)]) hx hb dL_law_405 hl (by decide) rfl (fun ls hl => ?_)
    refine lv_aload_n hx hb dL_law_407 rfl (lv_at hl 3 rfl) ?_
    refine lv_aload_n hx hb dL_law_408 rfl (lv_at hl 1 rfl) ?_
    refine lv_iload hx hb dL_law_409 (lv_at hl 6 rfl) ?_
    refine lv_iconst (v := 1) hx hb dL_law_411 (by decide) ?_
    refine lv_iadd hx hb dL_law_412 ?_
    refine va_sld hx hb hX hbl hbA hS hv1 dL_law_413 ?_
    refine lv_aload_n hx hb dL_law_414 rfl (lv_at hl 1 rfl) ?_
    refine lv_iload hx hb dL_law_415 (lv_at hl 6 rfl) ?_
    refine lv_iconst (v := 2) hx hb dL_law_417 (by decide) ?_
    refine lv_iadd hx hb dL_law_418 ?_
    refine va_sld hx hb hX hbl hbA hS hv2 dL_law_419 ?_
    refine lv_aload_n hx hb dL_law_420 rfl (lv_at hl 1 rfl) ?_
    refine lv_iload hx hb dL_law_421 (lv_at hl 6 rfl) ?_
    refine lv_iconst (v := 3) hx hb dL_law_423 (by decide) ?_
    refine lv_iadd hx hb dL_law_424 ?_
    refine va_sld hx hb hX hbl hbA hS hv3 dL_law_425 ?_
    refine lv_aload_n hx hb dL_law_426 rfl (lv_at hl 1 rfl) ?_
    refine lv_iload hx hb dL_law_427 (lv_at hl 6 rfl) ?_
    refine lv_iconst (v := 4) hx hb dL_law_429 (by decide) ?_
    refine lv_iadd hx hb dL_law_430 ?_
    refine va_sld hx hb hX hbl hbA hS hv4 dL_law_431 ?_
    refine lv_if_eq (tgt := 439) hx hb dL_law_432 (by decide) (fun hz2 => absurd hz2 hz) (fun _ => ?_)
    refine lv_iconst (v := 1) hx hb dL_law_435 (by decide) ?_
    refine lv_goto (tgt := 440) hx hb dL_law_436 (by decide) ?_
    refine sg_mi (va_runV (As := [.int (xs (x5 + 1).toNatClampNeg), .int (xs (x5 + 2).toNatClampNeg), .int (xs (x5 + 3).toNatClampNeg), .int 1]) (rest := []) ⟨hx, hb, hml, hown, hts⟩ (c_X6_addLine l D cA am N _ _ _ _ _ _ _ hf2 _) (cwV 4 hts gL_law_X6_addLine rfl rfl rfl (by decide +kernel) ⟨Nat.le_of_ble_eq_true rfl, Nat.le_of_ble_eq_true rfl⟩) (sg_pre (Wf := sg_WM cA am) hK (hP.sub [19, 20, 21, 22, 23, 24, 25, 26, 27, 28, 29, 30, 31, 32, 33, 34, 35, 36, 37, 38] rfl) (hD.sub [19, 20, 21, 22, 23, 24, 25, 26, 27, 28, 29, 30, 31, 32, 33, 34, 35, 36, 37, 38] (by decide) rfl) (ci := 8) (q0 := 0) rfl rfl) rfl rfl hl.1 rfl (lv_room (Nat.le_of_ble_eq_true rfl)) dL_law_440 ⟨by show cells + 4 + 0 ≤ 649553; omega, by show slots + 24 + 0 ≤ 7063476; omega⟩) hP hD hS hA (fun H locs hP hD hS => ?_)
    refine lv_istore (lv' := [(7, .int r1), (6, .int r), (0, .ref b), (1, .ref (ax 0)), (2, .ref (am 0)), (3, .ref qo), (4, .ref qe), (5, .int x5)]) hx hb dL_law_443 hl (by decide) rfl (fun ls hl => ?_)
    refine lv_aload_n hx hb dL_law_445 rfl (lv_at hl 4 rfl) ?_
    refine sg_mi (va_runV (As := []) (rest := []) ⟨hx, hb, hml, hown, hts⟩ (c_X6_thrown l D cA am N v1 (v1 0 0) rfl _) (cwV 0 hts gL_law_X6_thrown rfl rfl rfl (by decide +kernel) ⟨Nat.le_of_ble_eq_true rfl, Nat.le_of_ble_eq_true rfl⟩) (sg_pre (Wf := sg_WM cA am) hK (hP.sub [19, 20, 21, 22, 23, 24, 25, 26, 27, 28, 29, 30, 31, 32, 33, 34, 35, 36, 37, 38] rfl) (hD.sub [19, 20, 21, 22, 23, 24, 25, 26, 27, 28, 29, 30, 31, 32, 33, 34, 35, 36, 37, 38] (by decide) rfl) (ci := 8) (q0 := 0) rfl rfl) rfl rfl hl.1 rfl (lv_room (Nat.le_of_ble_eq_true rfl)) dL_law_446 ⟨by show cells + 4 + 0 ≤ 649553; omega, by show slots + 24 + 0 ≤ 7063476; omega⟩) hP hD hS hA (fun H locs hP hD hS => ?_)
    refine lv_iload hx hb dL_law_449 (lv_at hl 1 rfl) ?_
    refine lv_icmp_eq (tgt := 456) hx hb dL_law_451 (by decide) (fun _ => ?_) (fun hz3 => absurd hth hz3)
    refine lv_iload hx hb dL_law_456 (lv_at hl 1 rfl) ?_
    refine lv_if_ne (tgt := 473) hx hb dL_law_458 (by decide) (fun hr0 => ?_) (fun hr0 => ?_)
    · refine lv_goto (tgt := 2656) hx hb dL_law_473 (by decide) ?_
      refine W.widen (k := cells + 10) (n := slots + 60) (by omega) (by omega) ?_
      exact kk _ _ _ _ _ _ _ hI1 hP hD hS (lv_sub hl [2, 3, 4, 5, 6, 7] rfl)
    · obtain ⟨ho, hRr⟩ := hout hr0
      subst ho
      refine lv_aload_n hx hb dL_law_461 rfl (lv_at hl 5 rfl) ?_
      refine lv_iconst (v := 0) hx hb dL_law_462 (by decide) ?_
      refine va_lald hx hb hK.1 hP 0 2 rfl rfl (sg_inb_s (i := 0) (n := 1) (by decide)) dL_law_463 ?_
      refine lv_iload hx hb dL_law_464 (lv_at hl 0 rfl) ?_
      refine lv_i2l (v := r1.toInt64) hx hb dL_law_466 rfl ?_
      refine W.lcmp hx hb dL_law_467 ?_
      refine lv_if_eq (tgt := 473) hx hb dL_law_468 (by decide) (fun _ => ?_) (fun hz4 => absurd (by first | exact sg_cmp64 | exact sg_cmpB0 hb1 | exact sg_cmpB1 hb1) hz4)
      refine lv_goto (tgt := 2656) hx hb dL_law_473 (by decide) ?_
      refine W.widen (k := cells + 10) (n := slots + 60) (by omega) (by omega) ?_
      exact kk _ _ _ _ _ _ _ hI1 hP hD hS (lv_sub hl [2, 3, 4, 5, 6, 7] rfl)
set_option maxRecDepth 100000 in
set_option maxHeartbeats 4000000 in
theorem lw_case3 {p : Program} {l : Launch} {e : Env} {s : State} {m : MethodId} {below : List Frame} {meth : Method} {c : Code} {b L : Nat} {xs : Nat → Int32} {D : va_G} {cA : Nat → ClassId} {ax am : Nat → Nat} {qo qe N : Nat} {I : sg_St → sg_St → Prop} {Q : State → Prop} {cells slots : Nat} {H : Heap} {locs : List Loc} {ls : Array Slot} {x5 : Int32} {u v : sg_St} {o : Nat → Int64} {od : Nat → UInt64} (hlt : l.stackTraces = false) (C0 : sg_LA p s m meth c b L xs D cA) (hB : ∃ (R : (Nat ⊕ Int32) × sg_St) (r1 : Int32) (v1 : sg_St), fX5_setLoad N u (xs (x5 + 1).toNatClampNeg) (xs (x5 + 2).toNatClampNeg) = some R ∧ fX6_setLoad N v (xs (x5 + 1).toNatClampNeg) (xs (x5 + 2).toNatClampNeg) = some (r1, v1) ∧ sg_Rel I [5, 1, 4, 0] R r1 v1) (hv1 : vp_in (x5 + 1) L) (hv2 : vp_in (x5 + 2) L) (hP : va_P D vwCl (sg_WW cA ax am qo qe u v o od) H) (hD : va_D (fun q : Nat => s.heap.size ≤ q) (sg_WW cA ax am qo qe u v o od)) (hS : va_S (fun q : Nat => s.heap.size ≤ q) s.heap H locs) (hl : lv_has ls 9 [(0, .ref b), (1, .ref (ax 0)), (2, .ref (am 0)), (3, .ref qo), (4, .ref qe), (5, .int x5)]) (hcs : cells + 10 ≤ 649553 ∧ slots + 60 ≤ 7063476) (kk : ∀ (u' v' : sg_St) (o' : Nat → Int64) (od' : Nat → UInt64) (H : Heap) (locs : List Loc) (ls : Array Slot), I u' v' → va_P D vwCl (sg_WW cA ax am qo qe u' v' o' od') H → va_D (fun q : Nat => s.heap.size ≤ q) (sg_WW cA ax am qo qe u' v' o' od') → va_S (fun q : Nat => s.heap.size ≤ q) s.heap H locs → lv_has ls 9 [(0, .ref b), (1, .ref (ax 0)), (2, .ref (am 0)), (3, .ref qo), (4, .ref qe), (5, .int x5)] → W p l e room_1 s m #[Value.ref b] below meth c H locs (cells + 10) (slots + 60) Q (F0 m 2656 ls [])) : W p l e room_1 s m #[Value.ref b] below meth c H locs cells slots Q (F0 m 476 ls []) := by
  obtain ⟨hx, hb, hr, hml, hown, hts, hX, hbl, hK, hT, hN, hlocks⟩ := C0
  have hA : ∀ q : Nat, s.heap.size ≤ q → (fun q : Nat => s.heap.size ≤ q) q := fun _ h => h
  have hbA : ¬ (fun q : Nat => s.heap.size ≤ q) b := Nat.not_le.mpr hbl
  obtain ⟨R, r1, v1, hf1, hf2, hRel⟩ := hB
  have hR9 : ∀ k t, R = (.inl k, t) → k ∈ [5, 1, 4, 0] := fun k t e9 => sg_Rel_in hRel e9
  refine lv_aload_n hx hb dL_law_476 rfl (lv_at hl 1 rfl) ?_
  refine lv_aload_n hx hb dL_law_477 rfl (lv_at hl 0 rfl) ?_
  refine lv_iload hx hb dL_law_478 (lv_at hl 5 rfl) ?_
  refine lv_iconst (v := 1) hx hb dL_law_480 (by decide) ?_
  refine lv_iadd hx hb dL_law_481 ?_
  refine va_sld hx hb hX hbl hbA hS hv1 dL_law_482 ?_
  refine lv_aload_n hx hb dL_law_483 rfl (lv_at hl 0 rfl) ?_
  refine lv_iload hx hb dL_law_484 (lv_at hl 5 rfl) ?_
  refine lv_iconst (v := 2) hx hb dL_law_486 (by decide) ?_
  refine lv_iadd hx hb dL_law_487 ?_
  refine va_sld hx hb hX hbl hbA hS hv2 dL_law_488 ?_
  refine lv_aload_n hx hb dL_law_489 rfl (lv_at hl 3 rfl) ?_
  refine sg_hw (vx_runSW (As := [.ref (ax 0), .int (xs (x5 + 1).toNatClampNeg), .int (xs (x5 + 2).toNatClampNeg), .ref qo]) (rest := []) ⟨hx, hb, hml, hown, hts⟩ (c_L_setLoad l hlt D cA ax qo o N u _ _ R hf1 hR9 _) (vx_cwSW (hh := [(0, 10, 13, 25), (0, 10, 17, 13), (0, 10, 21, 30), (0, 10, 25, 15)]) 4 hts gL_law_L_setLoad rfl rfl rfl (by decide +kernel) ⟨Nat.le_of_ble_eq_true rfl, Nat.le_of_ble_eq_true rfl⟩) (sg_preL (w0 := sg_WL cA ax qo u o) hK (hP.sub [0, 2, 3, 4, 5, 6, 7, 8, 9, 10, 11, 12, 13, 14, 15, 16, 17, 18] rfl) (hD.sub [0, 2, 3, 4, 5, 6, 7, 8, 9, 10, 11, 12, 13, 14, 15, 16, 17, 18] (by decide) rfl) hT hN hS hA) rfl rfl hl.1 rfl (lv_room (Nat.le_of_ble_eq_true rfl)) dL_law_490 ⟨by show cells + 4 ≤ 649553; omega, by show slots + 24 ≤ 7063476; omega⟩) hP hD hS hA (fun r u1 o1 H locs hlp hP hD hS => ?_)
  obtain ⟨hth, hI1, hout⟩ := sg_agree (by decide) hRel hlp
  refine lv_istore (lv' := [(6, .int r), (0, .ref b), (1, .ref (ax 0)), (2, .ref (am 0)), (3, .ref qo), (4, .ref qe), (5, .int x5)]) hx hb dL_law_493 hl (by decide) rfl (fun ls hl => ?_)
  refine lv_aload_n hx hb dL_law_495 rfl (lv_at hl 3 rfl) ?_
  refine lv_aload_n hx hb dL_law_496 rfl (lv_at hl 1 rfl) ?_
  refine lv_iload hx hb dL_law_497 (lv_at hl 6 rfl) ?_
  refine lv_iconst (v := 1) hx hb dL_law_499 (by decide) ?_
  refine lv_iadd hx hb dL_law_500 ?_
  refine va_sld hx hb hX hbl hbA hS hv1 dL_law_501 ?_
  refine lv_aload_n hx hb dL_law_502 rfl (lv_at hl 1 rfl) ?_
  refine lv_iload hx hb dL_law_503 (lv_at hl 6 rfl) ?_
  refine lv_iconst (v := 2) hx hb dL_law_505 (by decide) ?_
  refine lv_iadd hx hb dL_law_506 ?_
  refine va_sld hx hb hX hbl hbA hS hv2 dL_law_507 ?_
  refine sg_mi (va_runV (As := [.int (xs (x5 + 1).toNatClampNeg), .int (xs (x5 + 2).toNatClampNeg)]) (rest := []) ⟨hx, hb, hml, hown, hts⟩ (c_X6_setLoad l D cA am N _ _ _ _ _ hf2 _) (cwV 2 hts gL_law_X6_setLoad rfl rfl rfl (by decide +kernel) ⟨Nat.le_of_ble_eq_true rfl, Nat.le_of_ble_eq_true rfl⟩) (sg_pre (Wf := sg_WM cA am) hK (hP.sub [19, 20, 21, 22, 23, 24, 25, 26, 27, 28, 29, 30, 31, 32, 33, 34, 35, 36, 37, 38] rfl) (hD.sub [19, 20, 21, 22, 23, 24, 25, 26, 27, 28, 29, 30, 31, 32, 33, 34, 35, 36, 37, 38] (by decide) rfl) (ci := 8) (q0 := 0) rfl rfl) rfl rfl hl.1 rfl (lv_room (Nat.le_of_ble_eq_true rfl)) dL_law_508 ⟨by show cells + 4 + 0 ≤ 649553; omega, by show slots + 24 + 0 ≤ 7063476; omega⟩) hP hD hS hA (fun H locs hP hD hS => ?_)
  refine lv_istore (lv' := [(7, .int r1), (6, .int r), (0, .ref b), (1, .ref (ax 0)), (2, .ref (am 0)), (3, .ref qo), (4, .ref qe), (5, .int x5)]) hx hb dL_law_511 hl (by decide) rfl (fun ls hl => ?_)
  refine lv_aload_n hx hb dL_law_513 rfl (lv_at hl 4 rfl) ?_
  refine sg_mi (va_runV (As := []) (rest := []) ⟨hx, hb, hml, hown, hts⟩ (c_X6_thrown l D cA am N v1 (v1 0 0) rfl _) (cwV 0 hts gL_law_X6_thrown rfl rfl rfl (by decide +kernel) ⟨Nat.le_of_ble_eq_true rfl, Nat.le_of_ble_eq_true rfl⟩) (sg_pre (Wf := sg_WM cA am) hK (hP.sub [19, 20, 21, 22, 23, 24, 25, 26, 27, 28, 29, 30, 31, 32, 33, 34, 35, 36, 37, 38] rfl) (hD.sub [19, 20, 21, 22, 23, 24, 25, 26, 27, 28, 29, 30, 31, 32, 33, 34, 35, 36, 37, 38] (by decide) rfl) (ci := 8) (q0 := 0) rfl rfl) rfl rfl hl.1 rfl (lv_room (Nat.le_of_ble_eq_true rfl)) dL_law_514 ⟨by show cells + 4 + 0 ≤ 649553; omega, by show slots + 24 + 0 ≤ 7063476; omega⟩) hP hD hS hA (fun H locs hP hD hS => ?_)
  refine lv_iload hx hb dL_law_517 (lv_at hl 1 rfl) ?_
  refine lv_icmp_eq (tgt := 524) hx hb dL_law_519 (by decide) (fun _ => ?_) (fun hz3 => absurd hth hz3)
  refine lv_iload hx hb dL_law_524 (lv_at hl 1 rfl) ?_
  refine lv_if_ne (tgt := 541) hx hb dL_law_526 (by decide) (fun hr0 => ?_) (fun hr0 => ?_)
  · refine lv_goto (tgt := 2656) hx hb dL_law_541 (by decide) ?_
    refine W.widen (k := cells + 10) (n := slots + 60) (by omega) (by omega) ?_
    exact kk _ _ _ _ _ _ _ hI1 hP hD hS (lv_sub hl [2, 3, 4, 5, 6, 7] rfl)
  · obtain ⟨ho, hRr⟩ := hout hr0
    subst ho
    refine lv_aload_n hx hb dL_law_529 rfl (lv_at hl 5 rfl) ?_
    refine lv_iconst (v := 0) hx hb dL_law_530 (by decide) ?_
    refine va_lald hx hb hK.1 hP 0 2 rfl rfl (sg_inb_s (i := 0) (n := 1) (by decide)) dL_law_531 ?_
    refine lv_iload hx hb dL_law_532 (lv_at hl 0 rfl) ?_
    refine lv_i2l (v := r1.toInt64) hx hb dL_law_534 rfl ?_
    refine W.lcmp hx hb dL_law_535 ?_
    refine lv_if_eq (tgt := 541) hx hb dL_law_536 (by decide) (fun _ => ?_) (fun hz4 => absurd (by first | exact sg_cmp64 | exact sg_cmpB0 hb1 | exact sg_cmpB1 hb1) hz4)
    refine lv_goto (tgt := 2656) hx hb dL_law_541 (by decide) ?_
    refine W.widen (k := cells + 10) (n := slots + 60) (by omega) (by omega) ?_
    exact kk _ _ _ _ _ _ _ hI1 hP hD hS (lv_sub hl [2, 3, 4, 5, 6, 7] rfl)
set_option maxRecDepth 100000 in
set_option maxHeartbeats 4000000 in
theorem lw_case4 {p : Program} {l : Launch} {e : Env} {s : State} {m : MethodId} {below : List Frame} {meth : Method} {c : Code} {b L : Nat} {xs : Nat → Int32} {D : va_G} {cA : Nat → ClassId} {ax am : Nat → Nat} {qo qe N : Nat} {I : sg_St → sg_St → Prop} {Q : State → Prop} {cells slots : Nat} {H : Heap} {locs : List Loc} {ls : Array Slot} {x5 : Int32} {u v : sg_St} {o : Nat → Int64} {od : Nat → UInt64} (hlt : l.stackTraces = false) (C0 : sg_LA p s m meth c b L xs D cA) (hB : ∃ (R : (Nat ⊕ Int32) × sg_St) (r1 : Int32) (v1 : sg_St), fX5_setRelay N u (xs (x5 + 1).toNatClampNeg) (xs (x5 + 2).toNatClampNeg) (xs (x5 + 3).toNatClampNeg) (xs (x5 + 4).toNatClampNeg) = some R ∧ fX6_setRelay N v (xs (x5 + 1).toNatClampNeg) (xs (x5 + 2).toNatClampNeg) (xs (x5 + 3).toNatClampNeg) (xs (x5 + 4).toNatClampNeg) = some (r1, v1) ∧ sg_Rel I [5, 1, 4] R r1 v1) (hv1 : vp_in (x5 + 1) L) (hv2 : vp_in (x5 + 2) L) (hv3 : vp_in (x5 + 3) L) (hv4 : vp_in (x5 + 4) L) (hP : va_P D vwCl (sg_WW cA ax am qo qe u v o od) H) (hD : va_D (fun q : Nat => s.heap.size ≤ q) (sg_WW cA ax am qo qe u v o od)) (hS : va_S (fun q : Nat => s.heap.size ≤ q) s.heap H locs) (hl : lv_has ls 9 [(0, .ref b), (1, .ref (ax 0)), (2, .ref (am 0)), (3, .ref qo), (4, .ref qe), (5, .int x5)]) (hcs : cells + 10 ≤ 649553 ∧ slots + 60 ≤ 7063476) (kk : ∀ (u' v' : sg_St) (o' : Nat → Int64) (od' : Nat → UInt64) (H : Heap) (locs : List Loc) (ls : Array Slot), I u' v' → va_P D vwCl (sg_WW cA ax am qo qe u' v' o' od') H → va_D (fun q : Nat => s.heap.size ≤ q) (sg_WW cA ax am qo qe u' v' o' od') → va_S (fun q : Nat => s.heap.size ≤ q) s.heap H locs → lv_has ls 9 [(0, .ref b), (1, .ref (ax 0)), (2, .ref (am 0)), (3, .ref qo), (4, .ref qe), (5, .int x5)] → W p l e room_1 s m #[Value.ref b] below meth c H locs (cells + 10) (slots + 60) Q (F0 m 2656 ls [])) : W p l e room_1 s m #[Value.ref b] below meth c H locs cells slots Q (F0 m 544 ls []) := by
  obtain ⟨hx, hb, hr, hml, hown, hts, hX, hbl, hK, hT, hN, hlocks⟩ := C0
  have hA : ∀ q : Nat, s.heap.size ≤ q → (fun q : Nat => s.heap.size ≤ q) q := fun _ h => h
  have hbA : ¬ (fun q : Nat => s.heap.size ≤ q) b := Nat.not_le.mpr hbl
  obtain ⟨R, r1, v1, hf1, hf2, hRel⟩ := hB
  have hR9 : ∀ k t, R = (.inl k, t) → k ∈ [5, 1, 4] := fun k t e9 => sg_Rel_in hRel e9
  refine lv_aload_n hx hb dL_law_544 rfl (lv_at hl 1 rfl) ?_
  refine lv_aload_n hx hb dL_law_545 rfl (lv_at hl 0 rfl) ?_
  refine lv_iload hx hb dL_law_546 (lv_at hl 5 rfl) ?_
  refine lv_iconst (v := 1) hx hb dL_law_548 (by decide) ?_
  refine lv_iadd hx hb dL_law_549 ?_
  refine va_sld hx hb hX hbl hbA hS hv1 dL_law_550 ?_
  refine lv_aload_n hx hb dL_law_551 rfl (lv_at hl 0 rfl) ?_
  refine lv_iload hx hb dL_law_552 (lv_at hl 5 rfl) ?_
  refine lv_iconst (v := 2) hx hb dL_law_554 (by decide) ?_
  refine lv_iadd hx hb dL_law_555 ?_
  refine va_sld hx hb hX hbl hbA hS hv2 dL_law_556 ?_
  refine lv_aload_n hx hb dL_law_557 rfl (lv_at hl 0 rfl) ?_
  refine lv_iload hx hb dL_law_558 (lv_at hl 5 rfl) ?_
  refine lv_iconst (v := 3) hx hb dL_law_560 (by decide) ?_
  refine lv_iadd hx hb dL_law_561 ?_
  refine va_sld hx hb hX hbl hbA hS hv3 dL_law_562 ?_
  refine lv_aload_n hx hb dL_law_563 rfl (lv_at hl 0 rfl) ?_
  refine lv_iload hx hb dL_law_564 (lv_at hl 5 rfl) ?_
  refine lv_iconst (v := 4) hx hb dL_law_566 (by decide) ?_
  refine lv_iadd hx hb dL_law_567 ?_
  refine va_sld hx hb hX hbl hbA hS hv4 dL_law_568 ?_
  refine lv_aload_n hx hb dL_law_569 rfl (lv_at hl 3 rfl) ?_
  refine sg_hw (vx_runSW (As := [.ref (ax 0), .int (xs (x5 + 1).toNatClampNeg), .int (xs (x5 + 2).toNatClampNeg), .int (xs (x5 + 3).toNatClampNeg), .int (xs (x5 + 4).toNatClampNeg), .ref qo]) (rest := []) ⟨hx, hb, hml, hown, hts⟩ (c_L_setRelay l hlt D cA ax qo o N u _ _ _ _ R hf1 hR9 _) (vx_cwSW (hh := [(0, 14, 17, 25), (0, 14, 21, 13), (0, 14, 25, 30)]) 6 hts gL_law_L_setRelay rfl rfl rfl (by decide +kernel) ⟨Nat.le_of_ble_eq_true rfl, Nat.le_of_ble_eq_true rfl⟩) (sg_preL (w0 := sg_WL cA ax qo u o) hK (hP.sub [0, 2, 3, 4, 5, 6, 7, 8, 9, 10, 11, 12, 13, 14, 15, 16, 17, 18] rfl) (hD.sub [0, 2, 3, 4, 5, 6, 7, 8, 9, 10, 11, 12, 13, 14, 15, 16, 17, 18] (by decide) rfl) hT hN hS hA) rfl rfl hl.1 rfl (lv_room (Nat.le_of_ble_eq_true rfl)) dL_law_570 ⟨by show cells + 3 ≤ 649553; omega, by show slots + 18 ≤ 7063476; omega⟩) hP hD hS hA (fun r u1 o1 H locs hlp hP hD hS => ?_)
  obtain ⟨hth, hI1, hout⟩ := sg_agree (by decide) hRel hlp
  refine lv_istore (lv' := [(6, .int r), (0, .ref b), (1, .ref (ax 0)), (2, .ref (am 0)), (3, .ref qo), (4, .ref qe), (5, .int x5)]) hx hb dL_law_573 hl (by decide) rfl (fun ls hl => ?_)
  refine lv_aload_n hx hb dL_law_575 rfl (lv_at hl 3 rfl) ?_
  refine lv_aload_n hx hb dL_law_576 rfl (lv_at hl 1 rfl) ?_
  refine lv_iload hx hb dL_law_577 (lv_at hl 6 rfl) ?_
  refine lv_iconst (v := 1) hx hb dL_law_579 (by decide) ?_
  refine lv_iadd hx hb dL_law_580 ?_
  refine va_sld hx hb hX hbl hbA hS hv1 dL_law_581 ?_
  refine lv_aload_n hx hb dL_law_582 rfl (lv_at hl 1 rfl) ?_
  refine lv_iload hx hb dL_law_583 (lv_at hl 6 rfl) ?_
  refine lv_iconst (v := 2) hx hb dL_law_585 (by decide) ?_
  refine lv_iadd hx hb dL_law_586 ?_
  refine va_sld hx hb hX hbl hbA hS hv2 dL_law_587 ?_
  refine lv_aload_n hx hb dL_law_588 rfl (lv_at hl 1 rfl) ?_
  refine lv_iload hx hb dL_law_589 (lv_at hl 6 rfl) ?_
  refine lv_iconst (v := 3) hx hb dL_law_591 (by decide) ?_
  refine lv_iadd hx hb dL_law_592 ?_
  refine va_sld hx hb hX hbl hbA hS hv3 dL_law_593 ?_
  refine lv_aload_n hx hb dL_law_594 rfl (lv_at hl 1 rfl) ?_
  refine lv_iload hx hb dL_law_595 (lv_at hl 6 rfl) ?_
  refine lv_iconst (v := 4) hx hb dL_law_597 (by decide) ?_
  refine lv_iadd hx hb dL_law_598 ?_
  refine va_sld hx hb hX hbl hbA hS hv4 dL_law_599 ?_
  refine sg_mi (va_runV (As := [.int (xs (x5 + 1).toNatClampNeg), .int (xs (x5 + 2).toNatClampNeg), .int (xs (x5 + 3).toNatClampNeg), .int (xs (x5 + 4).toNatClampNeg)]) (rest := []) ⟨hx, hb, hml, hown, hts⟩ (c_X6_setRelay l D cA am N _ _ _ _ _ _ _ hf2 _) (cwV 4 hts gL_law_X6_setRelay rfl rfl rfl (by decide +kernel) ⟨Nat.le_of_ble_eq_true rfl, Nat.le_of_ble_eq_true rfl⟩) (sg_pre (Wf := sg_WM cA am) hK (hP.sub [19, 20, 21, 22, 23, 24, 25, 26, 27, 28, 29, 30, 31, 32, 33, 34, 35, 36, 37, 38] rfl) (hD.sub [19, 20, 21, 22, 23, 24, 25, 26, 27, 28, 29, 30, 31, 32, 33, 34, 35, 36, 37, 38] (by decide) rfl) (ci := 8) (q0 := 0) rfl rfl) rfl rfl hl.1 rfl (lv_room (Nat.le_of_ble_eq_true rfl)) dL_law_600 ⟨by show cells + 3 + 0 ≤ 649553; omega, by show slots + 18 + 0 ≤ 7063476; omega⟩) hP hD hS hA (fun H locs hP hD hS => ?_)
  refine lv_istore (lv' := [(7, .int r1), (6, .int r), (0, .ref b), (1, .ref (ax 0)), (2, .ref (am 0)), (3, .ref qo), (4, .ref qe), (5, .int x5)]) hx hb dL_law_603 hl (by decide) rfl (fun ls hl => ?_)
  refine lv_aload_n hx hb dL_law_605 rfl (lv_at hl 4 rfl) ?_
  refine sg_mi (va_runV (As := []) (rest := []) ⟨hx, hb, hml, hown, hts⟩ (c_X6_thrown l D cA am N v1 (v1 0 0) rfl _) (cwV 0 hts gL_law_X6_thrown rfl rfl rfl (by decide +kernel) ⟨Nat.le_of_ble_eq_true rfl, Nat.le_of_ble_eq_true rfl⟩) (sg_pre (Wf := sg_WM cA am) hK (hP.sub [19, 20, 21, 22, 23, 24, 25, 26, 27, 28, 29, 30, 31, 32, 33, 34, 35, 36, 37, 38] rfl) (hD.sub [19, 20, 21, 22, 23, 24, 25, 26, 27, 28, 29, 30, 31, 32, 33, 34, 35, 36, 37, 38] (by decide) rfl) (ci := 8) (q0 := 0) rfl rfl) rfl rfl hl.1 rfl (lv_room (Nat.le_of_ble_eq_true rfl)) dL_law_606 ⟨by show cells + 3 + 0 ≤ 649553; omega, by show slots + 18 + 0 ≤ 7063476; omega⟩) hP hD hS hA (fun H locs hP hD hS => ?_)
  refine lv_iload hx hb dL_law_609 (lv_at hl 1 rfl) ?_
  refine lv_icmp_eq (tgt := 616) hx hb dL_law_611 (by decide) (fun _ => ?_) (fun hz3 => absurd hth hz3)
  refine lv_iload hx hb dL_law_616 (lv_at hl 1 rfl) ?_
  refine lv_if_ne (tgt := 633) hx hb dL_law_618 (by decide) (fun hr0 => ?_) (fun hr0 => ?_)
  · refine lv_goto (tgt := 2656) hx hb dL_law_633 (by decide) ?_
    refine W.widen (k := cells + 10) (n := slots + 60) (by omega) (by omega) ?_
    exact kk _ _ _ _ _ _ _ hI1 hP hD hS (lv_sub hl [2, 3, 4, 5, 6, 7] rfl)
  · obtain ⟨ho, hRr⟩ := hout hr0
    subst ho
    refine lv_aload_n hx hb dL_law_621 rfl (lv_at hl 5 rfl) ?_
    refine lv_iconst (v := 0) hx hb dL_law_622 (by decide) ?_
    refine va_lald hx hb hK.1 hP 0 2 rfl rfl (sg_inb_s (i := 0) (n := 1) (by decide)) dL_law_623 ?_
    refine lv_iload hx hb dL_law_624 (lv_at hl 0 rfl) ?_
    refine lv_i2l (v := r1.toInt64) hx hb dL_law_626 rfl ?_
    refine W.lcmp hx hb dL_law_627 ?_
    refine lv_if_eq (tgt := 633) hx hb dL_law_628 (by decide) (fun _ => ?_) (fun hz4 => absurd (by first | exact sg_cmp64 | exact sg_cmpB0 hb1 | exact sg_cmpB1 hb1) hz4)
    refine lv_goto (tgt := 2656) hx hb dL_law_633 (by decide) ?_
    refine W.widen (k := cells + 10) (n := slots + 60) (by omega) (by omega) ?_
    exact kk _ _ _ _ _ _ _ hI1 hP hD hS (lv_sub hl [2, 3, 4, 5, 6, 7] rfl)
set_option maxRecDepth 100000 in
set_option maxHeartbeats 4000000 in
theorem lw_case5 {p : Program} {l : Launch} {e : Env} {s : State} {m : MethodId} {below : List Frame} {meth : Method} {c : Code} {b L : Nat} {xs : Nat → Int32} {D : va_G} {cA : Nat → ClassId} {ax am : Nat → Nat} {qo qe N : Nat} {I : sg_St → sg_St → Prop} {Q : State → Prop} {cells slots : Nat} {H : Heap} {locs : List Loc} {ls : Array Slot} {x5 : Int32} {u v : sg_St} {o : Nat → Int64} {od : Nat → UInt64} (hlt : l.stackTraces = false) (C0 : sg_LA p s m meth c b L xs D cA) (hB : ∃ (R : (Nat ⊕ Int32) × sg_St) (r1 : Int32) (v1 : sg_St), fX5_close N u (xs (x5 + 1).toNatClampNeg) = some R ∧ fX6_close N v (xs (x5 + 1).toNatClampNeg) = some (r1, v1) ∧ sg_Rel I [5] R r1 v1) (hv1 : vp_in (x5 + 1) L) (hP : va_P D vwCl (sg_WW cA ax am qo qe u v o od) H) (hD : va_D (fun q : Nat => s.heap.size ≤ q) (sg_WW cA ax am qo qe u v o od)) (hS : va_S (fun q : Nat => s.heap.size ≤ q) s.heap H locs) (hl : lv_has ls 9 [(0, .ref b), (1, .ref (ax 0)), (2, .ref (am 0)), (3, .ref qo), (4, .ref qe), (5, .int x5)]) (hcs : cells + 10 ≤ 649553 ∧ slots + 60 ≤ 7063476) (kk : ∀ (u' v' : sg_St) (o' : Nat → Int64) (od' : Nat → UInt64) (H : Heap) (locs : List Loc) (ls : Array Slot), I u' v' → va_P D vwCl (sg_WW cA ax am qo qe u' v' o' od') H → va_D (fun q : Nat => s.heap.size ≤ q) (sg_WW cA ax am qo qe u' v' o' od') → va_S (fun q : Nat => s.heap.size ≤ q) s.heap H locs → lv_has ls 9 [(0, .ref b), (1, .ref (ax 0)), (2, .ref (am 0)), (3, .ref qo), (4, .ref qe), (5, .int x5)] → W p l e room_1 s m #[Value.ref b] below meth c H locs (cells + 10) (slots + 60) Q (F0 m 2656 ls [])) : W p l e room_1 s m #[Value.ref b] below meth c H locs cells slots Q (F0 m 636 ls []) := by
  obtain ⟨hx, hb, hr, hml, hown, hts, hX, hbl, hK, hT, hN, hlocks⟩ := C0
  have hA : ∀ q : Nat, s.heap.size ≤ q → (fun q : Nat => s.heap.size ≤ q) q := fun _ h => h
  have hbA : ¬ (fun q : Nat => s.heap.size ≤ q) b := Nat.not_le.mpr hbl
  obtain ⟨R, r1, v1, hf1, hf2, hRel⟩ := hB
  have hR9 : ∀ k t, R = (.inl k, t) → k ∈ [5] := fun k t e9 => sg_Rel_in hRel e9
  refine lv_aload_n hx hb dL_law_636 rfl (lv_at hl 1 rfl) ?_
  refine lv_aload_n hx hb dL_law_637 rfl (lv_at hl 0 rfl) ?_
  refine lv_iload hx hb dL_law_638 (lv_at hl 5 rfl) ?_
  refine lv_iconst (v := 1) hx hb dL_law_640 (by decide) ?_
  refine lv_iadd hx hb dL_law_641 ?_
  refine va_sld hx hb hX hbl hbA hS hv1 dL_law_642 ?_
  refine lv_aload_n hx hb dL_law_643 rfl (lv_at hl 3 rfl) ?_
  refine sg_hw (vx_runSW (As := [.ref (ax 0), .int (xs (x5 + 1).toNatClampNeg), .ref qo]) (rest := []) ⟨hx, hb, hml, hown, hts⟩ (c_L_close l hlt D cA ax qo o N u _ R hf1 hR9 _) (vx_cwSW (hh := [(0, 9, 12, 25)]) 3 hts gL_law_L_close rfl rfl rfl (by decide +kernel) ⟨Nat.le_of_ble_eq_true rfl, Nat.le_of_ble_eq_true rfl⟩) (sg_preL (w0 := sg_WL cA ax qo u o) hK (hP.sub [0, 2, 3, 4, 5, 6, 7, 8, 9, 10, 11, 12, 13, 14, 15, 16, 17, 18] rfl) (hD.sub [0, 2, 3, 4, 5, 6, 7, 8, 9, 10, 11, 12, 13, 14, 15, 16, 17, 18] (by decide) rfl) hT hN hS hA) rfl rfl hl.1 rfl (lv_room (Nat.le_of_ble_eq_true rfl)) dL_law_644 ⟨by show cells + 1 ≤ 649553; omega, by show slots + 6 ≤ 7063476; omega⟩) hP hD hS hA (fun r u1 o1 H locs hlp hP hD hS => ?_)
  obtain ⟨hth, hI1, hout⟩ := sg_agree (by decide) hRel hlp
  refine lv_istore (lv' := [(6, .int r), (0, .ref b), (1, .ref (ax 0)), (2, .ref (am 0)), (3, .ref qo), (4, .ref qe), (5, .int x5)]) hx hb dL_law_647 hl (by decide) rfl (fun ls hl => ?_)
  refine lv_aload_n hx hb dL_law_649 rfl (lv_at hl 3 rfl) ?_
  refine lv_aload_n hx hb dL_law_650 rfl (lv_at hl 1 rfl) ?_
  refine lv_iload hx hb dL_law_651 (lv_at hl 6 rfl) ?_
  refine lv_iconst (v := 1) hx hb dL_law_653 (by decide) ?_
  refine lv_iadd hx hb dL_law_654 ?_
  refine va_sld hx hb hX hbl hbA hS hv1 dL_law_655 ?_
  refine sg_mi (va_runV (As := [.int (xs (x5 + 1).toNatClampNeg)]) (rest := []) ⟨hx, hb, hml, hown, hts⟩ (c_X6_close l D cA am N _ _ _ _ hf2 _) (cwV 1 hts gL_law_X6_close rfl rfl rfl (by decide +kernel) ⟨Nat.le_of_ble_eq_true rfl, Nat.le_of_ble_eq_true rfl⟩) (sg_pre (Wf := sg_WM cA am) hK (hP.sub [19, 20, 21, 22, 23, 24, 25, 26, 27, 28, 29, 30, 31, 32, 33, 34, 35, 36, 37, 38] rfl) (hD.sub [19, 20, 21, 22, 23, 24, 25, 26, 27, 28, 29, 30, 31, 32, 33, 34, 35, 36, 37, 38] (by decide) rfl) (ci := 8) (q0 := 0) rfl rfl) rfl rfl hl.1 rfl (lv_room (Nat.le_of_ble_eq_true rfl)) dL_law_656 ⟨by show cells + 1 + 0 ≤ 649553; omega, by show slots + 6 + 0 ≤ 7063476; omega⟩) hP hD hS hA (fun H locs hP hD hS => ?_)
  refine lv_istore (lv' := [(7, .int r1), (6, .int r), (0, .ref b), (1, .ref (ax 0)), (2, .ref (am 0)), (3, .ref qo), (4, .ref qe), (5, .int x5)]) hx hb dL_law_659 hl (by decide) rfl (fun ls hl => ?_)
  refine lv_aload_n hx hb dL_law_661 rfl (lv_at hl 4 rfl) ?_
  refine sg_mi (va_runV (As := []) (rest := []) ⟨hx, hb, hml, hown, hts⟩ (c_X6_thrown l D cA am N v1 (v1 0 0) rfl _) (cwV 0 hts gL_law_X6_thrown rfl rfl rfl (by decide +kernel) ⟨Nat.le_of_ble_eq_true rfl, Nat.le_of_ble_eq_true rfl⟩) (sg_pre (Wf := sg_WM cA am) hK (hP.sub [19, 20, 21, 22, 23, 24, 25, 26, 27, 28, 29, 30, 31, 32, 33, 34, 35, 36, 37, 38] rfl) (hD.sub [19, 20, 21, 22, 23, 24, 25, 26, 27, 28, 29, 30, 31, 32, 33, 34, 35, 36, 37, 38] (by decide) rfl) (ci := 8) (q0 := 0) rfl rfl) rfl rfl hl.1 rfl (lv_room (Nat.le_of_ble_eq_true rfl)) dL_law_662 ⟨by show cells + 1 + 0 ≤ 649553; omega, by show slots + 6 + 0 ≤ 7063476; omega⟩) hP hD hS hA (fun H locs hP hD hS => ?_)
  refine lv_iload hx hb dL_law_665 (lv_at hl 1 rfl) ?_
  refine lv_icmp_eq (tgt := 672) hx hb dL_law_667 (by decide) (fun _ => ?_) (fun hz3 => absurd hth hz3)
  refine lv_iload hx hb dL_law_672 (lv_at hl 1 rfl) ?_
  refine lv_if_ne (tgt := 689) hx hb dL_law_674 (by decide) (fun hr0 => ?_) (fun hr0 => ?_)
  · refine lv_goto (tgt := 2656) hx hb dL_law_689 (by decide) ?_
    refine W.widen (k := cells + 10) (n := slots + 60) (by omega) (by omega) ?_
    exact kk _ _ _ _ _ _ _ hI1 hP hD hS (lv_sub hl [2, 3, 4, 5, 6, 7] rfl)
  · obtain ⟨ho, hRr⟩ := hout hr0
    subst ho
    refine lv_aload_n hx hb dL_law_677 rfl (lv_at hl 5 rfl) ?_
    refine lv_iconst (v := 0) hx hb dL_law_678 (by decide) ?_
    refine va_lald hx hb hK.1 hP 0 2 rfl rfl (sg_inb_s (i := 0) (n := 1) (by decide)) dL_law_679 ?_
    refine lv_iload hx hb dL_law_680 (lv_at hl 0 rfl) ?_
    refine lv_i2l (v := r1.toInt64) hx hb dL_law_682 rfl ?_
    refine W.lcmp hx hb dL_law_683 ?_
    refine lv_if_eq (tgt := 689) hx hb dL_law_684 (by decide) (fun _ => ?_) (fun hz4 => absurd (by first | exact sg_cmp64 | exact sg_cmpB0 hb1 | exact sg_cmpB1 hb1) hz4)
    refine lv_goto (tgt := 2656) hx hb dL_law_689 (by decide) ?_
    refine W.widen (k := cells + 10) (n := slots + 60) (by omega) (by omega) ?_
    exact kk _ _ _ _ _ _ _ hI1 hP hD hS (lv_sub hl [2, 3, 4, 5, 6, 7] rfl)
set_option maxRecDepth 100000 in
set_option maxHeartbeats 4000000 in
theorem lw_case6 {p : Program} {l : Launch} {e : Env} {s : State} {m : MethodId} {below : List Frame} {meth : Method} {c : Code} {b L : Nat} {xs : Nat → Int32} {D : va_G} {cA : Nat → ClassId} {ax am : Nat → Nat} {qo qe N : Nat} {I : sg_St → sg_St → Prop} {Q : State → Prop} {cells slots : Nat} {H : Heap} {locs : List Loc} {ls : Array Slot} {x5 : Int32} {u v : sg_St} {o : Nat → Int64} {od : Nat → UInt64} (hlt : l.stackTraces = false) (C0 : sg_LA p s m meth c b L xs D cA) (hB : ∃ (R : (Nat ⊕ Int32) × sg_St) (r1 : Int32) (v1 : sg_St), fX5_open N u (xs (x5 + 1).toNatClampNeg) = some R ∧ fX6_open N v (xs (x5 + 1).toNatClampNeg) = some (r1, v1) ∧ sg_Rel I [5] R r1 v1) (hv1 : vp_in (x5 + 1) L) (hP : va_P D vwCl (sg_WW cA ax am qo qe u v o od) H) (hD : va_D (fun q : Nat => s.heap.size ≤ q) (sg_WW cA ax am qo qe u v o od)) (hS : va_S (fun q : Nat => s.heap.size ≤ q) s.heap H locs) (hl : lv_has ls 9 [(0, .ref b), (1, .ref (ax 0)), (2, .ref (am 0)), (3, .ref qo), (4, .ref qe), (5, .int x5)]) (hcs : cells + 10 ≤ 649553 ∧ slots + 60 ≤ 7063476) (kk : ∀ (u' v' : sg_St) (o' : Nat → Int64) (od' : Nat → UInt64) (H : Heap) (locs : List Loc) (ls : Array Slot), I u' v' → va_P D vwCl (sg_WW cA ax am qo qe u' v' o' od') H → va_D (fun q : Nat => s.heap.size ≤ q) (sg_WW cA ax am qo qe u' v' o' od') → va_S (fun q : Nat => s.heap.size ≤ q) s.heap H locs → lv_has ls 9 [(0, .ref b), (1, .ref (ax 0)), (2, .ref (am 0)), (3, .ref qo), (4, .ref qe), (5, .int x5)] → W p l e room_1 s m #[Value.ref b] below meth c H locs (cells + 10) (slots + 60) Q (F0 m 2656 ls [])) : W p l e room_1 s m #[Value.ref b] below meth c H locs cells slots Q (F0 m 692 ls []) := by
  obtain ⟨hx, hb, hr, hml, hown, hts, hX, hbl, hK, hT, hN, hlocks⟩ := C0
  have hA : ∀ q : Nat, s.heap.size ≤ q → (fun q : Nat => s.heap.size ≤ q) q := fun _ h => h
  have hbA : ¬ (fun q : Nat => s.heap.size ≤ q) b := Nat.not_le.mpr hbl
  obtain ⟨R, r1, v1, hf1, hf2, hRel⟩ := hB
  have hR9 : ∀ k t, R = (.inl k, t) → k ∈ [5] := fun k t e9 => sg_Rel_in hRel e9
  refine lv_aload_n hx hb dL_law_692 rfl (lv_at hl 1 rfl) ?_
  refine lv_aload_n hx hb dL_law_693 rfl (lv_at hl 0 rfl) ?_
  refine lv_iload hx hb dL_law_694 (lv_at hl 5 rfl) ?_
  refine lv_iconst (v := 1) hx hb dL_law_696 (by decide) ?_
  refine lv_iadd hx hb dL_law_697 ?_
  refine va_sld hx hb hX hbl hbA hS hv1 dL_law_698 ?_
  refine lv_aload_n hx hb dL_law_699 rfl (lv_at hl 3 rfl) ?_
  refine sg_hw (vx_runSW (As := [.ref (ax 0), .int (xs (x5 + 1).toNatClampNeg), .ref qo]) (rest := []) ⟨hx, hb, hml, hown, hts⟩ (c_L_open l hlt D cA ax qo o N u _ R hf1 hR9 _) (vx_cwSW (hh := [(0, 9, 12, 25)]) 3 hts gL_law_L_open rfl rfl rfl (by decide +kernel) ⟨Nat.le_of_ble_eq_true rfl, Nat.le_of_ble_eq_true rfl⟩) (sg_preL (w0 := sg_WL cA ax qo u o) hK (hP.sub [0, 2, 3, 4, 5, 6, 7, 8, 9, 10, 11, 12, 13, 14, 15, 16, 17, 18] rfl) (hD.sub [0, 2, 3, 4, 5, 6, 7, 8, 9, 10, 11, 12, 13, 14, 15, 16, 17, 18] (by decide) rfl) hT hN hS hA) rfl rfl hl.1 rfl (lv_room (Nat.le_of_ble_eq_true rfl)) dL_law_700 ⟨by show cells + 1 ≤ 649553; omega, by show slots + 6 ≤ 7063476; omega⟩) hP hD hS hA (fun r u1 o1 H locs hlp hP hD hS => ?_)
  obtain ⟨hth, hI1, hout⟩ := sg_agree (by decide) hRel hlp
  refine lv_istore (lv' := [(6, .int r), (0, .ref b), (1, .ref (ax 0)), (2, .ref (am 0)), (3, .ref qo), (4, .ref qe), (5, .int x5)]) hx hb dL_law_703 hl (by decide) rfl (fun ls hl => ?_)
  refine lv_aload_n hx hb dL_law_705 rfl (lv_at hl 3 rfl) ?_
  refine lv_aload_n hx hb dL_law_706 rfl (lv_at hl 1 rfl) ?_
  refine lv_iload hx hb dL_law_707 (lv_at hl 6 rfl) ?_
  refine lv_iconst (v := 1) hx hb dL_law_709 (by decide) ?_
  refine lv_iadd hx hb dL_law_710 ?_
  refine va_sld hx hb hX hbl hbA hS hv1 dL_law_711 ?_
  refine sg_mi (va_runV (As := [.int (xs (x5 + 1).toNatClampNeg)]) (rest := []) ⟨hx, hb, hml, hown, hts⟩ (c_X6_open l D cA am N _ _ _ _ hf2 _) (cwV 1 hts gL_law_X6_open rfl rfl rfl (by decide +kernel) ⟨Nat.le_of_ble_eq_true rfl, Nat.le_of_ble_eq_true rfl⟩) (sg_pre (Wf := sg_WM cA am) hK (hP.sub [19, 20, 21, 22, 23, 24, 25, 26, 27, 28, 29, 30, 31, 32, 33, 34, 35, 36, 37, 38] rfl) (hD.sub [19, 20, 21, 22, 23, 24, 25, 26, 27, 28, 29, 30, 31, 32, 33, 34, 35, 36, 37, 38] (by decide) rfl) (ci := 8) (q0 := 0) rfl rfl) rfl rfl hl.1 rfl (lv_room (Nat.le_of_ble_eq_true rfl)) dL_law_712 ⟨by show cells + 1 + 0 ≤ 649553; omega, by show slots + 6 + 0 ≤ 7063476; omega⟩) hP hD hS hA (fun H locs hP hD hS => ?_)
  refine lv_istore (lv' := [(7, .int r1), (6, .int r), (0, .ref b), (1, .ref (ax 0)), (2, .ref (am 0)), (3, .ref qo), (4, .ref qe), (5, .int x5)]) hx hb dL_law_715 hl (by decide) rfl (fun ls hl => ?_)
  refine lv_aload_n hx hb dL_law_717 rfl (lv_at hl 4 rfl) ?_
  refine sg_mi (va_runV (As := []) (rest := []) ⟨hx, hb, hml, hown, hts⟩ (c_X6_thrown l D cA am N v1 (v1 0 0) rfl _) (cwV 0 hts gL_law_X6_thrown rfl rfl rfl (by decide +kernel) ⟨Nat.le_of_ble_eq_true rfl, Nat.le_of_ble_eq_true rfl⟩) (sg_pre (Wf := sg_WM cA am) hK (hP.sub [19, 20, 21, 22, 23, 24, 25, 26, 27, 28, 29, 30, 31, 32, 33, 34, 35, 36, 37, 38] rfl) (hD.sub [19, 20, 21, 22, 23, 24, 25, 26, 27, 28, 29, 30, 31, 32, 33, 34, 35, 36, 37, 38] (by decide) rfl) (ci := 8) (q0 := 0) rfl rfl) rfl rfl hl.1 rfl (lv_room (Nat.le_of_ble_eq_true rfl)) dL_law_718 ⟨by show cells + 1 + 0 ≤ 649553; omega, by show slots + 6 + 0 ≤ 7063476; omega⟩) hP hD hS hA (fun H locs hP hD hS => ?_)
  refine lv_iload hx hb dL_law_721 (lv_at hl 1 rfl) ?_
  refine lv_icmp_eq (tgt := 728) hx hb dL_law_723 (by decide) (fun _ => ?_) (fun hz3 => absurd hth hz3)
  refine lv_iload hx hb dL_law_728 (lv_at hl 1 rfl) ?_
  refine lv_if_ne (tgt := 745) hx hb dL_law_730 (by decide) (fun hr0 => ?_) (fun hr0 => ?_)
  · refine lv_goto (tgt := 2656) hx hb dL_law_745 (by decide) ?_
    refine W.widen (k := cells + 10) (n := slots + 60) (by omega) (by omega) ?_
    exact kk _ _ _ _ _ _ _ hI1 hP hD hS (lv_sub hl [2, 3, 4, 5, 6, 7] rfl)
  · obtain ⟨ho, hRr⟩ := hout hr0
    subst ho
    refine lv_aload_n hx hb dL_law_733 rfl (lv_at hl 5 rfl) ?_
    refine lv_iconst (v := 0) hx hb dL_law_734 (by decide) ?_
    refine va_lald hx hb hK.1 hP 0 2 rfl rfl (sg_inb_s (i := 0) (n := 1) (by decide)) dL_law_735 ?_
    refine lv_iload hx hb dL_law_736 (lv_at hl 0 rfl) ?_
    refine lv_i2l (v := r1.toInt64) hx hb dL_law_738 rfl ?_
    refine W.lcmp hx hb dL_law_739 ?_
    refine lv_if_eq (tgt := 745) hx hb dL_law_740 (by decide) (fun _ => ?_) (fun hz4 => absurd (by first | exact sg_cmp64 | exact sg_cmpB0 hb1 | exact sg_cmpB1 hb1) hz4)
    refine lv_goto (tgt := 2656) hx hb dL_law_745 (by decide) ?_
    refine W.widen (k := cells + 10) (n := slots + 60) (by omega) (by omega) ?_
    exact kk _ _ _ _ _ _ _ hI1 hP hD hS (lv_sub hl [2, 3, 4, 5, 6, 7] rfl)
set_option maxRecDepth 100000 in
set_option maxHeartbeats 4000000 in
theorem lw_case7 {p : Program} {l : Launch} {e : Env} {s : State} {m : MethodId} {below : List Frame} {meth : Method} {c : Code} {b L : Nat} {xs : Nat → Int32} {D : va_G} {cA : Nat → ClassId} {ax am : Nat → Nat} {qo qe N : Nat} {I : sg_St → sg_St → Prop} {Q : State → Prop} {cells slots : Nat} {H : Heap} {locs : List Loc} {ls : Array Slot} {x5 : Int32} {u v : sg_St} {o : Nat → Int64} {od : Nat → UInt64} (hlt : l.stackTraces = false) (C0 : sg_LA p s m meth c b L xs D cA) (hB : ∃ (R : (Nat ⊕ Int32) × sg_St) (r1 : Int32) (v1 : sg_St), fX5_canClose N u (xs (x5 + 1).toNatClampNeg) = some R ∧ fX6_canClose N v (xs (x5 + 1).toNatClampNeg) = some (r1, v1) ∧ sg_Rel I [5] R r1 v1) (hv1 : vp_in (x5 + 1) L) (hP : va_P D vwCl (sg_WW cA ax am qo qe u v o od) H) (hD : va_D (fun q : Nat => s.heap.size ≤ q) (sg_WW cA ax am qo qe u v o od)) (hS : va_S (fun q : Nat => s.heap.size ≤ q) s.heap H locs) (hl : lv_has ls 9 [(0, .ref b), (1, .ref (ax 0)), (2, .ref (am 0)), (3, .ref qo), (4, .ref qe), (5, .int x5)]) (hcs : cells + 10 ≤ 649553 ∧ slots + 60 ≤ 7063476) (kk : ∀ (u' v' : sg_St) (o' : Nat → Int64) (od' : Nat → UInt64) (H : Heap) (locs : List Loc) (ls : Array Slot), I u' v' → va_P D vwCl (sg_WW cA ax am qo qe u' v' o' od') H → va_D (fun q : Nat => s.heap.size ≤ q) (sg_WW cA ax am qo qe u' v' o' od') → va_S (fun q : Nat => s.heap.size ≤ q) s.heap H locs → lv_has ls 9 [(0, .ref b), (1, .ref (ax 0)), (2, .ref (am 0)), (3, .ref qo), (4, .ref qe), (5, .int x5)] → W p l e room_1 s m #[Value.ref b] below meth c H locs (cells + 10) (slots + 60) Q (F0 m 2656 ls [])) : W p l e room_1 s m #[Value.ref b] below meth c H locs cells slots Q (F0 m 748 ls []) := by
  obtain ⟨hx, hb, hr, hml, hown, hts, hX, hbl, hK, hT, hN, hlocks⟩ := C0
  have hA : ∀ q : Nat, s.heap.size ≤ q → (fun q : Nat => s.heap.size ≤ q) q := fun _ h => h
  have hbA : ¬ (fun q : Nat => s.heap.size ≤ q) b := Nat.not_le.mpr hbl
  obtain ⟨R, r1, v1, hf1, hf2, hRel⟩ := hB
  have hR9 : ∀ k t, R = (.inl k, t) → k ∈ [5] := fun k t e9 => sg_Rel_in hRel e9
  refine lv_aload_n hx hb dL_law_748 rfl (lv_at hl 1 rfl) ?_
  refine lv_aload_n hx hb dL_law_749 rfl (lv_at hl 0 rfl) ?_
  refine lv_iload hx hb dL_law_750 (lv_at hl 5 rfl) ?_
  refine lv_iconst (v := 1) hx hb dL_law_752 (by decide) ?_
  refine lv_iadd hx hb dL_law_753 ?_
  refine va_sld hx hb hX hbl hbA hS hv1 dL_law_754 ?_
  refine lv_aload_n hx hb dL_law_755 rfl (lv_at hl 3 rfl) ?_
  refine sg_hw (vx_runSW (As := [.ref (ax 0), .int (xs (x5 + 1).toNatClampNeg), .ref qo]) (rest := []) ⟨hx, hb, hml, hown, hts⟩ (c_L_canClose l hlt D cA ax qo o N u _ R hf1 hR9 _) (vx_cwSW (hh := [(0, 9, 12, 25)]) 3 hts gL_law_L_canClose rfl rfl rfl (by decide +kernel) ⟨Nat.le_of_ble_eq_true rfl, Nat.le_of_ble_eq_true rfl⟩) (sg_preL (w0 := sg_WL cA ax qo u o) hK (hP.sub [0, 2, 3, 4, 5, 6, 7, 8, 9, 10, 11, 12, 13, 14, 15, 16, 17, 18] rfl) (hD.sub [0, 2, 3, 4, 5, 6, 7, 8, 9, 10, 11, 12, 13, 14, 15, 16, 17, 18] (by decide) rfl) hT hN hS hA) rfl rfl hl.1 rfl (lv_room (Nat.le_of_ble_eq_true rfl)) dL_law_756 ⟨by show cells + 1 ≤ 649553; omega, by show slots + 6 ≤ 7063476; omega⟩) hP hD hS hA (fun r u1 o1 H locs hlp hP hD hS => ?_)
  obtain ⟨hth, hI1, hout⟩ := sg_agree (by decide) hRel hlp
  refine lv_istore (lv' := [(6, .int r), (0, .ref b), (1, .ref (ax 0)), (2, .ref (am 0)), (3, .ref qo), (4, .ref qe), (5, .int x5)]) hx hb dL_law_759 hl (by decide) rfl (fun ls hl => ?_)
  refine lv_aload_n hx hb dL_law_761 rfl (lv_at hl 3 rfl) ?_
  refine lv_aload_n hx hb dL_law_762 rfl (lv_at hl 1 rfl) ?_
  refine lv_iload hx hb dL_law_763 (lv_at hl 6 rfl) ?_
  refine lv_iconst (v := 1) hx hb dL_law_765 (by decide) ?_
  refine lv_iadd hx hb dL_law_766 ?_
  refine va_sld hx hb hX hbl hbA hS hv1 dL_law_767 ?_
  refine sg_mi (va_runV (As := [.int (xs (x5 + 1).toNatClampNeg)]) (rest := []) ⟨hx, hb, hml, hown, hts⟩ (c_X6_canClose l D cA am N _ _ _ _ hf2 _) (cwV 1 hts gL_law_X6_canClose rfl rfl rfl (by decide +kernel) ⟨Nat.le_of_ble_eq_true rfl, Nat.le_of_ble_eq_true rfl⟩) (sg_pre (Wf := sg_WM cA am) hK (hP.sub [19, 20, 21, 22, 23, 24, 25, 26, 27, 28, 29, 30, 31, 32, 33, 34, 35, 36, 37, 38] rfl) (hD.sub [19, 20, 21, 22, 23, 24, 25, 26, 27, 28, 29, 30, 31, 32, 33, 34, 35, 36, 37, 38] (by decide) rfl) (ci := 8) (q0 := 0) rfl rfl) rfl rfl hl.1 rfl (lv_room (Nat.le_of_ble_eq_true rfl)) dL_law_768 ⟨by show cells + 1 + 0 ≤ 649553; omega, by show slots + 6 + 0 ≤ 7063476; omega⟩) hP hD hS hA (fun H locs hP hD hS => ?_)
  refine lv_istore (lv' := [(7, .int r1), (6, .int r), (0, .ref b), (1, .ref (ax 0)), (2, .ref (am 0)), (3, .ref qo), (4, .ref qe), (5, .int x5)]) hx hb dL_law_771 hl (by decide) rfl (fun ls hl => ?_)
  refine lv_aload_n hx hb dL_law_773 rfl (lv_at hl 4 rfl) ?_
  refine sg_mi (va_runV (As := []) (rest := []) ⟨hx, hb, hml, hown, hts⟩ (c_X6_thrown l D cA am N v1 (v1 0 0) rfl _) (cwV 0 hts gL_law_X6_thrown rfl rfl rfl (by decide +kernel) ⟨Nat.le_of_ble_eq_true rfl, Nat.le_of_ble_eq_true rfl⟩) (sg_pre (Wf := sg_WM cA am) hK (hP.sub [19, 20, 21, 22, 23, 24, 25, 26, 27, 28, 29, 30, 31, 32, 33, 34, 35, 36, 37, 38] rfl) (hD.sub [19, 20, 21, 22, 23, 24, 25, 26, 27, 28, 29, 30, 31, 32, 33, 34, 35, 36, 37, 38] (by decide) rfl) (ci := 8) (q0 := 0) rfl rfl) rfl rfl hl.1 rfl (lv_room (Nat.le_of_ble_eq_true rfl)) dL_law_774 ⟨by show cells + 1 + 0 ≤ 649553; omega, by show slots + 6 + 0 ≤ 7063476; omega⟩) hP hD hS hA (fun H locs hP hD hS => ?_)
  refine lv_iload hx hb dL_law_777 (lv_at hl 1 rfl) ?_
  refine lv_icmp_eq (tgt := 784) hx hb dL_law_779 (by decide) (fun _ => ?_) (fun hz3 => absurd hth hz3)
  refine lv_iload hx hb dL_law_784 (lv_at hl 1 rfl) ?_
  refine lv_if_ne (tgt := 801) hx hb dL_law_786 (by decide) (fun hr0 => ?_) (fun hr0 => ?_)
  · refine lv_goto (tgt := 2656) hx hb dL_law_801 (by decide) ?_
    refine W.widen (k := cells + 10) (n := slots + 60) (by omega) (by omega) ?_
    exact kk _ _ _ _ _ _ _ hI1 hP hD hS (lv_sub hl [2, 3, 4, 5, 6, 7] rfl)
  · obtain ⟨ho, hRr⟩ := hout hr0
    subst ho
    refine lv_aload_n hx hb dL_law_789 rfl (lv_at hl 5 rfl) ?_
    refine lv_iconst (v := 0) hx hb dL_law_790 (by decide) ?_
    refine va_lald hx hb hK.1 hP 0 2 rfl rfl (sg_inb_s (i := 0) (n := 1) (by decide)) dL_law_791 ?_
    refine lv_iload hx hb dL_law_792 (lv_at hl 0 rfl) ?_
    refine lv_i2l (v := r1.toInt64) hx hb dL_law_794 rfl ?_
    refine W.lcmp hx hb dL_law_795 ?_
    refine lv_if_eq (tgt := 801) hx hb dL_law_796 (by decide) (fun _ => ?_) (fun hz4 => absurd (by first | exact sg_cmp64 | exact sg_cmpB0 hb1 | exact sg_cmpB1 hb1) hz4)
    refine lv_goto (tgt := 2656) hx hb dL_law_801 (by decide) ?_
    refine W.widen (k := cells + 10) (n := slots + 60) (by omega) (by omega) ?_
    exact kk _ _ _ _ _ _ _ hI1 hP hD hS (lv_sub hl [2, 3, 4, 5, 6, 7] rfl)
set_option maxRecDepth 100000 in
set_option maxHeartbeats 4000000 in
theorem lw_case8 {p : Program} {l : Launch} {e : Env} {s : State} {m : MethodId} {below : List Frame} {meth : Method} {c : Code} {b L : Nat} {xs : Nat → Int32} {D : va_G} {cA : Nat → ClassId} {ax am : Nat → Nat} {qo qe N : Nat} {I : sg_St → sg_St → Prop} {Q : State → Prop} {cells slots : Nat} {H : Heap} {locs : List Loc} {ls : Array Slot} {x5 : Int32} {u v : sg_St} {o : Nat → Int64} {od : Nat → UInt64} (hlt : l.stackTraces = false) (C0 : sg_LA p s m meth c b L xs D cA) (hB : ∃ (R : (Nat ⊕ Int32) × sg_St) (r1 : Int32) (v1 : sg_St), fX5_canOpen N u (xs (x5 + 1).toNatClampNeg) = some R ∧ fX6_canOpen N v (xs (x5 + 1).toNatClampNeg) = some (r1, v1) ∧ sg_Rel I [5] R r1 v1) (hv1 : vp_in (x5 + 1) L) (hP : va_P D vwCl (sg_WW cA ax am qo qe u v o od) H) (hD : va_D (fun q : Nat => s.heap.size ≤ q) (sg_WW cA ax am qo qe u v o od)) (hS : va_S (fun q : Nat => s.heap.size ≤ q) s.heap H locs) (hl : lv_has ls 9 [(0, .ref b), (1, .ref (ax 0)), (2, .ref (am 0)), (3, .ref qo), (4, .ref qe), (5, .int x5)]) (hcs : cells + 10 ≤ 649553 ∧ slots + 60 ≤ 7063476) (kk : ∀ (u' v' : sg_St) (o' : Nat → Int64) (od' : Nat → UInt64) (H : Heap) (locs : List Loc) (ls : Array Slot), I u' v' → va_P D vwCl (sg_WW cA ax am qo qe u' v' o' od') H → va_D (fun q : Nat => s.heap.size ≤ q) (sg_WW cA ax am qo qe u' v' o' od') → va_S (fun q : Nat => s.heap.size ≤ q) s.heap H locs → lv_has ls 9 [(0, .ref b), (1, .ref (ax 0)), (2, .ref (am 0)), (3, .ref qo), (4, .ref qe), (5, .int x5)] → W p l e room_1 s m #[Value.ref b] below meth c H locs (cells + 10) (slots + 60) Q (F0 m 2656 ls [])) : W p l e room_1 s m #[Value.ref b] below meth c H locs cells slots Q (F0 m 804 ls []) := by
  obtain ⟨hx, hb, hr, hml, hown, hts, hX, hbl, hK, hT, hN, hlocks⟩ := C0
  have hA : ∀ q : Nat, s.heap.size ≤ q → (fun q : Nat => s.heap.size ≤ q) q := fun _ h => h
  have hbA : ¬ (fun q : Nat => s.heap.size ≤ q) b := Nat.not_le.mpr hbl
  obtain ⟨R, r1, v1, hf1, hf2, hRel⟩ := hB
  have hR9 : ∀ k t, R = (.inl k, t) → k ∈ [5] := fun k t e9 => sg_Rel_in hRel e9
  refine lv_aload_n hx hb dL_law_804 rfl (lv_at hl 1 rfl) ?_
  refine lv_aload_n hx hb dL_law_805 rfl (lv_at hl 0 rfl) ?_
  refine lv_iload hx hb dL_law_806 (lv_at hl 5 rfl) ?_
  refine lv_iconst (v := 1) hx hb dL_law_808 (by decide) ?_
  refine lv_iadd hx hb dL_law_809 ?_
  refine va_sld hx hb hX hbl hbA hS hv1 dL_law_810 ?_
  refine lv_aload_n hx hb dL_law_811 rfl (lv_at hl 3 rfl) ?_
  refine sg_hw (vx_runSW (As := [.ref (ax 0), .int (xs (x5 + 1).toNatClampNeg), .ref qo]) (rest := []) ⟨hx, hb, hml, hown, hts⟩ (c_L_canOpen l hlt D cA ax qo o N u _ R hf1 hR9 _) (vx_cwSW (hh := [(0, 9, 12, 25)]) 3 hts gL_law_L_canOpen rfl rfl rfl (by decide +kernel) ⟨Nat.le_of_ble_eq_true rfl, Nat.le_of_ble_eq_true rfl⟩) (sg_preL (w0 := sg_WL cA ax qo u o) hK (hP.sub [0, 2, 3, 4, 5, 6, 7, 8, 9, 10, 11, 12, 13, 14, 15, 16, 17, 18] rfl) (hD.sub [0, 2, 3, 4, 5, 6, 7, 8, 9, 10, 11, 12, 13, 14, 15, 16, 17, 18] (by decide) rfl) hT hN hS hA) rfl rfl hl.1 rfl (lv_room (Nat.le_of_ble_eq_true rfl)) dL_law_812 ⟨by show cells + 1 ≤ 649553; omega, by show slots + 6 ≤ 7063476; omega⟩) hP hD hS hA (fun r u1 o1 H locs hlp hP hD hS => ?_)
  obtain ⟨hth, hI1, hout⟩ := sg_agree (by decide) hRel hlp
  refine lv_istore (lv' := [(6, .int r), (0, .ref b), (1, .ref (ax 0)), (2, .ref (am 0)), (3, .ref qo), (4, .ref qe), (5, .int x5)]) hx hb dL_law_815 hl (by decide) rfl (fun ls hl => ?_)
  refine lv_aload_n hx hb dL_law_817 rfl (lv_at hl 3 rfl) ?_
  refine lv_aload_n hx hb dL_law_818 rfl (lv_at hl 1 rfl) ?_
  refine lv_iload hx hb dL_law_819 (lv_at hl 6 rfl) ?_
  refine lv_iconst (v := 1) hx hb dL_law_821 (by decide) ?_
  refine lv_iadd hx hb dL_law_822 ?_
  refine va_sld hx hb hX hbl hbA hS hv1 dL_law_823 ?_
  refine sg_mi (va_runV (As := [.int (xs (x5 + 1).toNatClampNeg)]) (rest := []) ⟨hx, hb, hml, hown, hts⟩ (c_X6_canOpen l D cA am N _ _ _ _ hf2 _) (cwV 1 hts gL_law_X6_canOpen rfl rfl rfl (by decide +kernel) ⟨Nat.le_of_ble_eq_true rfl, Nat.le_of_ble_eq_true rfl⟩) (sg_pre (Wf := sg_WM cA am) hK (hP.sub [19, 20, 21, 22, 23, 24, 25, 26, 27, 28, 29, 30, 31, 32, 33, 34, 35, 36, 37, 38] rfl) (hD.sub [19, 20, 21, 22, 23, 24, 25, 26, 27, 28, 29, 30, 31, 32, 33, 34, 35, 36, 37, 38] (by decide) rfl) (ci := 8) (q0 := 0) rfl rfl) rfl rfl hl.1 rfl (lv_room (Nat.le_of_ble_eq_true rfl)) dL_law_824 ⟨by show cells + 1 + 0 ≤ 649553; omega, by show slots + 6 + 0 ≤ 7063476; omega⟩) hP hD hS hA (fun H locs hP hD hS => ?_)
  refine lv_istore (lv' := [(7, .int r1), (6, .int r), (0, .ref b), (1, .ref (ax 0)), (2, .ref (am 0)), (3, .ref qo), (4, .ref qe), (5, .int x5)]) hx hb dL_law_827 hl (by decide) rfl (fun ls hl => ?_)
  refine lv_aload_n hx hb dL_law_829 rfl (lv_at hl 4 rfl) ?_
  refine sg_mi (va_runV (As := []) (rest := []) ⟨hx, hb, hml, hown, hts⟩ (c_X6_thrown l D cA am N v1 (v1 0 0) rfl _) (cwV 0 hts gL_law_X6_thrown rfl rfl rfl (by decide +kernel) ⟨Nat.le_of_ble_eq_true rfl, Nat.le_of_ble_eq_true rfl⟩) (sg_pre (Wf := sg_WM cA am) hK (hP.sub [19, 20, 21, 22, 23, 24, 25, 26, 27, 28, 29, 30, 31, 32, 33, 34, 35, 36, 37, 38] rfl) (hD.sub [19, 20, 21, 22, 23, 24, 25, 26, 27, 28, 29, 30, 31, 32, 33, 34, 35, 36, 37, 38] (by decide) rfl) (ci := 8) (q0 := 0) rfl rfl) rfl rfl hl.1 rfl (lv_room (Nat.le_of_ble_eq_true rfl)) dL_law_830 ⟨by show cells + 1 + 0 ≤ 649553; omega, by show slots + 6 + 0 ≤ 7063476; omega⟩) hP hD hS hA (fun H locs hP hD hS => ?_)
  refine lv_iload hx hb dL_law_833 (lv_at hl 1 rfl) ?_
  refine lv_icmp_eq (tgt := 840) hx hb dL_law_835 (by decide) (fun _ => ?_) (fun hz3 => absurd hth hz3)
  refine lv_iload hx hb dL_law_840 (lv_at hl 1 rfl) ?_
  refine lv_if_ne (tgt := 857) hx hb dL_law_842 (by decide) (fun hr0 => ?_) (fun hr0 => ?_)
  · refine lv_goto (tgt := 2656) hx hb dL_law_857 (by decide) ?_
    refine W.widen (k := cells + 10) (n := slots + 60) (by omega) (by omega) ?_
    exact kk _ _ _ _ _ _ _ hI1 hP hD hS (lv_sub hl [2, 3, 4, 5, 6, 7] rfl)
  · obtain ⟨ho, hRr⟩ := hout hr0
    subst ho
    refine lv_aload_n hx hb dL_law_845 rfl (lv_at hl 5 rfl) ?_
    refine lv_iconst (v := 0) hx hb dL_law_846 (by decide) ?_
    refine va_lald hx hb hK.1 hP 0 2 rfl rfl (sg_inb_s (i := 0) (n := 1) (by decide)) dL_law_847 ?_
    refine lv_iload hx hb dL_law_848 (lv_at hl 0 rfl) ?_
    refine lv_i2l (v := r1.toInt64) hx hb dL_law_850 rfl ?_
    refine W.lcmp hx hb dL_law_851 ?_
    refine lv_if_eq (tgt := 857) hx hb dL_law_852 (by decide) (fun _ => ?_) (fun hz4 => absurd (by first | exact sg_cmp64 | exact sg_cmpB0 hb1 | exact sg_cmpB1 hb1) hz4)
    refine lv_goto (tgt := 2656) hx hb dL_law_857 (by decide) ?_
    refine W.widen (k := cells + 10) (n := slots + 60) (by omega) (by omega) ?_
    exact kk _ _ _ _ _ _ _ hI1 hP hD hS (lv_sub hl [2, 3, 4, 5, 6, 7] rfl)
set_option maxRecDepth 100000 in
set_option maxHeartbeats 4000000 in
theorem lw_case9 {p : Program} {l : Launch} {e : Env} {s : State} {m : MethodId} {below : List Frame} {meth : Method} {c : Code} {b L : Nat} {xs : Nat → Int32} {D : va_G} {cA : Nat → ClassId} {ax am : Nat → Nat} {qo qe N : Nat} {I : sg_St → sg_St → Prop} {Q : State → Prop} {cells slots : Nat} {H : Heap} {locs : List Loc} {ls : Array Slot} {x5 : Int32} {u v : sg_St} {o : Nat → Int64} {od : Nat → UInt64} (hlt : l.stackTraces = false) (C0 : sg_LA p s m meth c b L xs D cA) (hB : ∃ (R : (Nat ⊕ Int32) × sg_St) (r1 : Int32) (v1 : sg_St), fX5_overloaded N u (xs (x5 + 1).toNatClampNeg) = some R ∧ fX6_overloaded N v (xs (x5 + 1).toNatClampNeg) = some (r1, v1) ∧ sg_Rel I [5, 0] R r1 v1) (hv1 : vp_in (x5 + 1) L) (hP : va_P D vwCl (sg_WW cA ax am qo qe u v o od) H) (hD : va_D (fun q : Nat => s.heap.size ≤ q) (sg_WW cA ax am qo qe u v o od)) (hS : va_S (fun q : Nat => s.heap.size ≤ q) s.heap H locs) (hl : lv_has ls 9 [(0, .ref b), (1, .ref (ax 0)), (2, .ref (am 0)), (3, .ref qo), (4, .ref qe), (5, .int x5)]) (hcs : cells + 10 ≤ 649553 ∧ slots + 60 ≤ 7063476) (kk : ∀ (u' v' : sg_St) (o' : Nat → Int64) (od' : Nat → UInt64) (H : Heap) (locs : List Loc) (ls : Array Slot), I u' v' → va_P D vwCl (sg_WW cA ax am qo qe u' v' o' od') H → va_D (fun q : Nat => s.heap.size ≤ q) (sg_WW cA ax am qo qe u' v' o' od') → va_S (fun q : Nat => s.heap.size ≤ q) s.heap H locs → lv_has ls 9 [(0, .ref b), (1, .ref (ax 0)), (2, .ref (am 0)), (3, .ref qo), (4, .ref qe), (5, .int x5)] → W p l e room_1 s m #[Value.ref b] below meth c H locs (cells + 10) (slots + 60) Q (F0 m 2656 ls [])) : W p l e room_1 s m #[Value.ref b] below meth c H locs cells slots Q (F0 m 860 ls []) := by
  obtain ⟨hx, hb, hr, hml, hown, hts, hX, hbl, hK, hT, hN, hlocks⟩ := C0
  have hA : ∀ q : Nat, s.heap.size ≤ q → (fun q : Nat => s.heap.size ≤ q) q := fun _ h => h
  have hbA : ¬ (fun q : Nat => s.heap.size ≤ q) b := Nat.not_le.mpr hbl
  obtain ⟨R, r1, v1, hf1, hf2, hRel⟩ := hB
  have hR9 : ∀ k t, R = (.inl k, t) → k ∈ [5, 0] := fun k t e9 => sg_Rel_in hRel e9
  refine lv_aload_n hx hb dL_law_860 rfl (lv_at hl 1 rfl) ?_
  refine lv_aload_n hx hb dL_law_861 rfl (lv_at hl 0 rfl) ?_
  refine lv_iload hx hb dL_law_862 (lv_at hl 5 rfl) ?_
  refine lv_iconst (v := 1) hx hb dL_law_864 (by decide) ?_
  refine lv_iadd hx hb dL_law_865 ?_
  refine va_sld hx hb hX hbl hbA hS hv1 dL_law_866 ?_
  refine lv_aload_n hx hb dL_law_867 rfl (lv_at hl 3 rfl) ?_
  refine sg_hw (vx_runSW (As := [.ref (ax 0), .int (xs (x5 + 1).toNatClampNeg), .ref qo]) (rest := []) ⟨hx, hb, hml, hown, hts⟩ (c_L_overloaded l hlt D cA ax qo o N u _ R hf1 hR9 _) (vx_cwSW (hh := [(0, 9, 12, 25), (0, 9, 15, 15)]) 3 hts gL_law_L_overloaded rfl rfl rfl (by decide +kernel) ⟨Nat.le_of_ble_eq_true rfl, Nat.le_of_ble_eq_true rfl⟩) (sg_preL (w0 := sg_WL cA ax qo u o) hK (hP.sub [0, 2, 3, 4, 5, 6, 7, 8, 9, 10, 11, 12, 13, 14, 15, 16, 17, 18] rfl) (hD.sub [0, 2, 3, 4, 5, 6, 7, 8, 9, 10, 11, 12, 13, 14, 15, 16, 17, 18] (by decide) rfl) hT hN hS hA) rfl rfl hl.1 rfl (lv_room (Nat.le_of_ble_eq_true rfl)) dL_law_868 ⟨by show cells + 2 ≤ 649553; omega, by show slots + 12 ≤ 7063476; omega⟩) hP hD hS hA (fun r u1 o1 H locs hlp hP hD hS => ?_)
  obtain ⟨hth, hI1, hout⟩ := sg_agree (by decide) hRel hlp
  refine lv_istore (lv' := [(6, .int r), (0, .ref b), (1, .ref (ax 0)), (2, .ref (am 0)), (3, .ref qo), (4, .ref qe), (5, .int x5)]) hx hb dL_law_871 hl (by decide) rfl (fun ls hl => ?_)
  refine lv_aload_n hx hb dL_law_873 rfl (lv_at hl 3 rfl) ?_
  refine lv_aload_n hx hb dL_law_874 rfl (lv_at hl 1 rfl) ?_
  refine lv_iload hx hb dL_law_875 (lv_at hl 6 rfl) ?_
  refine lv_iconst (v := 1) hx hb dL_law_877 (by decide) ?_
  refine lv_iadd hx hb dL_law_878 ?_
  refine va_sld hx hb hX hbl hbA hS hv1 dL_law_879 ?_
  refine sg_mi (va_runV (As := [.int (xs (x5 + 1).toNatClampNeg)]) (rest := []) ⟨hx, hb, hml, hown, hts⟩ (c_X6_overloaded l D cA am N _ _ _ _ hf2 _) (cwV 1 hts gL_law_X6_overloaded rfl rfl rfl (by decide +kernel) ⟨Nat.le_of_ble_eq_true rfl, Nat.le_of_ble_eq_true rfl⟩) (sg_pre (Wf := sg_WM cA am) hK (hP.sub [19, 20, 21, 22, 23, 24, 25, 26, 27, 28, 29, 30, 31, 32, 33, 34, 35, 36, 37, 38] rfl) (hD.sub [19, 20, 21, 22, 23, 24, 25, 26, 27, 28, 29, 30, 31, 32, 33, 34, 35, 36, 37, 38] (by decide) rfl) (ci := 8) (q0 := 0) rfl rfl) rfl rfl hl.1 rfl (lv_room (Nat.le_of_ble_eq_true rfl)) dL_law_880 ⟨by show cells + 2 + 0 ≤ 649553; omega, by show slots + 12 + 0 ≤ 7063476; omega⟩) hP hD hS hA (fun H locs hP hD hS => ?_)
  refine lv_istore (lv' := [(7, .int r1), (6, .int r), (0, .ref b), (1, .ref (ax 0)), (2, .ref (am 0)), (3, .ref qo), (4, .ref qe), (5, .int x5)]) hx hb dL_law_883 hl (by decide) rfl (fun ls hl => ?_)
  refine lv_aload_n hx hb dL_law_885 rfl (lv_at hl 4 rfl) ?_
  refine sg_mi (va_runV (As := []) (rest := []) ⟨hx, hb, hml, hown, hts⟩ (c_X6_thrown l D cA am N v1 (v1 0 0) rfl _) (cwV 0 hts gL_law_X6_thrown rfl rfl rfl (by decide +kernel) ⟨Nat.le_of_ble_eq_true rfl, Nat.le_of_ble_eq_true rfl⟩) (sg_pre (Wf := sg_WM cA am) hK (hP.sub [19, 20, 21, 22, 23, 24, 25, 26, 27, 28, 29, 30, 31, 32, 33, 34, 35, 36, 37, 38] rfl) (hD.sub [19, 20, 21, 22, 23, 24, 25, 26, 27, 28, 29, 30, 31, 32, 33, 34, 35, 36, 37, 38] (by decide) rfl) (ci := 8) (q0 := 0) rfl rfl) rfl rfl hl.1 rfl (lv_room (Nat.le_of_ble_eq_true rfl)) dL_law_886 ⟨by show cells + 2 + 0 ≤ 649553; omega, by show slots + 12 + 0 ≤ 7063476; omega⟩) hP hD hS hA (fun H locs hP hD hS => ?_)
  refine lv_iload hx hb dL_law_889 (lv_at hl 1 rfl) ?_
  refine lv_icmp_eq (tgt := 896) hx hb dL_law_891 (by decide) (fun _ => ?_) (fun hz3 => absurd hth hz3)
  refine lv_iload hx hb dL_law_896 (lv_at hl 1 rfl) ?_
  refine lv_if_ne (tgt := 913) hx hb dL_law_898 (by decide) (fun hr0 => ?_) (fun hr0 => ?_)
  · refine lv_goto (tgt := 2656) hx hb dL_law_913 (by decide) ?_
    refine W.widen (k := cells + 10) (n := slots + 60) (by omega) (by omega) ?_
    exact kk _ _ _ _ _ _ _ hI1 hP hD hS (lv_sub hl [2, 3, 4, 5, 6, 7] rfl)
  · obtain ⟨ho, hRr⟩ := hout hr0
    subst ho
    refine lv_aload_n hx hb dL_law_901 rfl (lv_at hl 5 rfl) ?_
    refine lv_iconst (v := 0) hx hb dL_law_902 (by decide) ?_
    refine va_lald hx hb hK.1 hP 0 2 rfl rfl (sg_inb_s (i := 0) (n := 1) (by decide)) dL_law_903 ?_
    refine lv_iload hx hb dL_law_904 (lv_at hl 0 rfl) ?_
    refine lv_i2l (v := r1.toInt64) hx hb dL_law_906 rfl ?_
    refine W.lcmp hx hb dL_law_907 ?_
    refine lv_if_eq (tgt := 913) hx hb dL_law_908 (by decide) (fun _ => ?_) (fun hz4 => absurd (by first | exact sg_cmp64 | exact sg_cmpB0 hb1 | exact sg_cmpB1 hb1) hz4)
    refine lv_goto (tgt := 2656) hx hb dL_law_913 (by decide) ?_
    refine W.widen (k := cells + 10) (n := slots + 60) (by omega) (by omega) ?_
    exact kk _ _ _ _ _ _ _ hI1 hP hD hS (lv_sub hl [2, 3, 4, 5, 6, 7] rfl)
set_option maxRecDepth 100000 in
set_option maxHeartbeats 4000000 in
theorem lw_case10 {p : Program} {l : Launch} {e : Env} {s : State} {m : MethodId} {below : List Frame} {meth : Method} {c : Code} {b L : Nat} {xs : Nat → Int32} {D : va_G} {cA : Nat → ClassId} {ax am : Nat → Nat} {qo qe N : Nat} {I : sg_St → sg_St → Prop} {Q : State → Prop} {cells slots : Nat} {H : Heap} {locs : List Loc} {ls : Array Slot} {x5 : Int32} {u v : sg_St} {o : Nat → Int64} {od : Nat → UInt64} (hlt : l.stackTraces = false) (C0 : sg_LA p s m meth c b L xs D cA) (hB : ∃ (R : (Nat ⊕ Int32) × sg_St) (r1 : Int32) (v1 : sg_St), fX5_fault N u (xs (x5 + 1).toNatClampNeg) = some R ∧ fX6_fault N v (xs (x5 + 1).toNatClampNeg) = some (r1, v1) ∧ sg_Rel I [5, 0] R r1 v1) (hv1 : vp_in (x5 + 1) L) (hP : va_P D vwCl (sg_WW cA ax am qo qe u v o od) H) (hD : va_D (fun q : Nat => s.heap.size ≤ q) (sg_WW cA ax am qo qe u v o od)) (hS : va_S (fun q : Nat => s.heap.size ≤ q) s.heap H locs) (hl : lv_has ls 9 [(0, .ref b), (1, .ref (ax 0)), (2, .ref (am 0)), (3, .ref qo), (4, .ref qe), (5, .int x5)]) (hcs : cells + 10 ≤ 649553 ∧ slots + 60 ≤ 7063476) (kk : ∀ (u' v' : sg_St) (o' : Nat → Int64) (od' : Nat → UInt64) (H : Heap) (locs : List Loc) (ls : Array Slot), I u' v' → va_P D vwCl (sg_WW cA ax am qo qe u' v' o' od') H → va_D (fun q : Nat => s.heap.size ≤ q) (sg_WW cA ax am qo qe u' v' o' od') → va_S (fun q : Nat => s.heap.size ≤ q) s.heap H locs → lv_has ls 9 [(0, .ref b), (1, .ref (ax 0)), (2, .ref (am 0)), (3, .ref qo), (4, .ref qe), (5, .int x5)] → W p l e room_1 s m #[Value.ref b] below meth c H locs (cells + 10) (slots + 60) Q (F0 m 2656 ls [])) : W p l e room_1 s m #[Value.ref b] below meth c H locs cells slots Q (F0 m 916 ls []) := by
  obtain ⟨hx, hb, hr, hml, hown, hts, hX, hbl, hK, hT, hN, hlocks⟩ := C0
  have hA : ∀ q : Nat, s.heap.size ≤ q → (fun q : Nat => s.heap.size ≤ q) q := fun _ h => h
  have hbA : ¬ (fun q : Nat => s.heap.size ≤ q) b := Nat.not_le.mpr hbl
  obtain ⟨R, r1, v1, hf1, hf2, hRel⟩ := hB
  have hR9 : ∀ k t, R = (.inl k, t) → k ∈ [5, 0] := fun k t e9 => sg_Rel_in hRel e9
  refine lv_aload_n hx hb dL_law_916 rfl (lv_at hl 1 rfl) ?_
  refine lv_aload_n hx hb dL_law_917 rfl (lv_at hl 0 rfl) ?_
  refine lv_iload hx hb dL_law_918 (lv_at hl 5 rfl) ?_
  refine lv_iconst (v := 1) hx hb dL_law_920 (by decide) ?_
  refine lv_iadd hx hb dL_law_921 ?_
  refine va_sld hx hb hX hbl hbA hS hv1 dL_law_922 ?_
  refine lv_aload_n hx hb dL_law_923 rfl (lv_at hl 3 rfl) ?_
  refine sg_hw (vx_runSW (As := [.ref (ax 0), .int (xs (x5 + 1).toNatClampNeg), .ref qo]) (rest := []) ⟨hx, hb, hml, hown, hts⟩ (c_L_fault l hlt D cA ax qo o N u _ R hf1 hR9 _) (vx_cwSW (hh := [(0, 9, 12, 25), (0, 9, 15, 15)]) 3 hts gL_law_L_fault rfl rfl rfl (by decide +kernel) ⟨Nat.le_of_ble_eq_true rfl, Nat.le_of_ble_eq_true rfl⟩) (sg_preL (w0 := sg_WL cA ax qo u o) hK (hP.sub [0, 2, 3, 4, 5, 6, 7, 8, 9, 10, 11, 12, 13, 14, 15, 16, 17, 18] rfl) (hD.sub [0, 2, 3, 4, 5, 6, 7, 8, 9, 10, 11, 12, 13, 14, 15, 16, 17, 18] (by decide) rfl) hT hN hS hA) rfl rfl hl.1 rfl (lv_room (Nat.le_of_ble_eq_true rfl)) dL_law_924 ⟨by show cells + 2 ≤ 649553; omega, by show slots + 12 ≤ 7063476; omega⟩) hP hD hS hA (fun r u1 o1 H locs hlp hP hD hS => ?_)
  obtain ⟨hth, hI1, hout⟩ := sg_agree (by decide) hRel hlp
  refine lv_istore (lv' := [(6, .int r), (0, .ref b), (1, .ref (ax 0)), (2, .ref (am 0)), (3, .ref qo), (4, .ref qe), (5, .int x5)]) hx hb dL_law_927 hl (by decide) rfl (fun ls hl => ?_)
  refine lv_aload_n hx hb dL_law_929 rfl (lv_at hl 3 rfl) ?_
  refine lv_aload_n hx hb dL_law_930 rfl (lv_at hl 1 rfl) ?_
  refine lv_iload hx hb dL_law_931 (lv_at hl 6 rfl) ?_
  refine lv_iconst (v := 1) hx hb dL_law_933 (by decide) ?_
  refine lv_iadd hx hb dL_law_934 ?_
  refine va_sld hx hb hX hbl hbA hS hv1 dL_law_935 ?_
  refine sg_mi (va_runV (As := [.int (xs (x5 + 1).toNatClampNeg)]) (rest := []) ⟨hx, hb, hml, hown, hts⟩ (c_X6_fault l D cA am N _ _ _ _ hf2 _) (cwV 1 hts gL_law_X6_fault rfl rfl rfl (by decide +kernel) ⟨Nat.le_of_ble_eq_true rfl, Nat.le_of_ble_eq_true rfl⟩) (sg_pre (Wf := sg_WM cA am) hK (hP.sub [19, 20, 21, 22, 23, 24, 25, 26, 27, 28, 29, 30, 31, 32, 33, 34, 35, 36, 37, 38] rfl) (hD.sub [19, 20, 21, 22, 23, 24, 25, 26, 27, 28, 29, 30, 31, 32, 33, 34, 35, 36, 37, 38] (by decide) rfl) (ci := 8) (q0 := 0) rfl rfl) rfl rfl hl.1 rfl (lv_room (Nat.le_of_ble_eq_true rfl)) dL_law_936 ⟨by show cells + 2 + 0 ≤ 649553; omega, by show slots + 12 + 0 ≤ 7063476; omega⟩) hP hD hS hA (fun H locs hP hD hS => ?_)
  refine lv_istore (lv' := [(7, .int r1), (6, .int r), (0, .ref b), (1, .ref (ax 0)), (2, .ref (am 0)), (3, .ref qo), (4, .ref qe), (5, .int x5)]) hx hb dL_law_939 hl (by decide) rfl (fun ls hl => ?_)
  refine lv_aload_n hx hb dL_law_941 rfl (lv_at hl 4 rfl) ?_
  refine sg_mi (va_runV (As := []) (rest := []) ⟨hx, hb, hml, hown, hts⟩ (c_X6_thrown l D cA am N v1 (v1 0 0) rfl _) (cwV 0 hts gL_law_X6_thrown rfl rfl rfl (by decide +kernel) ⟨Nat.le_of_ble_eq_true rfl, Nat.le_of_ble_eq_true rfl⟩) (sg_pre (Wf := sg_WM cA am) hK (hP.sub [19, 20, 21, 22, 23, 24, 25, 26, 27, 28, 29, 30, 31, 32, 33, 34, 35, 36, 37, 38] rfl) (hD.sub [19, 20, 21, 22, 23, 24, 25, 26, 27, 28, 29, 30, 31, 32, 33, 34, 35, 36, 37, 38] (by decide) rfl) (ci := 8) (q0 := 0) rfl rfl) rfl rfl hl.1 rfl (lv_room (Nat.le_of_ble_eq_true rfl)) dL_law_942 ⟨by show cells + 2 + 0 ≤ 649553; omega, by show slots + 12 + 0 ≤ 7063476; omega⟩) hP hD hS hA (fun H locs hP hD hS => ?_)
  refine lv_iload hx hb dL_law_945 (lv_at hl 1 rfl) ?_
  refine lv_icmp_eq (tgt := 952) hx hb dL_law_947 (by decide) (fun _ => ?_) (fun hz3 => absurd hth hz3)
  refine lv_iload hx hb dL_law_952 (lv_at hl 1 rfl) ?_
  refine lv_if_ne (tgt := 969) hx hb dL_law_954 (by decide) (fun hr0 => ?_) (fun hr0 => ?_)
  · refine lv_goto (tgt := 2656) hx hb dL_law_969 (by decide) ?_
    refine W.widen (k := cells + 10) (n := slots + 60) (by omega) (by omega) ?_
    exact kk _ _ _ _ _ _ _ hI1 hP hD hS (lv_sub hl [2, 3, 4, 5, 6, 7] rfl)
  · obtain ⟨ho, hRr⟩ := hout hr0
    subst ho
    refine lv_aload_n hx hb dL_law_957 rfl (lv_at hl 5 rfl) ?_
    refine lv_iconst (v := 0) hx hb dL_law_958 (by decide) ?_
    refine va_lald hx hb hK.1 hP 0 2 rfl rfl (sg_inb_s (i := 0) (n := 1) (by decide)) dL_law_959 ?_
    refine lv_iload hx hb dL_law_960 (lv_at hl 0 rfl) ?_
    refine lv_i2l (v := r1.toInt64) hx hb dL_law_962 rfl ?_
    refine W.lcmp hx hb dL_law_963 ?_
    refine lv_if_eq (tgt := 969) hx hb dL_law_964 (by decide) (fun _ => ?_) (fun hz4 => absurd (by first | exact sg_cmp64 | exact sg_cmpB0 hb1 | exact sg_cmpB1 hb1) hz4)
    refine lv_goto (tgt := 2656) hx hb dL_law_969 (by decide) ?_
    refine W.widen (k := cells + 10) (n := slots + 60) (by omega) (by omega) ?_
    exact kk _ _ _ _ _ _ _ hI1 hP hD hS (lv_sub hl [2, 3, 4, 5, 6, 7] rfl)
set_option maxRecDepth 100000 in
set_option maxHeartbeats 4000000 in
theorem lw_case11 {p : Program} {l : Launch} {e : Env} {s : State} {m : MethodId} {below : List Frame} {meth : Method} {c : Code} {b L : Nat} {xs : Nat → Int32} {D : va_G} {cA : Nat → ClassId} {ax am : Nat → Nat} {qo qe N : Nat} {I : sg_St → sg_St → Prop} {Q : State → Prop} {cells slots : Nat} {H : Heap} {locs : List Loc} {ls : Array Slot} {x5 : Int32} {u v : sg_St} {o : Nat → Int64} {od : Nat → UInt64} (hlt : l.stackTraces = false) (C0 : sg_LA p s m meth c b L xs D cA) (hB : ∃ (R : (Nat ⊕ Int32) × sg_St) (r1 : Int32) (v1 : sg_St), fX5_repair N u (xs (x5 + 1).toNatClampNeg) = some R ∧ fX6_repair N v (xs (x5 + 1).toNatClampNeg) = some (r1, v1) ∧ sg_Rel I [5, 0] R r1 v1) (hv1 : vp_in (x5 + 1) L) (hP : va_P D vwCl (sg_WW cA ax am qo qe u v o od) H) (hD : va_D (fun q : Nat => s.heap.size ≤ q) (sg_WW cA ax am qo qe u v o od)) (hS : va_S (fun q : Nat => s.heap.size ≤ q) s.heap H locs) (hl : lv_has ls 9 [(0, .ref b), (1, .ref (ax 0)), (2, .ref (am 0)), (3, .ref qo), (4, .ref qe), (5, .int x5)]) (hcs : cells + 10 ≤ 649553 ∧ slots + 60 ≤ 7063476) (kk : ∀ (u' v' : sg_St) (o' : Nat → Int64) (od' : Nat → UInt64) (H : Heap) (locs : List Loc) (ls : Array Slot), I u' v' → va_P D vwCl (sg_WW cA ax am qo qe u' v' o' od') H → va_D (fun q : Nat => s.heap.size ≤ q) (sg_WW cA ax am qo qe u' v' o' od') → va_S (fun q : Nat => s.heap.size ≤ q) s.heap H locs → lv_has ls 9 [(0, .ref b), (1, .ref (ax 0)), (2, .ref (am 0)), (3, .ref qo), (4, .ref qe), (5, .int x5)] → W p l e room_1 s m #[Value.ref b] below meth c H locs (cells + 10) (slots + 60) Q (F0 m 2656 ls [])) : W p l e room_1 s m #[Value.ref b] below meth c H locs cells slots Q (F0 m 972 ls []) := by
  obtain ⟨hx, hb, hr, hml, hown, hts, hX, hbl, hK, hT, hN, hlocks⟩ := C0
  have hA : ∀ q : Nat, s.heap.size ≤ q → (fun q : Nat => s.heap.size ≤ q) q := fun _ h => h
  have hbA : ¬ (fun q : Nat => s.heap.size ≤ q) b := Nat.not_le.mpr hbl
  obtain ⟨R, r1, v1, hf1, hf2, hRel⟩ := hB
  have hR9 : ∀ k t, R = (.inl k, t) → k ∈ [5, 0] := fun k t e9 => sg_Rel_in hRel e9
  refine lv_aload_n hx hb dL_law_972 rfl (lv_at hl 1 rfl) ?_
  refine lv_aload_n hx hb dL_law_973 rfl (lv_at hl 0 rfl) ?_
  refine lv_iload hx hb dL_law_974 (lv_at hl 5 rfl) ?_
  refine lv_iconst (v := 1) hx hb dL_law_976 (by decide) ?_
  refine lv_iadd hx hb dL_law_977 ?_
  refine va_sld hx hb hX hbl hbA hS hv1 dL_law_978 ?_
  refine lv_aload_n hx hb dL_law_979 rfl (lv_at hl 3 rfl) ?_
  refine sg_hw (vx_runSW (As := [.ref (ax 0), .int (xs (x5 + 1).toNatClampNeg), .ref qo]) (rest := []) ⟨hx, hb, hml, hown, hts⟩ (c_L_repair l hlt D cA ax qo o N u _ R hf1 hR9 _) (vx_cwSW (hh := [(0, 16, 19, 25), (0, 16, 22, 15)]) 3 hts gL_law_L_repair rfl rfl rfl (by decide +kernel) ⟨Nat.le_of_ble_eq_true rfl, Nat.le_of_ble_eq_true rfl⟩) (sg_preL (w0 := sg_WL cA ax qo u o) hK (hP.sub [0, 2, 3, 4, 5, 6, 7, 8, 9, 10, 11, 12, 13, 14, 15, 16, 17, 18] rfl) (hD.sub [0, 2, 3, 4, 5, 6, 7, 8, 9, 10, 11, 12, 13, 14, 15, 16, 17, 18] (by decide) rfl) hT hN hS hA) rfl rfl hl.1 rfl (lv_room (Nat.le_of_ble_eq_true rfl)) dL_law_980 ⟨by show cells + 2 ≤ 649553; omega, by show slots + 12 ≤ 7063476; omega⟩) hP hD hS hA (fun r u1 o1 H locs hlp hP hD hS => ?_)
  obtain ⟨hth, hI1, hout⟩ := sg_agree (by decide) hRel hlp
  refine lv_istore (lv' := [(6, .int r), (0, .ref b), (1, .ref (ax 0)), (2, .ref (am 0)), (3, .ref qo), (4, .ref qe), (5, .int x5)]) hx hb dL_law_983 hl (by decide) rfl (fun ls hl => ?_)
  refine lv_aload_n hx hb dL_law_985 rfl (lv_at hl 3 rfl) ?_
  refine lv_aload_n hx hb dL_law_986 rfl (lv_at hl 1 rfl) ?_
  refine lv_iload hx hb dL_law_987 (lv_at hl 6 rfl) ?_
  refine lv_iconst (v := 1) hx hb dL_law_989 (by decide) ?_
  refine lv_iadd hx hb dL_law_990 ?_
  refine va_sld hx hb hX hbl hbA hS hv1 dL_law_991 ?_
  refine sg_mi (va_runV (As := [.int (xs (x5 + 1).toNatClampNeg)]) (rest := []) ⟨hx, hb, hml, hown, hts⟩ (c_X6_repair l D cA am N _ _ _ _ hf2 _) (cwV 1 hts gL_law_X6_repair rfl rfl rfl (by decide +kernel) ⟨Nat.le_of_ble_eq_true rfl, Nat.le_of_ble_eq_true rfl⟩) (sg_pre (Wf := sg_WM cA am) hK (hP.sub [19, 20, 21, 22, 23, 24, 25, 26, 27, 28, 29, 30, 31, 32, 33, 34, 35, 36, 37, 38] rfl) (hD.sub [19, 20, 21, 22, 23, 24, 25, 26, 27, 28, 29, 30, 31, 32, 33, 34, 35, 36, 37, 38] (by decide) rfl) (ci := 8) (q0 := 0) rfl rfl) rfl rfl hl.1 rfl (lv_room (Nat.le_of_ble_eq_true rfl)) dL_law_992 ⟨by show cells + 2 + 0 ≤ 649553; omega, by show slots + 12 + 0 ≤ 7063476; omega⟩) hP hD hS hA (fun H locs hP hD hS => ?_)
  refine lv_istore (lv' := [(7, .int r1), (6, .int r), (0, .ref b), (1, .ref (ax 0)), (2, .ref (am 0)), (3, .ref qo), (4, .ref qe), (5, .int x5)]) hx hb dL_law_995 hl (by decide) rfl (fun ls hl => ?_)
  refine lv_aload_n hx hb dL_law_997 rfl (lv_at hl 4 rfl) ?_
  refine sg_mi (va_runV (As := []) (rest := []) ⟨hx, hb, hml, hown, hts⟩ (c_X6_thrown l D cA am N v1 (v1 0 0) rfl _) (cwV 0 hts gL_law_X6_thrown rfl rfl rfl (by decide +kernel) ⟨Nat.le_of_ble_eq_true rfl, Nat.le_of_ble_eq_true rfl⟩) (sg_pre (Wf := sg_WM cA am) hK (hP.sub [19, 20, 21, 22, 23, 24, 25, 26, 27, 28, 29, 30, 31, 32, 33, 34, 35, 36, 37, 38] rfl) (hD.sub [19, 20, 21, 22, 23, 24, 25, 26, 27, 28, 29, 30, 31, 32, 33, 34, 35, 36, 37, 38] (by decide) rfl) (ci := 8) (q0 := 0) rfl rfl) rfl rfl hl.1 rfl (lv_room (Nat.le_of_ble_eq_true rfl)) dL_law_998 ⟨by show cells + 2 + 0 ≤ 649553; omega, by show slots + 12 + 0 ≤ 7063476; omega⟩) hP hD hS hA (fun H locs hP hD hS => ?_)
  refine lv_iload hx hb dL_law_1001 (lv_at hl 1 rfl) ?_
  refine lv_icmp_eq (tgt := 1008) hx hb dL_law_1003 (by decide) (fun _ => ?_) (fun hz3 => absurd hth hz3)
  refine lv_iload hx hb dL_law_1008 (lv_at hl 1 rfl) ?_
  refine lv_if_ne (tgt := 1032) hx hb dL_law_1010 (by decide) (fun hr0 => ?_) (fun hr0 => ?_)
  · refine lv_goto (tgt := 2656) hx hb dL_law_1032 (by decide) ?_
    refine W.widen (k := cells + 10) (n := slots + 60) (by omega) (by omega) ?_
    exact kk _ _ _ _ _ _ _ hI1 hP hD hS (lv_sub hl [2, 3, 4, 5, 6, 7] rfl)
  · obtain ⟨ho, hRr⟩ := hout hr0
    subst ho
    refine lv_aload_n hx hb dL_law_1013 rfl (lv_at hl 5 rfl) ?_
    refine lv_iconst (v := 0) hx hb dL_law_1014 (by decide) ?_
    refine va_lald hx hb hK.1 hP 0 2 rfl rfl (sg_inb_s (i := 0) (n := 1) (by decide)) dL_law_1015 ?_
    refine lv_iload hx hb dL_law_1016 (lv_at hl 0 rfl) ?_
    refine lv_if_eq (tgt := 1025) hx hb dL_law_1018 (by decide) (fun hb1 => ?_) (fun hb1 => ?_)
    · refine lv_lconst (v := 0) hx hb dL_law_1025 (by decide) ?_
      refine W.lcmp hx hb dL_law_1026 ?_
      refine lv_if_eq (tgt := 1032) hx hb dL_law_1027 (by decide) (fun _ => ?_) (fun hz4 => absurd (by first | exact sg_cmp64 | exact sg_cmpB0 hb1 | exact sg_cmpB1 hb1) hz4)
      refine lv_goto (tgt := 2656) hx hb dL_law_1032 (by decide) ?_
      refine W.widen (k := cells + 10) (n := slots + 60) (by omega) (by omega) ?_
      exact kk _ _ _ _ _ _ _ hI1 hP hD hS (lv_sub hl [2, 3, 4, 5, 6, 7] rfl)
    · refine lv_lconst (v := 1) hx hb dL_law_1021 (by decide) ?_
      refine lv_goto (tgt := 1026) hx hb dL_law_1022 (by decide) ?_
      refine W.lcmp hx hb dL_law_1026 ?_
      refine lv_if_eq (tgt := 1032) hx hb dL_law_1027 (by decide) (fun _ => ?_) (fun hz4 => absurd (by first | exact sg_cmp64 | exact sg_cmpB0 hb1 | exact sg_cmpB1 hb1) hz4)
      refine lv_goto (tgt := 2656) hx hb dL_law_1032 (by decide) ?_
      refine W.widen (k := cells + 10) (n := slots + 60) (by omega) (by omega) ?_
      exact kk _ _ _ _ _ _ _ hI1 hP hD hS (lv_sub hl [2, 3, 4, 5, 6, 7] rfl)
set_option maxRecDepth 100000 in
set_option maxHeartbeats 4000000 in
theorem lw_case12 {p : Program} {l : Launch} {e : Env} {s : State} {m : MethodId} {below : List Frame} {meth : Method} {c : Code} {b L : Nat} {xs : Nat → Int32} {D : va_G} {cA : Nat → ClassId} {ax am : Nat → Nat} {qo qe N : Nat} {I : sg_St → sg_St → Prop} {Q : State → Prop} {cells slots : Nat} {H : Heap} {locs : List Loc} {ls : Array Slot} {x5 : Int32} {u v : sg_St} {o : Nat → Int64} {od : Nat → UInt64} (hlt : l.stackTraces = false) (C0 : sg_LA p s m meth c b L xs D cA) (hB : ∃ (R : (Nat ⊕ Int32) × sg_St) (r1 : Int32) (v1 : sg_St), fX5_reset N u (xs (x5 + 1).toNatClampNeg) = some R ∧ fX6_reset N v (xs (x5 + 1).toNatClampNeg) = some (r1, v1) ∧ sg_Rel I [5, 4, 0] R r1 v1) (hv1 : vp_in (x5 + 1) L) (hP : va_P D vwCl (sg_WW cA ax am qo qe u v o od) H) (hD : va_D (fun q : Nat => s.heap.size ≤ q) (sg_WW cA ax am qo qe u v o od)) (hS : va_S (fun q : Nat => s.heap.size ≤ q) s.heap H locs) (hl : lv_has ls 9 [(0, .ref b), (1, .ref (ax 0)), (2, .ref (am 0)), (3, .ref qo), (4, .ref qe), (5, .int x5)]) (hcs : cells + 10 ≤ 649553 ∧ slots + 60 ≤ 7063476) (kk : ∀ (u' v' : sg_St) (o' : Nat → Int64) (od' : Nat → UInt64) (H : Heap) (locs : List Loc) (ls : Array Slot), I u' v' → va_P D vwCl (sg_WW cA ax am qo qe u' v' o' od') H → va_D (fun q : Nat => s.heap.size ≤ q) (sg_WW cA ax am qo qe u' v' o' od') → va_S (fun q : Nat => s.heap.size ≤ q) s.heap H locs → lv_has ls 9 [(0, .ref b), (1, .ref (ax 0)), (2, .ref (am 0)), (3, .ref qo), (4, .ref qe), (5, .int x5)] → W p l e room_1 s m #[Value.ref b] below meth c H locs (cells + 10) (slots + 60) Q (F0 m 2656 ls [])) : W p l e room_1 s m #[Value.ref b] below meth c H locs cells slots Q (F0 m 1035 ls []) := by
  obtain ⟨hx, hb, hr, hml, hown, hts, hX, hbl, hK, hT, hN, hlocks⟩ := C0
  have hA : ∀ q : Nat, s.heap.size ≤ q → (fun q : Nat => s.heap.size ≤ q) q := fun _ h => h
  have hbA : ¬ (fun q : Nat => s.heap.size ≤ q) b := Nat.not_le.mpr hbl
  obtain ⟨R, r1, v1, hf1, hf2, hRel⟩ := hB
  have hR9 : ∀ k t, R = (.inl k, t) → k ∈ [5, 4, 0] := fun k t e9 => sg_Rel_in hRel e9
  refine lv_aload_n hx hb dL_law_1035 rfl (lv_at hl 1 rfl) ?_
  refine lv_aload_n hx hb dL_law_1036 rfl (lv_at hl 0 rfl) ?_
  refine lv_iload hx hb dL_law_1037 (lv_at hl 5 rfl) ?_
  refine lv_iconst (v := 1) hx hb dL_law_1039 (by decide) ?_
  refine lv_iadd hx hb dL_law_1040 ?_
  refine va_sld hx hb hX hbl hbA hS hv1 dL_law_1041 ?_
  refine lv_aload_n hx hb dL_law_1042 rfl (lv_at hl 3 rfl) ?_
  refine sg_hw (vx_runSW (As := [.ref (ax 0), .int (xs (x5 + 1).toNatClampNeg), .ref qo]) (rest := []) ⟨hx, hb, hml, hown, hts⟩ (c_L_reset l hlt D cA ax qo o N u _ R hf1 hR9 _) (vx_cwSW (hh := [(0, 9, 12, 25), (0, 9, 15, 30), (0, 9, 18, 15)]) 3 hts gL_law_L_reset rfl rfl rfl (by decide +kernel) ⟨Nat.le_of_ble_eq_true rfl, Nat.le_of_ble_eq_true rfl⟩) (sg_preL (w0 := sg_WL cA ax qo u o) hK (hP.sub [0, 2, 3, 4, 5, 6, 7, 8, 9, 10, 11, 12, 13, 14, 15, 16, 17, 18] rfl) (hD.sub [0, 2, 3, 4, 5, 6, 7, 8, 9, 10, 11, 12, 13, 14, 15, 16, 17, 18] (by decide) rfl) hT hN hS hA) rfl rfl hl.1 rfl (lv_room (Nat.le_of_ble_eq_true rfl)) dL_law_1043 ⟨by show cells + 2 ≤ 649553; omega, by show slots + 12 ≤ 7063476; omega⟩) hP hD hS hA (fun r u1 o1 H locs hlp hP hD hS => ?_)
  obtain ⟨hth, hI1, hout⟩ := sg_agree (by decide) hRel hlp
  refine lv_istore (lv' := [(6, .int r), (0, .ref b), (1, .ref (ax 0)), (2, .ref (am 0)), (3, .ref qo), (4, .ref qe), (5, .int x5)]) hx hb dL_law_1046 hl (by decide) rfl (fun ls hl => ?_)
  refine lv_aload_n hx hb dL_law_1048 rfl (lv_at hl 3 rfl) ?_
  refine lv_aload_n hx hb dL_law_1049 rfl (lv_at hl 1 rfl) ?_
  refine lv_iload hx hb dL_law_1050 (lv_at hl 6 rfl) ?_
  refine lv_iconst (v := 1) hx hb dL_law_1052 (by decide) ?_
  refine lv_iadd hx hb dL_law_1053 ?_
  refine va_sld hx hb hX hbl hbA hS hv1 dL_law_1054 ?_
  refine sg_mi (va_runV (As := [.int (xs (x5 + 1).toNatClampNeg)]) (rest := []) ⟨hx, hb, hml, hown, hts⟩ (c_X6_reset l D cA am N _ _ _ _ hf2 _) (cwV 1 hts gL_law_X6_reset rfl rfl rfl (by decide +kernel) ⟨Nat.le_of_ble_eq_true rfl, Nat.le_of_ble_eq_true rfl⟩) (sg_pre (Wf := sg_WM cA am) hK (hP.sub [19, 20, 21, 22, 23, 24, 25, 26, 27, 28, 29, 30, 31, 32, 33, 34, 35, 36, 37, 38] rfl) (hD.sub [19, 20, 21, 22, 23, 24, 25, 26, 27, 28, 29, 30, 31, 32, 33, 34, 35, 36, 37, 38] (by decide) rfl) (ci := 8) (q0 := 0) rfl rfl) rfl rfl hl.1 rfl (lv_room (Nat.le_of_ble_eq_true rfl)) dL_law_1055 ⟨by show cells + 2 + 0 ≤ 649553; omega, by show slots + 12 + 0 ≤ 7063476; omega⟩) hP hD hS hA (fun H locs hP hD hS => ?_)
  refine lv_istore (lv' := [(7, .int r1), (6, .int r), (0, .ref b), (1, .ref (ax 0)), (2, .ref (am 0)), (3, .ref qo), (4, .ref qe), (5, .int x5)]) hx hb dL_law_1058 hl (by decide) rfl (fun ls hl => ?_)
  refine lv_aload_n hx hb dL_law_1060 rfl (lv_at hl 4 rfl) ?_
  refine sg_mi (va_runV (As := []) (rest := []) ⟨hx, hb, hml, hown, hts⟩ (c_X6_thrown l D cA am N v1 (v1 0 0) rfl _) (cwV 0 hts gL_law_X6_thrown rfl rfl rfl (by decide +kernel) ⟨Nat.le_of_ble_eq_true rfl, Nat.le_of_ble_eq_true rfl⟩) (sg_pre (Wf := sg_WM cA am) hK (hP.sub [19, 20, 21, 22, 23, 24, 25, 26, 27, 28, 29, 30, 31, 32, 33, 34, 35, 36, 37, 38] rfl) (hD.sub [19, 20, 21, 22, 23, 24, 25, 26, 27, 28, 29, 30, 31, 32, 33, 34, 35, 36, 37, 38] (by decide) rfl) (ci := 8) (q0 := 0) rfl rfl) rfl rfl hl.1 rfl (lv_room (Nat.le_of_ble_eq_true rfl)) dL_law_1061 ⟨by show cells + 2 + 0 ≤ 649553; omega, by show slots + 12 + 0 ≤ 7063476; omega⟩) hP hD hS hA (fun H locs hP hD hS => ?_)
  refine lv_iload hx hb dL_law_1064 (lv_at hl 1 rfl) ?_
  refine lv_icmp_eq (tgt := 1071) hx hb dL_law_1066 (by decide) (fun _ => ?_) (fun hz3 => absurd hth hz3)
  refine lv_iload hx hb dL_law_1071 (lv_at hl 1 rfl) ?_
  refine lv_if_ne (tgt := 1088) hx hb dL_law_1073 (by decide) (fun hr0 => ?_) (fun hr0 => ?_)
  · refine lv_goto (tgt := 2656) hx hb dL_law_1088 (by decide) ?_
    refine W.widen (k := cells + 10) (n := slots + 60) (by omega) (by omega) ?_
    exact kk _ _ _ _ _ _ _ hI1 hP hD hS (lv_sub hl [2, 3, 4, 5, 6, 7] rfl)
  · obtain ⟨ho, hRr⟩ := hout hr0
    subst ho
    refine lv_aload_n hx hb dL_law_1076 rfl (lv_at hl 5 rfl) ?_
    refine lv_iconst (v := 0) hx hb dL_law_1077 (by decide) ?_
    refine va_lald hx hb hK.1 hP 0 2 rfl rfl (sg_inb_s (i := 0) (n := 1) (by decide)) dL_law_1078 ?_
    refine lv_iload hx hb dL_law_1079 (lv_at hl 0 rfl) ?_
    refine lv_i2l (v := r1.toInt64) hx hb dL_law_1081 rfl ?_
    refine W.lcmp hx hb dL_law_1082 ?_
    refine lv_if_eq (tgt := 1088) hx hb dL_law_1083 (by decide) (fun _ => ?_) (fun hz4 => absurd (by first | exact sg_cmp64 | exact sg_cmpB0 hb1 | exact sg_cmpB1 hb1) hz4)
    refine lv_goto (tgt := 2656) hx hb dL_law_1088 (by decide) ?_
    refine W.widen (k := cells + 10) (n := slots + 60) (by omega) (by omega) ?_
    exact kk _ _ _ _ _ _ _ hI1 hP hD hS (lv_sub hl [2, 3, 4, 5, 6, 7] rfl)
set_option maxRecDepth 100000 in
set_option maxHeartbeats 4000000 in
theorem lw_case13 {p : Program} {l : Launch} {e : Env} {s : State} {m : MethodId} {below : List Frame} {meth : Method} {c : Code} {b L : Nat} {xs : Nat → Int32} {D : va_G} {cA : Nat → ClassId} {ax am : Nat → Nat} {qo qe N : Nat} {I : sg_St → sg_St → Prop} {Q : State → Prop} {cells slots : Nat} {H : Heap} {locs : List Loc} {ls : Array Slot} {x5 : Int32} {u v : sg_St} {o : Nat → Int64} {od : Nat → UInt64} (hlt : l.stackTraces = false) (C0 : sg_LA p s m meth c b L xs D cA) (hB : ∃ (r1 : Int32) (u1 v1 : sg_St), fX5_nodes N u = some r1 ∧ fX6_nodes N v = some (r1, v1) ∧ I u1 v1 ∧ u1 = u) (hP : va_P D vwCl (sg_WW cA ax am qo qe u v o od) H) (hD : va_D (fun q : Nat => s.heap.size ≤ q) (sg_WW cA ax am qo qe u v o od)) (hS : va_S (fun q : Nat => s.heap.size ≤ q) s.heap H locs) (hl : lv_has ls 9 [(0, .ref b), (1, .ref (ax 0)), (2, .ref (am 0)), (3, .ref qo), (4, .ref qe), (5, .int x5)]) (hcs : cells + 10 ≤ 649553 ∧ slots + 60 ≤ 7063476) (kk : ∀ (u' v' : sg_St) (o' : Nat → Int64) (od' : Nat → UInt64) (H : Heap) (locs : List Loc) (ls : Array Slot), I u' v' → va_P D vwCl (sg_WW cA ax am qo qe u' v' o' od') H → va_D (fun q : Nat => s.heap.size ≤ q) (sg_WW cA ax am qo qe u' v' o' od') → va_S (fun q : Nat => s.heap.size ≤ q) s.heap H locs → lv_has ls 9 [(0, .ref b), (1, .ref (ax 0)), (2, .ref (am 0)), (3, .ref qo), (4, .ref qe), (5, .int x5)] → W p l e room_1 s m #[Value.ref b] below meth c H locs (cells + 10) (slots + 60) Q (F0 m 2656 ls [])) : W p l e room_1 s m #[Value.ref b] below meth c H locs cells slots Q (F0 m 1091 ls []) := by
  obtain ⟨hx, hb, hr, hml, hown, hts, hX, hbl, hK, hT, hN, hlocks⟩ := C0
  have hA : ∀ q : Nat, s.heap.size ≤ q → (fun q : Nat => s.heap.size ≤ q) q := fun _ h => h
  have hbA : ¬ (fun q : Nat => s.heap.size ≤ q) b := Nat.not_le.mpr hbl
  obtain ⟨r1, u1, v1, hf1, hf2, hI1, rfl⟩ := hB
  refine lv_aload_n hx hb dL_law_1091 rfl (lv_at hl 1 rfl) ?_
  refine sg_xx (va_runV (As := []) (rest := []) ⟨hx, hb, hml, hown, hts⟩ (c_X5_nodes l D cA ax N _ _ hf1 _) (cwV 0 hts gL_law_X5_nodes rfl rfl rfl (by decide +kernel) ⟨Nat.le_of_ble_eq_true rfl, Nat.le_of_ble_eq_true rfl⟩) (sg_pre (Wf := sg_WX cA ax) hK (hP.sub [2, 3, 4, 5, 6, 7, 8, 9, 10, 11, 12, 13, 14, 15, 16, 17, 18] rfl) (hD.sub [2, 3, 4, 5, 6, 7, 8, 9, 10, 11, 12, 13, 14, 15, 16, 17, 18] (by decide) rfl) (ci := 7) (q0 := 0) rfl rfl) rfl rfl hl.1 rfl (lv_room (Nat.le_of_ble_eq_true rfl)) dL_law_1092 ⟨by show cells + 0 ≤ 649553; omega, by show slots + 0 ≤ 7063476; omega⟩) hP hD hS hA (fun H locs hP hD hS => ?_)
  refine lv_aload_n hx hb dL_law_1095 rfl (lv_at hl 2 rfl) ?_
  refine sg_mi (va_runV (As := []) (rest := [.int r1]) ⟨hx, hb, hml, hown, hts⟩ (c_X6_nodes l D cA am N _ _ _ hf2 _) (cwV 0 hts gL_law_X6_nodes rfl rfl rfl (by decide +kernel) ⟨Nat.le_of_ble_eq_true rfl, Nat.le_of_ble_eq_true rfl⟩) (sg_pre (Wf := sg_WM cA am) hK (hP.sub [19, 20, 21, 22, 23, 24, 25, 26, 27, 28, 29, 30, 31, 32, 33, 34, 35, 36, 37, 38] rfl) (hD.sub [19, 20, 21, 22, 23, 24, 25, 26, 27, 28, 29, 30, 31, 32, 33, 34, 35, 36, 37, 38] (by decide) rfl) (ci := 8) (q0 := 0) rfl rfl) rfl rfl hl.1 rfl (lv_room (Nat.le_of_ble_eq_true rfl)) dL_law_1096 ⟨by show cells + 0 ≤ 649553; omega, by show slots + 0 ≤ 7063476; omega⟩) hP hD hS hA (fun H locs hP hD hS => ?_)
  refine lv_icmp_eq (tgt := 2656) hx hb dL_law_1099 (by decide) (fun _ => ?_) (fun hz3 => absurd rfl hz3)
  refine W.widen (k := cells + 10) (n := slots + 60) (by omega) (by omega) ?_
  exact kk _ _ _ _ _ _ _ hI1 hP hD hS (lv_sub hl [0, 1, 2, 3, 4, 5] rfl)
set_option maxRecDepth 100000 in
set_option maxHeartbeats 4000000 in
theorem lw_case14 {p : Program} {l : Launch} {e : Env} {s : State} {m : MethodId} {below : List Frame} {meth : Method} {c : Code} {b L : Nat} {xs : Nat → Int32} {D : va_G} {cA : Nat → ClassId} {ax am : Nat → Nat} {qo qe N : Nat} {I : sg_St → sg_St → Prop} {Q : State → Prop} {cells slots : Nat} {H : Heap} {locs : List Loc} {ls : Array Slot} {x5 : Int32} {u v : sg_St} {o : Nat → Int64} {od : Nat → UInt64} (hlt : l.stackTraces = false) (C0 : sg_LA p s m meth c b L xs D cA) (hB : ∃ (r1 : Int32) (u1 v1 : sg_St), fX5_lines N u = some r1 ∧ fX6_lines N v = some (r1, v1) ∧ I u1 v1 ∧ u1 = u) (hP : va_P D vwCl (sg_WW cA ax am qo qe u v o od) H) (hD : va_D (fun q : Nat => s.heap.size ≤ q) (sg_WW cA ax am qo qe u v o od)) (hS : va_S (fun q : Nat => s.heap.size ≤ q) s.heap H locs) (hl : lv_has ls 9 [(0, .ref b), (1, .ref (ax 0)), (2, .ref (am 0)), (3, .ref qo), (4, .ref qe), (5, .int x5)]) (hcs : cells + 10 ≤ 649553 ∧ slots + 60 ≤ 7063476) (kk : ∀ (u' v' : sg_St) (o' : Nat → Int64) (od' : Nat → UInt64) (H : Heap) (locs : List Loc) (ls : Array Slot), I u' v' → va_P D vwCl (sg_WW cA ax am qo qe u' v' o' od') H → va_D (fun q : Nat => s.heap.size ≤ q) (sg_WW cA ax am qo qe u' v' o' od') → va_S (fun q : Nat => s.heap.size ≤ q) s.heap H locs → lv_has ls 9 [(0, .ref b), (1, .ref (ax 0)), (2, .ref (am 0)), (3, .ref qo), (4, .ref qe), (5, .int x5)] → W p l e room_1 s m #[Value.ref b] below meth c H locs (cells + 10) (slots + 60) Q (F0 m 2656 ls [])) : W p l e room_1 s m #[Value.ref b] below meth c H locs cells slots Q (F0 m 1104 ls []) := by
  obtain ⟨hx, hb, hr, hml, hown, hts, hX, hbl, hK, hT, hN, hlocks⟩ := C0
  have hA : ∀ q : Nat, s.heap.size ≤ q → (fun q : Nat => s.heap.size ≤ q) q := fun _ h => h
  have hbA : ¬ (fun q : Nat => s.heap.size ≤ q) b := Nat.not_le.mpr hbl
  obtain ⟨r1, u1, v1, hf1, hf2, hI1, rfl⟩ := hB
  refine lv_aload_n hx hb dL_law_1104 rfl (lv_at hl 1 rfl) ?_
  refine sg_xx (va_runV (As := []) (rest := []) ⟨hx, hb, hml, hown, hts⟩ (c_X5_lines l D cA ax N _ _ hf1 _) (cwV 0 hts gL_law_X5_lines rfl rfl rfl (by decide +kernel) ⟨Nat.le_of_ble_eq_true rfl, Nat.le_of_ble_eq_true rfl⟩) (sg_pre (Wf := sg_WX cA ax) hK (hP.sub [2, 3, 4, 5, 6, 7, 8, 9, 10, 11, 12, 13, 14, 15, 16, 17, 18] rfl) (hD.sub [2, 3, 4, 5, 6, 7, 8, 9, 10, 11, 12, 13, 14, 15, 16, 17, 18] (by decide) rfl) (ci := 7) (q0 := 0) rfl rfl) rfl rfl hl.1 rfl (lv_room (Nat.le_of_ble_eq_true rfl)) dL_law_1105 ⟨by show cells + 0 ≤ 649553; omega, by show slots + 0 ≤ 7063476; omega⟩) hP hD hS hA (fun H locs hP hD hS => ?_)
  refine lv_aload_n hx hb dL_law_1108 rfl (lv_at hl 2 rfl) ?_
  refine sg_mi (va_runV (As := []) (rest := [.int r1]) ⟨hx, hb, hml, hown, hts⟩ (c_X6_lines l D cA am N _ _ _ hf2 _) (cwV 0 hts gL_law_X6_lines rfl rfl rfl (by decide +kernel) ⟨Nat.le_of_ble_eq_true rfl, Nat.le_of_ble_eq_true rfl⟩) (sg_pre (Wf := sg_WM cA am) hK (hP.sub [19, 20, 21, 22, 23, 24, 25, 26, 27, 28, 29, 30, 31, 32, 33, 34, 35, 36, 37, 38] rfl) (hD.sub [19, 20, 21, 22, 23, 24, 25, 26, 27, 28, 29, 30, 31, 32, 33, 34, 35, 36, 37, 38] (by decide) rfl) (ci := 8) (q0 := 0) rfl rfl) rfl rfl hl.1 rfl (lv_room (Nat.le_of_ble_eq_true rfl)) dL_law_1109 ⟨by show cells + 0 ≤ 649553; omega, by show slots + 0 ≤ 7063476; omega⟩) hP hD hS hA (fun H locs hP hD hS => ?_)
  refine lv_icmp_eq (tgt := 2656) hx hb dL_law_1112 (by decide) (fun _ => ?_) (fun hz3 => absurd rfl hz3)
  refine W.widen (k := cells + 10) (n := slots + 60) (by omega) (by omega) ?_
  exact kk _ _ _ _ _ _ _ hI1 hP hD hS (lv_sub hl [0, 1, 2, 3, 4, 5] rfl)
set_option maxRecDepth 100000 in
set_option maxHeartbeats 4000000 in
theorem lw_case15 {p : Program} {l : Launch} {e : Env} {s : State} {m : MethodId} {below : List Frame} {meth : Method} {c : Code} {b L : Nat} {xs : Nat → Int32} {D : va_G} {cA : Nat → ClassId} {ax am : Nat → Nat} {qo qe N : Nat} {I : sg_St → sg_St → Prop} {Q : State → Prop} {cells slots : Nat} {H : Heap} {locs : List Loc} {ls : Array Slot} {x5 : Int32} {u v : sg_St} {o : Nat → Int64} {od : Nat → UInt64} (hlt : l.stackTraces = false) (C0 : sg_LA p s m meth c b L xs D cA) (hB : ∃ (R : (Nat ⊕ Int32) × sg_St) (r1 : Int32) (v1 : sg_St), fX5_isSource N u (xs (x5 + 1).toNatClampNeg) = some R ∧ fX6_isSource N v (xs (x5 + 1).toNatClampNeg) = some (r1, v1) ∧ sg_Rel I [5] R r1 v1) (hv1 : vp_in (x5 + 1) L) (hP : va_P D vwCl (sg_WW cA ax am qo qe u v o od) H) (hD : va_D (fun q : Nat => s.heap.size ≤ q) (sg_WW cA ax am qo qe u v o od)) (hS : va_S (fun q : Nat => s.heap.size ≤ q) s.heap H locs) (hl : lv_has ls 9 [(0, .ref b), (1, .ref (ax 0)), (2, .ref (am 0)), (3, .ref qo), (4, .ref qe), (5, .int x5)]) (hcs : cells + 10 ≤ 649553 ∧ slots + 60 ≤ 7063476) (kk : ∀ (u' v' : sg_St) (o' : Nat → Int64) (od' : Nat → UInt64) (H : Heap) (locs : List Loc) (ls : Array Slot), I u' v' → va_P D vwCl (sg_WW cA ax am qo qe u' v' o' od') H → va_D (fun q : Nat => s.heap.size ≤ q) (sg_WW cA ax am qo qe u' v' o' od') → va_S (fun q : Nat => s.heap.size ≤ q) s.heap H locs → lv_has ls 9 [(0, .ref b), (1, .ref (ax 0)), (2, .ref (am 0)), (3, .ref qo), (4, .ref qe), (5, .int x5)] → W p l e room_1 s m #[Value.ref b] below meth c H locs (cells + 10) (slots + 60) Q (F0 m 2656 ls [])) : W p l e room_1 s m #[Value.ref b] below meth c H locs cells slots Q (F0 m 1117 ls []) := by
  obtain ⟨hx, hb, hr, hml, hown, hts, hX, hbl, hK, hT, hN, hlocks⟩ := C0
  have hA : ∀ q : Nat, s.heap.size ≤ q → (fun q : Nat => s.heap.size ≤ q) q := fun _ h => h
  have hbA : ¬ (fun q : Nat => s.heap.size ≤ q) b := Nat.not_le.mpr hbl
  obtain ⟨R, r1, v1, hf1, hf2, hRel⟩ := hB
  have hR9 : ∀ k t, R = (.inl k, t) → k ∈ [5] := fun k t e9 => sg_Rel_in hRel e9
  refine lv_aload_n hx hb dL_law_1117 rfl (lv_at hl 1 rfl) ?_
  refine lv_aload_n hx hb dL_law_1118 rfl (lv_at hl 0 rfl) ?_
  refine lv_iload hx hb dL_law_1119 (lv_at hl 5 rfl) ?_
  refine lv_iconst (v := 1) hx hb dL_law_1121 (by decide) ?_
  refine lv_iadd hx hb dL_law_1122 ?_
  refine va_sld hx hb hX hbl hbA hS hv1 dL_law_1123 ?_
  refine lv_aload_n hx hb dL_law_1124 rfl (lv_at hl 3 rfl) ?_
  refine sg_hw (vx_runSW (As := [.ref (ax 0), .int (xs (x5 + 1).toNatClampNeg), .ref qo]) (rest := []) ⟨hx, hb, hml, hown, hts⟩ (c_L_isSource l hlt D cA ax qo o N u _ R hf1 hR9 _) (vx_cwSW (hh := [(0, 16, 19, 25)]) 3 hts gL_law_L_isSource rfl rfl rfl (by decide +kernel) ⟨Nat.le_of_ble_eq_true rfl, Nat.le_of_ble_eq_true rfl⟩) (sg_preL (w0 := sg_WL cA ax qo u o) hK (hP.sub [0, 2, 3, 4, 5, 6, 7, 8, 9, 10, 11, 12, 13, 14, 15, 16, 17, 18] rfl) (hD.sub [0, 2, 3, 4, 5, 6, 7, 8, 9, 10, 11, 12, 13, 14, 15, 16, 17, 18] (by decide) rfl) hT hN hS hA) rfl rfl hl.1 rfl (lv_room (Nat.le_of_ble_eq_true rfl)) dL_law_1125 ⟨by show cells + 1 ≤ 649553; omega, by show slots + 6 ≤ 7063476; omega⟩) hP hD hS hA (fun r u1 o1 H locs hlp hP hD hS => ?_)
  obtain ⟨hth, hI1, hout⟩ := sg_agree (by decide) hRel hlp
  refine lv_istore (lv' := [(6, .int r), (0, .ref b), (1, .ref (ax 0)), (2, .ref (am 0)), (3, .ref qo), (4, .ref qe), (5, .int x5)]) hx hb dL_law_1128 hl (by decide) rfl (fun ls hl => ?_)
  refine lv_aload_n hx hb dL_law_1130 rfl (lv_at hl 3 rfl) ?_
  refine lv_aload_n hx hb dL_law_1131 rfl (lv_at hl 1 rfl) ?_
  refine lv_iload hx hb dL_law_1132 (lv_at hl 6 rfl) ?_
  refine lv_iconst (v := 1) hx hb dL_law_1134 (by decide) ?_
  refine lv_iadd hx hb dL_law_1135 ?_
  refine va_sld hx hb hX hbl hbA hS hv1 dL_law_1136 ?_
  refine sg_mi (va_runV (As := [.int (xs (x5 + 1).toNatClampNeg)]) (rest := []) ⟨hx, hb, hml, hown, hts⟩ (c_X6_isSource l D cA am N _ _ _ _ hf2 _) (cwV 1 hts gL_law_X6_isSource rfl rfl rfl (by decide +kernel) ⟨Nat.le_of_ble_eq_true rfl, Nat.le_of_ble_eq_true rfl⟩) (sg_pre (Wf := sg_WM cA am) hK (hP.sub [19, 20, 21, 22, 23, 24, 25, 26, 27, 28, 29, 30, 31, 32, 33, 34, 35, 36, 37, 38] rfl) (hD.sub [19, 20, 21, 22, 23, 24, 25, 26, 27, 28, 29, 30, 31, 32, 33, 34, 35, 36, 37, 38] (by decide) rfl) (ci := 8) (q0 := 0) rfl rfl) rfl rfl hl.1 rfl (lv_room (Nat.le_of_ble_eq_true rfl)) dL_law_1137 ⟨by show cells + 1 + 0 ≤ 649553; omega, by show slots + 6 + 0 ≤ 7063476; omega⟩) hP hD hS hA (fun H locs hP hD hS => ?_)
  refine lv_istore (lv' := [(7, .int r1), (6, .int r), (0, .ref b), (1, .ref (ax 0)), (2, .ref (am 0)), (3, .ref qo), (4, .ref qe), (5, .int x5)]) hx hb dL_law_1140 hl (by decide) rfl (fun ls hl => ?_)
  refine lv_aload_n hx hb dL_law_1142 rfl (lv_at hl 4 rfl) ?_
  refine sg_mi (va_runV (As := []) (rest := []) ⟨hx, hb, hml, hown, hts⟩ (c_X6_thrown l D cA am N v1 (v1 0 0) rfl _) (cwV 0 hts gL_law_X6_thrown rfl rfl rfl (by decide +kernel) ⟨Nat.le_of_ble_eq_true rfl, Nat.le_of_ble_eq_true rfl⟩) (sg_pre (Wf := sg_WM cA am) hK (hP.sub [19, 20, 21, 22, 23, 24, 25, 26, 27, 28, 29, 30, 31, 32, 33, 34, 35, 36, 37, 38] rfl) (hD.sub [19, 20, 21, 22, 23, 24, 25, 26, 27, 28, 29, 30, 31, 32, 33, 34, 35, 36, 37, 38] (by decide) rfl) (ci := 8) (q0 := 0) rfl rfl) rfl rfl hl.1 rfl (lv_room (Nat.le_of_ble_eq_true rfl)) dL_law_1143 ⟨by show cells + 1 + 0 ≤ 649553; omega, by show slots + 6 + 0 ≤ 7063476; omega⟩) hP hD hS hA (fun H locs hP hD hS => ?_)
  refine lv_iload hx hb dL_law_1146 (lv_at hl 1 rfl) ?_
  refine lv_icmp_eq (tgt := 1153) hx hb dL_law_1148 (by decide) (fun _ => ?_) (fun hz3 => absurd hth hz3)
  refine lv_iload hx hb dL_law_1153 (lv_at hl 1 rfl) ?_
  refine lv_if_ne (tgt := 1177) hx hb dL_law_1155 (by decide) (fun hr0 => ?_) (fun hr0 => ?_)
  · refine lv_goto (tgt := 2656) hx hb dL_law_1177 (by decide) ?_
    refine W.widen (k := cells + 10) (n := slots + 60) (by omega) (by omega) ?_
    exact kk _ _ _ _ _ _ _ hI1 hP hD hS (lv_sub hl [2, 3, 4, 5, 6, 7] rfl)
  · obtain ⟨ho, hRr⟩ := hout hr0
    subst ho
    refine lv_aload_n hx hb dL_law_1158 rfl (lv_at hl 5 rfl) ?_
    refine lv_iconst (v := 0) hx hb dL_law_1159 (by decide) ?_
    refine va_lald hx hb hK.1 hP 0 2 rfl rfl (sg_inb_s (i := 0) (n := 1) (by decide)) dL_law_1160 ?_
    refine lv_iload hx hb dL_law_1161 (lv_at hl 0 rfl) ?_
    refine lv_if_eq (tgt := 1170) hx hb dL_law_1163 (by decide) (fun hb1 => ?_) (fun hb1 => ?_)
    · refine lv_lconst (v := 0) hx hb dL_law_1170 (by decide) ?_
      refine W.lcmp hx hb dL_law_1171 ?_
      refine lv_if_eq (tgt := 1177) hx hb dL_law_1172 (by decide) (fun _ => ?_) (fun hz4 => absurd (by first | exact sg_cmp64 | exact sg_cmpB0 hb1 | exact sg_cmpB1 hb1) hz4)
      refine lv_goto (tgt := 2656) hx hb dL_law_1177 (by decide) ?_
      refine W.widen (k := cells + 10) (n := slots + 60) (by omega) (by omega) ?_
      exact kk _ _ _ _ _ _ _ hI1 hP hD hS (lv_sub hl [2, 3, 4, 5, 6, 7] rfl)
    · refine lv_lconst (v := 1) hx hb dL_law_1166 (by decide) ?_
      refine lv_goto (tgt := 1171) hx hb dL_law_1167 (by decide) ?_
      refine W.lcmp hx hb dL_law_1171 ?_
      refine lv_if_eq (tgt := 1177) hx hb dL_law_1172 (by decide) (fun _ => ?_) (fun hz4 => absurd (by first | exact sg_cmp64 | exact sg_cmpB0 hb1 | exact sg_cmpB1 hb1) hz4)
      refine lv_goto (tgt := 2656) hx hb dL_law_1177 (by decide) ?_
      refine W.widen (k := cells + 10) (n := slots + 60) (by omega) (by omega) ?_
      exact kk _ _ _ _ _ _ _ hI1 hP hD hS (lv_sub hl [2, 3, 4, 5, 6, 7] rfl)
set_option maxRecDepth 100000 in
set_option maxHeartbeats 4000000 in
theorem lw_case16 {p : Program} {l : Launch} {e : Env} {s : State} {m : MethodId} {below : List Frame} {meth : Method} {c : Code} {b L : Nat} {xs : Nat → Int32} {D : va_G} {cA : Nat → ClassId} {ax am : Nat → Nat} {qo qe N : Nat} {I : sg_St → sg_St → Prop} {Q : State → Prop} {cells slots : Nat} {H : Heap} {locs : List Loc} {ls : Array Slot} {x5 : Int32} {u v : sg_St} {o : Nat → Int64} {od : Nat → UInt64} (hlt : l.stackTraces = false) (C0 : sg_LA p s m meth c b L xs D cA) (hB : ∃ (R : (Nat ⊕ Int32) × sg_St) (r1 : Int32) (v1 : sg_St), fX5_loadOf N u (xs (x5 + 1).toNatClampNeg) = some R ∧ fX6_loadOf N v (xs (x5 + 1).toNatClampNeg) = some (r1, v1) ∧ sg_Rel I [5] R r1 v1) (hv1 : vp_in (x5 + 1) L) (hP : va_P D vwCl (sg_WW cA ax am qo qe u v o od) H) (hD : va_D (fun q : Nat => s.heap.size ≤ q) (sg_WW cA ax am qo qe u v o od)) (hS : va_S (fun q : Nat => s.heap.size ≤ q) s.heap H locs) (hl : lv_has ls 9 [(0, .ref b), (1, .ref (ax 0)), (2, .ref (am 0)), (3, .ref qo), (4, .ref qe), (5, .int x5)]) (hcs : cells + 10 ≤ 649553 ∧ slots + 60 ≤ 7063476) (kk : ∀ (u' v' : sg_St) (o' : Nat → Int64) (od' : Nat → UInt64) (H : Heap) (locs : List Loc) (ls : Array Slot), I u' v' → va_P D vwCl (sg_WW cA ax am qo qe u' v' o' od') H → va_D (fun q : Nat => s.heap.size ≤ q) (sg_WW cA ax am qo qe u' v' o' od') → va_S (fun q : Nat => s.heap.size ≤ q) s.heap H locs → lv_has ls 9 [(0, .ref b), (1, .ref (ax 0)), (2, .ref (am 0)), (3, .ref qo), (4, .ref qe), (5, .int x5)] → W p l e room_1 s m #[Value.ref b] below meth c H locs (cells + 10) (slots + 60) Q (F0 m 2656 ls [])) : W p l e room_1 s m #[Value.ref b] below meth c H locs cells slots Q (F0 m 1180 ls []) := by
  obtain ⟨hx, hb, hr, hml, hown, hts, hX, hbl, hK, hT, hN, hlocks⟩ := C0
  have hA : ∀ q : Nat, s.heap.size ≤ q → (fun q : Nat => s.heap.size ≤ q) q := fun _ h => h
  have hbA : ¬ (fun q : Nat => s.heap.size ≤ q) b := Nat.not_le.mpr hbl
  obtain ⟨R, r1, v1, hf1, hf2, hRel⟩ := hB
  have hR9 : ∀ k t, R = (.inl k, t) → k ∈ [5] := fun k t e9 => sg_Rel_in hRel e9
  refine lv_aload_n hx hb dL_law_1180 rfl (lv_at hl 1 rfl) ?_
  refine lv_aload_n hx hb dL_law_1181 rfl (lv_at hl 0 rfl) ?_
  refine lv_iload hx hb dL_law_1182 (lv_at hl 5 rfl) ?_
  refine lv_iconst (v := 1) hx hb dL_law_1184 (by decide) ?_
  refine lv_iadd hx hb dL_law_1185 ?_
  refine va_sld hx hb hX hbl hbA hS hv1 dL_law_1186 ?_
  refine lv_aload_n hx hb dL_law_1187 rfl (lv_at hl 3 rfl) ?_
  refine sg_hw (vx_runSW (As := [.ref (ax 0), .int (xs (x5 + 1).toNatClampNeg), .ref qo]) (rest := []) ⟨hx, hb, hml, hown, hts⟩ (c_L_loadOf l hlt D cA ax qo o N u _ R hf1 hR9 _) (vx_cwSW (hh := [(0, 9, 12, 25)]) 3 hts gL_law_L_loadOf rfl rfl rfl (by decide +kernel) ⟨Nat.le_of_ble_eq_true rfl, Nat.le_of_ble_eq_true rfl⟩) (sg_preL (w0 := sg_WL cA ax qo u o) hK (hP.sub [0, 2, 3, 4, 5, 6, 7, 8, 9, 10, 11, 12, 13, 14, 15, 16, 17, 18] rfl) (hD.sub [0, 2, 3, 4, 5, 6, 7, 8, 9, 10, 11, 12, 13, 14, 15, 16, 17, 18] (by decide) rfl) hT hN hS hA) rfl rfl hl.1 rfl (lv_room (Nat.le_of_ble_eq_true rfl)) dL_law_1188 ⟨by show cells + 1 ≤ 649553; omega, by show slots + 6 ≤ 7063476; omega⟩) hP hD hS hA (fun r u1 o1 H locs hlp hP hD hS => ?_)
  obtain ⟨hth, hI1, hout⟩ := sg_agree (by decide) hRel hlp
  refine lv_istore (lv' := [(6, .int r), (0, .ref b), (1, .ref (ax 0)), (2, .ref (am 0)), (3, .ref qo), (4, .ref qe), (5, .int x5)]) hx hb dL_law_1191 hl (by decide) rfl (fun ls hl => ?_)
  refine lv_aload_n hx hb dL_law_1193 rfl (lv_at hl 3 rfl) ?_
  refine lv_aload_n hx hb dL_law_1194 rfl (lv_at hl 1 rfl) ?_
  refine lv_iload hx hb dL_law_1195 (lv_at hl 6 rfl) ?_
  refine lv_iconst (v := 1) hx hb dL_law_1197 (by decide) ?_
  refine lv_iadd hx hb dL_law_1198 ?_
  refine va_sld hx hb hX hbl hbA hS hv1 dL_law_1199 ?_
  refine sg_mi (va_runV (As := [.int (xs (x5 + 1).toNatClampNeg)]) (rest := []) ⟨hx, hb, hml, hown, hts⟩ (c_X6_loadOf l D cA am N _ _ _ _ hf2 _) (cwV 1 hts gL_law_X6_loadOf rfl rfl rfl (by decide +kernel) ⟨Nat.le_of_ble_eq_true rfl, Nat.le_of_ble_eq_true rfl⟩) (sg_pre (Wf := sg_WM cA am) hK (hP.sub [19, 20, 21, 22, 23, 24, 25, 26, 27, 28, 29, 30, 31, 32, 33, 34, 35, 36, 37, 38] rfl) (hD.sub [19, 20, 21, 22, 23, 24, 25, 26, 27, 28, 29, 30, 31, 32, 33, 34, 35, 36, 37, 38] (by decide) rfl) (ci := 8) (q0 := 0) rfl rfl) rfl rfl hl.1 rfl (lv_room (Nat.le_of_ble_eq_true rfl)) dL_law_1200 ⟨by show cells + 1 + 0 ≤ 649553; omega, by show slots + 6 + 0 ≤ 7063476; omega⟩) hP hD hS hA (fun H locs hP hD hS => ?_)
  refine lv_istore (lv' := [(7, .int r1), (6, .int r), (0, .ref b), (1, .ref (ax 0)), (2, .ref (am 0)), (3, .ref qo), (4, .ref qe), (5, .int x5)]) hx hb dL_law_1203 hl (by decide) rfl (fun ls hl => ?_)
  refine lv_aload_n hx hb dL_law_1205 rfl (lv_at hl 4 rfl) ?_
  refine sg_mi (va_runV (As := []) (rest := []) ⟨hx, hb, hml, hown, hts⟩ (c_X6_thrown l D cA am N v1 (v1 0 0) rfl _) (cwV 0 hts gL_law_X6_thrown rfl rfl rfl (by decide +kernel) ⟨Nat.le_of_ble_eq_true rfl, Nat.le_of_ble_eq_true rfl⟩) (sg_pre (Wf := sg_WM cA am) hK (hP.sub [19, 20, 21, 22, 23, 24, 25, 26, 27, 28, 29, 30, 31, 32, 33, 34, 35, 36, 37, 38] rfl) (hD.sub [19, 20, 21, 22, 23, 24, 25, 26, 27, 28, 29, 30, 31, 32, 33, 34, 35, 36, 37, 38] (by decide) rfl) (ci := 8) (q0 := 0) rfl rfl) rfl rfl hl.1 rfl (lv_room (Nat.le_of_ble_eq_true rfl)) dL_law_1206 ⟨by show cells + 1 + 0 ≤ 649553; omega, by show slots + 6 + 0 ≤ 7063476; omega⟩) hP hD hS hA (fun H locs hP hD hS => ?_)
  refine lv_iload hx hb dL_law_1209 (lv_at hl 1 rfl) ?_
  refine lv_icmp_eq (tgt := 1216) hx hb dL_law_1211 (by decide) (fun _ => ?_) (fun hz3 => absurd hth hz3)
  refine lv_iload hx hb dL_law_1216 (lv_at hl 1 rfl) ?_
  refine lv_if_ne (tgt := 1233) hx hb dL_law_1218 (by decide) (fun hr0 => ?_) (fun hr0 => ?_)
  · refine lv_goto (tgt := 2656) hx hb dL_law_1233 (by decide) ?_
    refine W.widen (k := cells + 10) (n := slots + 60) (by omega) (by omega) ?_
    exact kk _ _ _ _ _ _ _ hI1 hP hD hS (lv_sub hl [2, 3, 4, 5, 6, 7] rfl)
  · obtain ⟨ho, hRr⟩ := hout hr0
    subst ho
    refine lv_aload_n hx hb dL_law_1221 rfl (lv_at hl 5 rfl) ?_
    refine lv_iconst (v := 0) hx hb dL_law_1222 (by decide) ?_
    refine va_lald hx hb hK.1 hP 0 2 rfl rfl (sg_inb_s (i := 0) (n := 1) (by decide)) dL_law_1223 ?_
    refine lv_iload hx hb dL_law_1224 (lv_at hl 0 rfl) ?_
    refine lv_i2l (v := r1.toInt64) hx hb dL_law_1226 rfl ?_
    refine W.lcmp hx hb dL_law_1227 ?_
    refine lv_if_eq (tgt := 1233) hx hb dL_law_1228 (by decide) (fun _ => ?_) (fun hz4 => absurd (by first | exact sg_cmp64 | exact sg_cmpB0 hb1 | exact sg_cmpB1 hb1) hz4)
    refine lv_goto (tgt := 2656) hx hb dL_law_1233 (by decide) ?_
    refine W.widen (k := cells + 10) (n := slots + 60) (by omega) (by omega) ?_
    exact kk _ _ _ _ _ _ _ hI1 hP hD hS (lv_sub hl [2, 3, 4, 5, 6, 7] rfl)
set_option maxRecDepth 100000 in
set_option maxHeartbeats 4000000 in
theorem lw_case17 {p : Program} {l : Launch} {e : Env} {s : State} {m : MethodId} {below : List Frame} {meth : Method} {c : Code} {b L : Nat} {xs : Nat → Int32} {D : va_G} {cA : Nat → ClassId} {ax am : Nat → Nat} {qo qe N : Nat} {I : sg_St → sg_St → Prop} {Q : State → Prop} {cells slots : Nat} {H : Heap} {locs : List Loc} {ls : Array Slot} {x5 : Int32} {u v : sg_St} {o : Nat → Int64} {od : Nat → UInt64} (hlt : l.stackTraces = false) (C0 : sg_LA p s m meth c b L xs D cA) (hB : ∃ (R : (Nat ⊕ Int32) × sg_St) (r1 : Int32) (v1 : sg_St), fX5_weight N u (xs (x5 + 1).toNatClampNeg) = some R ∧ fX6_weight N v (xs (x5 + 1).toNatClampNeg) = some (r1, v1) ∧ sg_Rel I [5, 4] R r1 v1) (hv1 : vp_in (x5 + 1) L) (hP : va_P D vwCl (sg_WW cA ax am qo qe u v o od) H) (hD : va_D (fun q : Nat => s.heap.size ≤ q) (sg_WW cA ax am qo qe u v o od)) (hS : va_S (fun q : Nat => s.heap.size ≤ q) s.heap H locs) (hl : lv_has ls 9 [(0, .ref b), (1, .ref (ax 0)), (2, .ref (am 0)), (3, .ref qo), (4, .ref qe), (5, .int x5)]) (hcs : cells + 10 ≤ 649553 ∧ slots + 60 ≤ 7063476) (kk : ∀ (u' v' : sg_St) (o' : Nat → Int64) (od' : Nat → UInt64) (H : Heap) (locs : List Loc) (ls : Array Slot), I u' v' → va_P D vwCl (sg_WW cA ax am qo qe u' v' o' od') H → va_D (fun q : Nat => s.heap.size ≤ q) (sg_WW cA ax am qo qe u' v' o' od') → va_S (fun q : Nat => s.heap.size ≤ q) s.heap H locs → lv_has ls 9 [(0, .ref b), (1, .ref (ax 0)), (2, .ref (am 0)), (3, .ref qo), (4, .ref qe), (5, .int x5)] → W p l e room_1 s m #[Value.ref b] below meth c H locs (cells + 10) (slots + 60) Q (F0 m 2656 ls [])) : W p l e room_1 s m #[Value.ref b] below meth c H locs cells slots Q (F0 m 1236 ls []) := by
  obtain ⟨hx, hb, hr, hml, hown, hts, hX, hbl, hK, hT, hN, hlocks⟩ := C0
  have hA : ∀ q : Nat, s.heap.size ≤ q → (fun q : Nat => s.heap.size ≤ q) q := fun _ h => h
  have hbA : ¬ (fun q : Nat => s.heap.size ≤ q) b := Nat.not_le.mpr hbl
  obtain ⟨R, r1, v1, hf1, hf2, hRel⟩ := hB
  have hR9 : ∀ k t, R = (.inl k, t) → k ∈ [5, 4] := fun k t e9 => sg_Rel_in hRel e9
  refine lv_aload_n hx hb dL_law_1236 rfl (lv_at hl 1 rfl) ?_
  refine lv_aload_n hx hb dL_law_1237 rfl (lv_at hl 0 rfl) ?_
  refine lv_iload hx hb dL_law_1238 (lv_at hl 5 rfl) ?_
  refine lv_iconst (v := 1) hx hb dL_law_1240 (by decide) ?_
  refine lv_iadd hx hb dL_law_1241 ?_
  refine va_sld hx hb hX hbl hbA hS hv1 dL_law_1242 ?_
  refine lv_aload_n hx hb dL_law_1243 rfl (lv_at hl 3 rfl) ?_
  refine sg_hw (vx_runSW (As := [.ref (ax 0), .int (xs (x5 + 1).toNatClampNeg), .ref qo]) (rest := []) ⟨hx, hb, hml, hown, hts⟩ (c_L_weight l hlt D cA ax qo o N u _ R hf1 hR9 _) (vx_cwSW (hh := [(0, 9, 12, 25), (0, 9, 15, 30)]) 3 hts gL_law_L_weight rfl rfl rfl (by decide +kernel) ⟨Nat.le_of_ble_eq_true rfl, Nat.le_of_ble_eq_true rfl⟩) (sg_preL (w0 := sg_WL cA ax qo u o) hK (hP.sub [0, 2, 3, 4, 5, 6, 7, 8, 9, 10, 11, 12, 13, 14, 15, 16, 17, 18] rfl) (hD.sub [0, 2, 3, 4, 5, 6, 7, 8, 9, 10, 11, 12, 13, 14, 15, 16, 17, 18] (by decide) rfl) hT hN hS hA) rfl rfl hl.1 rfl (lv_room (Nat.le_of_ble_eq_true rfl)) dL_law_1244 ⟨by show cells + 2 ≤ 649553; omega, by show slots + 12 ≤ 7063476; omega⟩) hP hD hS hA (fun r u1 o1 H locs hlp hP hD hS => ?_)
  obtain ⟨hth, hI1, hout⟩ := sg_agree (by decide) hRel hlp
  refine lv_istore (lv' := [(6, .int r), (0, .ref b), (1, .ref (ax 0)), (2, .ref (am 0)), (3, .ref qo), (4, .ref qe), (5, .int x5)]) hx hb dL_law_1247 hl (by decide) rfl (fun ls hl => ?_)
  refine lv_aload_n hx hb dL_law_1249 rfl (lv_at hl 3 rfl) ?_
  refine lv_aload_n hx hb dL_law_1250 rfl (lv_at hl 1 rfl) ?_
  refine lv_iload hx hb dL_law_1251 (lv_at hl 6 rfl) ?_
  refine lv_iconst (v := 1) hx hb dL_law_1253 (by decide) ?_
  refine lv_iadd hx hb dL_law_1254 ?_
  refine va_sld hx hb hX hbl hbA hS hv1 dL_law_1255 ?_
  refine sg_mi (va_runV (As := [.int (xs (x5 + 1).toNatClampNeg)]) (rest := []) ⟨hx, hb, hml, hown, hts⟩ (c_X6_weight l D cA am N _ _ _ _ hf2 _) (cwV 1 hts gL_law_X6_weight rfl rfl rfl (by decide +kernel) ⟨Nat.le_of_ble_eq_true rfl, Nat.le_of_ble_eq_true rfl⟩) (sg_pre (Wf := sg_WM cA am) hK (hP.sub [19, 20, 21, 22, 23, 24, 25, 26, 27, 28, 29, 30, 31, 32, 33, 34, 35, 36, 37, 38] rfl) (hD.sub [19, 20, 21, 22, 23, 24, 25, 26, 27, 28, 29, 30, 31, 32, 33, 34, 35, 36, 37, 38] (by decide) rfl) (ci := 8) (q0 := 0) rfl rfl) rfl rfl hl.1 rfl (lv_room (Nat.le_of_ble_eq_true rfl)) dL_law_1256 ⟨by show cells + 2 + 0 ≤ 649553; omega, by show slots + 12 + 0 ≤ 7063476; omega⟩) hP hD hS hA (fun H locs hP hD hS => ?_)
  refine lv_istore (lv' := [(7, .int r1), (6, .int r), (0, .ref b), (1, .ref (ax 0)), (2, .ref (am 0)), (3, .ref qo), (4, .ref qe), (5, .int x5)]) hx hb dL_law_1259 hl (by decide) rfl (fun ls hl => ?_)
  refine lv_aload_n hx hb dL_law_1261 rfl (lv_at hl 4 rfl) ?_
  refine sg_mi (va_runV (As := []) (rest := []) ⟨hx, hb, hml, hown, hts⟩ (c_X6_thrown l D cA am N v1 (v1 0 0) rfl _) (cwV 0 hts gL_law_X6_thrown rfl rfl rfl (by decide +kernel) ⟨Nat.le_of_ble_eq_true rfl, Nat.le_of_ble_eq_true rfl⟩) (sg_pre (Wf := sg_WM cA am) hK (hP.sub [19, 20, 21, 22, 23, 24, 25, 26, 27, 28, 29, 30, 31, 32, 33, 34, 35, 36, 37, 38] rfl) (hD.sub [19, 20, 21, 22, 23, 24, 25, 26, 27, 28, 29, 30, 31, 32, 33, 34, 35, 36, 37, 38] (by decide) rfl) (ci := 8) (q0 := 0) rfl rfl) rfl rfl hl.1 rfl (lv_room (Nat.le_of_ble_eq_true rfl)) dL_law_1262 ⟨by show cells + 2 + 0 ≤ 649553; omega, by show slots + 12 + 0 ≤ 7063476; omega⟩) hP hD hS hA (fun H locs hP hD hS => ?_)
  refine lv_iload hx hb dL_law_1265 (lv_at hl 1 rfl) ?_
  refine lv_icmp_eq (tgt := 1272) hx hb dL_law_1267 (by decide) (fun _ => ?_) (fun hz3 => absurd hth hz3)
  refine lv_iload hx hb dL_law_1272 (lv_at hl 1 rfl) ?_
  refine lv_if_ne (tgt := 1289) hx hb dL_law_1274 (by decide) (fun hr0 => ?_) (fun hr0 => ?_)
  · refine lv_goto (tgt := 2656) hx hb dL_law_1289 (by decide) ?_
    refine W.widen (k := cells + 10) (n := slots + 60) (by omega) (by omega) ?_
    exact kk _ _ _ _ _ _ _ hI1 hP hD hS (lv_sub hl [2, 3, 4, 5, 6, 7] rfl)
  · obtain ⟨ho, hRr⟩ := hout hr0
    subst ho
    refine lv_aload_n hx hb dL_law_1277 rfl (lv_at hl 5 rfl) ?_
    refine lv_iconst (v := 0) hx hb dL_law_1278 (by decide) ?_
    refine va_lald hx hb hK.1 hP 0 2 rfl rfl (sg_inb_s (i := 0) (n := 1) (by decide)) dL_law_1279 ?_
    refine lv_iload hx hb dL_law_1280 (lv_at hl 0 rfl) ?_
    refine lv_i2l (v := r1.toInt64) hx hb dL_law_1282 rfl ?_
    refine W.lcmp hx hb dL_law_1283 ?_
    refine lv_if_eq (tgt := 1289) hx hb dL_law_1284 (by decide) (fun _ => ?_) (fun hz4 => absurd (by first | exact sg_cmp64 | exact sg_cmpB0 hb1 | exact sg_cmpB1 hb1) hz4)
    refine lv_goto (tgt := 2656) hx hb dL_law_1289 (by decide) ?_
    refine W.widen (k := cells + 10) (n := slots + 60) (by omega) (by omega) ?_
    exact kk _ _ _ _ _ _ _ hI1 hP hD hS (lv_sub hl [2, 3, 4, 5, 6, 7] rfl)
set_option maxRecDepth 100000 in
set_option maxHeartbeats 4000000 in
theorem lw_case18 {p : Program} {l : Launch} {e : Env} {s : State} {m : MethodId} {below : List Frame} {meth : Method} {c : Code} {b L : Nat} {xs : Nat → Int32} {D : va_G} {cA : Nat → ClassId} {ax am : Nat → Nat} {qo qe N : Nat} {I : sg_St → sg_St → Prop} {Q : State → Prop} {cells slots : Nat} {H : Heap} {locs : List Loc} {ls : Array Slot} {x5 : Int32} {u v : sg_St} {o : Nat → Int64} {od : Nat → UInt64} (hlt : l.stackTraces = false) (C0 : sg_LA p s m meth c b L xs D cA) (hB : ∃ (R : (Nat ⊕ Int32) × sg_St) (r1 : Int32) (v1 : sg_St), fX5_isClosed N u (xs (x5 + 1).toNatClampNeg) = some R ∧ fX6_isClosed N v (xs (x5 + 1).toNatClampNeg) = some (r1, v1) ∧ sg_Rel I [5] R r1 v1) (hv1 : vp_in (x5 + 1) L) (hP : va_P D vwCl (sg_WW cA ax am qo qe u v o od) H) (hD : va_D (fun q : Nat => s.heap.size ≤ q) (sg_WW cA ax am qo qe u v o od)) (hS : va_S (fun q : Nat => s.heap.size ≤ q) s.heap H locs) (hl : lv_has ls 9 [(0, .ref b), (1, .ref (ax 0)), (2, .ref (am 0)), (3, .ref qo), (4, .ref qe), (5, .int x5)]) (hcs : cells + 10 ≤ 649553 ∧ slots + 60 ≤ 7063476) (kk : ∀ (u' v' : sg_St) (o' : Nat → Int64) (od' : Nat → UInt64) (H : Heap) (locs : List Loc) (ls : Array Slot), I u' v' → va_P D vwCl (sg_WW cA ax am qo qe u' v' o' od') H → va_D (fun q : Nat => s.heap.size ≤ q) (sg_WW cA ax am qo qe u' v' o' od') → va_S (fun q : Nat => s.heap.size ≤ q) s.heap H locs → lv_has ls 9 [(0, .ref b), (1, .ref (ax 0)), (2, .ref (am 0)), (3, .ref qo), (4, .ref qe), (5, .int x5)] → W p l e room_1 s m #[Value.ref b] below meth c H locs (cells + 10) (slots + 60) Q (F0 m 2656 ls [])) : W p l e room_1 s m #[Value.ref b] below meth c H locs cells slots Q (F0 m 1292 ls []) := by
  obtain ⟨hx, hb, hr, hml, hown, hts, hX, hbl, hK, hT, hN, hlocks⟩ := C0
  have hA : ∀ q : Nat, s.heap.size ≤ q → (fun q : Nat => s.heap.size ≤ q) q := fun _ h => h
  have hbA : ¬ (fun q : Nat => s.heap.size ≤ q) b := Nat.not_le.mpr hbl
  obtain ⟨R, r1, v1, hf1, hf2, hRel⟩ := hB
  have hR9 : ∀ k t, R = (.inl k, t) → k ∈ [5] := fun k t e9 => sg_Rel_in hRel e9
  refine lv_aload_n hx hb dL_law_1292 rfl (lv_at hl 1 rfl) ?_
  refine lv_aload_n hx hb dL_law_1293 rfl (lv_at hl 0 rfl) ?_
  refine lv_iload hx hb dL_law_1294 (lv_at hl 5 rfl) ?_
  refine lv_iconst (v := 1) hx hb dL_law_1296 (by decide) ?_
  refine lv_iadd hx hb dL_law_1297 ?_
  refine va_sld hx hb hX hbl hbA hS hv1 dL_law_1298 ?_
  refine lv_aload_n hx hb dL_law_1299 rfl (lv_at hl 3 rfl) ?_
  refine sg_hw (vx_runSW (As := [.ref (ax 0), .int (xs (x5 + 1).toNatClampNeg), .ref qo]) (rest := []) ⟨hx, hb, hml, hown, hts⟩ (c_L_isClosed l hlt D cA ax qo o N u _ R hf1 hR9 _) (vx_cwSW (hh := [(0, 16, 19, 25)]) 3 hts gL_law_L_isClosed rfl rfl rfl (by decide +kernel) ⟨Nat.le_of_ble_eq_true rfl, Nat.le_of_ble_eq_true rfl⟩) (sg_preL (w0 := sg_WL cA ax qo u o) hK (hP.sub [0, 2, 3, 4, 5, 6, 7, 8, 9, 10, 11, 12, 13, 14, 15, 16, 17, 18] rfl) (hD.sub [0, 2, 3, 4, 5, 6, 7, 8, 9, 10, 11, 12, 13, 14, 15, 16, 17, 18] (by decide) rfl) hT hN hS hA) rfl rfl hl.1 rfl (lv_room (Nat.le_of_ble_eq_true rfl)) dL_law_1300 ⟨by show cells + 1 ≤ 649553; omega, by show slots + 6 ≤ 7063476; omega⟩) hP hD hS hA (fun r u1 o1 H locs hlp hP hD hS => ?_)
  obtain ⟨hth, hI1, hout⟩ := sg_agree (by decide) hRel hlp
  refine lv_istore (lv' := [(6, .int r), (0, .ref b), (1, .ref (ax 0)), (2, .ref (am 0)), (3, .ref qo), (4, .ref qe), (5, .int x5)]) hx hb dL_law_1303 hl (by decide) rfl (fun ls hl => ?_)
  refine lv_aload_n hx hb dL_law_1305 rfl (lv_at hl 3 rfl) ?_
  refine lv_aload_n hx hb dL_law_1306 rfl (lv_at hl 1 rfl) ?_
  refine lv_iload hx hb dL_law_1307 (lv_at hl 6 rfl) ?_
  refine lv_iconst (v := 1) hx hb dL_law_1309 (by decide) ?_
  refine lv_iadd hx hb dL_law_1310 ?_
  refine va_sld hx hb hX hbl hbA hS hv1 dL_law_1311 ?_
  refine sg_mi (va_runV (As := [.int (xs (x5 + 1).toNatClampNeg)]) (rest := []) ⟨hx, hb, hml, hown, hts⟩ (c_X6_isClosed l D cA am N _ _ _ _ hf2 _) (cwV 1 hts gL_law_X6_isClosed rfl rfl rfl (by decide +kernel) ⟨Nat.le_of_ble_eq_true rfl, Nat.le_of_ble_eq_true rfl⟩) (sg_pre (Wf := sg_WM cA am) hK (hP.sub [19, 20, 21, 22, 23, 24, 25, 26, 27, 28, 29, 30, 31, 32, 33, 34, 35, 36, 37, 38] rfl) (hD.sub [19, 20, 21, 22, 23, 24, 25, 26, 27, 28, 29, 30, 31, 32, 33, 34, 35, 36, 37, 38] (by decide) rfl) (ci := 8) (q0 := 0) rfl rfl) rfl rfl hl.1 rfl (lv_room (Nat.le_of_ble_eq_true rfl)) dL_law_1312 ⟨by show cells + 1 + 0 ≤ 649553; omega, by show slots + 6 + 0 ≤ 7063476; omega⟩) hP hD hS hA (fun H locs hP hD hS => ?_)
  refine lv_istore (lv' := [(7, .int r1), (6, .int r), (0, .ref b), (1, .ref (ax 0)), (2, .ref (am 0)), (3, .ref qo), (4, .ref qe), (5, .int x5)]) hx hb dL_law_1315 hl (by decide) rfl (fun ls hl => ?_)
  refine lv_aload_n hx hb dL_law_1317 rfl (lv_at hl 4 rfl) ?_
  refine sg_mi (va_runV (As := []) (rest := []) ⟨hx, hb, hml, hown, hts⟩ (c_X6_thrown l D cA am N v1 (v1 0 0) rfl _) (cwV 0 hts gL_law_X6_thrown rfl rfl rfl (by decide +kernel) ⟨Nat.le_of_ble_eq_true rfl, Nat.le_of_ble_eq_true rfl⟩) (sg_pre (Wf := sg_WM cA am) hK (hP.sub [19, 20, 21, 22, 23, 24, 25, 26, 27, 28, 29, 30, 31, 32, 33, 34, 35, 36, 37, 38] rfl) (hD.sub [19, 20, 21, 22, 23, 24, 25, 26, 27, 28, 29, 30, 31, 32, 33, 34, 35, 36, 37, 38] (by decide) rfl) (ci := 8) (q0 := 0) rfl rfl) rfl rfl hl.1 rfl (lv_room (Nat.le_of_ble_eq_true rfl)) dL_law_1318 ⟨by show cells + 1 + 0 ≤ 649553; omega, by show slots + 6 + 0 ≤ 7063476; omega⟩) hP hD hS hA (fun H locs hP hD hS => ?_)
  refine lv_iload hx hb dL_law_1321 (lv_at hl 1 rfl) ?_
  refine lv_icmp_eq (tgt := 1328) hx hb dL_law_1323 (by decide) (fun _ => ?_) (fun hz3 => absurd hth hz3)
  refine lv_iload hx hb dL_law_1328 (lv_at hl 1 rfl) ?_
  refine lv_if_ne (tgt := 1352) hx hb dL_law_1330 (by decide) (fun hr0 => ?_) (fun hr0 => ?_)
  · refine lv_goto (tgt := 2656) hx hb dL_law_1352 (by decide) ?_
    refine W.widen (k := cells + 10) (n := slots + 60) (by omega) (by omega) ?_
    exact kk _ _ _ _ _ _ _ hI1 hP hD hS (lv_sub hl [2, 3, 4, 5, 6, 7] rfl)
  · obtain ⟨ho, hRr⟩ := hout hr0
    subst ho
    refine lv_aload_n hx hb dL_law_1333 rfl (lv_at hl 5 rfl) ?_
    refine lv_iconst (v := 0) hx hb dL_law_1334 (by decide) ?_
    refine va_lald hx hb hK.1 hP 0 2 rfl rfl (sg_inb_s (i := 0) (n := 1) (by decide)) dL_law_1335 ?_
    refine lv_iload hx hb dL_law_1336 (lv_at hl 0 rfl) ?_
    refine lv_if_eq (tgt := 1345) hx hb dL_law_1338 (by decide) (fun hb1 => ?_) (fun hb1 => ?_)
    · refine lv_lconst (v := 0) hx hb dL_law_1345 (by decide) ?_
      refine W.lcmp hx hb dL_law_1346 ?_
      refine lv_if_eq (tgt := 1352) hx hb dL_law_1347 (by decide) (fun _ => ?_) (fun hz4 => absurd (by first | exact sg_cmp64 | exact sg_cmpB0 hb1 | exact sg_cmpB1 hb1) hz4)
      refine lv_goto (tgt := 2656) hx hb dL_law_1352 (by decide) ?_
      refine W.widen (k := cells + 10) (n := slots + 60) (by omega) (by omega) ?_
      exact kk _ _ _ _ _ _ _ hI1 hP hD hS (lv_sub hl [2, 3, 4, 5, 6, 7] rfl)
    · refine lv_lconst (v := 1) hx hb dL_law_1341 (by decide) ?_
      refine lv_goto (tgt := 1346) hx hb dL_law_1342 (by decide) ?_
      refine W.lcmp hx hb dL_law_1346 ?_
      refine lv_if_eq (tgt := 1352) hx hb dL_law_1347 (by decide) (fun _ => ?_) (fun hz4 => absurd (by first | exact sg_cmp64 | exact sg_cmpB0 hb1 | exact sg_cmpB1 hb1) hz4)
      refine lv_goto (tgt := 2656) hx hb dL_law_1352 (by decide) ?_
      refine W.widen (k := cells + 10) (n := slots + 60) (by omega) (by omega) ?_
      exact kk _ _ _ _ _ _ _ hI1 hP hD hS (lv_sub hl [2, 3, 4, 5, 6, 7] rfl)
set_option maxRecDepth 100000 in
set_option maxHeartbeats 4000000 in
theorem lw_case19 {p : Program} {l : Launch} {e : Env} {s : State} {m : MethodId} {below : List Frame} {meth : Method} {c : Code} {b L : Nat} {xs : Nat → Int32} {D : va_G} {cA : Nat → ClassId} {ax am : Nat → Nat} {qo qe N : Nat} {I : sg_St → sg_St → Prop} {Q : State → Prop} {cells slots : Nat} {H : Heap} {locs : List Loc} {ls : Array Slot} {x5 : Int32} {u v : sg_St} {o : Nat → Int64} {od : Nat → UInt64} (hlt : l.stackTraces = false) (C0 : sg_LA p s m meth c b L xs D cA) (hB : ∃ (R : (Nat ⊕ Int32) × sg_St) (r1 : Int32) (v1 : sg_St), fX5_isLocked N u (xs (x5 + 1).toNatClampNeg) = some R ∧ fX6_isLocked N v (xs (x5 + 1).toNatClampNeg) = some (r1, v1) ∧ sg_Rel I [5] R r1 v1) (hv1 : vp_in (x5 + 1) L) (hP : va_P D vwCl (sg_WW cA ax am qo qe u v o od) H) (hD : va_D (fun q : Nat => s.heap.size ≤ q) (sg_WW cA ax am qo qe u v o od)) (hS : va_S (fun q : Nat => s.heap.size ≤ q) s.heap H locs) (hl : lv_has ls 9 [(0, .ref b), (1, .ref (ax 0)), (2, .ref (am 0)), (3, .ref qo), (4, .ref qe), (5, .int x5)]) (hcs : cells + 10 ≤ 649553 ∧ slots + 60 ≤ 7063476) (kk : ∀ (u' v' : sg_St) (o' : Nat → Int64) (od' : Nat → UInt64) (H : Heap) (locs : List Loc) (ls : Array Slot), I u' v' → va_P D vwCl (sg_WW cA ax am qo qe u' v' o' od') H → va_D (fun q : Nat => s.heap.size ≤ q) (sg_WW cA ax am qo qe u' v' o' od') → va_S (fun q : Nat => s.heap.size ≤ q) s.heap H locs → lv_has ls 9 [(0, .ref b), (1, .ref (ax 0)), (2, .ref (am 0)), (3, .ref qo), (4, .ref qe), (5, .int x5)] → W p l e room_1 s m #[Value.ref b] below meth c H locs (cells + 10) (slots + 60) Q (F0 m 2656 ls [])) : W p l e room_1 s m #[Value.ref b] below meth c H locs cells slots Q (F0 m 1355 ls []) := by
  obtain ⟨hx, hb, hr, hml, hown, hts, hX, hbl, hK, hT, hN, hlocks⟩ := C0
  have hA : ∀ q : Nat, s.heap.size ≤ q → (fun q : Nat => s.heap.size ≤ q) q := fun _ h => h
  have hbA : ¬ (fun q : Nat => s.heap.size ≤ q) b := Nat.not_le.mpr hbl
  obtain ⟨R, r1, v1, hf1, hf2, hRel⟩ := hB
  have hR9 : ∀ k t, R = (.inl k, t) → k ∈ [5] := fun k t e9 => sg_Rel_in hRel e9
  refine lv_aload_n hx hb dL_law_1355 rfl (lv_at hl 1 rfl) ?_
  refine lv_aload_n hx hb dL_law_1356 rfl (lv_at hl 0 rfl) ?_
  refine lv_iload hx hb dL_law_1357 (lv_at hl 5 rfl) ?_
  refine lv_iconst (v := 1) hx hb dL_law_1359 (by decide) ?_
  refine lv_iadd hx hb dL_law_1360 ?_
  refine va_sld hx hb hX hbl hbA hS hv1 dL_law_1361 ?_
  refine lv_aload_n hx hb dL_law_1362 rfl (lv_at hl 3 rfl) ?_
  refine sg_hw (vx_runSW (As := [.ref (ax 0), .int (xs (x5 + 1).toNatClampNeg), .ref qo]) (rest := []) ⟨hx, hb, hml, hown, hts⟩ (c_L_isLocked l hlt D cA ax qo o N u _ R hf1 hR9 _) (vx_cwSW (hh := [(0, 16, 19, 25)]) 3 hts gL_law_L_isLocked rfl rfl rfl (by decide +kernel) ⟨Nat.le_of_ble_eq_true rfl, Nat.le_of_ble_eq_true rfl⟩) (sg_preL (w0 := sg_WL cA ax qo u o) hK (hP.sub [0, 2, 3, 4, 5, 6, 7, 8, 9, 10, 11, 12, 13, 14, 15, 16, 17, 18] rfl) (hD.sub [0, 2, 3, 4, 5, 6, 7, 8, 9, 10, 11, 12, 13, 14, 15, 16, 17, 18] (by decide) rfl) hT hN hS hA) rfl rfl hl.1 rfl (lv_room (Nat.le_of_ble_eq_true rfl)) dL_law_1363 ⟨by show cells + 1 ≤ 649553; omega, by show slots + 6 ≤ 7063476; omega⟩) hP hD hS hA (fun r u1 o1 H locs hlp hP hD hS => ?_)
  obtain ⟨hth, hI1, hout⟩ := sg_agree (by decide) hRel hlp
  refine lv_istore (lv' := [(6, .int r), (0, .ref b), (1, .ref (ax 0)), (2, .ref (am 0)), (3, .ref qo), (4, .ref qe), (5, .int x5)]) hx hb dL_law_1366 hl (by decide) rfl (fun ls hl => ?_)
  refine lv_aload_n hx hb dL_law_1368 rfl (lv_at hl 3 rfl) ?_
  refine lv_aload_n hx hb dL_law_1369 rfl (lv_at hl 1 rfl) ?_
  refine lv_iload hx hb dL_law_1370 (lv_at hl 6 rfl) ?_
  refine lv_iconst (v := 1) hx hb dL_law_1372 (by decide) ?_
  refine lv_iadd hx hb dL_law_1373 ?_
  refine va_sld hx hb hX hbl hbA hS hv1 dL_law_1374 ?_
  refine sg_mi (va_runV (As := [.int (xs (x5 + 1).toNatClampNeg)]) (rest := []) ⟨hx, hb, hml, hown, hts⟩ (c_X6_isLocked l D cA am N _ _ _ _ hf2 _) (cwV 1 hts gL_law_X6_isLocked rfl rfl rfl (by decide +kernel) ⟨Nat.le_of_ble_eq_true rfl, Nat.le_of_ble_eq_true rfl⟩) (sg_pre (Wf := sg_WM cA am) hK (hP.sub [19, 20, 21, 22, 23, 24, 25, 26, 27, 28, 29, 30, 31, 32, 33, 34, 35, 36, 37, 38] rfl) (hD.sub [19, 20, 21, 22, 23, 24, 25, 26, 27, 28, 29, 30, 31, 32, 33, 34, 35, 36, 37, 38] (by decide) rfl) (ci := 8) (q0 := 0) rfl rfl) rfl rfl hl.1 rfl (lv_room (Nat.le_of_ble_eq_true rfl)) dL_law_1375 ⟨by show cells + 1 + 0 ≤ 649553; omega, by show slots + 6 + 0 ≤ 7063476; omega⟩) hP hD hS hA (fun H locs hP hD hS => ?_)
  refine lv_istore (lv' := [(7, .int r1), (6, .int r), (0, .ref b), (1, .ref (ax 0)), (2, .ref (am 0)), (3, .ref qo), (4, .ref qe), (5, .int x5)]) hx hb dL_law_1378 hl (by decide) rfl (fun ls hl => ?_)
  refine lv_aload_n hx hb dL_law_1380 rfl (lv_at hl 4 rfl) ?_
  refine sg_mi (va_runV (As := []) (rest := []) ⟨hx, hb, hml, hown, hts⟩ (c_X6_thrown l D cA am N v1 (v1 0 0) rfl _) (cwV 0 hts gL_law_X6_thrown rfl rfl rfl (by decide +kernel) ⟨Nat.le_of_ble_eq_true rfl, Nat.le_of_ble_eq_true rfl⟩) (sg_pre (Wf := sg_WM cA am) hK (hP.sub [19, 20, 21, 22, 23, 24, 25, 26, 27, 28, 29, 30, 31, 32, 33, 34, 35, 36, 37, 38] rfl) (hD.sub [19, 20, 21, 22, 23, 24, 25, 26, 27, 28, 29, 30, 31, 32, 33, 34, 35, 36, 37, 38] (by decide) rfl) (ci := 8) (q0 := 0) rfl rfl) rfl rfl hl.1 rfl (lv_room (Nat.le_of_ble_eq_true rfl)) dL_law_1381 ⟨by show cells + 1 + 0 ≤ 649553; omega, by show slots + 6 + 0 ≤ 7063476; omega⟩) hP hD hS hA (fun H locs hP hD hS => ?_)
  refine lv_iload hx hb dL_law_1384 (lv_at hl 1 rfl) ?_
  refine lv_icmp_eq (tgt := 1391) hx hb dL_law_1386 (by decide) (fun _ => ?_) (fun hz3 => absurd hth hz3)
  refine lv_iload hx hb dL_law_1391 (lv_at hl 1 rfl) ?_
  refine lv_if_ne (tgt := 1415) hx hb dL_law_1393 (by decide) (fun hr0 => ?_) (fun hr0 => ?_)
  · refine lv_goto (tgt := 2656) hx hb dL_law_1415 (by decide) ?_
    refine W.widen (k := cells + 10) (n := slots + 60) (by omega) (by omega) ?_
    exact kk _ _ _ _ _ _ _ hI1 hP hD hS (lv_sub hl [2, 3, 4, 5, 6, 7] rfl)
  · obtain ⟨ho, hRr⟩ := hout hr0
    subst ho
    refine lv_aload_n hx hb dL_law_1396 rfl (lv_at hl 5 rfl) ?_
    refine lv_iconst (v := 0) hx hb dL_law_1397 (by decide) ?_
    refine va_lald hx hb hK.1 hP 0 2 rfl rfl (sg_inb_s (i := 0) (n := 1) (by decide)) dL_law_1398 ?_
    refine lv_iload hx hb dL_law_1399 (lv_at hl 0 rfl) ?_
    refine lv_if_eq (tgt := 1408) hx hb dL_law_1401 (by decide) (fun hb1 => ?_) (fun hb1 => ?_)
    · refine lv_lconst (v := 0) hx hb dL_law_1408 (by decide) ?_
      refine W.lcmp hx hb dL_law_1409 ?_
      refine lv_if_eq (tgt := 1415) hx hb dL_law_1410 (by decide) (fun _ => ?_) (fun hz4 => absurd (by first | exact sg_cmp64 | exact sg_cmpB0 hb1 | exact sg_cmpB1 hb1) hz4)
      refine lv_goto (tgt := 2656) hx hb dL_law_1415 (by decide) ?_
      refine W.widen (k := cells + 10) (n := slots + 60) (by omega) (by omega) ?_
      exact kk _ _ _ _ _ _ _ hI1 hP hD hS (lv_sub hl [2, 3, 4, 5, 6, 7] rfl)
    · refine lv_lconst (v := 1) hx hb dL_law_1404 (by decide) ?_
      refine lv_goto (tgt := 1409) hx hb dL_law_1405 (by decide) ?_
      refine W.lcmp hx hb dL_law_1409 ?_
      refine lv_if_eq (tgt := 1415) hx hb dL_law_1410 (by decide) (fun _ => ?_) (fun hz4 => absurd (by first | exact sg_cmp64 | exact sg_cmpB0 hb1 | exact sg_cmpB1 hb1) hz4)
      refine lv_goto (tgt := 2656) hx hb dL_law_1415 (by decide) ?_
      refine W.widen (k := cells + 10) (n := slots + 60) (by omega) (by omega) ?_
      exact kk _ _ _ _ _ _ _ hI1 hP hD hS (lv_sub hl [2, 3, 4, 5, 6, 7] rfl)
set_option maxRecDepth 100000 in
set_option maxHeartbeats 4000000 in
theorem lw_case20 {p : Program} {l : Launch} {e : Env} {s : State} {m : MethodId} {below : List Frame} {meth : Method} {c : Code} {b L : Nat} {xs : Nat → Int32} {D : va_G} {cA : Nat → ClassId} {ax am : Nat → Nat} {qo qe N : Nat} {I : sg_St → sg_St → Prop} {Q : State → Prop} {cells slots : Nat} {H : Heap} {locs : List Loc} {ls : Array Slot} {x5 : Int32} {u v : sg_St} {o : Nat → Int64} {od : Nat → UInt64} (hlt : l.stackTraces = false) (C0 : sg_LA p s m meth c b L xs D cA) (hB : ∃ (R : (Nat ⊕ Int32) × sg_St) (r1 : Int32) (v1 : sg_St), fX5_hasFault N u (xs (x5 + 1).toNatClampNeg) = some R ∧ fX6_hasFault N v (xs (x5 + 1).toNatClampNeg) = some (r1, v1) ∧ sg_Rel I [5] R r1 v1) (hv1 : vp_in (x5 + 1) L) (hP : va_P D vwCl (sg_WW cA ax am qo qe u v o od) H) (hD : va_D (fun q : Nat => s.heap.size ≤ q) (sg_WW cA ax am qo qe u v o od)) (hS : va_S (fun q : Nat => s.heap.size ≤ q) s.heap H locs) (hl : lv_has ls 9 [(0, .ref b), (1, .ref (ax 0)), (2, .ref (am 0)), (3, .ref qo), (4, .ref qe), (5, .int x5)]) (hcs : cells + 10 ≤ 649553 ∧ slots + 60 ≤ 7063476) (kk : ∀ (u' v' : sg_St) (o' : Nat → Int64) (od' : Nat → UInt64) (H : Heap) (locs : List Loc) (ls : Array Slot), I u' v' → va_P D vwCl (sg_WW cA ax am qo qe u' v' o' od') H → va_D (fun q : Nat => s.heap.size ≤ q) (sg_WW cA ax am qo qe u' v' o' od') → va_S (fun q : Nat => s.heap.size ≤ q) s.heap H locs → lv_has ls 9 [(0, .ref b), (1, .ref (ax 0)), (2, .ref (am 0)), (3, .ref qo), (4, .ref qe), (5, .int x5)] → W p l e room_1 s m #[Value.ref b] below meth c H locs (cells + 10) (slots + 60) Q (F0 m 2656 ls [])) : W p l e room_1 s m #[Value.ref b] below meth c H locs cells slots Q (F0 m 1418 ls []) := by
  obtain ⟨hx, hb, hr, hml, hown, hts, hX, hbl, hK, hT, hN, hlocks⟩ := C0
  have hA : ∀ q : Nat, s.heap.size ≤ q → (fun q : Nat => s.heap.size ≤ q) q := fun _ h => h
  have hbA : ¬ (fun q : Nat => s.heap.size ≤ q) b := Nat.not_le.mpr hbl
  obtain ⟨R, r1, v1, hf1, hf2, hRel⟩ := hB
  have hR9 : ∀ k t, R = (.inl k, t) → k ∈ [5] := fun k t e9 => sg_Rel_in hRel e9
  refine lv_aload_n hx hb dL_law_1418 rfl (lv_at hl 1 rfl) ?_
  refine lv_aload_n hx hb dL_law_1419 rfl (lv_at hl 0 rfl) ?_
  refine lv_iload hx hb dL_law_1420 (lv_at hl 5 rfl) ?_
  refine lv_iconst (v := 1) hx hb dL_law_1422 (by decide) ?_
  refine lv_iadd hx hb dL_law_1423 ?_
  refine va_sld hx hb hX hbl hbA hS hv1 dL_law_1424 ?_
  refine lv_aload_n hx hb dL_law_1425 rfl (lv_at hl 3 rfl) ?_
  refine sg_hw (vx_runSW (As := [.ref (ax 0), .int (xs (x5 + 1).toNatClampNeg), .ref qo]) (rest := []) ⟨hx, hb, hml, hown, hts⟩ (c_L_hasFault l hlt D cA ax qo o N u _ R hf1 hR9 _) (vx_cwSW (hh := [(0, 16, 19, 25)]) 3 hts gL_law_L_hasFault rfl rfl rfl (by decide +kernel) ⟨Nat.le_of_ble_eq_true rfl, Nat.le_of_ble_eq_true rfl⟩) (sg_preL (w0 := sg_WL cA ax qo u o) hK (hP.sub [0, 2, 3, 4, 5, 6, 7, 8, 9, 10, 11, 12, 13, 14, 15, 16, 17, 18] rfl) (hD.sub [0, 2, 3, 4, 5, 6, 7, 8, 9, 10, 11, 12, 13, 14, 15, 16, 17, 18] (by decide) rfl) hT hN hS hA) rfl rfl hl.1 rfl (lv_room (Nat.le_of_ble_eq_true rfl)) dL_law_1426 ⟨by show cells + 1 ≤ 649553; omega, by show slots + 6 ≤ 7063476; omega⟩) hP hD hS hA (fun r u1 o1 H locs hlp hP hD hS => ?_)
  obtain ⟨hth, hI1, hout⟩ := sg_agree (by decide) hRel hlp
  refine lv_istore (lv' := [(6, .int r), (0, .ref b), (1, .ref (ax 0)), (2, .ref (am 0)), (3, .ref qo), (4, .ref qe), (5, .int x5)]) hx hb dL_law_1429 hl (by decide) rfl (fun ls hl => ?_)
  refine lv_aload_n hx hb dL_law_1431 rfl (lv_at hl 3 rfl) ?_
  refine lv_aload_n hx hb dL_law_1432 rfl (lv_at hl 1 rfl) ?_
  refine lv_iload hx hb dL_law_1433 (lv_at hl 6 rfl) ?_
  refine lv_iconst (v := 1) hx hb dL_law_1435 (by decide) ?_
  refine lv_iadd hx hb dL_law_1436 ?_
  refine va_sld hx hb hX hbl hbA hS hv1 dL_law_1437 ?_
  refine sg_mi (va_runV (As := [.int (xs (x5 + 1).toNatClampNeg)]) (rest := []) ⟨hx, hb, hml, hown, hts⟩ (c_X6_hasFault l D cA am N _ _ _ _ hf2 _) (cwV 1 hts gL_law_X6_hasFault rfl rfl rfl (by decide +kernel) ⟨Nat.le_of_ble_eq_true rfl, Nat.le_of_ble_eq_true rfl⟩) (sg_pre (Wf := sg_WM cA am) hK (hP.sub [19, 20, 21, 22, 23, 24, 25, 26, 27, 28, 29, 30, 31, 32, 33, 34, 35, 36, 37, 38] rfl) (hD.sub [19, 20, 21, 22, 23, 24, 25, 26, 27, 28, 29, 30, 31, 32, 33, 34, 35, 36, 37, 38] (by decide) rfl) (ci := 8) (q0 := 0) rfl rfl) rfl rfl hl.1 rfl (lv_room (Nat.le_of_ble_eq_true rfl)) dL_law_1438 ⟨by show cells + 1 + 0 ≤ 649553; omega, by show slots + 6 + 0 ≤ 7063476; omega⟩) hP hD hS hA (fun H locs hP hD hS => ?_)
  refine lv_istore (lv' := [(7, .int r1), (6, .int r), (0, .ref b), (1, .ref (ax 0)), (2, .ref (am 0)), (3, .ref qo), (4, .ref qe), (5, .int x5)]) hx hb dL_law_1441 hl (by decide) rfl (fun ls hl => ?_)
  refine lv_aload_n hx hb dL_law_1443 rfl (lv_at hl 4 rfl) ?_
  refine sg_mi (va_runV (As := []) (rest := []) ⟨hx, hb, hml, hown, hts⟩ (c_X6_thrown l D cA am N v1 (v1 0 0) rfl _) (cwV 0 hts gL_law_X6_thrown rfl rfl rfl (by decide +kernel) ⟨Nat.le_of_ble_eq_true rfl, Nat.le_of_ble_eq_true rfl⟩) (sg_pre (Wf := sg_WM cA am) hK (hP.sub [19, 20, 21, 22, 23, 24, 25, 26, 27, 28, 29, 30, 31, 32, 33, 34, 35, 36, 37, 38] rfl) (hD.sub [19, 20, 21, 22, 23, 24, 25, 26, 27, 28, 29, 30, 31, 32, 33, 34, 35, 36, 37, 38] (by decide) rfl) (ci := 8) (q0 := 0) rfl rfl) rfl rfl hl.1 rfl (lv_room (Nat.le_of_ble_eq_true rfl)) dL_law_1444 ⟨by show cells + 1 + 0 ≤ 649553; omega, by show slots + 6 + 0 ≤ 7063476; omega⟩) hP hD hS hA (fun H locs hP hD hS => ?_)
  refine lv_iload hx hb dL_law_1447 (lv_at hl 1 rfl) ?_
  refine lv_icmp_eq (tgt := 1454) hx hb dL_law_1449 (by decide) (fun _ => ?_) (fun hz3 => absurd hth hz3)
  refine lv_iload hx hb dL_law_1454 (lv_at hl 1 rfl) ?_
  refine lv_if_ne (tgt := 1478) hx hb dL_law_1456 (by decide) (fun hr0 => ?_) (fun hr0 => ?_)
  · refine lv_goto (tgt := 2656) hx hb dL_law_1478 (by decide) ?_
    refine W.widen (k := cells + 10) (n := slots + 60) (by omega) (by omega) ?_
    exact kk _ _ _ _ _ _ _ hI1 hP hD hS (lv_sub hl [2, 3, 4, 5, 6, 7] rfl)
  · obtain ⟨ho, hRr⟩ := hout hr0
    subst ho
    refine lv_aload_n hx hb dL_law_1459 rfl (lv_at hl 5 rfl) ?_
    refine lv_iconst (v := 0) hx hb dL_law_1460 (by decide) ?_
    refine va_lald hx hb hK.1 hP 0 2 rfl rfl (sg_inb_s (i := 0) (n := 1) (by decide)) dL_law_1461 ?_
    refine lv_iload hx hb dL_law_1462 (lv_at hl 0 rfl) ?_
    refine lv_if_eq (tgt := 1471) hx hb dL_law_1464 (by decide) (fun hb1 => ?_) (fun hb1 => ?_)
    · refine lv_lconst (v := 0) hx hb dL_law_1471 (by decide) ?_
      refine W.lcmp hx hb dL_law_1472 ?_
      refine lv_if_eq (tgt := 1478) hx hb dL_law_1473 (by decide) (fun _ => ?_) (fun hz4 => absurd (by first | exact sg_cmp64 | exact sg_cmpB0 hb1 | exact sg_cmpB1 hb1) hz4)
      refine lv_goto (tgt := 2656) hx hb dL_law_1478 (by decide) ?_
      refine W.widen (k := cells + 10) (n := slots + 60) (by omega) (by omega) ?_
      exact kk _ _ _ _ _ _ _ hI1 hP hD hS (lv_sub hl [2, 3, 4, 5, 6, 7] rfl)
    · refine lv_lconst (v := 1) hx hb dL_law_1467 (by decide) ?_
      refine lv_goto (tgt := 1472) hx hb dL_law_1468 (by decide) ?_
      refine W.lcmp hx hb dL_law_1472 ?_
      refine lv_if_eq (tgt := 1478) hx hb dL_law_1473 (by decide) (fun _ => ?_) (fun hz4 => absurd (by first | exact sg_cmp64 | exact sg_cmpB0 hb1 | exact sg_cmpB1 hb1) hz4)
      refine lv_goto (tgt := 2656) hx hb dL_law_1478 (by decide) ?_
      refine W.widen (k := cells + 10) (n := slots + 60) (by omega) (by omega) ?_
      exact kk _ _ _ _ _ _ _ hI1 hP hD hS (lv_sub hl [2, 3, 4, 5, 6, 7] rfl)
set_option maxRecDepth 100000 in
set_option maxHeartbeats 4000000 in
theorem lw_case21 {p : Program} {l : Launch} {e : Env} {s : State} {m : MethodId} {below : List Frame} {meth : Method} {c : Code} {b L : Nat} {xs : Nat → Int32} {D : va_G} {cA : Nat → ClassId} {ax am : Nat → Nat} {qo qe N : Nat} {I : sg_St → sg_St → Prop} {Q : State → Prop} {cells slots : Nat} {H : Heap} {locs : List Loc} {ls : Array Slot} {x5 : Int32} {u v : sg_St} {o : Nat → Int64} {od : Nat → UInt64} (hlt : l.stackTraces = false) (C0 : sg_LA p s m meth c b L xs D cA) (hB : ∃ (R : (Nat ⊕ Int32) × sg_St) (r1 : Int32) (v1 : sg_St), fX5_islandOf N u (xs (x5 + 1).toNatClampNeg) = some R ∧ fX6_islandOf N v (xs (x5 + 1).toNatClampNeg) = some (r1, v1) ∧ sg_Rel I [5] R r1 v1) (hv1 : vp_in (x5 + 1) L) (hP : va_P D vwCl (sg_WW cA ax am qo qe u v o od) H) (hD : va_D (fun q : Nat => s.heap.size ≤ q) (sg_WW cA ax am qo qe u v o od)) (hS : va_S (fun q : Nat => s.heap.size ≤ q) s.heap H locs) (hl : lv_has ls 9 [(0, .ref b), (1, .ref (ax 0)), (2, .ref (am 0)), (3, .ref qo), (4, .ref qe), (5, .int x5)]) (hcs : cells + 10 ≤ 649553 ∧ slots + 60 ≤ 7063476) (kk : ∀ (u' v' : sg_St) (o' : Nat → Int64) (od' : Nat → UInt64) (H : Heap) (locs : List Loc) (ls : Array Slot), I u' v' → va_P D vwCl (sg_WW cA ax am qo qe u' v' o' od') H → va_D (fun q : Nat => s.heap.size ≤ q) (sg_WW cA ax am qo qe u' v' o' od') → va_S (fun q : Nat => s.heap.size ≤ q) s.heap H locs → lv_has ls 9 [(0, .ref b), (1, .ref (ax 0)), (2, .ref (am 0)), (3, .ref qo), (4, .ref qe), (5, .int x5)] → W p l e room_1 s m #[Value.ref b] below meth c H locs (cells + 10) (slots + 60) Q (F0 m 2656 ls [])) : W p l e room_1 s m #[Value.ref b] below meth c H locs cells slots Q (F0 m 1481 ls []) := by
  obtain ⟨hx, hb, hr, hml, hown, hts, hX, hbl, hK, hT, hN, hlocks⟩ := C0
  have hA : ∀ q : Nat, s.heap.size ≤ q → (fun q : Nat => s.heap.size ≤ q) q := fun _ h => h
  have hbA : ¬ (fun q : Nat => s.heap.size ≤ q) b := Nat.not_le.mpr hbl
  obtain ⟨R, r1, v1, hf1, hf2, hRel⟩ := hB
  have hR9 : ∀ k t, R = (.inl k, t) → k ∈ [5] := fun k t e9 => sg_Rel_in hRel e9
  refine lv_aload_n hx hb dL_law_1481 rfl (lv_at hl 1 rfl) ?_
  refine lv_aload_n hx hb dL_law_1482 rfl (lv_at hl 0 rfl) ?_
  refine lv_iload hx hb dL_law_1483 (lv_at hl 5 rfl) ?_
  refine lv_iconst (v := 1) hx hb dL_law_1485 (by decide) ?_
  refine lv_iadd hx hb dL_law_1486 ?_
  refine va_sld hx hb hX hbl hbA hS hv1 dL_law_1487 ?_
  refine lv_aload_n hx hb dL_law_1488 rfl (lv_at hl 3 rfl) ?_
  refine sg_hw (vx_runSW (As := [.ref (ax 0), .int (xs (x5 + 1).toNatClampNeg), .ref qo]) (rest := []) ⟨hx, hb, hml, hown, hts⟩ (c_L_islandOf l hlt D cA ax qo o N u _ R hf1 hR9 _) (vx_cwSW (hh := [(0, 9, 12, 25)]) 3 hts gL_law_L_islandOf rfl rfl rfl (by decide +kernel) ⟨Nat.le_of_ble_eq_true rfl, Nat.le_of_ble_eq_true rfl⟩) (sg_preL (w0 := sg_WL cA ax qo u o) hK (hP.sub [0, 2, 3, 4, 5, 6, 7, 8, 9, 10, 11, 12, 13, 14, 15, 16, 17, 18] rfl) (hD.sub [0, 2, 3, 4, 5, 6, 7, 8, 9, 10, 11, 12, 13, 14, 15, 16, 17, 18] (by decide) rfl) hT hN hS hA) rfl rfl hl.1 rfl (lv_room (Nat.le_of_ble_eq_true rfl)) dL_law_1489 ⟨by show cells + 1 ≤ 649553; omega, by show slots + 6 ≤ 7063476; omega⟩) hP hD hS hA (fun r u1 o1 H locs hlp hP hD hS => ?_)
  obtain ⟨hth, hI1, hout⟩ := sg_agree (by decide) hRel hlp
  refine lv_istore (lv' := [(6, .int r), (0, .ref b), (1, .ref (ax 0)), (2, .ref (am 0)), (3, .ref qo), (4, .ref qe), (5, .int x5)]) hx hb dL_law_1492 hl (by decide) rfl (fun ls hl => ?_)
  refine lv_aload_n hx hb dL_law_1494 rfl (lv_at hl 3 rfl) ?_
  refine lv_aload_n hx hb dL_law_1495 rfl (lv_at hl 1 rfl) ?_
  refine lv_iload hx hb dL_law_1496 (lv_at hl 6 rfl) ?_
  refine lv_iconst (v := 1) hx hb dL_law_1498 (by decide) ?_
  refine lv_iadd hx hb dL_law_1499 ?_
  refine va_sld hx hb hX hbl hbA hS hv1 dL_law_1500 ?_
  refine sg_mi (va_runV (As := [.int (xs (x5 + 1).toNatClampNeg)]) (rest := []) ⟨hx, hb, hml, hown, hts⟩ (c_X6_islandOf l D cA am N _ _ _ _ hf2 _) (cwV 1 hts gL_law_X6_islandOf rfl rfl rfl (by decide +kernel) ⟨Nat.le_of_ble_eq_true rfl, Nat.le_of_ble_eq_true rfl⟩) (sg_pre (Wf := sg_WM cA am) hK (hP.sub [19, 20, 21, 22, 23, 24, 25, 26, 27, 28, 29, 30, 31, 32, 33, 34, 35, 36, 37, 38] rfl) (hD.sub [19, 20, 21, 22, 23, 24, 25, 26, 27, 28, 29, 30, 31, 32, 33, 34, 35, 36, 37, 38] (by decide) rfl) (ci := 8) (q0 := 0) rfl rfl) rfl rfl hl.1 rfl (lv_room (Nat.le_of_ble_eq_true rfl)) dL_law_1501 ⟨by show cells + 1 + 0 ≤ 649553; omega, by show slots + 6 + 0 ≤ 7063476; omega⟩) hP hD hS hA (fun H locs hP hD hS => ?_)
  refine lv_istore (lv' := [(7, .int r1), (6, .int r), (0, .ref b), (1, .ref (ax 0)), (2, .ref (am 0)), (3, .ref qo), (4, .ref qe), (5, .int x5)]) hx hb dL_law_1504 hl (by decide) rfl (fun ls hl => ?_)
  refine lv_aload_n hx hb dL_law_1506 rfl (lv_at hl 4 rfl) ?_
  refine sg_mi (va_runV (As := []) (rest := []) ⟨hx, hb, hml, hown, hts⟩ (c_X6_thrown l D cA am N v1 (v1 0 0) rfl _) (cwV 0 hts gL_law_X6_thrown rfl rfl rfl (by decide +kernel) ⟨Nat.le_of_ble_eq_true rfl, Nat.le_of_ble_eq_true rfl⟩) (sg_pre (Wf := sg_WM cA am) hK (hP.sub [19, 20, 21, 22, 23, 24, 25, 26, 27, 28, 29, 30, 31, 32, 33, 34, 35, 36, 37, 38] rfl) (hD.sub [19, 20, 21, 22, 23, 24, 25, 26, 27, 28, 29, 30, 31, 32, 33, 34, 35, 36, 37, 38] (by decide) rfl) (ci := 8) (q0 := 0) rfl rfl) rfl rfl hl.1 rfl (lv_room (Nat.le_of_ble_eq_true rfl)) dL_law_1507 ⟨by show cells + 1 + 0 ≤ 649553; omega, by show slots + 6 + 0 ≤ 7063476; omega⟩) hP hD hS hA (fun H locs hP hD hS => ?_)
  refine lv_iload hx hb dL_law_1510 (lv_at hl 1 rfl) ?_
  refine lv_icmp_eq (tgt := 1517) hx hb dL_law_1512 (by decide) (fun _ => ?_) (fun hz3 => absurd hth hz3)
  refine lv_iload hx hb dL_law_1517 (lv_at hl 1 rfl) ?_
  refine lv_if_ne (tgt := 1534) hx hb dL_law_1519 (by decide) (fun hr0 => ?_) (fun hr0 => ?_)
  · refine lv_goto (tgt := 2656) hx hb dL_law_1534 (by decide) ?_
    refine W.widen (k := cells + 10) (n := slots + 60) (by omega) (by omega) ?_
    exact kk _ _ _ _ _ _ _ hI1 hP hD hS (lv_sub hl [2, 3, 4, 5, 6, 7] rfl)
  · obtain ⟨ho, hRr⟩ := hout hr0
    subst ho
    refine lv_aload_n hx hb dL_law_1522 rfl (lv_at hl 5 rfl) ?_
    refine lv_iconst (v := 0) hx hb dL_law_1523 (by decide) ?_
    refine va_lald hx hb hK.1 hP 0 2 rfl rfl (sg_inb_s (i := 0) (n := 1) (by decide)) dL_law_1524 ?_
    refine lv_iload hx hb dL_law_1525 (lv_at hl 0 rfl) ?_
    refine lv_i2l (v := r1.toInt64) hx hb dL_law_1527 rfl ?_
    refine W.lcmp hx hb dL_law_1528 ?_
    refine lv_if_eq (tgt := 1534) hx hb dL_law_1529 (by decide) (fun _ => ?_) (fun hz4 => absurd (by first | exact sg_cmp64 | exact sg_cmpB0 hb1 | exact sg_cmpB1 hb1) hz4)
    refine lv_goto (tgt := 2656) hx hb dL_law_1534 (by decide) ?_
    refine W.widen (k := cells + 10) (n := slots + 60) (by omega) (by omega) ?_
    exact kk _ _ _ _ _ _ _ hI1 hP hD hS (lv_sub hl [2, 3, 4, 5, 6, 7] rfl)
set_option maxRecDepth 100000 in
set_option maxHeartbeats 4000000 in
theorem lw_case22 {p : Program} {l : Launch} {e : Env} {s : State} {m : MethodId} {below : List Frame} {meth : Method} {c : Code} {b L : Nat} {xs : Nat → Int32} {D : va_G} {cA : Nat → ClassId} {ax am : Nat → Nat} {qo qe N : Nat} {I : sg_St → sg_St → Prop} {Q : State → Prop} {cells slots : Nat} {H : Heap} {locs : List Loc} {ls : Array Slot} {x5 : Int32} {u v : sg_St} {o : Nat → Int64} {od : Nat → UInt64} (hlt : l.stackTraces = false) (C0 : sg_LA p s m meth c b L xs D cA) (hB : ∃ (R : (Nat ⊕ Int32) × sg_St) (r1 : Int32) (v1 : sg_St), fX5_islandByRounds N u (xs (x5 + 1).toNatClampNeg) = some R ∧ fX6_islandByRounds N v (xs (x5 + 1).toNatClampNeg) = some (r1, v1) ∧ sg_Rel I [5] R r1 v1) (hv1 : vp_in (x5 + 1) L) (hP : va_P D vwCl (sg_WW cA ax am qo qe u v o od) H) (hD : va_D (fun q : Nat => s.heap.size ≤ q) (sg_WW cA ax am qo qe u v o od)) (hS : va_S (fun q : Nat => s.heap.size ≤ q) s.heap H locs) (hl : lv_has ls 9 [(0, .ref b), (1, .ref (ax 0)), (2, .ref (am 0)), (3, .ref qo), (4, .ref qe), (5, .int x5)]) (hcs : cells + 10 ≤ 649553 ∧ slots + 60 ≤ 7063476) (kk : ∀ (u' v' : sg_St) (o' : Nat → Int64) (od' : Nat → UInt64) (H : Heap) (locs : List Loc) (ls : Array Slot), I u' v' → va_P D vwCl (sg_WW cA ax am qo qe u' v' o' od') H → va_D (fun q : Nat => s.heap.size ≤ q) (sg_WW cA ax am qo qe u' v' o' od') → va_S (fun q : Nat => s.heap.size ≤ q) s.heap H locs → lv_has ls 9 [(0, .ref b), (1, .ref (ax 0)), (2, .ref (am 0)), (3, .ref qo), (4, .ref qe), (5, .int x5)] → W p l e room_1 s m #[Value.ref b] below meth c H locs (cells + 10) (slots + 60) Q (F0 m 2656 ls [])) : W p l e room_1 s m #[Value.ref b] below meth c H locs cells slots Q (F0 m 1537 ls []) := by
  obtain ⟨hx, hb, hr, hml, hown, hts, hX, hbl, hK, hT, hN, hlocks⟩ := C0
  have hA : ∀ q : Nat, s.heap.size ≤ q → (fun q : Nat => s.heap.size ≤ q) q := fun _ h => h
  have hbA : ¬ (fun q : Nat => s.heap.size ≤ q) b := Nat.not_le.mpr hbl
  obtain ⟨R, r1, v1, hf1, hf2, hRel⟩ := hB
  have hR9 : ∀ k t, R = (.inl k, t) → k ∈ [5] := fun k t e9 => sg_Rel_in hRel e9
  refine lv_aload_n hx hb dL_law_1537 rfl (lv_at hl 1 rfl) ?_
  refine lv_aload_n hx hb dL_law_1538 rfl (lv_at hl 0 rfl) ?_
  refine lv_iload hx hb dL_law_1539 (lv_at hl 5 rfl) ?_
  refine lv_iconst (v := 1) hx hb dL_law_1541 (by decide) ?_
  refine lv_iadd hx hb dL_law_1542 ?_
  refine va_sld hx hb hX hbl hbA hS hv1 dL_law_1543 ?_
  refine lv_aload_n hx hb dL_law_1544 rfl (lv_at hl 3 rfl) ?_
  refine sg_hw (vx_runSW (As := [.ref (ax 0), .int (xs (x5 + 1).toNatClampNeg), .ref qo]) (rest := []) ⟨hx, hb, hml, hown, hts⟩ (c_L_islandByRounds l hlt D cA ax qo o N u _ R hf1 hR9 _) (vx_cwSW (hh := [(0, 9, 12, 25)]) 3 hts gL_law_L_islandByRounds rfl rfl rfl (by decide +kernel) ⟨Nat.le_of_ble_eq_true rfl, Nat.le_of_ble_eq_true rfl⟩) (sg_preL (w0 := sg_WL cA ax qo u o) hK (hP.sub [0, 2, 3, 4, 5, 6, 7, 8, 9, 10, 11, 12, 13, 14, 15, 16, 17, 18] rfl) (hD.sub [0, 2, 3, 4, 5, 6, 7, 8, 9, 10, 11, 12, 13, 14, 15, 16, 17, 18] (by decide) rfl) hT hN hS hA) rfl rfl hl.1 rfl (lv_room (Nat.le_of_ble_eq_true rfl)) dL_law_1545 ⟨by show cells + 1 ≤ 649553; omega, by show slots + 6 ≤ 7063476; omega⟩) hP hD hS hA (fun r u1 o1 H locs hlp hP hD hS => ?_)
  obtain ⟨hth, hI1, hout⟩ := sg_agree (by decide) hRel hlp
  refine lv_istore (lv' := [(6, .int r), (0, .ref b), (1, .ref (ax 0)), (2, .ref (am 0)), (3, .ref qo), (4, .ref qe), (5, .int x5)]) hx hb dL_law_1548 hl (by decide) rfl (fun ls hl => ?_)
  refine lv_aload_n hx hb dL_law_1550 rfl (lv_at hl 3 rfl) ?_
  refine lv_aload_n hx hb dL_law_1551 rfl (lv_at hl 1 rfl) ?_
  refine lv_iload hx hb dL_law_1552 (lv_at hl 6 rfl) ?_
  refine lv_iconst (v := 1) hx hb dL_law_1554 (by decide) ?_
  refine lv_iadd hx hb dL_law_1555 ?_
  refine va_sld hx hb hX hbl hbA hS hv1 dL_law_1556 ?_
  refine sg_mi (va_runV (As := [.int (xs (x5 + 1).toNatClampNeg)]) (rest := []) ⟨hx, hb, hml, hown, hts⟩ (c_X6_islandByRounds l D cA am N _ _ _ _ hf2 _) (cwV 1 hts gL_law_X6_islandByRounds rfl rfl rfl (by decide +kernel) ⟨Nat.le_of_ble_eq_true rfl, Nat.le_of_ble_eq_true rfl⟩) (sg_pre (Wf := sg_WM cA am) hK (hP.sub [19, 20, 21, 22, 23, 24, 25, 26, 27, 28, 29, 30, 31, 32, 33, 34, 35, 36, 37, 38] rfl) (hD.sub [19, 20, 21, 22, 23, 24, 25, 26, 27, 28, 29, 30, 31, 32, 33, 34, 35, 36, 37, 38] (by decide) rfl) (ci := 8) (q0 := 0) rfl rfl) rfl rfl hl.1 rfl (lv_room (Nat.le_of_ble_eq_true rfl)) dL_law_1557 ⟨by show cells + 1 + 0 ≤ 649553; omega, by show slots + 6 + 0 ≤ 7063476; omega⟩) hP hD hS hA (fun H locs hP hD hS => ?_)
  refine lv_istore (lv' := [(7, .int r1), (6, .int r), (0, .ref b), (1, .ref (ax 0)), (2, .ref (am 0)), (3, .ref qo), (4, .ref qe), (5, .int x5)]) hx hb dL_law_1560 hl (by decide) rfl (fun ls hl => ?_)
  refine lv_aload_n hx hb dL_law_1562 rfl (lv_at hl 4 rfl) ?_
  refine sg_mi (va_runV (As := []) (rest := []) ⟨hx, hb, hml, hown, hts⟩ (c_X6_thrown l D cA am N v1 (v1 0 0) rfl _) (cwV 0 hts gL_law_X6_thrown rfl rfl rfl (by decide +kernel) ⟨Nat.le_of_ble_eq_true rfl, Nat.le_of_ble_eq_true rfl⟩) (sg_pre (Wf := sg_WM cA am) hK (hP.sub [19, 20, 21, 22, 23, 24, 25, 26, 27, 28, 29, 30, 31, 32, 33, 34, 35, 36, 37, 38] rfl) (hD.sub [19, 20, 21, 22, 23, 24, 25, 26, 27, 28, 29, 30, 31, 32, 33, 34, 35, 36, 37, 38] (by decide) rfl) (ci := 8) (q0 := 0) rfl rfl) rfl rfl hl.1 rfl (lv_room (Nat.le_of_ble_eq_true rfl)) dL_law_1563 ⟨by show cells + 1 + 0 ≤ 649553; omega, by show slots + 6 + 0 ≤ 7063476; omega⟩) hP hD hS hA (fun H locs hP hD hS => ?_)
  refine lv_iload hx hb dL_law_1566 (lv_at hl 1 rfl) ?_
  refine lv_icmp_eq (tgt := 1573) hx hb dL_law_1568 (by decide) (fun _ => ?_) (fun hz3 => absurd hth hz3)
  refine lv_iload hx hb dL_law_1573 (lv_at hl 1 rfl) ?_
  refine lv_if_ne (tgt := 1590) hx hb dL_law_1575 (by decide) (fun hr0 => ?_) (fun hr0 => ?_)
  · refine lv_goto (tgt := 2656) hx hb dL_law_1590 (by decide) ?_
    refine W.widen (k := cells + 10) (n := slots + 60) (by omega) (by omega) ?_
    exact kk _ _ _ _ _ _ _ hI1 hP hD hS (lv_sub hl [2, 3, 4, 5, 6, 7] rfl)
  · obtain ⟨ho, hRr⟩ := hout hr0
    subst ho
    refine lv_aload_n hx hb dL_law_1578 rfl (lv_at hl 5 rfl) ?_
    refine lv_iconst (v := 0) hx hb dL_law_1579 (by decide) ?_
    refine va_lald hx hb hK.1 hP 0 2 rfl rfl (sg_inb_s (i := 0) (n := 1) (by decide)) dL_law_1580 ?_
    refine lv_iload hx hb dL_law_1581 (lv_at hl 0 rfl) ?_
    refine lv_i2l (v := r1.toInt64) hx hb dL_law_1583 rfl ?_
    refine W.lcmp hx hb dL_law_1584 ?_
    refine lv_if_eq (tgt := 1590) hx hb dL_law_1585 (by decide) (fun _ => ?_) (fun hz4 => absurd (by first | exact sg_cmp64 | exact sg_cmpB0 hb1 | exact sg_cmpB1 hb1) hz4)
    refine lv_goto (tgt := 2656) hx hb dL_law_1590 (by decide) ?_
    refine W.widen (k := cells + 10) (n := slots + 60) (by omega) (by omega) ?_
    exact kk _ _ _ _ _ _ _ hI1 hP hD hS (lv_sub hl [2, 3, 4, 5, 6, 7] rfl)
