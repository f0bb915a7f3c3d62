/-! what a throw needs; calls that may throw -/
def sg_nmz : List String := ["java/lang/RuntimeException", "java/lang/Exception"]
def sg_ex : List (Nat × String) := [(104, "java/lang/IllegalStateException"), (54, "java/lang/IllegalArgumentException"), (228, "java/lang/IndexOutOfBoundsException"), (279, "java/lang/ArithmeticException"), (178, "java/lang/UnsupportedOperationException"), (293, "java/util/NoSuchElementException")]
def sg_en (k : Nat) : String := (sg_ex.map Prod.snd).getD k ""
def sg_ng : List Cond := sg_ex.map (fun q => Cond.castable q.2 q.2)
def sg_strs : List (Nat × String) := [(52, "a capacity is from 1 to 999"), (69, "a priority is from 0 to 9"), (74, "a line has two different ends"), (76, "a rating is from 1 to 999"), (102, "the source or a line cannot carry this load"), (108, "a pickup is from 1 to 999"), (110, "a multiplier is from 1 to 10"), (112, "an instant step is 0 or greater than the pickup"), (153, "the line has a fault"), (171, "the line has no fault"), (179, "the line is not locked out"), (210, "the island is dark"), (226, "the path has no line with this index"), (236, "a current is from 1 to 99999"), (241, "the line is not protected selectively"), (246, "no other relay on the path trips"), (264, "the best plan has no line with this index"), (277, "the sum of all loads is 0"), (291, "there is no such node"), (297, "there is no such line"), (299, "the node is a source"), (304, "the line is not switched by a breaker"), (309, "plans can consist of more than 9 lines"), (311, "a load is from 0 to 99"), (313, "there is no room for one more"), (318, "it is not a closed line of a live island")]
def sg_dc : List MethodName := [Bundle.initS "java/lang/RuntimeException", Bundle.initS "java/lang/Exception", Bundle.initS Bundle.tN]
def sg_TT (A : Nat → Prop) (U : State) : Prop := vx_Zq Bundle.tN "UNASSIGNED_STACK" Bundle.steD A U U.heap ∧ vx_Zq Bundle.tN "SUPPRESSED_SENTINEL" Bundle.listD A U U.heap ∧ (∀ q ∈ sg_strs, ∃ sa, vk_R RX5 q.1 q.2 sa U) ∧ (∀ q ∈ sg_ex, va_Nw (.castable q.2 q.2) U) ∧ ∀ q ∈ sg_dc, va_Nw (.declares q) U
theorem sg_TT.at {A B : Nat → Prop} {s U : State} {H : Heap} {locs : List Loc} (hW : s.WarmedH U.vm) (h : sg_TT A s) (hU : U.heap = H) (hS : va_S A s.heap H locs) (hAB : ∀ q, B q → A q) : sg_TT B U := by
  obtain ⟨h1, h2, h3, h4, h5⟩ := h
  refine ⟨?_, ?_, fun q hq => ?_, fun q hq => ?_, fun q hq => (h5 q hq).warmD hW⟩
  · rw [hU]; exact (vx_Zq.moved hW.alike (h1.kept hS.2.1)).narrow hAB
  · rw [hU]; exact (vx_Zq.moved hW.alike (h2.kept hS.2.1)).narrow hAB
  · obtain ⟨sa, h⟩ := h3 q hq
    exact ⟨sa, vk_R.warm hW h⟩
  · exact (h4 q hq).warmC hW
theorem sg_TT.call {A : Nat → Prop} {U : State} {g : JFrame} {mk : MethodId} {a : Array Value} (h : sg_TT A U) : sg_TT A (U.calling g mk a) := by
  obtain ⟨h1, h2, h3, h4, h5⟩ := h
  refine ⟨vx_Zq.moved (u := U) (U := U.calling g mk a) (Vm.Alike.refl U.vm) h1, vx_Zq.moved (u := U) (U := U.calling g mk a) (Vm.Alike.refl U.vm) h2, fun q hq => ?_, fun q hq => ?_, fun q hq => va_Nw.same (u := U) (U := U.calling g mk a) rfl rfl (h5 q hq)⟩
  · obtain ⟨sa, h⟩ := h3 q hq
    exact ⟨sa, vk_R.same (u := U) (U := U.calling g mk a) rfl h⟩
  · exact va_Nw.same (u := U) (U := U.calling g mk a) rfl rfl (h4 q hq)
def sg_PT (D : va_G) (cA : Nat → ClassId) (Wf : sg_St → va_W) (u : sg_St) (sz : Nat) (U : State) : Prop := sg_PX D cA Wf u sz U ∧ sg_TT (va_A (Wf u) sz) U
def sg_XC {α : Type} (D : va_G) (Wf : sg_St → va_W) (A : Nat → Prop) (R0 : (Nat ⊕ α) × sg_St) : String → State → State → Prop := vx_X (fun z : Nat × sg_St => R0 = (.inl z.1, z.2)) (fun E z t => E = sg_en z.1 ∧ va_P D vwCl (Wf z.2) t.heap ∧ va_D A (Wf z.2)) A
def sg_QI (D : va_G) (Wf : sg_St → va_W) (A : Nat → Prop) (R0 : (Nat ⊕ Int32) × sg_St) : Array Value → State → Outcome → State → Prop := va_Qi (fun r v => R0 = (.inr r, v)) (sg_BX D Wf A) A
def sg_QV (D : va_G) (Wf : sg_St → va_W) (A : Nat → Prop) (R0 : (Nat ⊕ Unit) × sg_St) : Array Value → State → Outcome → State → Prop := va_Qv (fun v => R0 = (.inr (), v)) (sg_BX D Wf A) A
def sg_QF (D : va_G) (Wf : sg_St → va_W) (A : Nat → Prop) (R0 : (Nat ⊕ UInt32) × sg_St) : Array Value → State → Outcome → State → Prop := va_Qf (fun r v => R0 = (.inr r, v)) (sg_BX D Wf A) A
def sg_QD (D : va_G) (Wf : sg_St → va_W) (A : Nat → Prop) (R0 : (Nat ⊕ UInt64) × sg_St) : Array Value → State → Outcome → State → Prop := va_Qd (fun r v => R0 = (.inr r, v)) (sg_BX D Wf A) A
def sg_TI (l : Launch) (D : va_G) (cA : Nat → ClassId) (Wf : sg_St → va_W) (y : MethodName) (ws : List Cond) (rm : Room) (av : List Value) (u : sg_St) (mc ms : Nat) (R0 : (Nat ⊕ Int32) × sg_St) : Prop := ∀ sz : Nat, vx_Met l y ws rm (va_Pc av (sg_PT D cA Wf u sz)) (sg_QI D Wf (va_A (Wf u) sz) R0) (sg_XC D Wf (va_A (Wf u) sz) R0) mc ms (va_A (Wf u) sz)
def sg_TV (l : Launch) (D : va_G) (cA : Nat → ClassId) (Wf : sg_St → va_W) (y : MethodName) (ws : List Cond) (rm : Room) (av : List Value) (u : sg_St) (mc ms : Nat) (R0 : (Nat ⊕ Unit) × sg_St) : Prop := ∀ sz : Nat, vx_Met l y ws rm (va_Pc av (sg_PT D cA Wf u sz)) (sg_QV D Wf (va_A (Wf u) sz) R0) (sg_XC D Wf (va_A (Wf u) sz) R0) mc ms (va_A (Wf u) sz)
def sg_TF (l : Launch) (D : va_G) (cA : Nat → ClassId) (Wf : sg_St → va_W) (y : MethodName) (ws : List Cond) (rm : Room) (av : List Value) (u : sg_St) (mc ms : Nat) (R0 : (Nat ⊕ UInt32) × sg_St) : Prop := ∀ sz : Nat, vx_Met l y ws rm (va_Pc av (sg_PT D cA Wf u sz)) (sg_QF D Wf (va_A (Wf u) sz) R0) (sg_XC D Wf (va_A (Wf u) sz) R0) mc ms (va_A (Wf u) sz)
def sg_TD (l : Launch) (D : va_G) (cA : Nat → ClassId) (Wf : sg_St → va_W) (y : MethodName) (ws : List Cond) (rm : Room) (av : List Value) (u : sg_St) (mc ms : Nat) (R0 : (Nat ⊕ UInt64) × sg_St) : Prop := ∀ sz : Nat, vx_Met l y ws rm (va_Pc av (sg_PT D cA Wf u sz)) (sg_QD D Wf (va_A (Wf u) sz) R0) (sg_XC D Wf (va_A (Wf u) sz) R0) mc ms (va_A (Wf u) sz)
theorem sg_blindT {D : va_G} {cA : Nat → ClassId} {Wf : sg_St → va_W} {u : sg_St} {sz : Nat} {av : List Value} : FrameBlind (va_Pc av (sg_PT D cA Wf u sz)) := fun a U g mk q => by
  obtain ⟨h1, ⟨h2, h3, h4, h5⟩, h6⟩ := q
  exact ⟨h1, ⟨h2, h3, h4.call, h5⟩, h6.call⟩
theorem sg_preT {D : va_G} {cA : Nat → ClassId} {Wf : sg_St → va_W} {u : sg_St} {A : Nat → Prop} {s : State} {H : Heap} {locs : List Loc} {b : Nat} {As : List Value} {C : String} {T : u_T} {n ci q0 : Nat} {fs : List Value} (hK : sg_KK D cA s) (hP : va_P D vwCl (Wf u) H) (hD : va_D A (Wf u)) (hT : sg_TT A s) (hS : va_S A s.heap H locs) (hA : ∀ q, s.heap.size ≤ q → A q) (hc : vwCl[ci]? = some (C, T, n)) (he : (Wf u)[q0]? = some (b, .inr (ci, fs))) : PreV s H C b (va_Pc (.ref b :: As) (sg_PT D cA Wf u H.size)) As :=
  ⟨sg_blindT, va_recv hK.1 hP hc he, fun U hU hW => ⟨rfl, ⟨by rw [hU], by rw [hU]; exact hP, hK.warm hW, hD.weaken (fun _ _ _ _ => trivial)⟩, hT.at hW hU hS (sg_A_in hD hS hA)⟩⟩
theorem sg_preT0 {D : va_G} {cA : Nat → ClassId} {u : sg_St} {A : Nat → Prop} {s : State} {H : Heap} {locs : List Loc} {As : List Value} (hK : sg_KK D cA s) (hT : sg_TT A s) (hS : va_S A s.heap H locs) (hA : ∀ q, s.heap.size ≤ q → A q) : PreS s H (va_Pc As (sg_PT D cA sg_W0 u H.size)) As :=
  ⟨sg_blindT, fun U hU hW => ⟨rfl, ⟨by rw [hU], fun k q h => by simp [sg_W0] at h, hK.warm hW, ⟨fun i j p q h => by simp [sg_W0] at h, fun k q h => by simp [sg_W0] at h⟩⟩, hT.at hW hU hS (sg_A_0 hS hA)⟩⟩
def sg_bt0 {α β : Type} (o : Option ((Nat ⊕ α) × sg_St)) (u : sg_St) (k : α → Option ((Nat ⊕ β) × sg_St)) : Option ((Nat ⊕ β) × sg_St) := o.bind (fun x => Sum.elim (fun e => some (.inl e, u)) k x.1)
theorem sg_bt0_s {α β : Type} {o : Option ((Nat ⊕ α) × sg_St)} {u : sg_St} {k : α → Option ((Nat ⊕ β) × sg_St)} {R : (Nat ⊕ β) × sg_St} (h : sg_bt0 o u k = some R) : ∃ x, o = some x ∧ (∀ e t, x = (.inl e, t) → (.inl e, u) = R) ∧ (∀ a t, x = (.inr a, t) → k a = some R) := by
  cases o with
  | none => cases h
  | some x =>
    refine ⟨x, rfl, fun e t hx => ?_, fun a t hx => ?_⟩
    · subst hx
      exact Option.some.inj h
    · subst hx
      exact h
section SGT
variable {p : Program} {l : Launch} {e : Env} {R : Room} {s : State} {m : MethodId} {args : Array Value} {below : List Frame} {meth : Method} {c : Code} {H : Heap} {locs : List Loc} {cells slots mc ms MC MS : Nat} {Qc : Array Value → State → Outcome → State → Prop}
variable {pc : Nat} {ls : Array Slot} {rest st0 : List Value} {a : Array Value} {A : Nat → Prop} {D : va_G} {Wf : sg_St → va_W} {u : sg_St}
theorem sg_kx {α β : Type} {R1 : (Nat ⊕ α) × sg_St} {R0 : (Nat ⊕ β) × sg_St} (hlocks : meth.locks = false) (htab : ∀ x ∈ c.exceptionTable.toList, False) (hx : ∀ e t, R1 = (.inl e, t) → (.inl e, t) = R0) (hcm : cells ≤ MC) (hsm : slots ≤ MS) {E : String} {ce : Cell} {q9 : Addr} {z : Nat × sg_St} {t : State} {H1 : Heap} {locs1 : List Loc} (ht : t.heap = H1) (hpx : R1 = (.inl z.1, z.2)) (hE : E = sg_en z.1) (hP : va_P D vwCl (Wf z.2) t.heap) (hD : va_D A (Wf z.2)) (hS : va_S A s.heap H1 locs1) (hce : H1[q9]? = some ce) (hcv : ce.vm = .none) (hcl : s.vm.findClass E = some ce.cls) : vx_W p l e R s m args below meth c H1 locs1 cells slots (vx_MQ below Qc (sg_XC D Wf A R0) args s MC MS A) (F0 m pc ls rest) q9 := by
  refine vx_out (fun x hx => (htab x hx).elim) hlocks hce hcv hcl (fun t9 ht9 hvm9 => ?_) hS.2.2 hcm hsm
  refine ⟨z, (hx _ _ hpx).symm, ⟨hE, ?_, hD⟩, hS.F ht9⟩
  rw [ht9, ← ht]
  exact hP
theorem sg_xi {β : Type} {R1 : (Nat ⊕ Int32) × sg_St} {R0 : (Nat ⊕ β) × sg_St} (hr : vx_Run p l e R s m args below meth c H locs cells slots mc ms (F0 m pc ls st0) rest (sg_QI D Wf (va_A (Wf u) H.size) R1 a) (sg_XC D Wf (va_A (Wf u) H.size) R1) (va_A (Wf u) H.size)) (hD : va_D A (Wf u)) (hS : va_S A s.heap H locs) (hA : ∀ q, s.heap.size ≤ q → A q) (htab : ∀ x ∈ c.exceptionTable.toList, False) (hlocks : meth.locks = false) (hcm : cells + mc ≤ MC) (hsm : slots + ms ≤ MS) (hx : ∀ e t, R1 = (.inl e, t) → (.inl e, t) = R0)
    (kk : ∀ (r : Int32) (v : sg_St) (H1 : Heap) (locs1 : List Loc), R1 = (.inr r, v) → va_P D vwCl (Wf v) H1 → va_D A (Wf v) → va_S A s.heap H1 locs1 → W p l e R s m args below meth c H1 locs1 (cells + mc) (slots + ms) (vx_MQ below Qc (sg_XC D Wf A R0) args s MC MS A) (F0 m (pc + 3) ls (.int r :: rest))) : W p l e R s m args below meth c H locs cells slots (vx_MQ below Qc (sg_XC D Wf A R0) args s MC MS A) (F0 m pc ls st0) :=
  vx_calli hr hS (fun q _ h => sg_A_in hD hS hA q h) (sg_A_in hD hS hA) (fun q _ h => sg_A_in hD hS hA q h)
    (fun E ce q9 z t H1 locs1 ht hvm hpx hB hz hk hS1 hce hcv hcl => sg_kx hlocks htab hx hcm hsm ht hpx hB.1 hB.2.1 (hB.2.2.weaken (fun _ q _ h => sg_A_in hD hS hA q.1 h)) hS1 hce hcv hcl)
    (fun r v t H1 locs1 ht hvm hw hB hz hk hS1 => by
      obtain ⟨hP1, hD1⟩ := hB
      rw [ht] at hP1
      exact kk r v H1 locs1 hw hP1 (hD1.weaken (fun _ q _ h => sg_A_in hD hS hA q.1 h)) hS1)
theorem sg_xv {β : Type} {R1 : (Nat ⊕ Unit) × sg_St} {R0 : (Nat ⊕ β) × sg_St} (hr : vx_Run p l e R s m args below meth c H locs cells slots mc ms (F0 m pc ls st0) rest (sg_QV D Wf (va_A (Wf u) H.size) R1 a) (sg_XC D Wf (va_A (Wf u) H.size) R1) (va_A (Wf u) H.size)) (hD : va_D A (Wf u)) (hS : va_S A s.heap H locs) (hA : ∀ q, s.heap.size ≤ q → A q) (htab : ∀ x ∈ c.exceptionTable.toList, False) (hlocks : meth.locks = false) (hcm : cells + mc ≤ MC) (hsm : slots + ms ≤ MS) (hx : ∀ e t, R1 = (.inl e, t) → (.inl e, t) = R0)
    (kk : ∀ (v : sg_St) (H1 : Heap) (locs1 : List Loc), R1 = (.inr (), v) → va_P D vwCl (Wf v) H1 → va_D A (Wf v) → va_S A s.heap H1 locs1 → W p l e R s m args below meth c H1 locs1 (cells + mc) (slots + ms) (vx_MQ below Qc (sg_XC D Wf A R0) args s MC MS A) (F0 m (pc + 3) ls rest)) : W p l e R s m args below meth c H locs cells slots (vx_MQ below Qc (sg_XC D Wf A R0) args s MC MS A) (F0 m pc ls st0) :=
  vx_callv hr hS (fun q _ h => sg_A_in hD hS hA q h) (sg_A_in hD hS hA) (fun q _ h => sg_A_in hD hS hA q h)
    (fun E ce q9 z t H1 locs1 ht hvm hpx hB hz hk hS1 hce hcv hcl => sg_kx hlocks htab hx hcm hsm ht hpx hB.1 hB.2.1 (hB.2.2.weaken (fun _ q _ h => sg_A_in hD hS hA q.1 h)) hS1 hce hcv hcl)
    (fun v t H1 locs1 ht hvm hw hB hz hk hS1 => by
      obtain ⟨hP1, hD1⟩ := hB
      rw [ht] at hP1
      exact kk v H1 locs1 hw hP1 (hD1.weaken (fun _ q _ h => sg_A_in hD hS hA q.1 h)) hS1)
theorem sg_kx0 {α β : Type} {R1 : (Nat ⊕ α) × sg_St} {R0 : (Nat ⊕ β) × sg_St} (hlocks : meth.locks = false) (htab : ∀ x ∈ c.exceptionTable.toList, False) (hx : ∀ e t, R1 = (.inl e, t) → (.inl e, u) = R0) (hcm : cells ≤ MC) (hsm : slots ≤ MS) {E : String} {ce : Cell} {q9 : Addr} {z : Nat × sg_St} {H1 : Heap} {locs1 : List Loc} (hpx : R1 = (.inl z.1, z.2)) (hE : E = sg_en z.1) (hP : va_P D vwCl (Wf u) H1) (hD : va_D A (Wf u)) (hS : va_S A s.heap H1 locs1) (hce : H1[q9]? = some ce) (hcv : ce.vm = .none) (hcl : s.vm.findClass E = some ce.cls) : vx_W p l e R s m args below meth c H1 locs1 cells slots (vx_MQ below Qc (sg_XC D Wf A R0) args s MC MS A) (F0 m pc ls rest) q9 := by
  refine vx_out (fun x hx => (htab x hx).elim) hlocks hce hcv hcl (fun t9 ht9 hvm9 => ?_) hS.2.2 hcm hsm
  refine ⟨(z.1, u), (hx _ _ hpx).symm, ⟨hE, ?_, hD⟩, hS.F ht9⟩
  rw [ht9]
  exact hP
theorem sg_xi0 {β : Type} {u9 : sg_St} {R1 : (Nat ⊕ Int32) × sg_St} {R0 : (Nat ⊕ β) × sg_St} (hr : vx_Run p l e R s m args below meth c H locs cells slots mc ms (F0 m pc ls st0) rest (sg_QI D sg_W0 (va_A (sg_W0 u9) H.size) R1 a) (sg_XC D sg_W0 (va_A (sg_W0 u9) H.size) R1) (va_A (sg_W0 u9) H.size)) (hP : va_P D vwCl (Wf u) H) (hD : va_D A (Wf u)) (hS : va_S A s.heap H locs) (hA : ∀ q, s.heap.size ≤ q → A q) (htab : ∀ x ∈ c.exceptionTable.toList, False) (hlocks : meth.locks = false) (hcm : cells + mc ≤ MC) (hsm : slots + ms ≤ MS) (hx : ∀ e t, R1 = (.inl e, t) → (.inl e, u) = R0)
    (kk : ∀ (r : Int32) (v : sg_St) (H1 : Heap) (locs1 : List Loc), R1 = (.inr r, v) → va_P D vwCl (Wf u) H1 → va_S A s.heap H1 locs1 → W p l e R s m args below meth c H1 locs1 (cells + mc) (slots + ms) (vx_MQ below Qc (sg_XC D Wf A R0) args s MC MS A) (F0 m (pc + 3) ls (.int r :: rest))) : W p l e R s m args below meth c H locs cells slots (vx_MQ below Qc (sg_XC D Wf A R0) args s MC MS A) (F0 m pc ls st0) :=
  vx_calli hr hS (fun q _ h => sg_A_0 hS hA q h) (sg_A_0 hS hA) (fun q _ h => sg_A_0 hS hA q h)
    (fun E ce q9 z t H1 locs1 ht hvm hpx hB hz hk hS1 hce hcv hcl => sg_kx0 hlocks htab hx hcm hsm hpx hB.1 (sg_P_0 hP hk) hD hS1 hce hcv hcl)
    (fun r v t H1 locs1 ht hvm hw hB hz hk hS1 => kk r v H1 locs1 hw (sg_P_0 hP hk) hS1)
theorem sg_xv0 {β : Type} {u9 : sg_St} {R1 : (Nat ⊕ Unit) × sg_St} {R0 : (Nat ⊕ β) × sg_St} (hr : vx_Run p l e R s m args below meth c H locs cells slots mc ms (F0 m pc ls st0) rest (sg_QV D sg_W0 (va_A (sg_W0 u9) H.size) R1 a) (sg_XC D sg_W0 (va_A (sg_W0 u9) H.size) R1) (va_A (sg_W0 u9) H.size)) (hP : va_P D vwCl (Wf u) H) (hD : va_D A (Wf u)) (hS : va_S A s.heap H locs) (hA : ∀ q, s.heap.size ≤ q → A q) (htab : ∀ x ∈ c.exceptionTable.toList, False) (hlocks : meth.locks = false) (hcm : cells + mc ≤ MC) (hsm : slots + ms ≤ MS) (hx : ∀ e t, R1 = (.inl e, t) → (.inl e, u) = R0)
    (kk : ∀ (v : sg_St) (H1 : Heap) (locs1 : List Loc), R1 = (.inr (), v) → va_P D vwCl (Wf u) H1 → va_S A s.heap H1 locs1 → W p l e R s m args below meth c H1 locs1 (cells + mc) (slots + ms) (vx_MQ below Qc (sg_XC D Wf A R0) args s MC MS A) (F0 m (pc + 3) ls rest)) : W p l e R s m args below meth c H locs cells slots (vx_MQ below Qc (sg_XC D Wf A R0) args s MC MS A) (F0 m pc ls st0) :=
  vx_callv hr hS (fun q _ h => sg_A_0 hS hA q h) (sg_A_0 hS hA) (fun q _ h => sg_A_0 hS hA q h)
    (fun E ce q9 z t H1 locs1 ht hvm hpx hB hz hk hS1 hce hcv hcl => sg_kx0 hlocks htab hx hcm hsm hpx hB.1 (sg_P_0 hP hk) hD hS1 hce hcv hcl)
    (fun v t H1 locs1 ht hvm hw hB hz hk hS1 => kk v H1 locs1 hw (sg_P_0 hP hk) hS1)
theorem sg_ti {cc : ByteArray} {v : Int32} {ty : FieldType} {R0 : (Nat ⊕ Int32) × sg_St} {XC : String → State → State → Prop} (hx : p.tables.exec = Jvm.exec) (hb : c.code = cc) (hr : meth.sig.returnType = some ty) (hn : narrow ty (.int v) = .int v) (hP : va_P D vwCl (Wf u) H) (hD : va_D A (Wf u)) (hS : va_S A s.heap H locs) (hd : decode cc pc = .ok (.ireturn, 1)) (hq : (.inr v, u) = R0) (hlocks : meth.locks = false) (hcm : cells ≤ MC) (hsm : slots ≤ MS) : W p l e R s m args below meth c H locs cells slots (vx_MQ below (sg_QI D Wf A R0) XC args s MC MS A) (F0 m pc ls [.int v]) := by
  refine W.widen hcm hsm ?_
  refine vx_ret ?_
  exact W.zret hx hb hr hn (fun t ht hW => ⟨⟨v, u, rfl, hq.symm, by rw [ht]; exact hP, hD⟩, hS.F ht⟩) hS.2.2 hd hlocks
theorem sg_tv {cc : ByteArray} {R0 : (Nat ⊕ Unit) × sg_St} {XC : String → State → State → Prop} (hx : p.tables.exec = Jvm.exec) (hb : c.code = cc) (hr : meth.sig.returnType = none) (hP : va_P D vwCl (Wf u) H) (hD : va_D A (Wf u)) (hS : va_S A s.heap H locs) (hd : decode cc pc = .ok (.return_, 1)) (hq : (.inr (), u) = R0) (hlocks : meth.locks = false) (hcm : cells ≤ MC) (hsm : slots ≤ MS) : W p l e R s m args below meth c H locs cells slots (vx_MQ below (sg_QV D Wf A R0) XC args s MC MS A) (F0 m pc ls []) := by
  refine W.widen hcm hsm ?_
  refine vx_ret ?_
  exact W.vret hx hb hr (fun t ht hW => ⟨⟨u, rfl, hq.symm, by rw [ht]; exact hP, hD⟩, hS.F ht⟩) hS.2.2 hd hlocks
theorem sg_tf {cc : ByteArray} {v : UInt32} {R0 : (Nat ⊕ UInt32) × sg_St} {XC : String → State → State → Prop} (hx : p.tables.exec = Jvm.exec) (hb : c.code = cc) (hr : meth.sig.returnType = some .float) (hP : va_P D vwCl (Wf u) H) (hD : va_D A (Wf u)) (hS : va_S A s.heap H locs) (hd : decode cc pc = .ok (.freturn, 1)) (hq : (.inr v, u) = R0) (hlocks : meth.locks = false) (hcm : cells ≤ MC) (hsm : slots ≤ MS) : W p l e R s m args below meth c H locs cells slots (vx_MQ below (sg_QF D Wf A R0) XC args s MC MS A) (F0 m pc ls [.float v]) := by
  refine W.widen hcm hsm ?_
  refine vx_ret ?_
  exact W.fret hx hb hr (fun t ht hW => ⟨⟨v, u, rfl, hq.symm, by rw [ht]; exact hP, hD⟩, hS.F ht⟩) hS.2.2 hd hlocks
theorem sg_td {cc : ByteArray} {v : UInt64} {R0 : (Nat ⊕ UInt64) × sg_St} {XC : String → State → State → Prop} (hx : p.tables.exec = Jvm.exec) (hb : c.code = cc) (hr : meth.sig.returnType = some .double) (hP : va_P D vwCl (Wf u) H) (hD : va_D A (Wf u)) (hS : va_S A s.heap H locs) (hd : decode cc pc = .ok (.dreturn, 1)) (hq : (.inr v, u) = R0) (hlocks : meth.locks = false) (hcm : cells ≤ MC) (hsm : slots ≤ MS) : W p l e R s m args below meth c H locs cells slots (vx_MQ below (sg_QD D Wf A R0) XC args s MC MS A) (F0 m pc ls [.double v]) := by
  refine W.widen hcm hsm ?_
  refine vx_ret ?_
  exact W.dret hx hb hr (fun t ht hW => ⟨⟨v, u, rfl, hq.symm, by rw [ht]; exact hP, hD⟩, hS.F ht⟩) hS.2.2 hd hlocks
theorem sg_throw {cc : ByteArray} {β : Type} {R0 : (Nat ⊕ β) × sg_St} {Ts : List Cond} {cls text : String} {ik is ic k : Nat} (hx : p.tables.exec = Jvm.exec) (hb : c.code = cc) (hlt : l.stackTraces = false) (hown : s.vm.findClass RX5 = some m.cls) (hts : ∀ w ∈ Ts, w.before args s = true) (hT : sg_TT A s) (hP : va_P D vwCl (Wf u) H) (hD : va_D A (Wf u)) (hS : va_S A s.heap H locs) (hsize : ls.size = c.maxLocals) (htab : ∀ x ∈ c.exceptionTable.toList, False) (hlocks : meth.locks = false)
    (hk : Cond.classLink RX5 ik cls ∈ Ts) (hi : Cond.initialized cls ∈ Ts) (he : (ic, cls) ∈ sg_ex) (hs : (is, text) ∈ sg_strs) (hgw : ∀ w ∈ (vx_atS RX5 ic cls sg_nmz).filter goodWord, w ∈ Ts) (hnw : ∀ w ∈ (vx_atS RX5 ic cls sg_nmz).filter (fun w => !goodWord w), w ∈ [Cond.castable cls cls, .declares (Bundle.initS "java/lang/RuntimeException"), .declares (Bundle.initS "java/lang/Exception"), .declares (Bundle.initS Bundle.tN)]) (hok : Bundle.fit cls = true ∧ (∀ n ∈ sg_nmz, Bundle.fit n = true) ∧ ∀ w ∈ Cond.classLink RX5 ik cls :: Cond.initialized cls :: vx_atS RX5 ic cls sg_nmz, vx_ot w = true)
    (d0 : decode cc pc = .ok (.new ik, 3)) (d3 : decode cc (pc + 3) = .ok (.dup, 1)) (d4 : decode cc (pc + 4) = .ok (.ldc is, 2)) (d6 : decode cc (pc + 6) = .ok (.invokespecial ic, 3)) (d9 : decode cc (pc + 9) = .ok (.athrow, 1))
    (hR : 5 < R.frames ∧ (rest.map fun v => v.category).sum + 90 ≤ R.locals ∧ cells + 1 ≤ R.cells ∧ slots + 6 ≤ R.slots ∧ cells + 1 ≤ MC ∧ slots + 6 ≤ MS) (hke : cls = sg_en k) (hq : (.inl k, u) = R0) : W p l e R s m args below meth c H locs cells slots (vx_MQ below Qc (sg_XC D Wf A R0) args s MC MS A) (F0 m pc ls rest) := by
  obtain ⟨h1, h2, h3, h4, h5⟩ := hT
  obtain ⟨sa, hsa⟩ := h3 _ hs
  obtain ⟨r1, r2, r3, r4, r5, r6⟩ := hR
  refine vx_throwS (names := sg_nmz) hx hb hlt hown hok.1 hok.2.1 (hts _ hk) (hts _ hi) hsa (vx_hat (fun w hw => hts w (hgw w hw)) hnw (vx_c (va_Nw.use rfl (h4 _ he)) (vx_c (va_Nw.use rfl (h5 _ (by decide))) (vx_c (va_Nw.use rfl (h5 _ (by decide))) (vx_c (va_Nw.use rfl (h5 _ (by decide))) vx_n))))) hok.2.2 h1 h2 hS hsize d0 d3 d4 d6 d9 (fun x hx => (htab x hx).elim) (by show 2 + 3 < _; exact r1) (by show _ + (13 * (2 + 1) + 43) ≤ _; omega) r3 r4 hlocks (fun t hvm hz hkp => ⟨(k, u), hq.symm, ⟨hke, ?_, hD⟩, Nat.le_trans hS.1 hz, fun q h1 h2 => ?_⟩) hS.2.2 r5 r6
  · exact hP.kept (fun k q hq => hkp q.1 (hP k q hq).lt)
  · rw [hkp q (Nat.lt_of_lt_of_le h1 hS.1)]
    exact hS.2.1 q h1 h2
theorem sg_throwW {cc : ByteArray} {β : Type} {R0 : (Nat ⊕ β) × sg_St} {Ts : List Cond} {cls text : String} {ik is ic k : Nat} (hx : p.tables.exec = Jvm.exec) (hb : c.code = cc) (hlt : l.stackTraces = false) (hown : s.vm.findClass RX5 = some m.cls) (hts : ∀ w ∈ Ts, w.before args s = true) (hT : sg_TT A s) (hP : va_P D vwCl (Wf u) H) (hD : va_D A (Wf u)) (hS : va_S A s.heap H locs) (hsize : ls.size = c.maxLocals) (htab : ∀ x ∈ c.exceptionTable.toList, False) (hlocks : meth.locks = false)
    (hk : Cond.classLink RX5 ik cls ∈ Ts) (hi : Cond.initialized cls ∈ Ts) (he : (ic, cls) ∈ sg_ex) (hs : (is, text) ∈ sg_strs) (hgw : ∀ w ∈ (vx_atS RX5 ic cls sg_nmz).filter goodWord, w ∈ Ts) (hnw : ∀ w ∈ (vx_atS RX5 ic cls sg_nmz).filter (fun w => !goodWord w), w ∈ [Cond.castable cls cls, .declares (Bundle.initS "java/lang/RuntimeException"), .declares (Bundle.initS "java/lang/Exception"), .declares (Bundle.initS Bundle.tN)]) (hok : Bundle.fit cls = true ∧ (∀ n ∈ sg_nmz, Bundle.fit n = true) ∧ ∀ w ∈ Cond.classLink RX5 ik cls :: Cond.initialized cls :: vx_atS RX5 ic cls sg_nmz, vx_ot w = true)
    (d0 : decode cc pc = .ok (.new ik, 3)) (d3 : decode cc (pc + 3) = .ok (.dup, 1)) (d4 : decode cc (pc + 4) = .ok (.ldc_w is, 3)) (d6 : decode cc (pc + 7) = .ok (.invokespecial ic, 3)) (d9 : decode cc (pc + 10) = .ok (.athrow, 1))
    (hR : 5 < R.frames ∧ (rest.map fun v => v.category).sum + 90 ≤ R.locals ∧ cells + 1 ≤ R.cells ∧ slots + 6 ≤ R.slots ∧ cells + 1 ≤ MC ∧ slots + 6 ≤ MS) (hke : cls = sg_en k) (hq : (.inl k, u) = R0) : W p l e R s m args below meth c H locs cells slots (vx_MQ below Qc (sg_XC D Wf A R0) args s MC MS A) (F0 m pc ls rest) := by
  obtain ⟨h1, h2, h3, h4, h5⟩ := hT
  obtain ⟨sa, hsa⟩ := h3 _ hs
  obtain ⟨r1, r2, r3, r4, r5, r6⟩ := hR
  refine vx_throwSW (names := sg_nmz) hx hb hlt hown hok.1 hok.2.1 (hts _ hk) (hts _ hi) hsa (vx_hat (fun w hw => hts w (hgw w hw)) hnw (vx_c (va_Nw.use rfl (h4 _ he)) (vx_c (va_Nw.use rfl (h5 _ (by decide))) (vx_c (va_Nw.use rfl (h5 _ (by decide))) (vx_c (va_Nw.use rfl (h5 _ (by decide))) vx_n))))) hok.2.2 h1 h2 hS hsize d0 d3 d4 d6 d9 (fun x hx => (htab x hx).elim) (by show 2 + 3 < _; exact r1) (by show _ + (13 * (2 + 1) + 43) ≤ _; omega) r3 r4 hlocks (fun t hvm hz hkp => ⟨(k, u), hq.symm, ⟨hke, ?_, hD⟩, Nat.le_trans hS.1 hz, fun q h1 h2 => ?_⟩) hS.2.2 r5 r6
  · exact hP.kept (fun k q hq => hkp q.1 (hP k q hq).lt)
  · rw [hkp q (Nat.lt_of_lt_of_le h1 hS.1)]
    exact hS.2.1 q h1 h2
theorem sg_throwN {cc : ByteArray} {β : Type} {R0 : (Nat ⊕ β) × sg_St} {Ts : List Cond} {cls text : String} {ik is ic k : Nat} (hx : p.tables.exec = Jvm.exec) (hb : c.code = cc) (hlt : l.stackTraces = false) (hown : s.vm.findClass RX5 = some m.cls) (hts : ∀ w ∈ Ts, w.before args s = true) (hT : sg_TT A s) (hP : va_P D vwCl (Wf u) H) (hD : va_D A (Wf u)) (hS : va_S A s.heap H locs) (hsize : ls.size = c.maxLocals) (htab : ∀ x ∈ c.exceptionTable.toList, False) (hlocks : meth.locks = false)
    (hk : Cond.classLink RX5 ik cls ∈ Ts) (hi : Cond.initialized cls ∈ Ts) (he : (ic, cls) ∈ sg_ex) (hs : (is, text) ∈ sg_strs) (hgw : ∀ w ∈ (sg_nsW RX5 ic cls).filter goodWord, w ∈ Ts) (hnw : ∀ w ∈ (sg_nsW RX5 ic cls).filter (fun w => !goodWord w), w ∈ [Cond.castable cls cls, .declares (Bundle.initS "java/lang/RuntimeException"), .declares (Bundle.initS "java/lang/Exception"), .declares (Bundle.initS Bundle.tN)]) (hok : Bundle.fit cls = true ∧ (∀ n ∈ sg_nmz, Bundle.fit n = true) ∧ ∀ w ∈ Cond.classLink RX5 ik cls :: Cond.initialized cls :: sg_nsW RX5 ic cls, vx_ot w = true)
    (d0 : decode cc pc = .ok (.new ik, 3)) (d3 : decode cc (pc + 3) = .ok (.dup, 1)) (d4 : decode cc (pc + 4) = .ok (.ldc_w is, 3)) (d6 : decode cc (pc + 7) = .ok (.invokespecial ic, 3)) (d9 : decode cc (pc + 10) = .ok (.athrow, 1))
    (hR : 5 < R.frames ∧ (rest.map fun v => v.category).sum + 90 ≤ R.locals ∧ cells + 1 ≤ R.cells ∧ slots + 6 ≤ R.slots ∧ cells + 1 ≤ MC ∧ slots + 6 ≤ MS) (hke : cls = sg_en k) (hq : (.inl k, u) = R0) : W p l e R s m args below meth c H locs cells slots (vx_MQ below Qc (sg_XC D Wf A R0) args s MC MS A) (F0 m pc ls rest) := by
  obtain ⟨h1, h2, h3, h4, h5⟩ := hT
  obtain ⟨sa, hsa⟩ := h3 _ hs
  obtain ⟨r1, r2, r3, r4, r5, r6⟩ := hR
  refine sg_thX (Yc := "java/lang/RuntimeException") (r := ["java/lang/Exception"]) (ix := 13) (rx := sg_r13) hx hb hlt (by decide +kernel) (by decide +kernel) (by decide +kernel) (by decide +kernel) hown hok.1 (hok.2.1 _ (by decide)) (fun n hn => hok.2.1 n (List.mem_cons_of_mem _ hn)) (hts _ hk) (hts _ hi) hsa (vx_hat (fun w hw => hts w (hgw w hw)) hnw (vx_c (va_Nw.use rfl (h4 _ he)) (vx_c (va_Nw.use rfl (h5 _ (by decide))) (vx_c (va_Nw.use rfl (h5 _ (by decide))) (vx_c (va_Nw.use rfl (h5 _ (by decide))) vx_n))))) hok.2.2 h1 h2 hS hsize d0 d3 d4 d6 d9 (fun x hx => (htab x hx).elim) (by show 1 + 4 < _; exact r1) (by show _ + (13 * (1 + 2) + 43) ≤ _; omega) r3 r4 hlocks (fun t hvm hz hkp => ⟨(k, u), hq.symm, ⟨hke, ?_, hD⟩, Nat.le_trans hS.1 hz, fun q h1 h2 => ?_⟩) hS.2.2 r5 r6
  · exact hP.kept (fun k q hq => hkp q.1 (hP k q hq).lt)
  · rw [hkp q (Nat.lt_of_lt_of_le h1 hS.1)]
    exact hS.2.1 q h1 h2
theorem sg_fret {cc : ByteArray} {v r : UInt32} {u0 : sg_St} (hx : p.tables.exec = Jvm.exec) (hb : c.code = cc) (hr : meth.sig.returnType = some .float) (hP : va_P D vwCl (Wf u) H) (hD : va_D A (Wf u)) (hS : va_S A s.heap H locs) (hd : decode cc pc = .ok (.freturn, 1)) (hv : v = r) (hu : u = u0) (hlocks : meth.locks = false) : W p l e R s m args below meth c H locs 0 0 (MQ below (va_Qf (fun x y => x = r ∧ y = u0) (sg_BX D Wf A) A) args s 0 0 A) (F0 m pc ls [.float v]) := by
  subst hv
  subst hu
  exact W.fret hx hb hr (fun t ht hW => ⟨⟨v, u, rfl, ⟨rfl, rfl⟩, by rw [ht]; exact hP, hD⟩, hS.F ht⟩) hS.2.2 hd hlocks
theorem sg_dret {cc : ByteArray} {v r : UInt64} {u0 : sg_St} (hx : p.tables.exec = Jvm.exec) (hb : c.code = cc) (hr : meth.sig.returnType = some .double) (hP : va_P D vwCl (Wf u) H) (hD : va_D A (Wf u)) (hS : va_S A s.heap H locs) (hd : decode cc pc = .ok (.dreturn, 1)) (hv : v = r) (hu : u = u0) (hlocks : meth.locks = false) : W p l e R s m args below meth c H locs 0 0 (MQ below (va_Qd (fun x y => x = r ∧ y = u0) (sg_BX D Wf A) A) args s 0 0 A) (F0 m pc ls [.double v]) := by
  subst hv
  subst hu
  exact W.dret hx hb hr (fun t ht hW => ⟨⟨v, u, rfl, ⟨rfl, rfl⟩, by rw [ht]; exact hP, hD⟩, hS.F ht⟩) hS.2.2 hd hlocks
end SGT
def sg_CF (l : Launch) (D : va_G) (cA : Nat → ClassId) (Wf : sg_St → va_W) (y : MethodName) (ws : List Cond) (rm : Room) (av : List Value) (u : sg_St) (r : UInt32) (u' : sg_St) : Prop := ∀ sz : Nat, Met l y ws rm (va_Pc av (sg_PX D cA Wf u sz)) (va_Qf (fun x y => x = r ∧ y = u') (sg_BX D Wf (va_A (Wf u) sz)) (va_A (Wf u) sz)) 0 0 (va_A (Wf u) sz)
def sg_CD (l : Launch) (D : va_G) (cA : Nat → ClassId) (Wf : sg_St → va_W) (y : MethodName) (ws : List Cond) (rm : Room) (av : List Value) (u : sg_St) (r : UInt64) (u' : sg_St) : Prop := ∀ sz : Nat, Met l y ws rm (va_Pc av (sg_PX D cA Wf u sz)) (va_Qd (fun x y => x = r ∧ y = u') (sg_BX D Wf (va_A (Wf u) sz)) (va_A (Wf u) sz)) 0 0 (va_A (Wf u) sz)
theorem sg_n32 {x : UInt32} (h : decide (x &&& 0x7fffffff ≤ 0x7f800000) = true) : vf_n32 x := by
  have q := of_decide_eq_true h
  exact q
theorem sg_n64 {x : UInt64} (h : decide (x &&& 0x7fffffffffffffff ≤ 0x7ff0000000000000) = true) : vf_n64 x := by
  have q := of_decide_eq_true h
  exact q
theorem sg_ngok : ((sg_ex.flatMap (fun q => if q.1 = 293 then sg_nsW RX5 q.1 q.2 else vx_atS RX5 q.1 q.2 sg_nmz)).filter (fun w => !goodWord w)).all (fun w => decide (w ∈ sg_ng ++ sg_dc.map Cond.declares)) = true := by decide +kernel
