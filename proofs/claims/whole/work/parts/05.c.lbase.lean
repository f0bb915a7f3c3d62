/-! the law's own methods: a call of the class between try and catch, the answer put into a row of one place -/
theorem sg_ofWH {l : Launch} {y : MethodName} {ws ws' : List Cond} {rm : Room} {Pc : Array Value → State → Prop} {Qc : Array Value → State → Outcome → State → Prop} {mc ms : Nat} {free : Addr → Prop} {cc : ByteArray} {maxL : Nat} {ret : Option FieldType} {hh : List (Nat × Nat × Nat × Nat)}
    (hy : plainName y.cls = true) (hw : ws = Cond.codeWith y cc maxL ret hh :: ws')
    (body : ∀ p e s m args below meth c s₁, BodyLoose p l y (headSpec ws rm) cc maxL ret e s m args below meth c s₁ → c.maxLocals = maxL → Pc args s →
      W p l e (headSpec ws rm).room s m args below meth c s.heap [] 0 0 (MQ below Qc args s mc ms free) (entryFrame m args maxL)) : Met l y ws rm Pc Qc mc ms free := by
  refine MetFree.of_bodyS (code := cc) (maxLocals := maxL) (ret := ret) hy ?_ ?_
  · intro args s m h hn
    obtain ⟨m9, meth, c, hn9, h1, h2, h3, h4, -, h5, h6, -⟩ := Cond.codeWith_spec (atoms_spec (ws := ws) h _ (by rw [hw]; exact List.mem_cons_self))
    cases hn.symm.trans hn9
    exact ⟨meth, c, h1, h2, h3, h4, h5, h6⟩
  · intro p e s m args below meth c s₁ B hml hP _
    have hh0 : s₁.heap = s.heap := by rw [B.state]; rfl
    obtain ⟨t, a1, o, b1, b2, b3⟩ := body p e s m args below meth c s₁ B hml hP s₁ hh0 (Stand.of_body B)
    exact ⟨t, o, a1, b1, b2, ⟨b3.1, b3.2⟩⟩
/-- which of the caught classes are no kinds of one another -/
def sg_ncs : List (String × String) := (sg_ex.flatMap (fun q => sg_ex.map (fun r => (q.2, r.2)))).filter (fun q => !(q.1 == q.2))
def sg_PL (D : va_G) (cA : Nat → ClassId) (w0 : va_W) (sz : Nat) (U : State) : Prop := sg_PX D cA (fun _ => w0) sg_u0 sz U ∧ sg_TT (va_A w0 sz) U ∧ ∀ q ∈ sg_ncs, va_Nc q.1 q.2 U
theorem sg_blindL {D : va_G} {cA : Nat → ClassId} {w0 : va_W} {sz : Nat} {av : List Value} : FrameBlind (va_Pc av (sg_PL D cA w0 sz)) := fun a U g mk q => by
  obtain ⟨h1, ⟨h2, h3, h4, h5⟩, h6, h7⟩ := q
  exact ⟨h1, ⟨h2, h3, h4.call, h5⟩, h6.call, fun q hq => va_Nc.moved (u := U) (U := U.calling g mk a) (Vm.Alike.refl U.vm) (h7 q hq)⟩
def sg_WL (cA : Nat → ClassId) (ad : Nat → Nat) (qo : Nat) (u : sg_St) (o : Nat → Int64) : va_W := (qo, .inl (cA 2, 1, .inr (.inl o))) :: sg_WX cA ad u
def sg_WE (cA : Nat → ClassId) (ad : Nat → Nat) (qo : Nat) (u : sg_St) (o : Nat → UInt64) : va_W := (qo, .inl (cA 3, 1, .inr (.inr (.inr (.inl o))))) :: sg_WX cA ad u
def sg_ix (cs : List Nat) (k : Nat) : Nat := cs.findIdx (fun j => j == k)
/-- what a helper answers of the class's answer R: 0 and the value, or which exception -/
def sg_lp {α β : Type} (cs : List Nat) (up : α → (Nat → β) → (Nat → β)) (R : (Nat ⊕ α) × sg_St) (o : Nat → β) (r : Int32) (z : sg_St × (Nat → β)) : Prop := (∃ v, R = (.inr v, z.1) ∧ r = 0 ∧ z.2 = up v o) ∨ (∃ k, R = (.inl k, z.1) ∧ r = nI (sg_ix cs k + 1) ∧ z.2 = o)
def sg_up64 (v : Int32) (o : Nat → Int64) : Nat → Int64 := vp_updL o (0 : Int32).toNatClampNeg v.toInt64
def sg_upB (v : Int32) (o : Nat → Int64) : Nat → Int64 := vp_updL o (0 : Int32).toNatClampNeg (if v = 0 then 0 else 1)
def sg_upF (v : UInt32) (o : Nat → UInt64) : Nat → UInt64 := vf_upd o (0 : Int32).toNatClampNeg (FP.f2d v)
def sg_upD (v : UInt64) (o : Nat → UInt64) : Nat → UInt64 := vf_upd o (0 : Int32).toNatClampNeg v
def sg_QL (D : va_G) (cA : Nat → ClassId) (ad : Nat → Nat) (qo : Nat) (A : Nat → Prop) (cs : List Nat) (up : Int32 → (Nat → Int64) → (Nat → Int64)) (R : (Nat ⊕ Int32) × sg_St) (o : Nat → Int64) : Array Value → State → Outcome → State → Prop := va_Qi (fun r z => sg_lp cs up R o r z) (fun z t => va_P D vwCl (sg_WL cA ad qo z.1 z.2) t.heap ∧ va_D A (sg_WL cA ad qo z.1 z.2)) A
def sg_QE {α : Type} (D : va_G) (cA : Nat → ClassId) (ad : Nat → Nat) (qo : Nat) (A : Nat → Prop) (cs : List Nat) (up : α → (Nat → UInt64) → (Nat → UInt64)) (R : (Nat ⊕ α) × sg_St) (o : Nat → UInt64) : Array Value → State → Outcome → State → Prop := va_Qi (fun r z => sg_lp cs up R o r z) (fun z t => va_P D vwCl (sg_WE cA ad qo z.1 z.2) t.heap ∧ va_D A (sg_WE cA ad qo z.1 z.2)) A
section SGL
variable {p : Program} {l : Launch} {e : Env} {R : Room} {s : State} {m : MethodId} {args : Array Value} {below : List Frame} {meth : Method} {c : Code} {H : Heap} {locs : List Loc} {cells slots mc ms MC MS : Nat} {Q : State → Prop}
variable {pc : Nat} {ls : Array Slot} {rest st0 : List Value} {a : Array Value} {A : Nat → Prop} {D : va_G} {cA : Nat → ClassId} {ad : Nat → Nat} {u : sg_St} {e0 : Nat × va_E}
theorem sg_preU {H : Heap} {b : Nat} {As : List Value} {C : String} {T : u_T} {n ci q0 : Nat} {fs : List Value} (hK : sg_KK D cA s) (hP : va_P D vwCl (e0 :: sg_WX cA ad u) H) (hD : va_D A (e0 :: sg_WX cA ad u)) (hT : sg_TT A s) (hS : va_S A s.heap H locs) (hA : ∀ q, s.heap.size ≤ q → A q) (hc : vwCl[ci]? = some (C, T, n)) (he : (sg_WX cA ad u)[q0]? = some (b, .inr (ci, fs))) : PreV s H C b (va_Pc (.ref b :: As) (sg_PT D cA (sg_WX cA ad) u H.size)) As :=
  sg_preT hK (hP.sub [1, 2, 3, 4, 5, 6, 7, 8, 9, 10, 11, 12, 13, 14, 15, 16, 17] rfl) (hD.sub [1, 2, 3, 4, 5, 6, 7, 8, 9, 10, 11, 12, 13, 14, 15, 16, 17] (by decide) rfl) hT hS hA hc he
theorem sg_joinU {H H1 : Heap} {v : sg_St} (hP : va_P D vwCl (e0 :: sg_WX cA ad u) H) (hD : va_D A (e0 :: sg_WX cA ad u)) (hF : ∀ q, va_A (sg_WX cA ad u) H.size q → A q) (hk : ∀ q : Nat, q < H.size → ¬ va_A (sg_WX cA ad u) H.size q → H1[q]? = H[q]?) (hP1 : va_P D vwCl (sg_WX cA ad v) H1) (hD1 : va_D (va_A (sg_WX cA ad u) H.size) (sg_WX cA ad v)) : va_P D vwCl (e0 :: sg_WX cA ad v) H1 ∧ va_D A (e0 :: sg_WX cA ad v) :=
  va_join (wr := [e0]) hP hD [1, 2, 3, 4, 5, 6, 7, 8, 9, 10, 11, 12, 13, 14, 15, 16, 17] [0] rfl rfl (by decide) (by decide) hk hF hP1 hD1
theorem sg_freeU (hD : va_D A (e0 :: sg_WX cA ad u)) (hS : va_S A s.heap H locs) (hA : ∀ q, s.heap.size ≤ q → A q) : ∀ q, va_A (sg_WX cA ad u) H.size q → A q :=
  va_free hD hS hA [1, 2, 3, 4, 5, 6, 7, 8, 9, 10, 11, 12, 13, 14, 15, 16, 17] rfl
theorem sg_ui {R1 : (Nat ⊕ Int32) × sg_St} (hr : vx_Run p l e R s m args below meth c H locs cells slots mc ms (F0 m pc ls st0) rest (sg_QI D (sg_WX cA ad) (va_A (sg_WX cA ad u) H.size) R1 a) (sg_XC D (sg_WX cA ad) (va_A (sg_WX cA ad u) H.size) R1) (va_A (sg_WX cA ad u) H.size)) (hP : va_P D vwCl (e0 :: sg_WX cA ad u) H) (hD : va_D A (e0 :: sg_WX cA ad u)) (hS : va_S A s.heap H locs) (hA : ∀ q, s.heap.size ≤ q → A q)
    (kx : ∀ (k : Nat) (v : sg_St) (E : String) (ce : Cell) (q9 : Addr) (H1 : Heap) (locs1 : List Loc), R1 = (.inl k, v) → E = sg_en k → va_P D vwCl (e0 :: sg_WX cA ad v) H1 → va_D A (e0 :: sg_WX cA ad v) → va_S A s.heap H1 locs1 → H1[q9]? = some ce → ce.vm = .none → s.vm.findClass E = some ce.cls → vx_W p l e R s m args below meth c H1 locs1 (cells + mc) (slots + ms) Q (F0 m pc ls rest) q9)
    (kk : ∀ (r : Int32) (v : sg_St) (H1 : Heap) (locs1 : List Loc), R1 = (.inr r, v) → va_P D vwCl (e0 :: sg_WX cA ad v) H1 → va_D A (e0 :: sg_WX cA ad v) → va_S A s.heap H1 locs1 → W p l e R s m args below meth c H1 locs1 (cells + mc) (slots + ms) Q (F0 m (pc + 3) ls (.int r :: rest))) : W p l e R s m args below meth c H locs cells slots Q (F0 m pc ls st0) :=
  vx_calli hr hS (fun q _ h => sg_freeU hD hS hA q h) (sg_freeU hD hS hA) (fun q _ h => sg_freeU hD hS hA q h)
    (fun E ce q9 z t H1 locs1 ht hvm hpx hB hz hk hS1 hce hcv hcl => by
      obtain ⟨hE, hP1, hD1⟩ := hB
      rw [ht] at hP1
      obtain ⟨hP2, hD2⟩ := sg_joinU hP hD (sg_freeU hD hS hA) hk hP1 hD1
      exact kx z.1 z.2 E ce q9 H1 locs1 hpx hE hP2 hD2 hS1 hce hcv hcl)
    (fun r v t H1 locs1 ht hvm hw hB hz hk hS1 => by
      obtain ⟨hP1, hD1⟩ := hB
      rw [ht] at hP1
      obtain ⟨hP2, hD2⟩ := sg_joinU hP hD (sg_freeU hD hS hA) hk hP1 hD1
      exact kk r v H1 locs1 hw hP2 hD2 hS1)
theorem sg_uf {R1 : (Nat ⊕ UInt32) × sg_St} (hr : vx_Run p l e R s m args below meth c H locs cells slots mc ms (F0 m pc ls st0) rest (sg_QF D (sg_WX cA ad) (va_A (sg_WX cA ad u) H.size) R1 a) (sg_XC D (sg_WX cA ad) (va_A (sg_WX cA ad u) H.size) R1) (va_A (sg_WX cA ad u) H.size)) (hP : va_P D vwCl (e0 :: sg_WX cA ad u) H) (hD : va_D A (e0 :: sg_WX cA ad u)) (hS : va_S A s.heap H locs) (hA : ∀ q, s.heap.size ≤ q → A q)
    (kx : ∀ (k : Nat) (v : sg_St) (E : String) (ce : Cell) (q9 : Addr) (H1 : Heap) (locs1 : List Loc), R1 = (.inl k, v) → E = sg_en k → va_P D vwCl (e0 :: sg_WX cA ad v) H1 → va_D A (e0 :: sg_WX cA ad v) → va_S A s.heap H1 locs1 → H1[q9]? = some ce → ce.vm = .none → s.vm.findClass E = some ce.cls → vx_W p l e R s m args below meth c H1 locs1 (cells + mc) (slots + ms) Q (F0 m pc ls rest) q9)
    (kk : ∀ (r : UInt32) (v : sg_St) (H1 : Heap) (locs1 : List Loc), R1 = (.inr r, v) → va_P D vwCl (e0 :: sg_WX cA ad v) H1 → va_D A (e0 :: sg_WX cA ad v) → va_S A s.heap H1 locs1 → W p l e R s m args below meth c H1 locs1 (cells + mc) (slots + ms) Q (F0 m (pc + 3) ls (.float r :: rest))) : W p l e R s m args below meth c H locs cells slots Q (F0 m pc ls st0) :=
  vx_callf hr hS (fun q _ h => sg_freeU hD hS hA q h) (sg_freeU hD hS hA) (fun q _ h => sg_freeU hD hS hA q h)
    (fun E ce q9 z t H1 locs1 ht hvm hpx hB hz hk hS1 hce hcv hcl => by
      obtain ⟨hE, hP1, hD1⟩ := hB
      rw [ht] at hP1
      obtain ⟨hP2, hD2⟩ := sg_joinU hP hD (sg_freeU hD hS hA) hk hP1 hD1
      exact kx z.1 z.2 E ce q9 H1 locs1 hpx hE hP2 hD2 hS1 hce hcv hcl)
    (fun r v t H1 locs1 ht hvm hw hB hz hk hS1 => by
      obtain ⟨hP1, hD1⟩ := hB
      rw [ht] at hP1
      obtain ⟨hP2, hD2⟩ := sg_joinU hP hD (sg_freeU hD hS hA) hk hP1 hD1
      exact kk r v H1 locs1 hw hP2 hD2 hS1)
theorem sg_ud {R1 : (Nat ⊕ UInt64) × sg_St} (hr : vx_Run p l e R s m args below meth c H locs cells slots mc ms (F0 m pc ls st0) rest (sg_QD D (sg_WX cA ad) (va_A (sg_WX cA ad u) H.size) R1 a) (sg_XC D (sg_WX cA ad) (va_A (sg_WX cA ad u) H.size) R1) (va_A (sg_WX cA ad u) H.size)) (hP : va_P D vwCl (e0 :: sg_WX cA ad u) H) (hD : va_D A (e0 :: sg_WX cA ad u)) (hS : va_S A s.heap H locs) (hA : ∀ q, s.heap.size ≤ q → A q)
    (kx : ∀ (k : Nat) (v : sg_St) (E : String) (ce : Cell) (q9 : Addr) (H1 : Heap) (locs1 : List Loc), R1 = (.inl k, v) → E = sg_en k → va_P D vwCl (e0 :: sg_WX cA ad v) H1 → va_D A (e0 :: sg_WX cA ad v) → va_S A s.heap H1 locs1 → H1[q9]? = some ce → ce.vm = .none → s.vm.findClass E = some ce.cls → vx_W p l e R s m args below meth c H1 locs1 (cells + mc) (slots + ms) Q (F0 m pc ls rest) q9)
    (kk : ∀ (r : UInt64) (v : sg_St) (H1 : Heap) (locs1 : List Loc), R1 = (.inr r, v) → va_P D vwCl (e0 :: sg_WX cA ad v) H1 → va_D A (e0 :: sg_WX cA ad v) → va_S A s.heap H1 locs1 → W p l e R s m args below meth c H1 locs1 (cells + mc) (slots + ms) Q (F0 m (pc + 3) ls (.double r :: rest))) : W p l e R s m args below meth c H locs cells slots Q (F0 m pc ls st0) :=
  vx_calld hr hS (fun q _ h => sg_freeU hD hS hA q h) (sg_freeU hD hS hA) (fun q _ h => sg_freeU hD hS hA q h)
    (fun E ce q9 z t H1 locs1 ht hvm hpx hB hz hk hS1 hce hcv hcl => by
      obtain ⟨hE, hP1, hD1⟩ := hB
      rw [ht] at hP1
      obtain ⟨hP2, hD2⟩ := sg_joinU hP hD (sg_freeU hD hS hA) hk hP1 hD1
      exact kx z.1 z.2 E ce q9 H1 locs1 hpx hE hP2 hD2 hS1 hce hcv hcl)
    (fun r v t H1 locs1 ht hvm hw hB hz hk hS1 => by
      obtain ⟨hP1, hD1⟩ := hB
      rw [ht] at hP1
      obtain ⟨hP2, hD2⟩ := sg_joinU hP hD (sg_freeU hD hS hA) hk hP1 hD1
      exact kk r v H1 locs1 hw hP2 hD2 hS1)
theorem sg_lret {β : Type} {cc : ByteArray} {v : Int32} {wz : sg_St × (Nat → β) → va_W} {post : Int32 → sg_St × (Nat → β) → Prop} (z : sg_St × (Nat → β)) (hx : p.tables.exec = Jvm.exec) (hb : c.code = cc) (hr : meth.sig.returnType = some .int) (hP : va_P D vwCl (wz z) H) (hD : va_D A (wz z)) (hS : va_S A s.heap H locs) (hd : decode cc pc = .ok (.ireturn, 1)) (hq : post v z) (hlocks : meth.locks = false) (hcm : cells ≤ mc) (hsm : slots ≤ ms) : W p l e R s m args below meth c H locs cells slots (MQ below (va_Qi post (fun z t => va_P D vwCl (wz z) t.heap ∧ va_D A (wz z)) A) args s mc ms A) (F0 m pc ls [.int v]) := by
  refine W.widen hcm hsm ?_
  exact W.iret hx hb hr (fun t ht hW => ⟨⟨v, z, rfl, hq, by rw [ht]; exact hP, hD⟩, hS.F ht⟩) hS.2.2 hd hlocks
end SGL
