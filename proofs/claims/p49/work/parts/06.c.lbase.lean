/-! the law's own methods: rows for what they call -/
theorem sg_ofWH {l : Launch} {y : MethodName} {ws ws' : List Cond} {rm : Room} {Pc : Array Value → State → Prop} {Qc : Array Value → State → Outcome → State → Prop} {mc ms : Nat} {free : Addr → Prop} {cc : ByteArray} {maxL : Nat} {ret : Option FieldType} {hh : List (Nat × Nat × Nat × Nat)}
    (hy : plainName y.cls = true) (hw : ws = Cond.codeWith y cc maxL ret hh :: ws')
    (body : ∀ p e s m args below meth c s₁, BodyLoose p l y (headSpec ws rm) cc maxL ret e s m args below meth c s₁ → c.maxLocals = maxL → Pc args s →
      W p l e (headSpec ws rm).room s m args below meth c s.heap [] 0 0 (MQ below Qc args s mc ms free) (entryFrame m args maxL)) : Met l y ws rm Pc Qc mc ms free := by
  refine MetFree.of_bodyS (code := cc) (maxLocals := maxL) (ret := ret) hy ?_ ?_
  · intro args s m h hn
    obtain ⟨m9, meth, c, hn9, h1, h2, h3, h4, -, h5, h6, -⟩ := Cond.codeWith_spec (atoms_spec (ws := ws) h _ (by rw [hw]; exact List.mem_cons_self))
    cases hn.symm.trans hn9
    exact ⟨meth, c, h1, h2, h3, h4, h5, h6⟩
  · intro p e s m args below meth c s₁ B hml hP _
    have hh0 : s₁.heap = s.heap := by rw [B.state]; rfl
    obtain ⟨t, a1, o, b1, b2, b3⟩ := body p e s m args below meth c s₁ B hml hP s₁ hh0 (Stand.of_body B)
    exact ⟨t, o, a1, b1, b2, ⟨b3.1, b3.2⟩⟩
/-- which of the caught classes are no kinds of one another -/
def sg_ncs : List (String × String) := (sg_ex.flatMap (fun q => sg_ex.map (fun r => (q.2, r.2)))).filter (fun q => !(q.1 == q.2))
def sg_PL (D : va_G) (cA : Nat → ClassId) (w0 : va_W) (sz : Nat) (U : State) : Prop := sg_PX D cA (fun _ => w0) sg_u0 sz U ∧ sg_TT (va_A w0 sz) U ∧ ∀ q ∈ sg_ncs, va_Nc q.1 q.2 U
theorem sg_blindL {D : va_G} {cA : Nat → ClassId} {w0 : va_W} {sz : Nat} {av : List Value} : FrameBlind (va_Pc av (sg_PL D cA w0 sz)) := fun a U g mk q => by
  obtain ⟨h1, ⟨h2, h3, h4, h5⟩, h6, h7⟩ := q
  exact ⟨h1, ⟨h2, h3, h4.call, h5⟩, h6.call, fun q hq => va_Nc.moved (u := U) (U := U.calling g mk a) (Vm.Alike.refl U.vm) (h7 q hq)⟩
/-- what a caught exception is answered with -/
def sg_hx {β : Type} : List (Nat × β) → Nat → Option β
  | [], _ => none
  | q :: r, e => if e = q.1 then some q.2 else sg_hx r e
theorem sg_hx_c {β : Type} {q : Nat × β} {r : List (Nat × β)} {e : Nat} {c : β} (h : sg_hx (q :: r) e = some c) : (e = q.1 ∧ q.2 = c) ∨ sg_hx r e = some c := by
  unfold sg_hx at h
  by_cases h1 : e = q.1
  · rw [if_pos h1] at h
    exact Or.inl ⟨h1, Option.some.inj h⟩
  · rw [if_neg h1] at h
    exact Or.inr h
def sg_hc {α β : Type} (o : Option ((Nat ⊕ α) × sg_St)) (h : Nat → Option β) (k : α → Option β) : Option (β × sg_St) := o.bind (fun x => (Sum.elim h k x.1).map (fun c => (c, x.2)))
theorem sg_hc_s {α β : Type} {o : Option ((Nat ⊕ α) × sg_St)} {h : Nat → Option β} {k : α → Option β} {r : β} {u' : sg_St} (hf : sg_hc o h k = some (r, u')) : ∃ R, o = some R ∧ (∀ e t, R = (.inl e, t) → h e = some r ∧ t = u') ∧ (∀ a t, R = (.inr a, t) → k a = some r ∧ t = u') := by
  cases o with
  | none => cases hf
  | some x =>
    refine ⟨x, rfl, fun e t hx => ?_, fun a t hx => ?_⟩
    · subst hx
      obtain ⟨c, h1, h2⟩ := Option.map_eq_some_iff.mp hf
      cases h2
      exact ⟨h1, rfl⟩
    · subst hx
      obtain ⟨c, h1, h2⟩ := Option.map_eq_some_iff.mp hf
      cases h2
      exact ⟨h1, rfl⟩
/-- a loop, with what is left of its turns -/
theorem sg_loopN {σ ρ : Type} {f : σ → Option (σ ⊕ ρ)} (P : Nat → σ → ρ → Prop) (h : ∀ n x y r, f x = some y → (∀ z, y = .inl z → P n z r) → (∀ v, y = .inr v → v = r) → P (n + 1) x r) : ∀ n x r, sg_it f n x = some r → P n x r := by
  intro n
  induction n with
  | zero =>
    intro x r hr
    cases hr
  | succ n ih =>
    intro x r hr
    cases hfx : f x with
    | none =>
      have hr2 : (f x).bind (Sum.elim (fun z => sg_it f n z) some) = some r := hr
      rw [hfx] at hr2
      cases hr2
    | some y =>
      have hr2 : (f x).bind (Sum.elim (fun z => sg_it f n z) some) = some r := hr
      rw [hfx] at hr2
      cases y with
      | inl z => exact h n x _ r hfx (fun w hw => by cases hw; exact ih z r hr2) (fun v hv => by cases hv)
      | inr v => exact h n x _ r hfx (fun w hw => by cases hw) (fun w hw => by cases hw; exact Option.some.inj hr2)
def sg_LI (l : Launch) (D : va_G) (cA : Nat → ClassId) (Wf : sg_St → va_W) (y : MethodName) (ws : List Cond) (rm : Room) (av : List Value) (u : sg_St) (mc ms : Nat) (r : Int32) (u' : sg_St) : Prop := ∀ sz : Nat, Met l y ws rm (va_Pc av (sg_PL D cA (Wf u) sz)) (va_Qi (fun x y => x = r ∧ y = u') (sg_BX D Wf (va_A (Wf u) sz)) (va_A (Wf u) sz)) mc ms (va_A (Wf u) sz)
def sg_LL (l : Launch) (D : va_G) (cA : Nat → ClassId) (Wf : sg_St → va_W) (y : MethodName) (ws : List Cond) (rm : Room) (av : List Value) (u : sg_St) (mc ms : Nat) (r : Int64) (u' : sg_St) : Prop := ∀ sz : Nat, Met l y ws rm (va_Pc av (sg_PL D cA (Wf u) sz)) (va_Ql (fun x y => x = r ∧ y = u') (sg_BX D Wf (va_A (Wf u) sz)) (va_A (Wf u) sz)) mc ms (va_A (Wf u) sz)
def sg_LF (l : Launch) (D : va_G) (cA : Nat → ClassId) (Wf : sg_St → va_W) (y : MethodName) (ws : List Cond) (rm : Room) (av : List Value) (u : sg_St) (mc ms : Nat) (r : UInt32) (u' : sg_St) : Prop := ∀ sz : Nat, Met l y ws rm (va_Pc av (sg_PL D cA (Wf u) sz)) (va_Qf (fun x y => x = r ∧ y = u') (sg_BX D Wf (va_A (Wf u) sz)) (va_A (Wf u) sz)) mc ms (va_A (Wf u) sz)
/-- the script alone -/
def sg_PS (b L : Nat) (xs : Nat → Int32) (sz : Nat) (U : State) : Prop := U.heap.size = sz ∧ va_X b L xs U U.heap ∧ b < sz
theorem sg_blindS {b L : Nat} {xs : Nat → Int32} {sz : Nat} {av : List Value} : FrameBlind (va_Pc av (sg_PS b L xs sz)) := fun a U g mk q => by
  obtain ⟨h1, h2, h3, h4⟩ := q
  exact ⟨h1, h2, va_X.moved (u := U) (U := U.calling g mk a) (Vm.Alike.refl U.vm) h3, h4⟩
def sg_SI (l : Launch) (y : MethodName) (ws : List Cond) (rm : Room) (av : List Value) (b L : Nat) (xs : Nat → Int32) (r : Int32) : Prop := ∀ sz : Nat, Met l y ws rm (va_Pc av (sg_PS b L xs sz)) (va_Qi (fun x (_ : Unit) => x = r) (fun _ _ => True) (va_A [] sz)) 0 0 (va_A [] sz)
section SGL
variable {p : Program} {l : Launch} {e : Env} {R : Room} {s : State} {m : MethodId} {args : Array Value} {below : List Frame} {meth : Method} {c : Code} {H : Heap} {locs : List Loc} {cells slots mc ms : Nat} {Q : State → Prop}
variable {pc : Nat} {ls : Array Slot} {rest st0 : List Value} {a : Array Value} {A : Nat → Prop} {H0 : Heap} {D : va_G} {cA : Nat → ClassId} {Wf : sg_St → va_W} {u u0 : sg_St} {ws w0 w1 ex : va_W}
theorem sg_preL {w0 : va_W} {As : List Value} (hK : sg_KK D cA s) (hP : va_P D vwCl w0 H) (hD : va_D A w0) (hT : sg_TT A s) (hN : ∀ q ∈ sg_ncs, va_Nc q.1 q.2 s) (hS : va_S A s.heap H locs) (hA : ∀ q, s.heap.size ≤ q → A q) : PreS s H (va_Pc As (sg_PL D cA w0 H.size)) As :=
  ⟨sg_blindL, fun U hU hW => ⟨rfl, ⟨by rw [hU], by rw [hU]; exact hP, hK.warm hW, hD.weaken (fun _ _ _ _ => trivial)⟩, hT.at hW hU hS (sg_A_in hD hS hA), fun q hq => va_Nc.moved hW.alike (hN q hq)⟩⟩
theorem sg_preP {b L : Nat} {xs : Nat → Int32} {As : List Value} (hX : va_X b L xs s s.heap) (hbl : b < s.heap.size) (hbA : ¬ A b) (hS : va_S A s.heap H locs) : PreS s H (va_Pc As (sg_PS b L xs H.size)) As :=
  ⟨sg_blindS, fun U hU hW => ⟨rfl, by rw [hU], by rw [hU]; exact (hX.kept (hS.2.1 b hbl hbA)).moved hW.alike, Nat.lt_of_lt_of_le hbl hS.1⟩⟩
theorem sg_Pl (hP : va_P D vwCl (w0 ++ ex) H) : va_P D vwCl w0 H := fun k q hq => hP k q (by rw [List.getElem?_append_left (List.getElem?_eq_some_iff.mp hq).1]; exact hq)
theorem sg_Dl (hD : va_D A (w0 ++ ex)) : va_D A w0 := by
  have hg : ∀ (k : Nat) (q : Nat × va_E), w0[k]? = some q → (w0 ++ ex)[k]? = some q := fun k q hq => by rw [List.getElem?_append_left (List.getElem?_eq_some_iff.mp hq).1]; exact hq
  exact ⟨fun i j p q hi hj e => hD.1 i j p q (hg _ _ hi) (hg _ _ hj) e, fun k q hq => hD.2 k q (hg _ _ hq)⟩
theorem sg_jn {H1 : Heap} (hP : va_P D vwCl (w0 ++ ex) H) (hD : va_D A (w0 ++ ex)) (hF : ∀ q, va_A w0 H.size q → A q) (hk : ∀ q : Nat, q < H.size → ¬ va_A w0 H.size q → H1[q]? = H[q]?) (hP1 : va_P D vwCl w1 H1) (hD1 : va_D (va_A w0 H.size) w1) : va_P D vwCl (w1 ++ ex) H1 ∧ va_D A (w1 ++ ex) := by
  have hg : ∀ (k : Nat) (q : Nat × va_E), ex[k]? = some q → (w0 ++ ex)[w0.length + k]? = some q := fun k q hq => by
    rw [List.getElem?_append_right (by omega), show w0.length + k - w0.length = k by omega]
    exact hq
  have hne : ∀ (k : Nat) (q : Nat × va_E), ex[k]? = some q → q.1 < H.size ∧ ¬ va_A w0 H.size q.1 := by
    intro k q hq
    have h1 := hg k q hq
    have h2 := (hP _ q h1).lt
    refine ⟨h2, fun h => ?_⟩
    rcases h with ⟨k2, e, h⟩ | h
    · have h4 := (List.getElem?_eq_some_iff.mp h).1
      have h3 : (w0 ++ ex)[k2]? = some (q.1, e) := by rw [List.getElem?_append_left h4]; exact h
      have h5 := hD.1 _ _ _ _ h3 h1 rfl
      omega
    · exact absurd h2 (Nat.not_lt.mpr h)
  refine ⟨va_P.app hP1 (fun k q hq => (hP _ q (hg k q hq)).kept (hk q.1 (hne k q hq).1 (hne k q hq).2)), va_D.app (hD1.weaken (fun _ q _ h => hF q.1 h)) ⟨fun i j p q hi hj e => ?_, fun k q hq => hD.2 _ q (hg k q hq)⟩ (fun i j p q hi hj e => ?_)⟩
  · have h5 := hD.1 _ _ _ _ (hg i p hi) (hg j q hj) e
    omega
  · have h6 := hD1.2 i p hi
    rw [e] at h6
    exact (hne j q hj).2 h6
theorem sg_li {r0 : Int32} (hr : va_Run p l e R s m args below meth c H locs cells slots mc ms (F0 m pc ls st0) rest (va_Qi (fun x y => x = r0 ∧ y = u0) (sg_BX D Wf (va_A (Wf u) H.size)) (va_A (Wf u) H.size) a) (va_A (Wf u) H.size)) (hP : va_P D vwCl (Wf u ++ ex) H) (hD : va_D A (Wf u ++ ex)) (hS : va_S A H0 H locs) (hA : ∀ q, H0.size ≤ q → A q)
    (kk : ∀ (H1 : Heap) (locs1 : List Loc), va_P D vwCl (Wf u0 ++ ex) H1 → va_D A (Wf u0 ++ ex) → va_S A H0 H1 locs1 → W p l e R s m args below meth c H1 locs1 (cells + mc) (slots + ms) Q (F0 m (pc + 3) ls (.int r0 :: rest))) : W p l e R s m args below meth c H locs cells slots Q (F0 m pc ls st0) :=
  va_calli hr hS (fun q _ h => sg_A_in (sg_Dl hD) hS hA q h) (sg_A_in (sg_Dl hD) hS hA) (fun r v t H1 locs1 ht hvm hw hB hz hk hS1 => by
    obtain ⟨e1, e2⟩ := hw
    subst e1
    subst e2
    obtain ⟨hP1, hD1⟩ := hB
    rw [ht] at hP1
    obtain ⟨hP2, hD2⟩ := sg_jn hP hD (sg_A_in (sg_Dl hD) hS hA) hk hP1 hD1
    exact kk H1 locs1 hP2 hD2 hS1)
theorem sg_lj {r0 : Int32} (hr : va_Run p l e R s m args below meth c H locs cells slots 0 0 (F0 m pc ls st0) rest (va_Qi (fun x y => x = r0 ∧ y = u0) (sg_BX D Wf (va_A (Wf u) H.size)) (va_A (Wf u) H.size) a) (va_A (Wf u) H.size)) (hP : va_P D vwCl (Wf u ++ ex) H) (hD : va_D A (Wf u ++ ex)) (hS : va_S A H0 H locs) (hA : ∀ q, H0.size ≤ q → A q)
    (kk : ∀ (H1 : Heap) (locs1 : List Loc), va_P D vwCl (Wf u0 ++ ex) H1 → va_D A (Wf u0 ++ ex) → va_S A H0 H1 locs1 → W p l e R s m args below meth c H1 locs1 cells slots Q (F0 m (pc + 3) ls (.int r0 :: rest))) : W p l e R s m args below meth c H locs cells slots Q (F0 m pc ls st0) := sg_li hr hP hD hS hA kk
theorem sg_lx {r0 : Int32} (hr : va_Run p l e R s m args below meth c H locs cells slots mc ms (F0 m pc ls st0) rest (va_Qi (fun x y => x = r0 ∧ y = u0) (sg_BX D Wf (va_A (Wf u) H.size)) (va_A (Wf u) H.size) a) (va_A (Wf u) H.size)) (hP : va_P D vwCl (Wf u) H) (hD : va_D A (Wf u)) (hS : va_S A H0 H locs) (hA : ∀ q, H0.size ≤ q → A q)
    (kk : ∀ (H1 : Heap) (locs1 : List Loc), va_P D vwCl (Wf u0) H1 → va_D A (Wf u0) → va_S A H0 H1 locs1 → W p l e R s m args below meth c H1 locs1 (cells + mc) (slots + ms) Q (F0 m (pc + 3) ls (.int r0 :: rest))) : W p l e R s m args below meth c H locs cells slots Q (F0 m pc ls st0) :=
  va_calli hr hS (fun q _ h => sg_A_in hD hS hA q h) (sg_A_in hD hS hA) (fun r v t H1 locs1 ht hvm hw hB hz hk hS1 => by
    obtain ⟨e1, e2⟩ := hw
    subst e1
    subst e2
    obtain ⟨hP1, hD1⟩ := hB
    rw [ht] at hP1
    exact kk H1 locs1 hP1 (hD1.weaken (fun _ q _ h => sg_A_in hD hS hA q.1 h)) hS1)
theorem sg_ll {r0 : Int64} (hr : va_Run p l e R s m args below meth c H locs cells slots mc ms (F0 m pc ls st0) rest (va_Ql (fun x y => x = r0 ∧ y = u0) (sg_BX D Wf (va_A (Wf u) H.size)) (va_A (Wf u) H.size) a) (va_A (Wf u) H.size)) (hP : va_P D vwCl (Wf u ++ ex) H) (hD : va_D A (Wf u ++ ex)) (hS : va_S A H0 H locs) (hA : ∀ q, H0.size ≤ q → A q)
    (kk : ∀ (H1 : Heap) (locs1 : List Loc), va_P D vwCl (Wf u0 ++ ex) H1 → va_D A (Wf u0 ++ ex) → va_S A H0 H1 locs1 → W p l e R s m args below meth c H1 locs1 (cells + mc) (slots + ms) Q (F0 m (pc + 3) ls (.long r0 :: rest))) : W p l e R s m args below meth c H locs cells slots Q (F0 m pc ls st0) :=
  va_calll hr hS (fun q _ h => sg_A_in (sg_Dl hD) hS hA q h) (sg_A_in (sg_Dl hD) hS hA) (fun r v t H1 locs1 ht hvm hw hB hz hk hS1 => by
    obtain ⟨e1, e2⟩ := hw
    subst e1
    subst e2
    obtain ⟨hP1, hD1⟩ := hB
    rw [ht] at hP1
    obtain ⟨hP2, hD2⟩ := sg_jn hP hD (sg_A_in (sg_Dl hD) hS hA) hk hP1 hD1
    exact kk H1 locs1 hP2 hD2 hS1)
theorem sg_lf {r0 : UInt32} (hr : va_Run p l e R s m args below meth c H locs cells slots mc ms (F0 m pc ls st0) rest (va_Qf (fun x y => x = r0 ∧ y = u0) (sg_BX D Wf (va_A (Wf u) H.size)) (va_A (Wf u) H.size) a) (va_A (Wf u) H.size)) (hP : va_P D vwCl (Wf u ++ ex) H) (hD : va_D A (Wf u ++ ex)) (hS : va_S A H0 H locs) (hA : ∀ q, H0.size ≤ q → A q)
    (kk : ∀ (H1 : Heap) (locs1 : List Loc), va_P D vwCl (Wf u0 ++ ex) H1 → va_D A (Wf u0 ++ ex) → va_S A H0 H1 locs1 → W p l e R s m args below meth c H1 locs1 (cells + mc) (slots + ms) Q (F0 m (pc + 3) ls (.float r0 :: rest))) : W p l e R s m args below meth c H locs cells slots Q (F0 m pc ls st0) :=
  va_callf hr hS (fun q _ h => sg_A_in (sg_Dl hD) hS hA q h) (sg_A_in (sg_Dl hD) hS hA) (fun r v t H1 locs1 ht hvm hw hB hz hk hS1 => by
    obtain ⟨e1, e2⟩ := hw
    subst e1
    subst e2
    obtain ⟨hP1, hD1⟩ := hB
    rw [ht] at hP1
    obtain ⟨hP2, hD2⟩ := sg_jn hP hD (sg_A_in (sg_Dl hD) hS hA) hk hP1 hD1
    exact kk H1 locs1 hP2 hD2 hS1)
theorem sg_si {r0 : Int32} (hr : va_Run p l e R s m args below meth c H locs cells slots 0 0 (F0 m pc ls st0) rest (va_Qi (fun x (_ : Unit) => x = r0) (fun _ _ => True) (va_A [] H.size) a) (va_A [] H.size)) (hP : va_P D vwCl ws H) (hS : va_S A H0 H locs) (hA : ∀ q, H0.size ≤ q → A q)
    (kk : ∀ (H1 : Heap) (locs1 : List Loc), va_P D vwCl ws H1 → va_S A H0 H1 locs1 → W p l e R s m args below meth c H1 locs1 cells slots Q (F0 m (pc + 3) ls (.int r0 :: rest))) : W p l e R s m args below meth c H locs cells slots Q (F0 m pc ls st0) :=
  va_calli hr hS (fun q _ h => sg_A_0 hS hA q h) (sg_A_0 hS hA) (fun r v t H1 locs1 ht hvm hw hB hz hk hS1 => by
    subst hw
    exact kk H1 locs1 (sg_P_0 hP hk) hS1)
/-- a call of the class between try and catch -/
theorem sg_gi {R1 : (Nat ⊕ Int32) × sg_St} (hr : vx_Run p l e R s m args below meth c H locs cells slots mc ms (F0 m pc ls st0) rest (sg_QI D Wf (va_A (Wf u) H.size) R1 a) (sg_XC D Wf (va_A (Wf u) H.size) R1) (va_A (Wf u) H.size)) (hD : va_D A (Wf u)) (hS : va_S A s.heap H locs) (hA : ∀ q, s.heap.size ≤ q → A q)
    (kx : ∀ (k : Nat) (v : sg_St) (E : String) (ce : Cell) (q9 : Addr) (H1 : Heap) (locs1 : List Loc), R1 = (.inl k, v) → E = sg_en k → va_P D vwCl (Wf v) H1 → va_D A (Wf v) → va_S A s.heap H1 locs1 → H1[q9]? = some ce → ce.vm = .none → s.vm.findClass E = some ce.cls → vx_W p l e R s m args below meth c H1 locs1 (cells + mc) (slots + ms) Q (F0 m pc ls rest) q9)
    (kk : ∀ (r : Int32) (v : sg_St) (H1 : Heap) (locs1 : List Loc), R1 = (.inr r, v) → va_P D vwCl (Wf v) H1 → va_D A (Wf v) → va_S A s.heap H1 locs1 → W p l e R s m args below meth c H1 locs1 (cells + mc) (slots + ms) Q (F0 m (pc + 3) ls (.int r :: rest))) : W p l e R s m args below meth c H locs cells slots Q (F0 m pc ls st0) :=
  vx_calli hr hS (fun q _ h => sg_A_in hD hS hA q h) (sg_A_in hD hS hA) (fun q _ h => sg_A_in hD hS hA q h)
    (fun E ce q9 z t H1 locs1 ht hvm hpx hB hz hk hS1 hce hcv hcl => by
      obtain ⟨hE, hP1, hD1⟩ := hB
      rw [ht] at hP1
      exact kx z.1 z.2 E ce q9 H1 locs1 hpx hE hP1 (hD1.weaken (fun _ q _ h => sg_A_in hD hS hA q.1 h)) hS1 hce hcv hcl)
    (fun r v t H1 locs1 ht hvm hw hB hz hk hS1 => by
      obtain ⟨hP1, hD1⟩ := hB
      rw [ht] at hP1
      exact kk r v H1 locs1 hw hP1 (hD1.weaken (fun _ q _ h => sg_A_in hD hS hA q.1 h)) hS1)
theorem sg_gf {R1 : (Nat ⊕ UInt32) × sg_St} (hr : vx_Run p l e R s m args below meth c H locs cells slots mc ms (F0 m pc ls st0) rest (sg_QF D Wf (va_A (Wf u) H.size) R1 a) (sg_XC D Wf (va_A (Wf u) H.size) R1) (va_A (Wf u) H.size)) (hD : va_D A (Wf u)) (hS : va_S A s.heap H locs) (hA : ∀ q, s.heap.size ≤ q → A q)
    (kx : ∀ (k : Nat) (v : sg_St) (E : String) (ce : Cell) (q9 : Addr) (H1 : Heap) (locs1 : List Loc), R1 = (.inl k, v) → E = sg_en k → va_P D vwCl (Wf v) H1 → va_D A (Wf v) → va_S A s.heap H1 locs1 → H1[q9]? = some ce → ce.vm = .none → s.vm.findClass E = some ce.cls → vx_W p l e R s m args below meth c H1 locs1 (cells + mc) (slots + ms) Q (F0 m pc ls rest) q9)
    (kk : ∀ (r : UInt32) (v : sg_St) (H1 : Heap) (locs1 : List Loc), R1 = (.inr r, v) → va_P D vwCl (Wf v) H1 → va_D A (Wf v) → va_S A s.heap H1 locs1 → W p l e R s m args below meth c H1 locs1 (cells + mc) (slots + ms) Q (F0 m (pc + 3) ls (.float r :: rest))) : W p l e R s m args below meth c H locs cells slots Q (F0 m pc ls st0) :=
  vx_callf hr hS (fun q _ h => sg_A_in hD hS hA q h) (sg_A_in hD hS hA) (fun q _ h => sg_A_in hD hS hA q h)
    (fun E ce q9 z t H1 locs1 ht hvm hpx hB hz hk hS1 hce hcv hcl => by
      obtain ⟨hE, hP1, hD1⟩ := hB
      rw [ht] at hP1
      exact kx z.1 z.2 E ce q9 H1 locs1 hpx hE hP1 (hD1.weaken (fun _ q _ h => sg_A_in hD hS hA q.1 h)) hS1 hce hcv hcl)
    (fun r v t H1 locs1 ht hvm hw hB hz hk hS1 => by
      obtain ⟨hP1, hD1⟩ := hB
      rw [ht] at hP1
      exact kk r v H1 locs1 hw hP1 (hD1.weaken (fun _ q _ h => sg_A_in hD hS hA q.1 h)) hS1)
theorem sg_lri {cc : ByteArray} {v r : Int32} (hx : p.tables.exec = Jvm.exec) (hb : c.code = cc) (hr : meth.sig.returnType = some .int) (hP : va_P D vwCl (Wf u) H) (hD : va_D A (Wf u)) (hS : va_S A s.heap H locs) (hd : decode cc pc = .ok (.ireturn, 1)) (hv : v = r) (hu : u = u0) (hlocks : meth.locks = false) (hcm : cells ≤ mc) (hsm : slots ≤ ms) : W p l e R s m args below meth c H locs cells slots (MQ below (va_Qi (fun x y => x = r ∧ y = u0) (sg_BX D Wf A) A) args s mc ms A) (F0 m pc ls [.int v]) := by
  subst hv
  subst hu
  refine W.widen hcm hsm ?_
  exact W.iret hx hb hr (fun t ht hW => ⟨⟨v, u, rfl, ⟨rfl, rfl⟩, by rw [ht]; exact hP, hD⟩, hS.F ht⟩) hS.2.2 hd hlocks
theorem sg_lrz {cc : ByteArray} {v r : Int32} {ty : FieldType} (hx : p.tables.exec = Jvm.exec) (hb : c.code = cc) (hr : meth.sig.returnType = some ty) (hn : narrow ty (.int v) = .int v) (hP : va_P D vwCl (Wf u) H) (hD : va_D A (Wf u)) (hS : va_S A s.heap H locs) (hd : decode cc pc = .ok (.ireturn, 1)) (hv : v = r) (hu : u = u0) (hlocks : meth.locks = false) (hcm : cells ≤ mc) (hsm : slots ≤ ms) : W p l e R s m args below meth c H locs cells slots (MQ below (va_Qi (fun x y => x = r ∧ y = u0) (sg_BX D Wf A) A) args s mc ms A) (F0 m pc ls [.int v]) := by
  subst hv
  subst hu
  refine W.widen hcm hsm ?_
  exact W.zret hx hb hr hn (fun t ht hW => ⟨⟨v, u, rfl, ⟨rfl, rfl⟩, by rw [ht]; exact hP, hD⟩, hS.F ht⟩) hS.2.2 hd hlocks
theorem sg_lrl {cc : ByteArray} {v r : Int64} (hx : p.tables.exec = Jvm.exec) (hb : c.code = cc) (hr : meth.sig.returnType = some .long) (hP : va_P D vwCl (Wf u) H) (hD : va_D A (Wf u)) (hS : va_S A s.heap H locs) (hd : decode cc pc = .ok (.lreturn, 1)) (hv : v = r) (hu : u = u0) (hlocks : meth.locks = false) (hcm : cells ≤ mc) (hsm : slots ≤ ms) : W p l e R s m args below meth c H locs cells slots (MQ below (va_Ql (fun x y => x = r ∧ y = u0) (sg_BX D Wf A) A) args s mc ms A) (F0 m pc ls [.long v]) := by
  subst hv
  subst hu
  refine W.widen hcm hsm ?_
  exact W.lret hx hb hr (fun t ht hW => ⟨⟨v, u, rfl, ⟨rfl, rfl⟩, by rw [ht]; exact hP, hD⟩, hS.F ht⟩) hS.2.2 hd hlocks
theorem sg_lrf {cc : ByteArray} {v r : UInt32} (hx : p.tables.exec = Jvm.exec) (hb : c.code = cc) (hr : meth.sig.returnType = some .float) (hP : va_P D vwCl (Wf u) H) (hD : va_D A (Wf u)) (hS : va_S A s.heap H locs) (hd : decode cc pc = .ok (.freturn, 1)) (hv : v = r) (hu : u = u0) (hlocks : meth.locks = false) (hcm : cells ≤ mc) (hsm : slots ≤ ms) : W p l e R s m args below meth c H locs cells slots (MQ below (va_Qf (fun x y => x = r ∧ y = u0) (sg_BX D Wf A) A) args s mc ms A) (F0 m pc ls [.float v]) := by
  subst hv
  subst hu
  refine W.widen hcm hsm ?_
  exact W.fret hx hb hr (fun t ht hW => ⟨⟨v, u, rfl, ⟨rfl, rfl⟩, by rw [ht]; exact hP, hD⟩, hS.F ht⟩) hS.2.2 hd hlocks
theorem sg_sri {cc : ByteArray} {v r : Int32} (hx : p.tables.exec = Jvm.exec) (hb : c.code = cc) (hr : meth.sig.returnType = some .int) (hS : va_S A s.heap H locs) (hd : decode cc pc = .ok (.ireturn, 1)) (hv : v = r) (hlocks : meth.locks = false) : W p l e R s m args below meth c H locs 0 0 (MQ below (va_Qi (fun x (_ : Unit) => x = r) (fun _ _ => True) A) args s 0 0 A) (F0 m pc ls [.int v]) := by
  subst hv
  exact W.iret hx hb hr (fun t ht hW => ⟨⟨v, (), rfl, rfl, trivial⟩, hS.F ht⟩) hS.2.2 hd hlocks
end SGL
/-! the law's own arrays: capacity, ends, rating; own -/
def sg_X3 (cA : Nat → ClassId) (x0 x1 x2 : Nat) (a : sg_St) : va_W := [(x0, .inl (cA 0, 10, .inl (a 0))), (x1, .inl (cA 0, 24, .inl (a 1))), (x2, .inl (cA 0, 12, .inl (a 2)))]
def sg_X4 (cA : Nat → ClassId) (x0 x1 x2 x3 : Nat) (a : sg_St) (w : Nat → Int32) : va_W := [(x0, .inl (cA 0, 10, .inl (a 0))), (x1, .inl (cA 0, 24, .inl (a 1))), (x2, .inl (cA 0, 12, .inl (a 2))), (x3, .inl (cA 0, 10, .inl w))]
theorem sg_X3_0 (cA : Nat → ClassId) (ad : Nat → Nat) (x0 x1 x2 : Nat) (u a : sg_St) (i : Nat) (v : Int32) : (sg_WX cA ad u ++ sg_X3 cA x0 x1 x2 a).set 17 (x0, .inl (cA 0, 10, .inl (upd (a 0) i v))) = sg_WX cA ad u ++ sg_X3 cA x0 x1 x2 (sg_set a 0 i v) := by
  simp [sg_WX, sg_X3, sg_set, va_up]
theorem sg_X3_1 (cA : Nat → ClassId) (ad : Nat → Nat) (x0 x1 x2 : Nat) (u a : sg_St) (i : Nat) (v : Int32) : (sg_WX cA ad u ++ sg_X3 cA x0 x1 x2 a).set 18 (x1, .inl (cA 0, 24, .inl (upd (a 1) i v))) = sg_WX cA ad u ++ sg_X3 cA x0 x1 x2 (sg_set a 1 i v) := by
  simp [sg_WX, sg_X3, sg_set, va_up]
theorem sg_X3_2 (cA : Nat → ClassId) (ad : Nat → Nat) (x0 x1 x2 : Nat) (u a : sg_St) (i : Nat) (v : Int32) : (sg_WX cA ad u ++ sg_X3 cA x0 x1 x2 a).set 19 (x2, .inl (cA 0, 12, .inl (upd (a 2) i v))) = sg_WX cA ad u ++ sg_X3 cA x0 x1 x2 (sg_set a 2 i v) := by
  simp [sg_WX, sg_X3, sg_set, va_up]
theorem sg_X4_3 (cA : Nat → ClassId) (ad : Nat → Nat) (x0 x1 x2 x3 : Nat) (u a : sg_St) (w : Nat → Int32) (i : Nat) (v : Int32) : (sg_WX cA ad u ++ sg_X4 cA x0 x1 x2 x3 a w).set 20 (x3, .inl (cA 0, 10, .inl (upd w i v))) = sg_WX cA ad u ++ sg_X4 cA x0 x1 x2 x3 a (upd w i v) := by
  simp [sg_WX, sg_X4]
/-- what holds all along the law -/
def sg_LA (p : Program) (s : State) (m : MethodId) (meth : Method) (c : Code) (b L : Nat) (xs : Nat → Int32) (D : va_G) (cA : Nat → ClassId) : Prop :=
  p.tables.exec = Jvm.exec ∧ c.code = code ∧ meth.sig.returnType = ret ∧ c.maxLocals = 21 ∧ s.vm.findClass RL = some m.cls ∧ (∀ w ∈ wsL_law, w.before #[Value.ref b] s = true) ∧ va_X b L xs s s.heap ∧ b < s.heap.size ∧ sg_KK D cA s ∧ sg_TT (fun q : Nat => s.heap.size ≤ q) s ∧ (∀ q ∈ sg_ncs, va_Nc q.1 q.2 s) ∧ meth.locks = false
