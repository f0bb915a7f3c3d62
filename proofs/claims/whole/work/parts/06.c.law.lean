/-! what holds all along the law -/
def sg_LA (p : Program) (s : State) (m : MethodId) (meth : Method) (c : Code) (b L : Nat) (xs : Nat → Int32) (D : va_G) (cA : Nat → ClassId) : Prop :=
  p.tables.exec = Jvm.exec ∧ c.code = code ∧ meth.sig.returnType = ret ∧ c.maxLocals = 9 ∧ s.vm.findClass RL = some m.cls ∧ (∀ w ∈ wsL_law, w.before #[Value.ref b] s = true) ∧ va_X b L xs s s.heap ∧ b < s.heap.size ∧ sg_KK D cA s ∧ sg_TT (fun q : Nat => s.heap.size ≤ q) s ∧ (∀ q ∈ sg_ncs, va_Nc q.1 q.2 s) ∧ meth.locks = false
def sg_nb (x : Int32) : Int32 := if x = 0 then 0 else 1
theorem sg_Rel_in {α : Type} {I : sg_St → sg_St → Prop} {cs : List Nat} {R : (Nat ⊕ α) × sg_St} {r' : α} {v' : sg_St} (h : sg_Rel I cs R r' v') {k : Nat} {t : sg_St} (e : R = (.inl k, t)) : k ∈ cs := by
  rcases h with ⟨u1, e1, -⟩ | ⟨k1, u1, e1, e2, -⟩
  · rw [e1] at e
    injection e with d4 d5
    cases d4
  · rw [e1] at e
    injection e with d4 d5
    injection d4 with d4
    subst d4
    exact e2
theorem sg_cmp64 {r : Int32} {o : Nat → Int64} : lg_cmp (sg_up64 r o (0 : Int32).toNatClampNeg) r.toInt64 = 0 := by
  simp [sg_up64, vp_updL, lg_cmp]
theorem sg_cmpB0 {r : Int32} {o : Nat → Int64} (h : r = 0) : lg_cmp (sg_upB r o (0 : Int32).toNatClampNeg) 0 = 0 := by
  simp [sg_upB, vp_updL, lg_cmp, h]
theorem sg_cmpB1 {r : Int32} {o : Nat → Int64} (h : ¬ r = 0) : lg_cmp (sg_upB r o (0 : Int32).toNatClampNeg) 1 = 0 := by
  simp [sg_upB, vp_updL, lg_cmp, h]
