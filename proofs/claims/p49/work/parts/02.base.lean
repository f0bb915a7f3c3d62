/-! base: the functions' combinators; the two worlds; calls and ends in one row each -/
abbrev sg_St : Type := Nat → Nat → Int32
def sg_set (u : sg_St) (k i : Nat) (v : Int32) : sg_St := va_up u k (upd (u k) i v)
theorem sg_ip {α : Type} {c : Prop} {d : Decidable c} {a b r : α} (hc : c) (h : @ite α c d a b = r) : a = r := by
  rw [if_pos hc] at h
  exact h
theorem sg_in {α : Type} {c : Prop} {d : Decidable c} {a b r : α} (hc : ¬ c) (h : @ite α c d a b = r) : b = r := by
  rw [if_neg hc] at h
  exact h
def sg_g {α : Type} (b : Bool) (x : Option α) : Option α := cond b x none
theorem sg_g_s {α : Type} {b : Bool} {x : Option α} {r : α} (h : sg_g b x = some r) : b = true ∧ x = some r := by
  cases b
  · cases h
  · exact ⟨rfl, h⟩
def sg_inb (i : Int32) (n : Nat) : Bool := !(decide (i < 0)) && decide (i.toNatClampNeg < n)
theorem sg_inb_s {i : Int32} {n : Nat} (h : sg_inb i n = true) : vp_in i n := by
  unfold sg_inb at h
  rw [Bool.and_eq_true] at h
  obtain ⟨h1, h2⟩ := h
  have h3 := of_decide_eq_true h2
  intro q
  rcases q with q | q
  · rw [decide_eq_true q] at h1
    exact absurd h1 (by decide)
  · omega
def sg_b {α γ : Type} (o : Option α) (f : α → Option γ) : Option γ := o.bind f
theorem sg_b_s {α γ : Type} {o : Option α} {f : α → Option γ} {r : γ} (h : sg_b o f = some r) : ∃ a, o = some a ∧ f a = some r := by
  cases o with
  | none => cases h
  | some a => exact ⟨a, rfl, h⟩
def sg_b2 {α β γ : Type} (o : Option (α × β)) (f : α → β → Option γ) : Option γ := o.bind (fun x => f x.1 x.2)
theorem sg_b2_s {α β γ : Type} {o : Option (α × β)} {f : α → β → Option γ} {r : γ} (h : sg_b2 o f = some r) : ∃ a b, o = some (a, b) ∧ f a b = some r := by
  cases o with
  | none => cases h
  | some a => exact ⟨a.1, a.2, rfl, h⟩
def sg_bt {α β σ : Type} (o : Option ((Nat ⊕ α) × σ)) (k : α → σ → Option ((Nat ⊕ β) × σ)) : Option ((Nat ⊕ β) × σ) := o.bind (fun x => Sum.elim (fun e => some (.inl e, x.2)) (fun a => k a x.2) x.1)
theorem sg_bt_s {α β σ : Type} {o : Option ((Nat ⊕ α) × σ)} {k : α → σ → Option ((Nat ⊕ β) × σ)} {R : (Nat ⊕ β) × σ} (h : sg_bt o k = some R) : ∃ x, o = some x ∧ (∀ e t, x = (.inl e, t) → (.inl e, t) = R) ∧ (∀ a t, x = (.inr a, t) → k a t = some R) := by
  cases o with
  | none => cases h
  | some x =>
    refine ⟨x, rfl, fun e t hx => ?_, fun a t hx => ?_⟩
    · subst hx
      exact Option.some.inj h
    · subst hx
      exact h
/-- a loop: f says whether it goes on (and with what), or ends (and with what) -/
def sg_it {σ ρ : Type} (f : σ → Option (σ ⊕ ρ)) : Nat → σ → Option ρ
  | 0, _ => none
  | n + 1, x => (f x).bind (Sum.elim (fun z => sg_it f n z) some)
theorem sg_loop {σ ρ : Type} {f : σ → Option (σ ⊕ ρ)} (P : σ → ρ → Prop) (h : ∀ x y r, f x = some y → (∀ z, y = .inl z → P z r) → (∀ v, y = .inr v → v = r) → P x r) : ∀ n x r, sg_it f n x = some r → P x r := by
  intro n
  induction n with
  | zero =>
    intro x r hr
    cases hr
  | succ n ih =>
    intro x r hr
    cases hfx : f x with
    | none =>
      have hr2 : (f x).bind (Sum.elim (fun z => sg_it f n z) some) = some r := hr
      rw [hfx] at hr2
      cases hr2
    | some y =>
      have hr2 : (f x).bind (Sum.elim (fun z => sg_it f n z) some) = some r := hr
      rw [hfx] at hr2
      cases y with
      | inl z => exact h x _ r hfx (fun w hw => by cases hw; exact ih z r hr2) (fun v hv => by cases hv)
      | inr v => exact h x _ r hfx (fun w hw => by cases hw) (fun w hw => by cases hw; exact Option.some.inj hr2)
def sg_u0 : sg_St := fun _ _ => 0
def sg_l {α β : Type} (e : α) (k : α → β) : β := k e
theorem sg_l_s {α β : Type} {e x : α} {k : α → Option β} {r : β} (ex : x = e) (h : sg_l e k = some r) : k x = some r := by
  subst ex
  exact h
def sg_rec {α : Type} (F : α → α) (z : α) : Nat → α
  | 0 => z
  | n + 1 => F (sg_rec F z n)
theorem sg_nz {x : Int32} (h : (decide (x = 0) || decide (x = 1)) = true) : narrow .boolean (.int x) = .int x := by
  rw [Bool.or_eq_true] at h
  rcases h with h | h
  · rw [of_decide_eq_true h]; rfl
  · rw [of_decide_eq_true h]; rfl
theorem sg_nc {x : Int32} (h : decide (vp_nar .char x = x) = true) : narrow .char (.int x) = .int x := by
  have e := of_decide_eq_true h
  show Value.int (vp_nar .char x) = .int x
  rw [e]
def sg_W0 (_ : sg_St) : va_W := []
/-- the class's world: the object, its parts, their arrays -/
def sg_WX (cA : Nat → ClassId) (ad : Nat → Nat) (u : sg_St) : va_W := [
  (ad 0, .inr (7, [.ref (ad 1), .ref (ad 2), .ref (ad 3), .ref (ad 4), .ref (ad 5), .int (u 10 0)])),
  (ad 1, .inr (3, [.ref (ad 6), .ref (ad 7), .ref (ad 8), .ref (ad 9), .ref (ad 10), .ref (ad 11), .int (u 0 0), .int (u 1 0), .int (u 2 0), .int (u 3 0)])),
  (ad 2, .inr (2, [.ref (ad 1), .ref (ad 12), .ref (ad 13)])),
  (ad 3, .inr (6, [.ref (ad 1), .ref (ad 2), .int (u 4 0), .int (u 5 0), .int (u 6 0)])),
  (ad 4, .inr (5, [.ref (ad 1), .ref (ad 2), .ref (ad 14), .ref (ad 15), .ref (ad 16)])),
  (ad 5, .inr (4, [.ref (ad 1), .ref (ad 3), .int (u 7 0), .int (u 8 0), .int (u 9 0)])),
  (ad 6, .inl (cA 0, 10, .inl (u 11))), (ad 7, .inl (cA 0, 10, .inl (u 12))), (ad 8, .inl (cA 0, 10, .inl (u 13))),
  (ad 9, .inl (cA 0, 12, .inl (u 14))), (ad 10, .inl (cA 0, 12, .inl (u 15))), (ad 11, .inl (cA 0, 12, .inl (u 16))),
  (ad 12, .inl (cA 0, 12, .inl (u 17))), (ad 13, .inl (cA 0, 10, .inl (u 18))),
  (ad 14, .inl (cA 0, 12, .inl (u 19))), (ad 15, .inl (cA 0, 12, .inl (u 20))), (ad 16, .inl (cA 0, 12, .inl (u 21)))]
/-- the reference's world -/
def sg_WM (cA : Nat → ClassId) (ad : Nat → Nat) (u : sg_St) : va_W := [
  (ad 0, .inr (8, [.int (u 0 0), .int (u 1 0), .int (u 2 0), .int (u 3 0), .ref (ad 1), .ref (ad 2), .ref (ad 3), .ref (ad 4), .ref (ad 5), .ref (ad 6), .ref (ad 7), .ref (ad 8), .ref (ad 9), .ref (ad 10), .ref (ad 11), .ref (ad 12), .ref (ad 13), .ref (ad 14), .ref (ad 15), .ref (ad 16), .ref (ad 17), .int (u 4 0), .ref (ad 18), .ref (ad 19), .int (u 5 0), .int (u 6 0), .int (u 7 0)])),
  (ad 1, .inl (cA 1, 10, .inl (u 8))), (ad 2, .inl (cA 0, 10, .inl (u 9))), (ad 3, .inl (cA 0, 10, .inl (u 10))), (ad 4, .inl (cA 0, 10, .inl (u 11))),
  (ad 5, .inl (cA 0, 12, .inl (u 12))), (ad 6, .inl (cA 0, 12, .inl (u 13))), (ad 7, .inl (cA 0, 12, .inl (u 14))), (ad 8, .inl (cA 0, 12, .inl (u 15))), (ad 9, .inl (cA 0, 12, .inl (u 16))), (ad 10, .inl (cA 0, 12, .inl (u 17))),
  (ad 11, .inl (cA 1, 12, .inl (u 18))), (ad 12, .inl (cA 1, 12, .inl (u 19))), (ad 13, .inl (cA 1, 12, .inl (u 20))), (ad 14, .inl (cA 1, 12, .inl (u 21))),
  (ad 15, .inl (cA 0, 10, .inl (u 22))), (ad 16, .inl (cA 0, 12, .inl (u 23))), (ad 17, .inl (cA 0, 10, .inl (u 24))), (ad 18, .inl (cA 0, 12, .inl (u 25))), (ad 19, .inl (cA 0, 12, .inl (u 26)))]
def sg_nm : List Cond := [.methodLinkNest RX5 9 yX1_init RX5, .methodLinkNest RX0 43 yX5_has RX5, .methodLinkNest RX1 37 yX5_bit RX5, .methodLinkNest RX1 54 yX5_has RX5, .methodLinkNest RX1 58 yX5_lowestIn RX5, .methodLinkNest RX2 66 yX5_has RX5, .methodLinkNest RX2 69 yX5_bit RX5, .methodLinkNest RX3 39 yX5_has RX5, .methodLinkNest RX4 34 yX5_has RX5, .methodLinkNest RX4 67 yX5_bit RX5]
def sg_nf : List Cond := [.fieldLinkNest RX5 120 RX4 "closed" "I" RX5, .fieldLinkNest RX5 146 RX4 "faulty" "I" RX5, .fieldLinkNest RX5 173 RX4 "locked" "I" RX5, .fieldLinkNest RX5 186 RX1 "nodeCount" "I" RX5, .fieldLinkNest RX5 189 RX1 "lineCount" "I" RX5, .fieldLinkNest RX5 192 RX1 "sources" "I" RX5, .fieldLinkNest RX5 258 RX2 "bestValue" "I" RX5, .fieldLinkNest RX5 261 RX2 "bestPlan" "I" RX5, .fieldLinkNest RX5 301 RX1 "breakers" "I" RX5, .fieldLinkNest RX0 36 RX1 "nodeCount" "I" RX5, .fieldLinkNest RX0 40 RX1 "sources" "I" RX5, .fieldLinkNest RX2 39 RX4 "closed" "I" RX5, .fieldLinkNest RX3 35 RX1 "breakers" "I" RX5, .fieldLinkNest RX4 26 RX1 "breakers" "I" RX5, .fieldLinkNest RX4 73 RX1 "nodeCount" "I" RX5, .fieldLinkNest RX4 76 RX1 "sources" "I" RX5]
def sg_nw : List Cond := sg_nm ++ sg_nf
theorem sg_nm_w {s U : State} (hW : s.WarmedH U.vm) : ∀ w ∈ sg_nm, va_Nw w s → va_Nw w U := List.forall_mem_cons.mpr ⟨fun h => h.warmM hW, List.forall_mem_cons.mpr ⟨fun h => h.warmM hW, List.forall_mem_cons.mpr ⟨fun h => h.warmM hW, List.forall_mem_cons.mpr ⟨fun h => h.warmM hW, List.forall_mem_cons.mpr ⟨fun h => h.warmM hW, List.forall_mem_cons.mpr ⟨fun h => h.warmM hW, List.forall_mem_cons.mpr ⟨fun h => h.warmM hW, List.forall_mem_cons.mpr ⟨fun h => h.warmM hW, List.forall_mem_cons.mpr ⟨fun h => h.warmM hW, List.forall_mem_cons.mpr ⟨fun h => h.warmM hW, fun _ h => absurd h List.not_mem_nil⟩⟩⟩⟩⟩⟩⟩⟩⟩⟩
theorem sg_nf_w {s U : State} (hW : s.WarmedH U.vm) : ∀ w ∈ sg_nf, va_Nw w s → va_Nw w U := List.forall_mem_cons.mpr ⟨fun h => h.warmF hW, List.forall_mem_cons.mpr ⟨fun h => h.warmF hW, List.forall_mem_cons.mpr ⟨fun h => h.warmF hW, List.forall_mem_cons.mpr ⟨fun h => h.warmF hW, List.forall_mem_cons.mpr ⟨fun h => h.warmF hW, List.forall_mem_cons.mpr ⟨fun h => h.warmF hW, List.forall_mem_cons.mpr ⟨fun h => h.warmF hW, List.forall_mem_cons.mpr ⟨fun h => h.warmF hW, List.forall_mem_cons.mpr ⟨fun h => h.warmF hW, List.forall_mem_cons.mpr ⟨fun h => h.warmF hW, List.forall_mem_cons.mpr ⟨fun h => h.warmF hW, List.forall_mem_cons.mpr ⟨fun h => h.warmF hW, List.forall_mem_cons.mpr ⟨fun h => h.warmF hW, List.forall_mem_cons.mpr ⟨fun h => h.warmF hW, List.forall_mem_cons.mpr ⟨fun h => h.warmF hW, List.forall_mem_cons.mpr ⟨fun h => h.warmF hW, fun _ h => absurd h List.not_mem_nil⟩⟩⟩⟩⟩⟩⟩⟩⟩⟩⟩⟩⟩⟩⟩⟩
theorem sg_nw_t : ∀ w ∈ sg_nw, w.onTables = true := by decide +kernel
def sg_ty (cA : Nat → ClassId) : List (ClassId × FieldType) := [(cA 0, .int)]
def sg_KK (D : va_G) (cA : Nat → ClassId) (U : State) : Prop := va_K D vwCl (sg_ty cA) U ∧ ∀ w ∈ sg_nw, va_Nw w U
theorem sg_KK.warm {D : va_G} {cA : Nat → ClassId} {s U : State} (hW : s.WarmedH U.vm) (h : sg_KK D cA s) : sg_KK D cA U :=
  ⟨va_K.moved hW.alike h.1, fun w hw => by
    rcases List.mem_append.mp hw with q | q
    · exact sg_nm_w hW w q (h.2 w hw)
    · exact sg_nf_w hW w q (h.2 w hw)⟩
theorem sg_KK.call {D : va_G} {cA : Nat → ClassId} {U : State} {g : JFrame} {mk : MethodId} {a : Array Value} (h : sg_KK D cA U) : sg_KK D cA (U.calling g mk a) :=
  ⟨va_K.moved (u := U) (U := U.calling g mk a) (Vm.Alike.refl U.vm) h.1, fun w hw => va_Nw.same (u := U) (U := U.calling g mk a) (sg_nw_t w hw) rfl (h.2 w hw)⟩
/-- a method's start and its worlds -/
def sg_PX (D : va_G) (cA : Nat → ClassId) (Wf : sg_St → va_W) (u : sg_St) (sz : Nat) (U : State) : Prop := U.heap.size = sz ∧ va_P D vwCl (Wf u) U.heap ∧ sg_KK D cA U ∧ va_D (fun _ => True) (Wf u)
def sg_BX (D : va_G) (Wf : sg_St → va_W) (A : Nat → Prop) (u : sg_St) (t : State) : Prop := va_P D vwCl (Wf u) t.heap ∧ va_D A (Wf u)
theorem sg_blind {D : va_G} {cA : Nat → ClassId} {Wf : sg_St → va_W} {u : sg_St} {sz : Nat} {av : List Value} : FrameBlind (va_Pc av (sg_PX D cA Wf u sz)) := fun a U g mk q => by
  obtain ⟨h1, h2, h3, h4, h5⟩ := q
  exact ⟨h1, h2, h3, h4.call, h5⟩
theorem sg_pre {D : va_G} {cA : Nat → ClassId} {Wf : sg_St → va_W} {u : sg_St} {A : Nat → Prop} {s : State} {H : Heap} {b : Nat} {As : List Value} {C : String} {T : u_T} {n ci q0 : Nat} {fs : List Value} (hK : sg_KK D cA s) (hP : va_P D vwCl (Wf u) H) (hD : va_D A (Wf u)) (hc : vwCl[ci]? = some (C, T, n)) (he : (Wf u)[q0]? = some (b, .inr (ci, fs))) : PreV s H C b (va_Pc (.ref b :: As) (sg_PX D cA Wf u H.size)) As :=
  ⟨sg_blind, va_recv hK.1 hP hc he, fun U hU hW => ⟨rfl, by rw [hU], by rw [hU]; exact hP, hK.warm hW, hD.weaken (fun _ _ _ _ => trivial)⟩⟩
theorem sg_pre0 {D : va_G} {cA : Nat → ClassId} {u : sg_St} {s : State} {H : Heap} {As : List Value} (hK : sg_KK D cA s) : PreS s H (va_Pc As (sg_PX D cA sg_W0 u H.size)) As :=
  ⟨sg_blind, fun U hU hW => ⟨rfl, by rw [hU], fun k q h => by simp [sg_W0] at h, hK.warm hW, ⟨fun i j p q h => by simp [sg_W0] at h, fun k q h => by simp [sg_W0] at h⟩⟩⟩
theorem sg_A_in {A : Nat → Prop} {ws : va_W} {H0 H : Heap} {locs : List Loc} (hD : va_D A ws) (hS : va_S A H0 H locs) (hA : ∀ q, H0.size ≤ q → A q) : ∀ q, va_A ws H.size q → A q := by
  intro q h
  rcases h with ⟨k, e, h⟩ | h
  · exact hD.2 k (q, e) h
  · exact hA q (Nat.le_trans hS.1 h)
theorem sg_A_0 {A : Nat → Prop} {H0 H : Heap} {locs : List Loc} (hS : va_S A H0 H locs) (hA : ∀ q, H0.size ≤ q → A q) : ∀ q, va_A [] H.size q → A q := by
  intro q h
  rcases h with ⟨k, e, h⟩ | h
  · simp at h
  · exact hA q (Nat.le_trans hS.1 h)
theorem sg_P_0 {D : va_G} {ws : va_W} {H H1 : Heap} (hP : va_P D vwCl ws H) (hk : ∀ q : Nat, q < H.size → ¬ va_A [] H.size q → H1[q]? = H[q]?) : va_P D vwCl ws H1 :=
  hP.kept (fun k q hq => hk q.1 (hP k q hq).lt (fun h => by
    rcases h with ⟨k2, e, h⟩ | h
    · simp at h
    · exact absurd (hP k q hq).lt (Nat.not_lt.mpr h)))
section SGC
variable {p : Program} {l : Launch} {e : Env} {R : Room} {s : State} {m : MethodId} {args : Array Value} {below : List Frame} {meth : Method} {c : Code} {H : Heap} {locs : List Loc} {cells slots : Nat} {Q : State → Prop}
variable {pc : Nat} {ls : Array Slot} {rest st0 : List Value} {a : Array Value} {A : Nat → Prop} {H0 : Heap} {D : va_G} {Wf : sg_St → va_W} {u u0 : sg_St} {ws : va_W}
theorem sg_ci {r0 : Int32} (hr : va_Run p l e R s m args below meth c H locs cells slots 0 0 (F0 m pc ls st0) rest (va_Qi (fun x y => x = r0 ∧ y = u0) (sg_BX D Wf (va_A (Wf u) H.size)) (va_A (Wf u) H.size) a) (va_A (Wf u) H.size)) (hD : va_D A (Wf u)) (hS : va_S A H0 H locs) (hA : ∀ q, H0.size ≤ q → A q)
    (kk : ∀ (H1 : Heap) (locs1 : List Loc), va_P D vwCl (Wf u0) H1 → va_D A (Wf u0) → va_S A H0 H1 locs1 → W p l e R s m args below meth c H1 locs1 cells slots Q (F0 m (pc + 3) ls (.int r0 :: rest))) : W p l e R s m args below meth c H locs cells slots Q (F0 m pc ls st0) :=
  va_calli hr hS (fun q _ h => sg_A_in hD hS hA q h) (sg_A_in hD hS hA) (fun r v t H1 locs1 ht hvm hw hB hz hk hS1 => by
    obtain ⟨e1, e2⟩ := hw
    subst e1
    subst e2
    obtain ⟨hP1, hD1⟩ := hB
    rw [ht] at hP1
    exact kk H1 locs1 hP1 (hD1.weaken (fun _ q _ h => sg_A_in hD hS hA q.1 h)) hS1)
theorem sg_cv (hr : va_Run p l e R s m args below meth c H locs cells slots 0 0 (F0 m pc ls st0) rest (va_Qv (fun y => y = u0) (sg_BX D Wf (va_A (Wf u) H.size)) (va_A (Wf u) H.size) a) (va_A (Wf u) H.size)) (hD : va_D A (Wf u)) (hS : va_S A H0 H locs) (hA : ∀ q, H0.size ≤ q → A q)
    (kk : ∀ (H1 : Heap) (locs1 : List Loc), va_P D vwCl (Wf u0) H1 → va_D A (Wf u0) → va_S A H0 H1 locs1 → W p l e R s m args below meth c H1 locs1 cells slots Q (F0 m (pc + 3) ls rest)) : W p l e R s m args below meth c H locs cells slots Q (F0 m pc ls st0) :=
  va_callv hr hS (fun q _ h => sg_A_in hD hS hA q h) (sg_A_in hD hS hA) (fun v t H1 locs1 ht hvm hw hB hz hk hS1 => by
    subst hw
    obtain ⟨hP1, hD1⟩ := hB
    rw [ht] at hP1
    exact kk H1 locs1 hP1 (hD1.weaken (fun _ q _ h => sg_A_in hD hS hA q.1 h)) hS1)
theorem sg_ci0 {r0 : Int32} (hr : va_Run p l e R s m args below meth c H locs cells slots 0 0 (F0 m pc ls st0) rest (va_Qi (fun x y => x = r0 ∧ y = u0) (sg_BX D sg_W0 (va_A (sg_W0 u) H.size)) (va_A (sg_W0 u) H.size) a) (va_A (sg_W0 u) H.size)) (hP : va_P D vwCl ws H) (hS : va_S A H0 H locs) (hA : ∀ q, H0.size ≤ q → A q)
    (kk : ∀ (H1 : Heap) (locs1 : List Loc), va_P D vwCl ws H1 → va_S A H0 H1 locs1 → W p l e R s m args below meth c H1 locs1 cells slots Q (F0 m (pc + 3) ls (.int r0 :: rest))) : W p l e R s m args below meth c H locs cells slots Q (F0 m pc ls st0) :=
  va_calli hr hS (fun q _ h => sg_A_0 hS hA q h) (sg_A_0 hS hA) (fun r v t H1 locs1 ht hvm hw hB hz hk hS1 => by
    obtain ⟨e1, e2⟩ := hw
    subst e1
    subst e2
    exact kk H1 locs1 (sg_P_0 hP hk) hS1)
theorem sg_iret {cc : ByteArray} {v r : Int32} (hx : p.tables.exec = Jvm.exec) (hb : c.code = cc) (hr : meth.sig.returnType = some .int) (hP : va_P D vwCl (Wf u) H) (hD : va_D A (Wf u)) (hS : va_S A s.heap H locs) (hd : decode cc pc = .ok (.ireturn, 1)) (hv : v = r) (hu : u = u0) (hlocks : meth.locks = false) : W p l e R s m args below meth c H locs 0 0 (MQ below (va_Qi (fun x y => x = r ∧ y = u0) (sg_BX D Wf A) A) args s 0 0 A) (F0 m pc ls [.int v]) := by
  subst hv
  subst hu
  exact W.iret hx hb hr (fun t ht hW => ⟨⟨v, u, rfl, ⟨rfl, rfl⟩, by rw [ht]; exact hP, hD⟩, hS.F ht⟩) hS.2.2 hd hlocks
theorem sg_zret {cc : ByteArray} {v r : Int32} {ty : FieldType} (hx : p.tables.exec = Jvm.exec) (hb : c.code = cc) (hr : meth.sig.returnType = some ty) (hn : narrow ty (.int v) = .int v) (hP : va_P D vwCl (Wf u) H) (hD : va_D A (Wf u)) (hS : va_S A s.heap H locs) (hd : decode cc pc = .ok (.ireturn, 1)) (hv : v = r) (hu : u = u0) (hlocks : meth.locks = false) : W p l e R s m args below meth c H locs 0 0 (MQ below (va_Qi (fun x y => x = r ∧ y = u0) (sg_BX D Wf A) A) args s 0 0 A) (F0 m pc ls [.int v]) := by
  subst hv
  subst hu
  exact W.zret hx hb hr hn (fun t ht hW => ⟨⟨v, u, rfl, ⟨rfl, rfl⟩, by rw [ht]; exact hP, hD⟩, hS.F ht⟩) hS.2.2 hd hlocks
theorem sg_vret {cc : ByteArray} (hx : p.tables.exec = Jvm.exec) (hb : c.code = cc) (hr : meth.sig.returnType = none) (hP : va_P D vwCl (Wf u) H) (hD : va_D A (Wf u)) (hS : va_S A s.heap H locs) (hd : decode cc pc = .ok (.return_, 1)) (hu : u = u0) (hlocks : meth.locks = false) : W p l e R s m args below meth c H locs 0 0 (MQ below (va_Qv (fun y => y = u0) (sg_BX D Wf A) A) args s 0 0 A) (F0 m pc ls []) := by
  subst hu
  exact W.vret hx hb hr (fun t ht hW => ⟨⟨u, rfl, rfl, by rw [ht]; exact hP, hD⟩, hS.F ht⟩) hS.2.2 hd hlocks
end SGC
/-- contracts: an int (with the world behind it), nothing -/
def sg_CI (l : Launch) (D : va_G) (cA : Nat → ClassId) (Wf : sg_St → va_W) (y : MethodName) (ws : List Cond) (rm : Room) (av : List Value) (u : sg_St) (r : Int32) (u' : sg_St) : Prop := ∀ sz : Nat, Met l y ws rm (va_Pc av (sg_PX D cA Wf u sz)) (va_Qi (fun x y => x = r ∧ y = u') (sg_BX D Wf (va_A (Wf u) sz)) (va_A (Wf u) sz)) 0 0 (va_A (Wf u) sz)
def sg_CV (l : Launch) (D : va_G) (cA : Nat → ClassId) (Wf : sg_St → va_W) (y : MethodName) (ws : List Cond) (rm : Room) (av : List Value) (u : sg_St) (u' : sg_St) : Prop := ∀ sz : Nat, Met l y ws rm (va_Pc av (sg_PX D cA Wf u sz)) (va_Qv (fun y => y = u') (sg_BX D Wf (va_A (Wf u) sz)) (va_A (Wf u) sz)) 0 0 (va_A (Wf u) sz)
theorem sg_WX_10 (cA : Nat → ClassId) (ad : Nat → Nat) (u : sg_St) (v : Int32) : (sg_WX cA ad u).set 0 (ad 0, .inr (7, [.ref (ad 1), .ref (ad 2), .ref (ad 3), .ref (ad 4), .ref (ad 5), .int v])) = sg_WX cA ad (sg_set u 10 0 v) := by
  simp [sg_WX, sg_set, va_up, upd]
theorem sg_WX_0 (cA : Nat → ClassId) (ad : Nat → Nat) (u : sg_St) (v : Int32) : (sg_WX cA ad u).set 1 (ad 1, .inr (3, [.ref (ad 6), .ref (ad 7), .ref (ad 8), .ref (ad 9), .ref (ad 10), .ref (ad 11), .int v, .int (u 1 0), .int (u 2 0), .int (u 3 0)])) = sg_WX cA ad (sg_set u 0 0 v) := by
  simp [sg_WX, sg_set, va_up, upd]
theorem sg_WX_1 (cA : Nat → ClassId) (ad : Nat → Nat) (u : sg_St) (v : Int32) : (sg_WX cA ad u).set 1 (ad 1, .inr (3, [.ref (ad 6), .ref (ad 7), .ref (ad 8), .ref (ad 9), .ref (ad 10), .ref (ad 11), .int (u 0 0), .int v, .int (u 2 0), .int (u 3 0)])) = sg_WX cA ad (sg_set u 1 0 v) := by
  simp [sg_WX, sg_set, va_up, upd]
theorem sg_WX_2 (cA : Nat → ClassId) (ad : Nat → Nat) (u : sg_St) (v : Int32) : (sg_WX cA ad u).set 1 (ad 1, .inr (3, [.ref (ad 6), .ref (ad 7), .ref (ad 8), .ref (ad 9), .ref (ad 10), .ref (ad 11), .int (u 0 0), .int (u 1 0), .int v, .int (u 3 0)])) = sg_WX cA ad (sg_set u 2 0 v) := by
  simp [sg_WX, sg_set, va_up, upd]
theorem sg_WX_3 (cA : Nat → ClassId) (ad : Nat → Nat) (u : sg_St) (v : Int32) : (sg_WX cA ad u).set 1 (ad 1, .inr (3, [.ref (ad 6), .ref (ad 7), .ref (ad 8), .ref (ad 9), .ref (ad 10), .ref (ad 11), .int (u 0 0), .int (u 1 0), .int (u 2 0), .int v])) = sg_WX cA ad (sg_set u 3 0 v) := by
  simp [sg_WX, sg_set, va_up, upd]
theorem sg_WX_4 (cA : Nat → ClassId) (ad : Nat → Nat) (u : sg_St) (v : Int32) : (sg_WX cA ad u).set 3 (ad 3, .inr (6, [.ref (ad 1), .ref (ad 2), .int v, .int (u 5 0), .int (u 6 0)])) = sg_WX cA ad (sg_set u 4 0 v) := by
  simp [sg_WX, sg_set, va_up, upd]
theorem sg_WX_5 (cA : Nat → ClassId) (ad : Nat → Nat) (u : sg_St) (v : Int32) : (sg_WX cA ad u).set 3 (ad 3, .inr (6, [.ref (ad 1), .ref (ad 2), .int (u 4 0), .int v, .int (u 6 0)])) = sg_WX cA ad (sg_set u 5 0 v) := by
  simp [sg_WX, sg_set, va_up, upd]
theorem sg_WX_6 (cA : Nat → ClassId) (ad : Nat → Nat) (u : sg_St) (v : Int32) : (sg_WX cA ad u).set 3 (ad 3, .inr (6, [.ref (ad 1), .ref (ad 2), .int (u 4 0), .int (u 5 0), .int v])) = sg_WX cA ad (sg_set u 6 0 v) := by
  simp [sg_WX, sg_set, va_up, upd]
theorem sg_WX_7 (cA : Nat → ClassId) (ad : Nat → Nat) (u : sg_St) (v : Int32) : (sg_WX cA ad u).set 5 (ad 5, .inr (4, [.ref (ad 1), .ref (ad 3), .int v, .int (u 8 0), .int (u 9 0)])) = sg_WX cA ad (sg_set u 7 0 v) := by
  simp [sg_WX, sg_set, va_up, upd]
theorem sg_WX_8 (cA : Nat → ClassId) (ad : Nat → Nat) (u : sg_St) (v : Int32) : (sg_WX cA ad u).set 5 (ad 5, .inr (4, [.ref (ad 1), .ref (ad 3), .int (u 7 0), .int v, .int (u 9 0)])) = sg_WX cA ad (sg_set u 8 0 v) := by
  simp [sg_WX, sg_set, va_up, upd]
theorem sg_WX_9 (cA : Nat → ClassId) (ad : Nat → Nat) (u : sg_St) (v : Int32) : (sg_WX cA ad u).set 5 (ad 5, .inr (4, [.ref (ad 1), .ref (ad 3), .int (u 7 0), .int (u 8 0), .int v])) = sg_WX cA ad (sg_set u 9 0 v) := by
  simp [sg_WX, sg_set, va_up, upd]
theorem sg_WX_11 (cA : Nat → ClassId) (ad : Nat → Nat) (u : sg_St) (i : Nat) (v : Int32) : (sg_WX cA ad u).set 6 (ad 6, .inl (cA 0, 10, .inl (upd (u 11) i v))) = sg_WX cA ad (sg_set u 11 i v) := by
  simp [sg_WX, sg_set, va_up]
theorem sg_WX_12 (cA : Nat → ClassId) (ad : Nat → Nat) (u : sg_St) (i : Nat) (v : Int32) : (sg_WX cA ad u).set 7 (ad 7, .inl (cA 0, 10, .inl (upd (u 12) i v))) = sg_WX cA ad (sg_set u 12 i v) := by
  simp [sg_WX, sg_set, va_up]
theorem sg_WX_13 (cA : Nat → ClassId) (ad : Nat → Nat) (u : sg_St) (i : Nat) (v : Int32) : (sg_WX cA ad u).set 8 (ad 8, .inl (cA 0, 10, .inl (upd (u 13) i v))) = sg_WX cA ad (sg_set u 13 i v) := by
  simp [sg_WX, sg_set, va_up]
theorem sg_WX_14 (cA : Nat → ClassId) (ad : Nat → Nat) (u : sg_St) (i : Nat) (v : Int32) : (sg_WX cA ad u).set 9 (ad 9, .inl (cA 0, 12, .inl (upd (u 14) i v))) = sg_WX cA ad (sg_set u 14 i v) := by
  simp [sg_WX, sg_set, va_up]
theorem sg_WX_15 (cA : Nat → ClassId) (ad : Nat → Nat) (u : sg_St) (i : Nat) (v : Int32) : (sg_WX cA ad u).set 10 (ad 10, .inl (cA 0, 12, .inl (upd (u 15) i v))) = sg_WX cA ad (sg_set u 15 i v) := by
  simp [sg_WX, sg_set, va_up]
theorem sg_WX_16 (cA : Nat → ClassId) (ad : Nat → Nat) (u : sg_St) (i : Nat) (v : Int32) : (sg_WX cA ad u).set 11 (ad 11, .inl (cA 0, 12, .inl (upd (u 16) i v))) = sg_WX cA ad (sg_set u 16 i v) := by
  simp [sg_WX, sg_set, va_up]
theorem sg_WX_17 (cA : Nat → ClassId) (ad : Nat → Nat) (u : sg_St) (i : Nat) (v : Int32) : (sg_WX cA ad u).set 12 (ad 12, .inl (cA 0, 12, .inl (upd (u 17) i v))) = sg_WX cA ad (sg_set u 17 i v) := by
  simp [sg_WX, sg_set, va_up]
theorem sg_WX_18 (cA : Nat → ClassId) (ad : Nat → Nat) (u : sg_St) (i : Nat) (v : Int32) : (sg_WX cA ad u).set 13 (ad 13, .inl (cA 0, 10, .inl (upd (u 18) i v))) = sg_WX cA ad (sg_set u 18 i v) := by
  simp [sg_WX, sg_set, va_up]
theorem sg_WX_19 (cA : Nat → ClassId) (ad : Nat → Nat) (u : sg_St) (i : Nat) (v : Int32) : (sg_WX cA ad u).set 14 (ad 14, .inl (cA 0, 12, .inl (upd (u 19) i v))) = sg_WX cA ad (sg_set u 19 i v) := by
  simp [sg_WX, sg_set, va_up]
theorem sg_WX_20 (cA : Nat → ClassId) (ad : Nat → Nat) (u : sg_St) (i : Nat) (v : Int32) : (sg_WX cA ad u).set 15 (ad 15, .inl (cA 0, 12, .inl (upd (u 20) i v))) = sg_WX cA ad (sg_set u 20 i v) := by
  simp [sg_WX, sg_set, va_up]
theorem sg_WX_21 (cA : Nat → ClassId) (ad : Nat → Nat) (u : sg_St) (i : Nat) (v : Int32) : (sg_WX cA ad u).set 16 (ad 16, .inl (cA 0, 12, .inl (upd (u 21) i v))) = sg_WX cA ad (sg_set u 21 i v) := by
  simp [sg_WX, sg_set, va_up]
theorem sg_WM_0 (cA : Nat → ClassId) (ad : Nat → Nat) (u : sg_St) (v : Int32) : (sg_WM cA ad u).set 0 (ad 0, .inr (8, [.int v, .int (u 1 0), .int (u 2 0), .int (u 3 0), .ref (ad 1), .ref (ad 2), .ref (ad 3), .ref (ad 4), .ref (ad 5), .ref (ad 6), .ref (ad 7), .ref (ad 8), .ref (ad 9), .ref (ad 10), .ref (ad 11), .ref (ad 12), .ref (ad 13), .ref (ad 14), .ref (ad 15), .ref (ad 16), .ref (ad 17), .int (u 4 0), .ref (ad 18), .ref (ad 19), .int (u 5 0), .int (u 6 0), .int (u 7 0)])) = sg_WM cA ad (sg_set u 0 0 v) := by
  simp [sg_WM, sg_set, va_up, upd]
theorem sg_WM_1 (cA : Nat → ClassId) (ad : Nat → Nat) (u : sg_St) (v : Int32) : (sg_WM cA ad u).set 0 (ad 0, .inr (8, [.int (u 0 0), .int v, .int (u 2 0), .int (u 3 0), .ref (ad 1), .ref (ad 2), .ref (ad 3), .ref (ad 4), .ref (ad 5), .ref (ad 6), .ref (ad 7), .ref (ad 8), .ref (ad 9), .ref (ad 10), .ref (ad 11), .ref (ad 12), .ref (ad 13), .ref (ad 14), .ref (ad 15), .ref (ad 16), .ref (ad 17), .int (u 4 0), .ref (ad 18), .ref (ad 19), .int (u 5 0), .int (u 6 0), .int (u 7 0)])) = sg_WM cA ad (sg_set u 1 0 v) := by
  simp [sg_WM, sg_set, va_up, upd]
theorem sg_WM_2 (cA : Nat → ClassId) (ad : Nat → Nat) (u : sg_St) (v : Int32) : (sg_WM cA ad u).set 0 (ad 0, .inr (8, [.int (u 0 0), .int (u 1 0), .int v, .int (u 3 0), .ref (ad 1), .ref (ad 2), .ref (ad 3), .ref (ad 4), .ref (ad 5), .ref (ad 6), .ref (ad 7), .ref (ad 8), .ref (ad 9), .ref (ad 10), .ref (ad 11), .ref (ad 12), .ref (ad 13), .ref (ad 14), .ref (ad 15), .ref (ad 16), .ref (ad 17), .int (u 4 0), .ref (ad 18), .ref (ad 19), .int (u 5 0), .int (u 6 0), .int (u 7 0)])) = sg_WM cA ad (sg_set u 2 0 v) := by
  simp [sg_WM, sg_set, va_up, upd]
theorem sg_WM_3 (cA : Nat → ClassId) (ad : Nat → Nat) (u : sg_St) (v : Int32) : (sg_WM cA ad u).set 0 (ad 0, .inr (8, [.int (u 0 0), .int (u 1 0), .int (u 2 0), .int v, .ref (ad 1), .ref (ad 2), .ref (ad 3), .ref (ad 4), .ref (ad 5), .ref (ad 6), .ref (ad 7), .ref (ad 8), .ref (ad 9), .ref (ad 10), .ref (ad 11), .ref (ad 12), .ref (ad 13), .ref (ad 14), .ref (ad 15), .ref (ad 16), .ref (ad 17), .int (u 4 0), .ref (ad 18), .ref (ad 19), .int (u 5 0), .int (u 6 0), .int (u 7 0)])) = sg_WM cA ad (sg_set u 3 0 v) := by
  simp [sg_WM, sg_set, va_up, upd]
theorem sg_WM_4 (cA : Nat → ClassId) (ad : Nat → Nat) (u : sg_St) (v : Int32) : (sg_WM cA ad u).set 0 (ad 0, .inr (8, [.int (u 0 0), .int (u 1 0), .int (u 2 0), .int (u 3 0), .ref (ad 1), .ref (ad 2), .ref (ad 3), .ref (ad 4), .ref (ad 5), .ref (ad 6), .ref (ad 7), .ref (ad 8), .ref (ad 9), .ref (ad 10), .ref (ad 11), .ref (ad 12), .ref (ad 13), .ref (ad 14), .ref (ad 15), .ref (ad 16), .ref (ad 17), .int v, .ref (ad 18), .ref (ad 19), .int (u 5 0), .int (u 6 0), .int (u 7 0)])) = sg_WM cA ad (sg_set u 4 0 v) := by
  simp [sg_WM, sg_set, va_up, upd]
theorem sg_WM_5 (cA : Nat → ClassId) (ad : Nat → Nat) (u : sg_St) (v : Int32) : (sg_WM cA ad u).set 0 (ad 0, .inr (8, [.int (u 0 0), .int (u 1 0), .int (u 2 0), .int (u 3 0), .ref (ad 1), .ref (ad 2), .ref (ad 3), .ref (ad 4), .ref (ad 5), .ref (ad 6), .ref (ad 7), .ref (ad 8), .ref (ad 9), .ref (ad 10), .ref (ad 11), .ref (ad 12), .ref (ad 13), .ref (ad 14), .ref (ad 15), .ref (ad 16), .ref (ad 17), .int (u 4 0), .ref (ad 18), .ref (ad 19), .int v, .int (u 6 0), .int (u 7 0)])) = sg_WM cA ad (sg_set u 5 0 v) := by
  simp [sg_WM, sg_set, va_up, upd]
theorem sg_WM_6 (cA : Nat → ClassId) (ad : Nat → Nat) (u : sg_St) (v : Int32) : (sg_WM cA ad u).set 0 (ad 0, .inr (8, [.int (u 0 0), .int (u 1 0), .int (u 2 0), .int (u 3 0), .ref (ad 1), .ref (ad 2), .ref (ad 3), .ref (ad 4), .ref (ad 5), .ref (ad 6), .ref (ad 7), .ref (ad 8), .ref (ad 9), .ref (ad 10), .ref (ad 11), .ref (ad 12), .ref (ad 13), .ref (ad 14), .ref (ad 15), .ref (ad 16), .ref (ad 17), .int (u 4 0), .ref (ad 18), .ref (ad 19), .int (u 5 0), .int v, .int (u 7 0)])) = sg_WM cA ad (sg_set u 6 0 v) := by
  simp [sg_WM, sg_set, va_up, upd]
theorem sg_WM_7 (cA : Nat → ClassId) (ad : Nat → Nat) (u : sg_St) (v : Int32) : (sg_WM cA ad u).set 0 (ad 0, .inr (8, [.int (u 0 0), .int (u 1 0), .int (u 2 0), .int (u 3 0), .ref (ad 1), .ref (ad 2), .ref (ad 3), .ref (ad 4), .ref (ad 5), .ref (ad 6), .ref (ad 7), .ref (ad 8), .ref (ad 9), .ref (ad 10), .ref (ad 11), .ref (ad 12), .ref (ad 13), .ref (ad 14), .ref (ad 15), .ref (ad 16), .ref (ad 17), .int (u 4 0), .ref (ad 18), .ref (ad 19), .int (u 5 0), .int (u 6 0), .int v])) = sg_WM cA ad (sg_set u 7 0 v) := by
  simp [sg_WM, sg_set, va_up, upd]
theorem sg_WM_8 (cA : Nat → ClassId) (ad : Nat → Nat) (u : sg_St) (i : Nat) (v : Int32) : (sg_WM cA ad u).set 1 (ad 1, .inl (cA 1, 10, .inl (upd (u 8) i v))) = sg_WM cA ad (sg_set u 8 i v) := by
  simp [sg_WM, sg_set, va_up]
theorem sg_WM_9 (cA : Nat → ClassId) (ad : Nat → Nat) (u : sg_St) (i : Nat) (v : Int32) : (sg_WM cA ad u).set 2 (ad 2, .inl (cA 0, 10, .inl (upd (u 9) i v))) = sg_WM cA ad (sg_set u 9 i v) := by
  simp [sg_WM, sg_set, va_up]
theorem sg_WM_10 (cA : Nat → ClassId) (ad : Nat → Nat) (u : sg_St) (i : Nat) (v : Int32) : (sg_WM cA ad u).set 3 (ad 3, .inl (cA 0, 10, .inl (upd (u 10) i v))) = sg_WM cA ad (sg_set u 10 i v) := by
  simp [sg_WM, sg_set, va_up]
theorem sg_WM_11 (cA : Nat → ClassId) (ad : Nat → Nat) (u : sg_St) (i : Nat) (v : Int32) : (sg_WM cA ad u).set 4 (ad 4, .inl (cA 0, 10, .inl (upd (u 11) i v))) = sg_WM cA ad (sg_set u 11 i v) := by
  simp [sg_WM, sg_set, va_up]
theorem sg_WM_12 (cA : Nat → ClassId) (ad : Nat → Nat) (u : sg_St) (i : Nat) (v : Int32) : (sg_WM cA ad u).set 5 (ad 5, .inl (cA 0, 12, .inl (upd (u 12) i v))) = sg_WM cA ad (sg_set u 12 i v) := by
  simp [sg_WM, sg_set, va_up]
theorem sg_WM_13 (cA : Nat → ClassId) (ad : Nat → Nat) (u : sg_St) (i : Nat) (v : Int32) : (sg_WM cA ad u).set 6 (ad 6, .inl (cA 0, 12, .inl (upd (u 13) i v))) = sg_WM cA ad (sg_set u 13 i v) := by
  simp [sg_WM, sg_set, va_up]
theorem sg_WM_14 (cA : Nat → ClassId) (ad : Nat → Nat) (u : sg_St) (i : Nat) (v : Int32) : (sg_WM cA ad u).set 7 (ad 7, .inl (cA 0, 12, .inl (upd (u 14) i v))) = sg_WM cA ad (sg_set u 14 i v) := by
  simp [sg_WM, sg_set, va_up]
theorem sg_WM_15 (cA : Nat → ClassId) (ad : Nat → Nat) (u : sg_St) (i : Nat) (v : Int32) : (sg_WM cA ad u).set 8 (ad 8, .inl (cA 0, 12, .inl (upd (u 15) i v))) = sg_WM cA ad (sg_set u 15 i v) := by
  simp [sg_WM, sg_set, va_up]
theorem sg_WM_16 (cA : Nat → ClassId) (ad : Nat → Nat) (u : sg_St) (i : Nat) (v : Int32) : (sg_WM cA ad u).set 9 (ad 9, .inl (cA 0, 12, .inl (upd (u 16) i v))) = sg_WM cA ad (sg_set u 16 i v) := by
  simp [sg_WM, sg_set, va_up]
theorem sg_WM_17 (cA : Nat → ClassId) (ad : Nat → Nat) (u : sg_St) (i : Nat) (v : Int32) : (sg_WM cA ad u).set 10 (ad 10, .inl (cA 0, 12, .inl (upd (u 17) i v))) = sg_WM cA ad (sg_set u 17 i v) := by
  simp [sg_WM, sg_set, va_up]
theorem sg_WM_18 (cA : Nat → ClassId) (ad : Nat → Nat) (u : sg_St) (i : Nat) (v : Int32) : (sg_WM cA ad u).set 11 (ad 11, .inl (cA 1, 12, .inl (upd (u 18) i v))) = sg_WM cA ad (sg_set u 18 i v) := by
  simp [sg_WM, sg_set, va_up]
theorem sg_WM_19 (cA : Nat → ClassId) (ad : Nat → Nat) (u : sg_St) (i : Nat) (v : Int32) : (sg_WM cA ad u).set 12 (ad 12, .inl (cA 1, 12, .inl (upd (u 19) i v))) = sg_WM cA ad (sg_set u 19 i v) := by
  simp [sg_WM, sg_set, va_up]
theorem sg_WM_20 (cA : Nat → ClassId) (ad : Nat → Nat) (u : sg_St) (i : Nat) (v : Int32) : (sg_WM cA ad u).set 13 (ad 13, .inl (cA 1, 12, .inl (upd (u 20) i v))) = sg_WM cA ad (sg_set u 20 i v) := by
  simp [sg_WM, sg_set, va_up]
theorem sg_WM_21 (cA : Nat → ClassId) (ad : Nat → Nat) (u : sg_St) (i : Nat) (v : Int32) : (sg_WM cA ad u).set 14 (ad 14, .inl (cA 1, 12, .inl (upd (u 21) i v))) = sg_WM cA ad (sg_set u 21 i v) := by
  simp [sg_WM, sg_set, va_up]
theorem sg_WM_22 (cA : Nat → ClassId) (ad : Nat → Nat) (u : sg_St) (i : Nat) (v : Int32) : (sg_WM cA ad u).set 15 (ad 15, .inl (cA 0, 10, .inl (upd (u 22) i v))) = sg_WM cA ad (sg_set u 22 i v) := by
  simp [sg_WM, sg_set, va_up]
theorem sg_WM_23 (cA : Nat → ClassId) (ad : Nat → Nat) (u : sg_St) (i : Nat) (v : Int32) : (sg_WM cA ad u).set 16 (ad 16, .inl (cA 0, 12, .inl (upd (u 23) i v))) = sg_WM cA ad (sg_set u 23 i v) := by
  simp [sg_WM, sg_set, va_up]
theorem sg_WM_24 (cA : Nat → ClassId) (ad : Nat → Nat) (u : sg_St) (i : Nat) (v : Int32) : (sg_WM cA ad u).set 17 (ad 17, .inl (cA 0, 10, .inl (upd (u 24) i v))) = sg_WM cA ad (sg_set u 24 i v) := by
  simp [sg_WM, sg_set, va_up]
theorem sg_WM_25 (cA : Nat → ClassId) (ad : Nat → Nat) (u : sg_St) (i : Nat) (v : Int32) : (sg_WM cA ad u).set 18 (ad 18, .inl (cA 0, 12, .inl (upd (u 25) i v))) = sg_WM cA ad (sg_set u 25 i v) := by
  simp [sg_WM, sg_set, va_up]
theorem sg_WM_26 (cA : Nat → ClassId) (ad : Nat → Nat) (u : sg_St) (i : Nat) (v : Int32) : (sg_WM cA ad u).set 19 (ad 19, .inl (cA 0, 12, .inl (upd (u 26) i v))) = sg_WM cA ad (sg_set u 26 i v) := by
  simp [sg_WM, sg_set, va_up]
