/-! the law's world: its two rows of one place, the class's world, the reference's world -/
def sg_WW (cA : Nat → ClassId) (ax am : Nat → Nat) (qo qe : Nat) (u v : sg_St) (o : Nat → Int64) (od : Nat → UInt64) : va_W := (qo, .inl (cA 2, 1, .inr (.inl o))) :: (qe, .inl (cA 3, 1, .inr (.inr (.inr (.inl od))))) :: (sg_WX cA ax u ++ sg_WM cA am v)
/-- what class and reference answered, and that they still agree -/
def sg_Rel {α : Type} (I : sg_St → sg_St → Prop) (cs : List Nat) (R : (Nat ⊕ α) × sg_St) (r' : α) (v' : sg_St) : Prop := (∃ u', R = (.inr r', u') ∧ v' 0 0 = 0 ∧ I u' v') ∨ (∃ k u', R = (.inl k, u') ∧ k ∈ cs ∧ v' 0 0 = nI (sg_ix cs k + 1) ∧ I u' v')
theorem sg_agree {α β : Type} {I : sg_St → sg_St → Prop} {cs : List Nat} {R : (Nat ⊕ α) × sg_St} {r' : α} {v' u' : sg_St} {up : α → (Nat → β) → (Nat → β)} {o o' : Nat → β} {r : Int32} (hcs : cs.length < 100) (h1 : sg_Rel I cs R r' v') (h2 : sg_lp cs up R o r (u', o')) : v' 0 0 = r ∧ I u' v' ∧ (r = 0 → o' = up r' o ∧ R = (.inr r', u')) := by
  rcases h1 with ⟨u1, e1, e2, e3⟩ | ⟨k1, u1, e1, e2, e3, e4⟩ <;> rcases h2 with ⟨w, d1, d2, d3⟩ | ⟨k2, d1, d2, d3⟩
  · rw [e1] at d1
    injection d1 with d4 d5
    injection d4 with d4
    subst d4
    replace d5 : u1 = u' := d5
    subst d5
    exact ⟨by rw [e2, d2], e3, fun _ => ⟨d3, e1⟩⟩
  · rw [e1] at d1
    injection d1 with d4 d5
    cases d4
  · rw [e1] at d1
    injection d1 with d4 d5
    cases d4
  · rw [e1] at d1
    injection d1 with d4 d5
    injection d4 with d4
    subst d4
    replace d5 : u1 = u' := d5
    subst d5
    refine ⟨by rw [e3, d2], e4, fun h => ?_⟩
    rw [d2] at h
    have hb : sg_ix cs k1 ≤ cs.length := List.findIdx_le_length
    exact absurd h (nI_ne0 (by omega) (by omega))
section SGW
variable {p : Program} {l : Launch} {e : Env} {R : Room} {s : State} {m : MethodId} {args : Array Value} {below : List Frame} {meth : Method} {c : Code} {H : Heap} {locs : List Loc} {cells slots mc ms : Nat} {Q : State → Prop}
variable {pc : Nat} {ls : Array Slot} {rest st0 : List Value} {a : Array Value} {A : Nat → Prop} {H0 : Heap} {D : va_G} {cA : Nat → ClassId} {ax am : Nat → Nat} {qo qe : Nat} {u v : sg_St} {o : Nat → Int64} {od : Nat → UInt64}
theorem sg_preL {w0 : va_W} {As : List Value} (hK : sg_KK D cA s) (hP : va_P D vwCl w0 H) (hD : va_D A w0) (hT : sg_TT A s) (hN : ∀ q ∈ sg_ncs, va_Nc q.1 q.2 s) (hS : va_S A s.heap H locs) (hA : ∀ q, s.heap.size ≤ q → A q) : PreS s H (va_Pc As (sg_PL D cA w0 H.size)) As :=
  ⟨sg_blindL, fun U hU hW => ⟨rfl, ⟨by rw [hU], by rw [hU]; exact hP, hK.warm hW, hD.weaken (fun _ _ _ _ => trivial)⟩, hT.at hW hU hS (sg_A_in hD hS hA), fun q hq => va_Nc.moved hW.alike (hN q hq)⟩⟩
theorem sg_hw {cs : List Nat} {up : Int32 → (Nat → Int64) → (Nat → Int64)} {R1 : (Nat ⊕ Int32) × sg_St} (hr : va_Run p l e R s m args below meth c H locs cells slots mc ms (F0 m pc ls st0) rest (sg_QL D cA ax qo (va_A (sg_WL cA ax qo u o) H.size) cs up R1 o a) (va_A (sg_WL cA ax qo u o) H.size)) (hP : va_P D vwCl (sg_WW cA ax am qo qe u v o od) H) (hD : va_D A (sg_WW cA ax am qo qe u v o od)) (hS : va_S A H0 H locs) (hA : ∀ q, H0.size ≤ q → A q)
    (kk : ∀ (r : Int32) (u' : sg_St) (o' : Nat → Int64) (H1 : Heap) (locs1 : List Loc), sg_lp cs up R1 o r (u', o') → va_P D vwCl (sg_WW cA ax am qo qe u' v o' od) H1 → va_D A (sg_WW cA ax am qo qe u' v o' od) → va_S A H0 H1 locs1 → W p l e R s m args below meth c H1 locs1 (cells + mc) (slots + ms) Q (F0 m (pc + 3) ls (.int r :: rest))) : W p l e R s m args below meth c H locs cells slots Q (F0 m pc ls st0) := by
  have hF := va_free (wc := sg_WL cA ax qo u o) hD hS hA [0, 2, 3, 4, 5, 6, 7, 8, 9, 10, 11, 12, 13, 14, 15, 16, 17, 18] rfl
  refine va_calli hr hS (fun q _ h => hF q h) hF (fun r z t H1 locs1 ht hvm hw hB hz hk hS1 => ?_)
  obtain ⟨hP1, hD1⟩ := hB
  rw [ht] at hP1
  obtain ⟨hP2, hD2⟩ := va_join (wr := (qe, .inl (cA 3, 1, .inr (.inr (.inr (.inl od))))) :: sg_WM cA am v) hP hD [0, 2, 3, 4, 5, 6, 7, 8, 9, 10, 11, 12, 13, 14, 15, 16, 17, 18] [1, 19, 20, 21, 22, 23, 24, 25, 26, 27, 28, 29, 30, 31, 32, 33, 34, 35, 36, 37, 38] rfl rfl (by decide) (by decide) hk hF hP1 hD1
  exact kk r z.1 z.2 H1 locs1 hw (hP2.sub [21, 0, 22, 23, 24, 25, 26, 27, 28, 29, 30, 31, 32, 33, 34, 35, 36, 37, 38, 1, 2, 3, 4, 5, 6, 7, 8, 9, 10, 11, 12, 13, 14, 15, 16, 17, 18, 19, 20] rfl) (hD2.sub [21, 0, 22, 23, 24, 25, 26, 27, 28, 29, 30, 31, 32, 33, 34, 35, 36, 37, 38, 1, 2, 3, 4, 5, 6, 7, 8, 9, 10, 11, 12, 13, 14, 15, 16, 17, 18, 19, 20] (by decide) rfl) hS1
theorem sg_he {α : Type} {cs : List Nat} {up : α → (Nat → UInt64) → (Nat → UInt64)} {R1 : (Nat ⊕ α) × sg_St} (hr : va_Run p l e R s m args below meth c H locs cells slots mc ms (F0 m pc ls st0) rest (sg_QE D cA ax qe (va_A (sg_WE cA ax qe u od) H.size) cs up R1 od a) (va_A (sg_WE cA ax qe u od) H.size)) (hP : va_P D vwCl (sg_WW cA ax am qo qe u v o od) H) (hD : va_D A (sg_WW cA ax am qo qe u v o od)) (hS : va_S A H0 H locs) (hA : ∀ q, H0.size ≤ q → A q)
    (kk : ∀ (r : Int32) (u' : sg_St) (od' : Nat → UInt64) (H1 : Heap) (locs1 : List Loc), sg_lp cs up R1 od r (u', od') → va_P D vwCl (sg_WW cA ax am qo qe u' v o od') H1 → va_D A (sg_WW cA ax am qo qe u' v o od') → va_S A H0 H1 locs1 → W p l e R s m args below meth c H1 locs1 (cells + mc) (slots + ms) Q (F0 m (pc + 3) ls (.int r :: rest))) : W p l e R s m args below meth c H locs cells slots Q (F0 m pc ls st0) := by
  have hF := va_free (wc := sg_WE cA ax qe u od) hD hS hA [1, 2, 3, 4, 5, 6, 7, 8, 9, 10, 11, 12, 13, 14, 15, 16, 17, 18] rfl
  refine va_calli hr hS (fun q _ h => hF q h) hF (fun r z t H1 locs1 ht hvm hw hB hz hk hS1 => ?_)
  obtain ⟨hP1, hD1⟩ := hB
  rw [ht] at hP1
  obtain ⟨hP2, hD2⟩ := va_join (wr := (qo, .inl (cA 2, 1, .inr (.inl o))) :: sg_WM cA am v) hP hD [1, 2, 3, 4, 5, 6, 7, 8, 9, 10, 11, 12, 13, 14, 15, 16, 17, 18] [0, 19, 20, 21, 22, 23, 24, 25, 26, 27, 28, 29, 30, 31, 32, 33, 34, 35, 36, 37, 38] rfl rfl (by decide) (by decide) hk hF hP1 hD1
  exact kk r z.1 z.2 H1 locs1 hw (hP2.sub [0, 21, 22, 23, 24, 25, 26, 27, 28, 29, 30, 31, 32, 33, 34, 35, 36, 37, 38, 1, 2, 3, 4, 5, 6, 7, 8, 9, 10, 11, 12, 13, 14, 15, 16, 17, 18, 19, 20] rfl) (hD2.sub [0, 21, 22, 23, 24, 25, 26, 27, 28, 29, 30, 31, 32, 33, 34, 35, 36, 37, 38, 1, 2, 3, 4, 5, 6, 7, 8, 9, 10, 11, 12, 13, 14, 15, 16, 17, 18, 19, 20] (by decide) rfl) hS1
theorem sg_mi {r0 : Int32} {v0 : sg_St} (hr : va_Run p l e R s m args below meth c H locs cells slots 0 0 (F0 m pc ls st0) rest (va_Qi (fun x y => x = r0 ∧ y = v0) (sg_BX D (sg_WM cA am) (va_A (sg_WM cA am v) H.size)) (va_A (sg_WM cA am v) H.size) a) (va_A (sg_WM cA am v) H.size)) (hP : va_P D vwCl (sg_WW cA ax am qo qe u v o od) H) (hD : va_D A (sg_WW cA ax am qo qe u v o od)) (hS : va_S A H0 H locs) (hA : ∀ q, H0.size ≤ q → A q)
    (kk : ∀ (H1 : Heap) (locs1 : List Loc), va_P D vwCl (sg_WW cA ax am qo qe u v0 o od) H1 → va_D A (sg_WW cA ax am qo qe u v0 o od) → va_S A H0 H1 locs1 → W p l e R s m args below meth c H1 locs1 cells slots Q (F0 m (pc + 3) ls (.int r0 :: rest))) : W p l e R s m args below meth c H locs cells slots Q (F0 m pc ls st0) := by
  have hF := va_free (wc := sg_WM cA am v) hD hS hA [19, 20, 21, 22, 23, 24, 25, 26, 27, 28, 29, 30, 31, 32, 33, 34, 35, 36, 37, 38] rfl
  refine va_calli hr hS (fun q _ h => hF q h) hF (fun r z t H1 locs1 ht hvm hw hB hz hk hS1 => ?_)
  obtain ⟨e1, e2⟩ := hw
  subst e1
  subst e2
  obtain ⟨hP1, hD1⟩ := hB
  rw [ht] at hP1
  obtain ⟨hP2, hD2⟩ := va_join (wr := (qo, .inl (cA 2, 1, .inr (.inl o))) :: (qe, .inl (cA 3, 1, .inr (.inr (.inr (.inl od))))) :: sg_WX cA ax u) hP hD [19, 20, 21, 22, 23, 24, 25, 26, 27, 28, 29, 30, 31, 32, 33, 34, 35, 36, 37, 38] [0, 1, 2, 3, 4, 5, 6, 7, 8, 9, 10, 11, 12, 13, 14, 15, 16, 17, 18] rfl rfl (by decide) (by decide) hk hF hP1 hD1
  exact kk H1 locs1 hP2 hD2 hS1
theorem sg_mf {r0 : UInt32} {v0 : sg_St} (hr : va_Run p l e R s m args below meth c H locs cells slots 0 0 (F0 m pc ls st0) rest (va_Qf (fun x y => x = r0 ∧ y = v0) (sg_BX D (sg_WM cA am) (va_A (sg_WM cA am v) H.size)) (va_A (sg_WM cA am v) H.size) a) (va_A (sg_WM cA am v) H.size)) (hP : va_P D vwCl (sg_WW cA ax am qo qe u v o od) H) (hD : va_D A (sg_WW cA ax am qo qe u v o od)) (hS : va_S A H0 H locs) (hA : ∀ q, H0.size ≤ q → A q)
    (kk : ∀ (H1 : Heap) (locs1 : List Loc), va_P D vwCl (sg_WW cA ax am qo qe u v0 o od) H1 → va_D A (sg_WW cA ax am qo qe u v0 o od) → va_S A H0 H1 locs1 → W p l e R s m args below meth c H1 locs1 cells slots Q (F0 m (pc + 3) ls (.float r0 :: rest))) : W p l e R s m args below meth c H locs cells slots Q (F0 m pc ls st0) := by
  have hF := va_free (wc := sg_WM cA am v) hD hS hA [19, 20, 21, 22, 23, 24, 25, 26, 27, 28, 29, 30, 31, 32, 33, 34, 35, 36, 37, 38] rfl
  refine va_callf hr hS (fun q _ h => hF q h) hF (fun r z t H1 locs1 ht hvm hw hB hz hk hS1 => ?_)
  obtain ⟨e1, e2⟩ := hw
  subst e1
  subst e2
  obtain ⟨hP1, hD1⟩ := hB
  rw [ht] at hP1
  obtain ⟨hP2, hD2⟩ := va_join (wr := (qo, .inl (cA 2, 1, .inr (.inl o))) :: (qe, .inl (cA 3, 1, .inr (.inr (.inr (.inl od))))) :: sg_WX cA ax u) hP hD [19, 20, 21, 22, 23, 24, 25, 26, 27, 28, 29, 30, 31, 32, 33, 34, 35, 36, 37, 38] [0, 1, 2, 3, 4, 5, 6, 7, 8, 9, 10, 11, 12, 13, 14, 15, 16, 17, 18] rfl rfl (by decide) (by decide) hk hF hP1 hD1
  exact kk H1 locs1 hP2 hD2 hS1
theorem sg_md {r0 : UInt64} {v0 : sg_St} (hr : va_Run p l e R s m args below meth c H locs cells slots 0 0 (F0 m pc ls st0) rest (va_Qd (fun x y => x = r0 ∧ y = v0) (sg_BX D (sg_WM cA am) (va_A (sg_WM cA am v) H.size)) (va_A (sg_WM cA am v) H.size) a) (va_A (sg_WM cA am v) H.size)) (hP : va_P D vwCl (sg_WW cA ax am qo qe u v o od) H) (hD : va_D A (sg_WW cA ax am qo qe u v o od)) (hS : va_S A H0 H locs) (hA : ∀ q, H0.size ≤ q → A q)
    (kk : ∀ (H1 : Heap) (locs1 : List Loc), va_P D vwCl (sg_WW cA ax am qo qe u v0 o od) H1 → va_D A (sg_WW cA ax am qo qe u v0 o od) → va_S A H0 H1 locs1 → W p l e R s m args below meth c H1 locs1 cells slots Q (F0 m (pc + 3) ls (.double r0 :: rest))) : W p l e R s m args below meth c H locs cells slots Q (F0 m pc ls st0) := by
  have hF := va_free (wc := sg_WM cA am v) hD hS hA [19, 20, 21, 22, 23, 24, 25, 26, 27, 28, 29, 30, 31, 32, 33, 34, 35, 36, 37, 38] rfl
  refine va_calld hr hS (fun q _ h => hF q h) hF (fun r z t H1 locs1 ht hvm hw hB hz hk hS1 => ?_)
  obtain ⟨e1, e2⟩ := hw
  subst e1
  subst e2
  obtain ⟨hP1, hD1⟩ := hB
  rw [ht] at hP1
  obtain ⟨hP2, hD2⟩ := va_join (wr := (qo, .inl (cA 2, 1, .inr (.inl o))) :: (qe, .inl (cA 3, 1, .inr (.inr (.inr (.inl od))))) :: sg_WX cA ax u) hP hD [19, 20, 21, 22, 23, 24, 25, 26, 27, 28, 29, 30, 31, 32, 33, 34, 35, 36, 37, 38] [0, 1, 2, 3, 4, 5, 6, 7, 8, 9, 10, 11, 12, 13, 14, 15, 16, 17, 18] rfl rfl (by decide) (by decide) hk hF hP1 hD1
  exact kk H1 locs1 hP2 hD2 hS1
theorem sg_xx {r0 : Int32} {u0 : sg_St} (hr : va_Run p l e R s m args below meth c H locs cells slots 0 0 (F0 m pc ls st0) rest (va_Qi (fun x y => x = r0 ∧ y = u0) (sg_BX D (sg_WX cA ax) (va_A (sg_WX cA ax u) H.size)) (va_A (sg_WX cA ax u) H.size) a) (va_A (sg_WX cA ax u) H.size)) (hP : va_P D vwCl (sg_WW cA ax am qo qe u v o od) H) (hD : va_D A (sg_WW cA ax am qo qe u v o od)) (hS : va_S A H0 H locs) (hA : ∀ q, H0.size ≤ q → A q)
    (kk : ∀ (H1 : Heap) (locs1 : List Loc), va_P D vwCl (sg_WW cA ax am qo qe u0 v o od) H1 → va_D A (sg_WW cA ax am qo qe u0 v o od) → va_S A H0 H1 locs1 → W p l e R s m args below meth c H1 locs1 cells slots Q (F0 m (pc + 3) ls (.int r0 :: rest))) : W p l e R s m args below meth c H locs cells slots Q (F0 m pc ls st0) := by
  have hF := va_free (wc := sg_WX cA ax u) hD hS hA [2, 3, 4, 5, 6, 7, 8, 9, 10, 11, 12, 13, 14, 15, 16, 17, 18] rfl
  refine va_calli hr hS (fun q _ h => hF q h) hF (fun r z t H1 locs1 ht hvm hw hB hz hk hS1 => ?_)
  obtain ⟨e1, e2⟩ := hw
  subst e1
  subst e2
  obtain ⟨hP1, hD1⟩ := hB
  rw [ht] at hP1
  obtain ⟨hP2, hD2⟩ := va_join (wr := (qo, .inl (cA 2, 1, .inr (.inl o))) :: (qe, .inl (cA 3, 1, .inr (.inr (.inr (.inl od))))) :: sg_WM cA am v) hP hD [2, 3, 4, 5, 6, 7, 8, 9, 10, 11, 12, 13, 14, 15, 16, 17, 18] [0, 1, 19, 20, 21, 22, 23, 24, 25, 26, 27, 28, 29, 30, 31, 32, 33, 34, 35, 36, 37, 38] rfl rfl (by decide) (by decide) hk hF hP1 hD1
  exact kk H1 locs1 (hP2.sub [0, 1, 22, 23, 24, 25, 26, 27, 28, 29, 30, 31, 32, 33, 34, 35, 36, 37, 38, 2, 3, 4, 5, 6, 7, 8, 9, 10, 11, 12, 13, 14, 15, 16, 17, 18, 19, 20, 21] rfl) (hD2.sub [0, 1, 22, 23, 24, 25, 26, 27, 28, 29, 30, 31, 32, 33, 34, 35, 36, 37, 38, 2, 3, 4, 5, 6, 7, 8, 9, 10, 11, 12, 13, 14, 15, 16, 17, 18, 19, 20, 21] (by decide) rfl) hS1
end SGW
