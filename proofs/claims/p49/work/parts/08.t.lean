/-! what class and reference have in common -/
def qO (v : sg_St) (n k : Nat) : Prop := (∀ i, n ≤ i → i < 10 → v 8 i = 0 ∧ v 9 i = 0 ∧ v 10 i = 0 ∧ v 11 i = 0) ∧ ∀ l, k ≤ l → l < 12 → v 17 l = 0 ∧ v 19 l = 0 ∧ v 20 l = 0 ∧ v 21 l = 0
def qJ (n k : Nat) (a b ld cap pr rt pk mu ins : Nat → Nat) (S B C Lk Fl : Nat → Prop) (u v : sg_St) : Prop := qW u n k a b ld cap pr rt S B ∧ qM v n k a b ld cap pr rt S B ∧ (qS (u 4 0) C ∧ qS (u 5 0) Lk ∧ qS (u 6 0) Fl) ∧ qV v k C Lk Fl ∧ qPX u k pk mu ins ∧ qPM v k pk mu ins ∧ qPb k pk mu ins ∧ qgood n k a b ld cap rt S C ∧ (∀ l, Lk l → l < k) ∧ (∀ l, Fl l → l < k) ∧ u 10 0 = v 3 0 ∧ qO v n k
def qI (u v : sg_St) : Prop := ∃ (n k : Nat) (a b ld cap pr rt pk mu ins : Nat → Nat) (S B C Lk Fl : Nat → Prop), qJ n k a b ld cap pr rt pk mu ins S B C Lk Fl u v
def qFX (u v : sg_St) : Prop := ∀ j, j ≠ 7 → j ≠ 8 → j ≠ 9 → j ≠ 17 → j ≠ 18 → v j = u j
def qFM (u v : sg_St) : Prop := (∀ j, j ≠ 0 → j ≠ 4 → j ≠ 5 → j ≠ 6 → j ≠ 7 → j ≠ 19 → j ≠ 22 → j ≠ 23 → j ≠ 24 → j ≠ 25 → j ≠ 26 → v j = u j) ∧ ∀ l, l < 12 → v 19 l = u 19 l
section IJ
variable {N n k : Nat} {u v u' v' w : sg_St} {a b ld cap pr rt pk mu ins : Nat → Nat} {S B C Lk Fl : Nat → Prop} {l x : Nat}
theorem qFX.rf (u : sg_St) : qFX u u := fun _ _ _ _ _ _ => rfl
theorem qFM.rf (u : sg_St) : qFM u u := ⟨fun _ _ _ _ _ _ _ _ _ _ _ _ => rfl, fun _ _ => rfl⟩
theorem qFX.of (h : qfr u v) : qFX u v := fun j _ _ _ h4 h5 => h j h4 h5
theorem qFM.of (h : ∀ j, j ≠ 0 → j ≠ 4 → j ≠ 22 → j ≠ 23 → j ≠ 24 → v j = u j) : qFM u v := ⟨fun j h1 h2 _ _ _ _ h7 h8 h9 _ _ => h j h1 h2 h7 h8 h9, fun l _ => by rw [h 19 (by omega) (by omega) (by omega) (by omega) (by omega)]⟩
theorem qFM.of22 (h : ∀ j, j ≠ 22 → v j = u j) : qFM u v := qFM.of (fun j _ _ h3 _ _ => h j h3)
theorem qFM.of0 (u : sg_St) (x : Int32) : qFM u (sg_set u 0 0 x) := qFM.of (fun j h _ _ _ _ => sg_set_o h)
theorem qFM.tr (h : qFM u v) (h2 : qFM v w) : qFM u w := ⟨fun j a1 a2 a3 a4 a5 a6 a7 a8 a9 a10 a11 => (h2.1 j a1 a2 a3 a4 a5 a6 a7 a8 a9 a10 a11).trans (h.1 j a1 a2 a3 a4 a5 a6 a7 a8 a9 a10 a11), fun l hl => (h2.2 l hl).trans (h.2 l hl)⟩
theorem qJ.fr (h : qJ n k a b ld cap pr rt pk mu ins S B C Lk Fl u v) (f : qFX u u') (g : qFM v v') : qJ n k a b ld cap pr rt pk mu ins S B C Lk Fl u' v' := by
  obtain ⟨h1, h2, h3, h4, h5, h6, h7, h8, h9, h10, h11, h12⟩ := h
  have hk := h1.1.2.2.2.1
  have F : ∀ j, j < 7 ∨ (9 < j ∧ j < 17) ∨ 18 < j → u' j = u j := fun j hj => f j (by omega) (by omega) (by omega) (by omega) (by omega)
  have G : ∀ j, (0 < j ∧ j < 4) ∨ (7 < j ∧ j < 19) ∨ (19 < j ∧ j < 22) → v' j = v j := fun j hj => g.1 j (by omega) (by omega) (by omega) (by omega) (by omega) (by omega) (by omega) (by omega) (by omega) (by omega) (by omega)
  refine ⟨h1.fr (fun j hj => F j (by omega)), h2.fr (fun j hj => G j (by omega)), ?_, fun l hl => ?_, fun l hl => ?_, fun l hl => ?_, h7, h8, h9, h10, ?_, fun i h1 h2 => ?_, fun l h1 h2 => ?_⟩
  · rw [F 4 (by omega), F 5 (by omega), F 6 (by omega)]; exact h3
  · rw [g.2 l (by omega), G 20 (by omega), G 21 (by omega)]; exact h4 l hl
  · rw [F 19 (by omega), F 20 (by omega), F 21 (by omega)]; exact h5 l hl
  · rw [G 15 (by omega), G 16 (by omega), G 17 (by omega)]; exact h6 l hl
  · rw [F 10 (by omega), G 3 (by omega)]; exact h11
  · rw [G 8 (by omega), G 9 (by omega), G 10 (by omega), G 11 (by omega)]; exact h12.1 i h1 h2
  · rw [G 17 (by omega), g.2 l h2, G 20 (by omega), G 21 (by omega)]; exact h12.2 l h1 h2
theorem qJ.I (h : qJ n k a b ld cap pr rt pk mu ins S B C Lk Fl u v) : qI u v := ⟨n, k, a, b, ld, cap, pr, rt, pk, mu, ins, S, B, C, Lk, Fl, h⟩
theorem qI.fr (h : qI u v) (f : qFX u u') (g : qFM v v') : qI u' v' := by
  obtain ⟨n, k, a, b, ld, cap, pr, rt, pk, mu, ins, S, B, C, Lk, Fl, h⟩ := h
  exact (h.fr f g).I
theorem qJ.Z0 (h : qJ n k a b ld cap pr rt pk mu ins S B C Lk Fl u v) : qZ0 u n k a b ld cap pr rt S B Lk Fl C := ⟨h.1, h.2.2.1.1, h.2.2.1.2.1, h.2.2.1.2.2⟩
theorem qJ.V (h : qJ n k a b ld cap pr rt pk mu ins S B C Lk Fl u v) : ∀ l, l < k → v 19 l = qt (C l) := fun l hl => (h.2.2.2.1 l hl).1
theorem qJ.S0 (h : qJ n k a b ld cap pr rt pk mu ins S B C Lk Fl u v) : ∀ i, S i → ld i = 0 := fun i hi => ((h.1.2.1 i (h.1.2.2.2.2.1 i hi)).2.2.2.2.2.2 hi).2
theorem qI0 : qI sg_u0 sg_u0 := by
  refine ⟨0, 0, fun _ => 0, fun _ => 0, fun _ => 0, fun _ => 0, fun _ => 0, fun _ => 0, fun _ => 0, fun _ => 0, fun _ => 0, fun _ => False, fun _ => False, fun _ => False, fun _ => False, fun _ => False, ?_⟩
  refine ⟨⟨⟨rfl, rfl, by omega, by omega, fun l hl => absurd hl (Nat.not_lt_zero l)⟩, fun i hi => absurd hi (Nat.not_lt_zero i), fun l hl => absurd hl (Nat.not_lt_zero l), qS.z, fun i q => q.elim, qS.z, fun i q => q.elim⟩, ⟨rfl, rfl, by omega, by omega, fun l hl => absurd hl (Nat.not_lt_zero l), fun i hi => absurd hi (Nat.not_lt_zero i), fun l hl => absurd hl (Nat.not_lt_zero l)⟩, ⟨qS.z, qS.z, qS.z⟩, fun l hl => absurd hl (Nat.not_lt_zero l), fun l hl => absurd hl (Nat.not_lt_zero l), fun l hl => absurd hl (Nat.not_lt_zero l), fun l hl => absurd hl (Nat.not_lt_zero l), ⟨fun l q => q.elim, fun l q => q.elim, fun s t q => q.elim, fun s q => q.elim, fun l => ?_⟩, fun l q => q.elim, fun l q => q.elim, rfl, fun i _ _ => ⟨rfl, rfl, rfl, rfl⟩, fun l _ _ => ⟨rfl, rfl, rfl, rfl⟩⟩
  rw [qcu_0 (fun q => q)]
  exact Nat.le_refl 0
/-- is there such a line, such a node -/
theorem qx_needLine (hg : qX u n k a b) (p : Int32) : (∃ l, l < k ∧ p = nI l ∧ fX5_needLine N u p = some (.inr (), u)) ∨ ((∀ l, l < k → p ≠ nI l) ∧ fX5_needLine N u p = some (.inl 5, u)) := by
  unfold fX5_needLine
  rcases qx_isLine (N := N) hg p with ⟨l, h1, h2, h3⟩ | ⟨h1, h3⟩
  · exact Or.inl ⟨l, h1, h2, by rw [h3]; rfl⟩
  · exact Or.inr ⟨h1, by rw [h3]; rfl⟩
theorem qx_needNode (hg : qX u n k a b) (p : Int32) : (∃ x, x < n ∧ p = nI x ∧ fX5_needNode N u p = some (.inr (), u)) ∨ ((∀ x, x < n → p ≠ nI x) ∧ fX5_needNode N u p = some (.inl 5, u)) := by
  unfold fX5_needNode
  rcases qx_isNode (N := N) hg p with ⟨l, h1, h2, h3⟩ | ⟨h1, h3⟩
  · exact Or.inl ⟨l, h1, h2, by rw [h3]; rfl⟩
  · exact Or.inr ⟨h1, by rw [h3]; rfl⟩
theorem qm_in (k : Nat) (hk : k < 1000) (p : Int32) : (∃ l, l < k ∧ p = nI l ∧ fX6_in N p 0 (nI k - 1) = some 1) ∨ ((∀ l, l < k → p ≠ nI l) ∧ fX6_in N p 0 (nI k - 1) = some 0) := by
  unfold fX6_in fX6_in_j14
  by_cases hp : p < 0
  · refine Or.inr ⟨fun l hl e => ?_, if_pos hp⟩
    subst e
    exact nI_pos (show l < 2 ^ 31 by omega) hp
  · obtain ⟨j, hj, rfl⟩ := nI_of hp
    rw [if_neg hp]
    cases k with
    | zero =>
      refine Or.inr ⟨fun l hl => absurd hl (Nat.not_lt_zero l), if_pos ?_⟩
      rw [show nI 0 - 1 = -1 from by decide, Int32.lt_iff_toInt_lt, nI_toInt hj, show (-1 : Int32).toInt = -1 from by decide]
      omega
    | succ k =>
      rw [q_pred']
      by_cases hjk : j < k + 1
      · exact Or.inl ⟨j, hjk, rfl, by rw [q_ilt0 (by omega) (by omega)]⟩
      · refine Or.inr ⟨fun l hl e => ?_, by rw [q_ilt1 (by omega) (by omega)]⟩
        rw [q_eq (by omega) (by omega)] at e
        omega
theorem qm_isLine (hM : qM v n k a b ld cap pr rt S B) (p : Int32) : (∃ l, l < k ∧ p = nI l ∧ fX6_isLine N v p = some 1) ∨ ((∀ l, l < k → p ≠ nI l) ∧ fX6_isLine N v p = some 0) := by
  unfold fX6_isLine
  rw [hM.2.1]
  rcases qm_in (N := N) k (by have := hM.2.2.2.1; omega) p with ⟨l, h1, h2, h3⟩ | ⟨h1, h3⟩
  · exact Or.inl ⟨l, h1, h2, by rw [h3]; rfl⟩
  · exact Or.inr ⟨h1, by rw [h3]; rfl⟩
theorem qm_isNode (hM : qM v n k a b ld cap pr rt S B) (p : Int32) : (∃ l, l < n ∧ p = nI l ∧ fX6_isNode N v p = some 1) ∨ ((∀ l, l < n → p ≠ nI l) ∧ fX6_isNode N v p = some 0) := by
  unfold fX6_isNode
  rw [hM.1]
  rcases qm_in (N := N) n (by have := hM.2.2.1; omega) p with ⟨l, h1, h2, h3⟩ | ⟨h1, h3⟩
  · exact Or.inl ⟨l, h1, h2, by rw [h3]; rfl⟩
  · exact Or.inr ⟨h1, by rw [h3]; rfl⟩
theorem qm_there1 (v : sg_St) : fX6_isThere N v 1 = some (1, sg_set v 0 0 0) := rfl
theorem qm_there0 (v : sg_St) : fX6_isThere N v 0 = some (0, sg_set v 0 0 1) := rfl
theorem q_th0 (v : sg_St) (x : Int32) : sg_set v 0 0 x 0 0 = x := by rw [sg_set_s, upd_s]
/-- a call about a line: unknown to both, or known to both -/
theorem q_line {α : Type} {cs : List Nat} (hI : qI u v) (p : Int32) (K : sg_St → Option ((Nat ⊕ α) × sg_St)) (L : sg_St → Option (α × sg_St)) (z : α) (h : ∀ (n k : Nat) (a b ld cap pr rt pk mu ins : Nat → Nat) (S B C Lk Fl : Nat → Prop) (l : Nat) (v' : sg_St), qJ n k a b ld cap pr rt pk mu ins S B C Lk Fl u v' → v' 0 0 = 0 → l < k → p = nI l → ∃ R r1 v1, K u = some R ∧ L v' = some (r1, v1) ∧ sg_Rel qI (5 :: cs) R r1 v1) : ∃ R r1 v1, sg_bt (fX5_needLine N u p) (fun _ u3 => K u3) = some R ∧ sg_b (fX6_isLine N v p) (fun r2 => sg_b2 (fX6_isThere N v r2) (fun r5 u6 => if r5 = 0 then some (z, u6) else L u6)) = some (r1, v1) ∧ sg_Rel qI (5 :: cs) R r1 v1 := by
  obtain ⟨n, k, a, b, ld, cap, pr, rt, pk, mu, ins, S, B, C, Lk, Fl, hJ⟩ := hI
  have hk := hJ.1.1.2.2.2.1
  rcases qx_needLine (N := N) hJ.1.1 p with ⟨l, h1, h2, h3⟩ | ⟨h1, h3⟩ <;> rcases qm_isLine (N := N) hJ.2.1 p with ⟨l', g1, g2, g3⟩ | ⟨g1, g3⟩
  · obtain ⟨R, r1, v1, e1, e2, e3⟩ := h n k a b ld cap pr rt pk mu ins S B C Lk Fl l (sg_set v 0 0 0) (hJ.fr (qFX.rf u) (qFM.of0 v 0)) (q_th0 v 0) h1 h2
    refine ⟨R, r1, v1, ?_, ?_, e3⟩
    · rw [h3, sg_bt_r]; exact e1
    · rw [g3, q_bs, qm_there1, q_b2s, q_10]; exact e2
  · exact absurd h2 (g1 l h1)
  · exact absurd g2 (h1 l' g1)
  · refine ⟨(.inl 5, u), z, sg_set v 0 0 1, ?_, ?_, Or.inr ⟨5, u, rfl, List.mem_cons_self, ?_, (hJ.fr (qFX.rf u) (qFM.of0 v 1)).I⟩⟩
    · rw [h3]; rfl
    · rw [g3, q_bs, qm_there0, q_b2s, q_00]
    · rw [q_th0]; rfl
theorem q_node {α : Type} {cs : List Nat} (hI : qI u v) (p : Int32) (K : sg_St → Option ((Nat ⊕ α) × sg_St)) (L : sg_St → Option (α × sg_St)) (z : α) (h : ∀ (n k : Nat) (a b ld cap pr rt pk mu ins : Nat → Nat) (S B C Lk Fl : Nat → Prop) (l : Nat) (v' : sg_St), qJ n k a b ld cap pr rt pk mu ins S B C Lk Fl u v' → v' 0 0 = 0 → l < n → p = nI l → ∃ R r1 v1, K u = some R ∧ L v' = some (r1, v1) ∧ sg_Rel qI (5 :: cs) R r1 v1) : ∃ R r1 v1, sg_bt (fX5_needNode N u p) (fun _ u3 => K u3) = some R ∧ sg_b (fX6_isNode N v p) (fun r2 => sg_b2 (fX6_isThere N v r2) (fun r5 u6 => if r5 = 0 then some (z, u6) else L u6)) = some (r1, v1) ∧ sg_Rel qI (5 :: cs) R r1 v1 := by
  obtain ⟨n, k, a, b, ld, cap, pr, rt, pk, mu, ins, S, B, C, Lk, Fl, hJ⟩ := hI
  rcases qx_needNode (N := N) hJ.1.1 p with ⟨l, h1, h2, h3⟩ | ⟨h1, h3⟩ <;> rcases qm_isNode (N := N) hJ.2.1 p with ⟨l', g1, g2, g3⟩ | ⟨g1, g3⟩
  · obtain ⟨R, r1, v1, e1, e2, e3⟩ := h n k a b ld cap pr rt pk mu ins S B C Lk Fl l (sg_set v 0 0 0) (hJ.fr (qFX.rf u) (qFM.of0 v 0)) (q_th0 v 0) h1 h2
    refine ⟨R, r1, v1, ?_, ?_, e3⟩
    · rw [h3, sg_bt_r]; exact e1
    · rw [g3, q_bs, qm_there1, q_b2s, q_10]; exact e2
  · exact absurd h2 (g1 l h1)
  · exact absurd g2 (h1 l' g1)
  · refine ⟨(.inl 5, u), z, sg_set v 0 0 1, ?_, ?_, Or.inr ⟨5, u, rfl, List.mem_cons_self, ?_, (hJ.fr (qFX.rf u) (qFM.of0 v 1)).I⟩⟩
    · rw [h3]; rfl
    · rw [g3, q_bs, qm_there0, q_b2s, q_00]
    · rw [q_th0]; rfl
/-- an answer without change -/
theorem q_ok {α : Type} {cs : List Nat} {r : α} (hI : qI u v) (f : qFX u u') (g : qFM v v') (h0 : v' 0 0 = 0) : sg_Rel qI cs (.inr r, u') r v' := Or.inl ⟨u', rfl, h0, hI.fr f g⟩
theorem q_ok22 {α : Type} {cs : List Nat} {r : α} (hI : qI u v) (h0 : v 0 0 = 0) (f : qfr u u') (g : ∀ j, j ≠ 22 → v' j = v j) : sg_Rel qI cs (.inr r, u') r v' := Or.inl ⟨u', rfl, by rw [g 0 (by omega)]; exact h0, hI.fr (qFX.of f) (qFM.of22 g)⟩
end IJ
