/-! sets of numbers as ints; what the class finds in them -/
/-- the bits of s are the numbers below m with P -/
def qS (s : Int32) (P : Nat → Prop) (m : Nat) : Prop := ∀ i, qb s i = true ↔ (i < m ∧ P i)
section SS
variable {s t : Int32} {P Q : Nat → Prop} {m i : Nat}
theorem qS.cg (h : qS s P m) (hq : ∀ i, i < m → (P i ↔ Q i)) : qS s Q m := fun i => by
  rw [h i]
  exact ⟨fun q => ⟨q.1, (hq i q.1).mp q.2⟩, fun q => ⟨q.1, (hq i q.1).mpr q.2⟩⟩
theorem qS.inj (h : qS s P m) (h2 : qS t P m) : s = t := qb_ext (fun i _ => by
  have e1 := h i
  have e2 := h2 i
  cases b1 : qb s i <;> cases b2 : qb t i
  · rfl
  · rw [b2] at e2; rw [b1] at e1; exact absurd (e1.mpr (e2.mp rfl)) (by decide)
  · rw [b2] at e2; rw [b1] at e1; exact absurd (e2.mpr (e1.mp rfl)) (by decide)
  · rfl)
theorem qS.or (h : qS s P m) (h2 : qS t Q m) : qS (s ||| t) (fun i => P i ∨ Q i) m := fun i => by
  rw [qb_or, Bool.or_eq_true, h i, h2 i]
  exact ⟨fun q => q.elim (fun q => ⟨q.1, Or.inl q.2⟩) (fun q => ⟨q.1, Or.inr q.2⟩), fun q => q.2.elim (fun r => Or.inl ⟨q.1, r⟩) (fun r => Or.inr ⟨q.1, r⟩)⟩
theorem qS.and (h : qS s P m) (h2 : qS t Q m) : qS (s &&& t) (fun i => P i ∧ Q i) m := fun i => by
  rw [qb_and, Bool.and_eq_true, h i, h2 i]
  exact ⟨fun q => ⟨q.1.1, q.1.2, q.2.2⟩, fun q => ⟨⟨q.1, q.2.1⟩, ⟨q.1, q.2.2⟩⟩⟩
theorem qS.diff (h : qS s P m) (h2 : qS t Q m) (hm : m ≤ 32) : qS (s &&& (t ^^^ (-1))) (fun i => P i ∧ ¬ Q i) m := fun i => by
  rw [qb_and, qb_xor, Bool.and_eq_true, h i]
  constructor
  · intro q
    refine ⟨q.1.1, q.1.2, fun r => ?_⟩
    have h3 := q.2
    rw [(h2 i).mpr ⟨q.1.1, r⟩, qb_m1 i (by omega)] at h3
    exact absurd h3 (by decide)
  · intro q
    refine ⟨⟨q.1, q.2.1⟩, ?_⟩
    have h3 : qb t i = false := by
      cases b : qb t i
      · rfl
      · exact absurd ((h2 i).mp b).2 q.2.2
    rw [h3, qb_m1 i (by omega)]
    rfl
theorem qS.bit (hi : i < m) (hm : m ≤ 32) : qS (qB i) (fun j => j = i) m := fun j => by
  rw [qb_sB (show i < 32 by omega), decide_eq_true_iff]
  exact ⟨fun q => ⟨by omega, q⟩, fun q => q.2⟩
theorem qS.z : qS 0 (fun _ => False) m := fun i => by
  rw [qb_0]
  exact ⟨fun q => by cases q, fun q => q.2.elim⟩
theorem qS.eq0 (h : qS s P m) : s = 0 ↔ ∀ i, i < m → ¬ P i := by
  constructor
  · intro e i hi hp
    have := (h i).mpr ⟨hi, hp⟩
    rw [e, qb_0] at this
    cases this
  · intro hn
    refine qS.inj (h.cg (Q := fun _ => False) (fun i hi => ⟨fun q => hn i hi q, fun q => q.elim⟩)) qS.z
theorem qS.has (N : Nat) (h : qS s P m) (hi : i < 32) : (i < m ∧ P i ∧ fX5_has N s (nI i) = some 1) ∨ (¬ (i < m ∧ P i) ∧ fX5_has N s (nI i) = some 0) := by
  rw [qx_has N s hi]
  by_cases q : qb s i = true
  · exact Or.inl ⟨((h i).mp q).1, ((h i).mp q).2, by rw [if_pos q]⟩
  · exact Or.inr ⟨fun r => q ((h i).mpr r), by rw [if_neg q]⟩
end SS
/-- the least of a set, or none -/
theorem q_least {P : Nat → Prop} : ∀ n, (∃ i, i < n ∧ P i ∧ ∀ j, j < i → ¬ P j) ∨ (∀ i, i < n → ¬ P i)
  | 0 => Or.inr (fun i h => absurd h (Nat.not_lt_zero i))
  | n + 1 => by
    rcases q_least (P := P) n with ⟨i, h1, h2, h3⟩ | h
    · exact Or.inl ⟨i, by omega, h2, h3⟩
    · by_cases q : P n
      · exact Or.inl ⟨n, Nat.lt_succ_self n, q, fun j hj => h j hj⟩
      · refine Or.inr (fun i hi => ?_)
        by_cases e : i = n
        · rw [e]; exact q
        · exact h i (by omega)
theorem nI_m1 {i : Nat} (h : i < 2 ^ 31) : ¬ nI i = -1 := by
  intro e
  have h1 := nI_toInt h
  rw [e] at h1
  have h2 : (-1 : Int32).toInt = -1 := by decide
  rw [h2] at h1
  omega
theorem qx_lowest {N : Nat} {s : Int32} {P : Nat → Prop} {m : Nat} (hN : 20 < N) (h : qS s P m) (hm : m ≤ 12) : (∃ i, i < m ∧ P i ∧ (∀ j, j < i → ¬ P j) ∧ fX5_lowestIn N s = some (nI i)) ∨ ((∀ i, i < m → ¬ P i) ∧ fX5_lowestIn N s = some (-1)) := by
  have step : ∀ i, i < 12 → ¬ (i < m ∧ P i) → fX5_memberAt_L4 N s 0 0 (nI i) = some (.inl (0, nI (i + 1))) := by
    intro i hi hp
    unfold fX5_memberAt_L4
    have hb : qb s i = false := by
      cases b : qb s i
      · rfl
      · exact absurd ((h i).mp b) hp
    rw [if_neg (nI_ge (a := i) (b := 12) hi (by decide)), if_pos ((q_has0 s (by omega)).mpr hb), nI_succ]
  have hit : ∀ i, i < 12 → (i < m ∧ P i) → fX5_memberAt_L4 N s 0 0 (nI i) = some (.inr (nI i)) := by
    intro i hi hp
    unfold fX5_memberAt_L4
    have hb : qb s i = true := (h i).mpr hp
    rw [if_neg (nI_ge (a := i) (b := 12) hi (by decide)), if_neg (fun q => by rw [(q_has0 s (by omega)).mp q] at hb; cases hb), if_pos rfl]
  have fin : ∀ r, sg_it (fun x : Int32 × Int32 => fX5_memberAt_L4 N s 0 x.1 x.2) N ((fun i => ((0 : Int32), nI i)) 0) = some r → fX5_lowestIn N s = some r := by
    intro r hr
    unfold fX5_lowestIn fX5_memberAt
    show sg_b (sg_it (fun x : Int32 × Int32 => fX5_memberAt_L4 N s 0 x.1 x.2) N ((fun i => ((0 : Int32), nI i)) 0)) _ = _
    rw [hr]
    rfl
  rcases q_least (P := fun i => i < m ∧ P i) 12 with ⟨i, h1, h2, h3⟩ | hno
  · refine Or.inl ⟨i, h2.1, h2.2, fun j hj q => h3 j hj ⟨by omega, q⟩, fin _ ?_⟩
    exact q_for (fun i => ((0 : Int32), nI i)) (n := i) (by omega) (fun j hj => step j (by omega) (h3 j hj)) (hit i h1 h2)
  · refine Or.inr ⟨fun i hi q => hno i (by omega) ⟨hi, q⟩, fin _ ?_⟩
    refine q_for (fun i => ((0 : Int32), nI i)) (n := 12) (by omega) (fun j hj => step j hj (hno j hj)) ?_
    show fX5_memberAt_L4 N s 0 0 (nI 12) = _
    unfold fX5_memberAt_L4
    rw [if_pos (show (12 : Int32) ≤ nI 12 by decide)]
/-- the drawing as the class has it: n nodes, k lines, the lines' ends -/
def qX (u : sg_St) (n k : Nat) (a b : Nat → Nat) : Prop := u 0 0 = nI n ∧ u 1 0 = nI k ∧ n ≤ 10 ∧ k ≤ 12 ∧ ∀ l, l < k → u 14 l = nI (a l) ∧ u 15 l = nI (b l) ∧ a l < n ∧ b l < n ∧ a l ≠ b l
section XG
variable {N n k : Nat} {u : sg_St} {a b : Nat → Nat} {C : Nat → Prop} {c : Int32} {x l : Nat}
theorem qx_across (hg : qX u n k a b) (hx : x < n) (hl : l < k) : (∃ y, qg_E a b l x y ∧ y < n ∧ fX1_acrossFrom N u (nI x) (nI l) = some (nI y)) ∨ ((∀ y, ¬ qg_E a b l x y) ∧ fX1_acrossFrom N u (nI x) (nI l) = some (-1)) := by
  obtain ⟨h0, h1, hn, hk, he⟩ := hg
  obtain ⟨e1, e2, e3, e4, e5⟩ := he l hl
  have key : fX1_acrossFrom N u (nI x) (nI l) = (if nI (a l) = nI x then some (nI (b l)) else if nI (b l) = nI x then some (nI (a l)) else some (-1)) := by
    unfold fX1_acrossFrom
    rw [if_neg (nI_pos (show l < 2 ^ 31 by omega)), h1, if_pos (nI_lt hl (by omega)), nI_ck (show l < 12 by omega) (by decide), nI_clamp (show l < 2 ^ 31 by omega), e1, e2]
    rfl
  rw [key]
  by_cases q : a l = x
  · rw [if_pos (by rw [q])]
    exact Or.inl ⟨b l, Or.inl ⟨q, rfl⟩, e4, rfl⟩
  · rw [if_neg (fun e => q ((nI_eq (by omega) (by omega)).mp e))]
    by_cases r : b l = x
    · rw [if_pos (by rw [r])]
      exact Or.inl ⟨a l, Or.inr ⟨r, rfl⟩, e3, rfl⟩
    · rw [if_neg (fun e => r ((nI_eq (by omega) (by omega)).mp e))]
      refine Or.inr ⟨fun y hy => ?_, rfl⟩
      rcases hy with ⟨q1, -⟩ | ⟨q1, -⟩
      · exact q q1
      · exact r q1
theorem qx_neigh (hN : 20 < N) (hg : qX u n k a b) (hx : x < n) (hc : qS c C k) : ∃ r, fX1_neighbours N u (nI x) c = some r ∧ qS r (fun y => ∃ l, l < k ∧ C l ∧ qg_E a b l x y) n := by
  have hg' := hg
  obtain ⟨h0, h1, hn, hk, he⟩ := hg
  obtain ⟨r, hr, hs⟩ := q_inv (f := fun z : Int32 × Int32 => fX1_neighbours_L5 N u (nI x) c z.1 z.2) (fun z => ∃ i, i ≤ k ∧ z.2 = nI i ∧ qS z.1 (fun y => ∃ l, l < i ∧ C l ∧ qg_E a b l x y) n) (fun z => k - z.2.toNatClampNeg) (fun r => qS r (fun y => ∃ l, l < k ∧ C l ∧ qg_E a b l x y) n) (by
    rintro ⟨w, z⟩ ⟨i, hi, hz, hs⟩
    replace hz : z = nI i := hz
    subst hz
    replace hs : qS w (fun y => ∃ l, l < i ∧ C l ∧ qg_E a b l x y) n := hs
    by_cases hik : i = k
    · subst hik
      refine Or.inr ⟨w, ?_, hs⟩
      show fX1_neighbours_L5 N u (nI x) c w (nI i) = _
      unfold fX1_neighbours_L5
      rw [h1, if_pos (nI_le (Nat.le_refl i) (by omega))]
    · have hlt : i < k := by omega
      have next : ∀ w', fX1_neighbours_L5 N u (nI x) c w (nI i) = some (.inl (w', nI (i + 1))) → qS w' (fun y => ∃ l, l < i + 1 ∧ C l ∧ qg_E a b l x y) n → _ := fun w' e1 e2 =>
        Or.inl ⟨(w', nI (i + 1)), e1, ⟨i + 1, by omega, rfl, e2⟩, by show k - (nI (i + 1)).toNatClampNeg < k - (nI i).toNatClampNeg; rw [nI_clamp (show i + 1 < 2 ^ 31 by omega), nI_clamp (show i < 2 ^ 31 by omega)]; omega⟩
      have head : ∀ v, fX5_has N c (nI i) = some v → fX1_neighbours_L5 N u (nI x) c w (nI i) = (if v = 0 then fX1_neighbours_j34 N u (nI x) c w (nI i) (-1) else sg_b (fX1_acrossFrom N u (nI x) (nI i)) (fun r5 => fX1_neighbours_j34 N u (nI x) c w (nI i) r5)) := by
        intro v hv
        unfold fX1_neighbours_L5
        rw [h1, if_neg (nI_ge hlt (by omega)), hv]
        rfl
      have none : fX1_neighbours_j34 N u (nI x) c w (nI i) (-1) = some (.inl (w, nI (i + 1))) := by
        unfold fX1_neighbours_j34
        rw [if_pos rfl, nI_succ]
      rcases hc.has N (show i < 32 by omega) with ⟨q1, q2, q3⟩ | ⟨q1, q3⟩
      · rcases qx_across (N := N) hg' hx hlt with ⟨y, f1, f2, f3⟩ | ⟨f1, f3⟩
        · refine next (w ||| qB y) ?_ ?_
          · rw [head _ q3, if_neg (by decide), f3]
            show fX1_neighbours_j34 N u (nI x) c w (nI i) (nI y) = _
            unfold fX1_neighbours_j34
            rw [if_neg (nI_m1 (by omega)), qx_bit, nI_succ]
            rfl
          · refine (hs.or (qS.bit f2 (by omega))).cg (fun j hj => ⟨fun q => ?_, fun q => ?_⟩)
            · rcases q with ⟨l, g1, g2⟩ | q
              · exact ⟨l, by omega, g2⟩
              · subst q; exact ⟨i, by omega, q2, f1⟩
            · obtain ⟨l, g1, g2, g3⟩ := q
              by_cases e : l = i
              · subst e; exact Or.inr (qg_E_un g3 f1 (he l hlt).2.2.2.2)
              · exact Or.inl ⟨l, by omega, g2, g3⟩
        · refine next w ?_ ?_
          · rw [head _ q3, if_neg (by decide), f3]
            exact none
          · refine hs.cg (fun j hj => ⟨fun ⟨l, g1, g2⟩ => ⟨l, by omega, g2⟩, fun ⟨l, g1, g2, g3⟩ => ?_⟩)
            by_cases e : l = i
            · subst e; exact absurd g3 (f1 j)
            · exact ⟨l, by omega, g2, g3⟩
      · refine next w ?_ ?_
        · rw [head _ q3, if_pos rfl]
          exact none
        · refine hs.cg (fun j hj => ⟨fun ⟨l, g1, g2⟩ => ⟨l, by omega, g2⟩, fun ⟨l, g1, g2, g3⟩ => ?_⟩)
          by_cases e : l = i
          · subst e; exact absurd ⟨hlt, g2⟩ q1
          · exact ⟨l, by omega, g2, g3⟩) N (0, 0) ⟨0, Nat.zero_le k, rfl, qS.z.cg (fun j _ => ⟨fun q => q.elim, fun ⟨l, q, _⟩ => absurd q (Nat.not_lt_zero l)⟩)⟩ (by show k - (0 : Int32).toNatClampNeg < N; have : (0 : Int32).toNatClampNeg = 0 := by decide
                                                                                                                                                                                                            omega)
  refine ⟨r, ?_, hs⟩
  unfold fX1_neighbours
  rw [hr]
  rfl
end XG
