/-! limits; why a line cannot be closed -/
noncomputable def qite (P : Prop) (x y : Int32) : Int32 := @ite _ P (Classical.propDecidable _) x y
theorem qite_1 {P : Prop} {x y : Int32} (h : P) : qite P x y = x := if_pos h
theorem qite_0 {P : Prop} {x y : Int32} (h : ¬ P) : qite P x y = y := if_neg h
section GD
variable {n k : Nat} {a b ld cap rt : Nat → Nat} {C C' S B Lk Fl : Nat → Prop} {x y l m : Nat}
/-- a set of closed lines that may stand: radial, no source over its capacity, no line over its rating -/
def qgood (n k : Nat) (a b ld cap rt : Nat → Nat) (S C : Nat → Prop) : Prop := (∀ l, C l → l < k) ∧ qg_F a b C ∧ qg_O a b S C ∧ (∀ s, S s → qs ld (qg_R a b C s) n ≤ cap s) ∧ ∀ l, qcu a b ld n S C l ≤ rt l
theorem qfl_mo (hC : ∀ l, C' l → C l) (hF : qg_F a b C) (hO : qg_O a b S C) (hm : C m) : qfl a b ld n S C' m ≤ qfl a b ld n S C m := by
  have hd : ∀ l, qg_del C' m l → qg_del C m l := fun l q => ⟨hC l q.1, q.2⟩
  have hL : ∀ {x}, qg_L a b S (qg_del C' m) x → qg_L a b S (qg_del C m) x := fun ⟨s, h1, h2⟩ => ⟨s, h1, qg_mo hd h2⟩
  have one : qg_L a b S (qg_del C m) (a m) → qg_L a b S (qg_del C m) (b m) → False := fun ⟨s, h1, h2⟩ ⟨t, h3, h4⟩ => by
    have e : s = t := hO s t h1 h3 (qg_tr (qg_sy (qg_del_mo h2)) (qg_tr (qg_ed hm) (qg_del_mo h4)))
    subst e
    exact hF m hm (qg_tr h2 (qg_sy h4))
  by_cases q1 : qg_L a b S (qg_del C' m) (a m)
  · rw [qfl_a q1, qfl_a (hL q1)]
    exact qs_le (fun i _ r => qg_mo hd r)
  · by_cases q2 : qg_L a b S (qg_del C' m) (b m)
    · rw [qfl_b q1 q2, qfl_b (fun r => one r (hL q2)) (hL q2)]
      exact qs_le (fun i _ r => qg_mo hd r)
    · rw [qfl_0 q1 q2]
      exact Nat.zero_le _
theorem qcu_mo (hC : ∀ l, C' l → C l) (hF : qg_F a b C) (hO : qg_O a b S C) : qcu a b ld n S C' m ≤ qcu a b ld n S C m := by
  by_cases q : C' m
  · rw [qcu_1 q, qcu_1 (hC m q)]
    exact qfl_mo hC hF hO (hC m q)
  · rw [qcu_0 q]
    exact Nat.zero_le _
theorem qgood_open (h : qgood n k a b ld cap rt S C) (hC : ∀ l, C' l → C l) : qgood n k a b ld cap rt S C' := by
  obtain ⟨h1, h2, h3, h4, h5⟩ := h
  exact ⟨fun l q => h1 l (hC l q), qg_F_mo hC h2, qg_O_mo hC h3, fun s q => Nat.le_trans (qs_le (fun i _ r => qg_mo hC r)) (h4 s q), fun l => Nat.le_trans (qcu_mo hC h2 h3) (h5 l)⟩
theorem qgood_cg (h : qgood n k a b ld cap rt S C) (hC : ∀ l, C' l ↔ C l) : qgood n k a b ld cap rt S C' := qgood_open h (fun l => (hC l).mp)
theorem qg_add_far (h1 : ¬ qg_R a b C x (a l)) (h2 : ¬ qg_R a b C x (b l)) : qg_R a b (qg_add C l) x y ↔ qg_R a b C x y := by
  rw [qg_add_iff]
  exact ⟨fun q => q.elim id (fun q => q.elim (fun r => absurd r.1 h1) (fun r => absurd r.1 h2)), Or.inl⟩
theorem qfl_cg (h1 : ∀ y, qg_R a b (qg_del C m) (a m) y ↔ qg_R a b (qg_del C' m) (a m) y) (h2 : ∀ y, qg_R a b (qg_del C m) (b m) y ↔ qg_R a b (qg_del C' m) (b m) y) : qfl a b ld n S C m = qfl a b ld n S C' m := by
  have e1 : qg_R a b (qg_del C m) (a m) = qg_R a b (qg_del C' m) (a m) := funext (fun y => propext (h1 y))
  have e2 : qg_R a b (qg_del C m) (b m) = qg_R a b (qg_del C' m) (b m) := funext (fun y => propext (h2 y))
  unfold qfl qg_L
  rw [e1, e2]
theorem qfl_far (hm : C m) (hne : m ≠ l) (h1 : ¬ qg_R a b C (a m) (a l)) (h2 : ¬ qg_R a b C (a m) (b l)) : qfl a b ld n S (qg_add C l) m = qfl a b ld n S C m := by
  have key : ∀ x, qg_R a b C (a m) x → ∀ y, qg_R a b (qg_del (qg_add C l) m) x y ↔ qg_R a b (qg_del C m) x y := fun x hx y => by
    have e : ∀ j, qg_del (qg_add C l) m j ↔ qg_add (qg_del C m) l j := fun j => ⟨fun q => q.1.elim (fun r => Or.inl ⟨r, q.2⟩) Or.inr, fun q => q.elim (fun r => ⟨Or.inl r.1, r.2⟩) (fun r => ⟨Or.inr r, fun e => hne (e.symm.trans r)⟩)⟩
    rw [qg_cg e]
    exact qg_add_far (fun q => h1 (qg_tr hx (qg_del_mo q))) (fun q => h2 (qg_tr hx (qg_del_mo q)))
  exact qfl_cg (key _ qg_rf) (key _ (qg_ed hm))
theorem qfl_new (hn : ¬ C l) : qfl a b ld n S (qg_add C l) l = @ite _ (qg_L a b S C (a l)) (Classical.propDecidable _) (qs ld (qg_R a b C (b l)) n) (@ite _ (qg_L a b S C (b l)) (Classical.propDecidable _) (qs ld (qg_R a b C (a l)) n) 0) := by
  have e : ∀ j, qg_del (qg_add C l) l j ↔ C j := fun j => ⟨fun q => q.1.elim id (fun r => absurd r q.2), fun q => ⟨Or.inl q, fun e => hn (e ▸ q)⟩⟩
  have e1 : ∀ x, qg_R a b (qg_del (qg_add C l) l) x = qg_R a b C x := fun x => funext (fun y => propext (qg_cg e))
  unfold qfl qg_L
  rw [e1, e1]
theorem qdark (hg : qgood n k a b ld cap rt S C) (hn : ¬ C l) (ha : ¬ qg_L a b S C (a l)) (hb : ¬ qg_L a b S C (b l)) (m : Nat) : qcu a b ld n S (qg_add C l) m ≤ rt m := by
  by_cases q : C m
  · rw [qcu_1 (Or.inl q)]
    have hne : m ≠ l := fun e => hn (e ▸ q)
    by_cases r : qg_L a b S C (a m)
    · rw [qfl_far q hne (fun z => ha (qg_L_of (qg_sy z) r)) (fun z => hb (qg_L_of (qg_sy z) r)), ← qcu_1 (ld := ld) q]
      exact hg.2.2.2.2 m
    · have hno : ¬ qg_L a b S (qg_add C l) (a m) := fun ⟨s, h1, h2⟩ => by
        rcases qg_add_iff.mp h2 with z | ⟨-, z⟩ | ⟨-, z⟩
        · exact r ⟨s, h1, z⟩
        · exact hb ⟨s, h1, z⟩
        · exact ha ⟨s, h1, z⟩
      rw [qfl_dark (Or.inl q) hno]
      exact Nat.zero_le _
  · by_cases e : m = l
    · subst e
      rw [qcu_1 (Or.inr rfl), qfl_new hn, if_neg ha, if_neg hb]
      exact Nat.zero_le _
    · rw [qcu_0 (fun z => z.elim q e)]
      exact Nat.zero_le _
/-- the island that a line's closing would feed, if it would feed one -/
def qfed (a b : Nat → Nat) (S C : Nat → Prop) (l : Nat) (i : Nat) : Prop := (qg_L a b S C (a l) ∧ ¬ qg_L a b S C (b l) ∧ qg_R a b C (b l) i) ∨ (¬ qg_L a b S C (a l) ∧ qg_L a b S C (b l) ∧ qg_R a b C (a l) i)
/-- the reason -/
noncomputable def qrs (n k : Nat) (a b ld cap rt : Nat → Nat) (S B Lk Fl C : Nat → Prop) (l : Nat) : Int32 :=
  qite (C l) 99 (qite (Lk l) 111 (qite (Fl l ∨ ∃ m, C m ∧ Fl m ∧ qfed a b S C l (a m)) 102 (qite (qg_R a b C (a l) (b l) ∨ (qg_L a b S C (a l) ∧ qg_L a b S C (b l))) 114 (qite (¬ B l ∧ 0 < qs ld (qfed a b S C l) n) 100 (qite (qg_L a b S C (a l) ↔ qg_L a b S C (b l)) 110 (qite (∃ s, S s ∧ (qg_R a b C (a l) s ∨ qg_R a b C (b l) s) ∧ cap s < qs ld (qg_R a b C (a l)) n + qs ld (qg_R a b C (b l)) n) 115 (qite (∃ m, m < k ∧ rt m < qcu a b ld n S (qg_add C l) m) 108 110)))))))
theorem qrs_n (h : qrs n k a b ld cap rt S B Lk Fl C l = 110) : ¬ C l ∧ ¬ Lk l ∧ ¬ Fl l ∧ ¬ qg_R a b C (a l) (b l) ∧ ¬ (qg_L a b S C (a l) ∧ qg_L a b S C (b l)) ∧ ((¬ qg_L a b S C (a l) ∧ ¬ qg_L a b S C (b l)) ∨ ((∀ s, S s → (qg_R a b C (a l) s ∨ qg_R a b C (b l) s) → qs ld (qg_R a b C (a l)) n + qs ld (qg_R a b C (b l)) n ≤ cap s) ∧ ∀ m, m < k → qcu a b ld n S (qg_add C l) m ≤ rt m)) := by
  unfold qrs at h
  by_cases q1 : C l
  · rw [qite_1 q1] at h; exact absurd h (by decide)
  rw [qite_0 q1] at h
  by_cases q2 : Lk l
  · rw [qite_1 q2] at h; exact absurd h (by decide)
  rw [qite_0 q2] at h
  by_cases q3 : Fl l ∨ ∃ m, C m ∧ Fl m ∧ qfed a b S C l (a m)
  · rw [qite_1 q3] at h; exact absurd h (by decide)
  rw [qite_0 q3] at h
  by_cases q4 : qg_R a b C (a l) (b l) ∨ (qg_L a b S C (a l) ∧ qg_L a b S C (b l))
  · rw [qite_1 q4] at h; exact absurd h (by decide)
  rw [qite_0 q4] at h
  by_cases q5 : ¬ B l ∧ 0 < qs ld (qfed a b S C l) n
  · rw [qite_1 q5] at h; exact absurd h (by decide)
  rw [qite_0 q5] at h
  refine ⟨q1, q2, fun q => q3 (Or.inl q), fun q => q4 (Or.inl q), fun q => q4 (Or.inr q), ?_⟩
  by_cases q6 : qg_L a b S C (a l) ↔ qg_L a b S C (b l)
  · by_cases q : qg_L a b S C (a l)
    · exact absurd (Or.inr ⟨q, q6.mp q⟩) q4
    · exact Or.inl ⟨q, fun r => q (q6.mpr r)⟩
  rw [qite_0 q6] at h
  by_cases q7 : ∃ s, S s ∧ (qg_R a b C (a l) s ∨ qg_R a b C (b l) s) ∧ cap s < qs ld (qg_R a b C (a l)) n + qs ld (qg_R a b C (b l)) n
  · rw [qite_1 q7] at h; exact absurd h (by decide)
  rw [qite_0 q7] at h
  by_cases q8 : ∃ m, m < k ∧ rt m < qcu a b ld n S (qg_add C l) m
  · rw [qite_1 q8] at h; exact absurd h (by decide)
  exact Or.inr ⟨fun s h1 h2 => Nat.le_of_not_lt (fun h3 => q7 ⟨s, h1, h2, h3⟩), fun m h1 => Nat.le_of_not_lt (fun h2 => q8 ⟨m, h1, h2⟩)⟩
theorem qgood_close (hg : qgood n k a b ld cap rt S C) (hl : l < k) (h : qrs n k a b ld cap rt S B Lk Fl C l = 110) : qgood n k a b ld cap rt S (qg_add C l) := by
  obtain ⟨q1, q2, q3, q4, q5, q6⟩ := qrs_n h
  obtain ⟨h1, h2, h3, h4, h5⟩ := hg
  have hb : ∀ m, qg_add C l m → m < k := fun m q => q.elim (h1 m) (fun e => by rw [e]; exact hl)
  refine ⟨hb, qg_F_add h2 q4, qg_O_add h3 q5, fun s hs => ?_, fun m => ?_⟩
  · by_cases r1 : qg_R a b C s (a l) ∨ qg_R a b C s (b l)
    · have r2 : (∀ s, S s → (qg_R a b C (a l) s ∨ qg_R a b C (b l) s) → qs ld (qg_R a b C (a l)) n + qs ld (qg_R a b C (b l)) n ≤ cap s) := by
        rcases q6 with q6 | q6
        · exact (r1.elim (fun r => q6.1 ⟨s, hs, qg_sy r⟩) (fun r => q6.2 ⟨s, hs, qg_sy r⟩)).elim
        · exact q6.1
      refine Nat.le_trans ?_ (r2 s hs (r1.imp qg_sy qg_sy))
      rw [← qs_or (fun i _ z1 z2 => q4 (qg_tr z1 (qg_sy z2)))]
      refine qs_le (fun i _ z => ?_)
      rcases qg_add_iff.mp z with z | ⟨-, z⟩ | ⟨-, z⟩
      · exact r1.elim (fun r => Or.inl (qg_tr (qg_sy r) z)) (fun r => Or.inr (qg_tr (qg_sy r) z))
      · exact Or.inr z
      · exact Or.inl z
    · rw [qs_cg (g := ld) (Q := qg_R a b C s) (fun i _ => qg_add_far (fun z => r1 (Or.inl z)) (fun z => r1 (Or.inr z))) (fun _ _ _ => rfl)]
      exact h4 s hs
  · rcases q6 with q6 | q6
    · exact qdark ⟨h1, h2, h3, h4, h5⟩ q1 q6.1 q6.2 m
    · by_cases r : m < k
      · exact q6.2 m r
      · rw [qcu_0 (fun z => r (hb m z))]
        exact Nat.zero_le _
end GD
