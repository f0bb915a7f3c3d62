/-! networks, plainly: nodes and lines are numbers, a l and b l the ends of the line l, C a set of lines -/
section GR
variable {a b : Nat → Nat} {C C' : Nat → Prop} {S : Nat → Prop} {x y z l m : Nat}
/-- x and y are in one island: y is in every set with x that the lines of C don't leave -/
def qg_R (a b : Nat → Nat) (C : Nat → Prop) (x y : Nat) : Prop := ∀ P : Nat → Prop, P x → (∀ l, C l → (P (a l) ↔ P (b l))) → P y
def qg_del (C : Nat → Prop) (l : Nat) : Nat → Prop := fun m => C m ∧ m ≠ l
def qg_add (C : Nat → Prop) (l : Nat) : Nat → Prop := fun m => C m ∨ m = l
theorem qg_rf : qg_R a b C x x := fun _ h _ => h
theorem qg_tr (h1 : qg_R a b C x y) (h2 : qg_R a b C y z) : qg_R a b C x z := fun P hx hC => h2 P (h1 P hx hC) hC
theorem qg_ed (h : C l) : qg_R a b C (a l) (b l) := fun _ hx hC => (hC l h).mp hx
theorem qg_ed' (h : C l) : qg_R a b C (b l) (a l) := fun _ hx hC => (hC l h).mpr hx
theorem qg_sy (h : qg_R a b C x y) : qg_R a b C y x :=
  h (fun z => qg_R a b C z x) qg_rf (fun _ hl => ⟨fun q => qg_tr (qg_ed' hl) q, fun q => qg_tr (qg_ed hl) q⟩)
theorem qg_mo (hC : ∀ l, C l → C' l) (h : qg_R a b C x y) : qg_R a b C' x y := fun P hx hP => h P hx (fun l hl => hP l (hC l hl))
theorem qg_cg (hC : ∀ l, C l ↔ C' l) : qg_R a b C x y ↔ qg_R a b C' x y := ⟨qg_mo (fun l => (hC l).mp), qg_mo (fun l => (hC l).mpr)⟩
theorem qg_add_iff : qg_R a b (qg_add C l) x y ↔ qg_R a b C x y ∨ (qg_R a b C x (a l) ∧ qg_R a b C (b l) y) ∨ (qg_R a b C x (b l) ∧ qg_R a b C (a l) y) := by
  constructor
  · intro h
    refine h (fun z => qg_R a b C x z ∨ (qg_R a b C x (a l) ∧ qg_R a b C (b l) z) ∨ (qg_R a b C x (b l) ∧ qg_R a b C (a l) z)) (Or.inl qg_rf) ?_
    intro k hk
    rcases hk with hk | hk
    · constructor
      · intro q
        rcases q with q | ⟨q1, q2⟩ | ⟨q1, q2⟩
        · exact Or.inl (qg_tr q (qg_ed hk))
        · exact Or.inr (Or.inl ⟨q1, qg_tr q2 (qg_ed hk)⟩)
        · exact Or.inr (Or.inr ⟨q1, qg_tr q2 (qg_ed hk)⟩)
      · intro q
        rcases q with q | ⟨q1, q2⟩ | ⟨q1, q2⟩
        · exact Or.inl (qg_tr q (qg_ed' hk))
        · exact Or.inr (Or.inl ⟨q1, qg_tr q2 (qg_ed' hk)⟩)
        · exact Or.inr (Or.inr ⟨q1, qg_tr q2 (qg_ed' hk)⟩)
    · subst hk
      constructor
      · intro q
        rcases q with q | ⟨q1, q2⟩ | ⟨q1, q2⟩
        · exact Or.inr (Or.inl ⟨q, qg_rf⟩)
        · exact Or.inr (Or.inl ⟨q1, qg_rf⟩)
        · exact Or.inl q1
      · intro q
        rcases q with q | ⟨q1, q2⟩ | ⟨q1, q2⟩
        · exact Or.inr (Or.inr ⟨q, qg_rf⟩)
        · exact Or.inl q1
        · exact Or.inr (Or.inr ⟨q1, qg_rf⟩)
  · intro h
    have hm : ∀ k, C k → qg_add C l k := fun k hk => Or.inl hk
    have hl : qg_add C l l := Or.inr rfl
    rcases h with q | ⟨q1, q2⟩ | ⟨q1, q2⟩
    · exact qg_mo hm q
    · exact qg_tr (qg_mo hm q1) (qg_tr (qg_ed hl) (qg_mo hm q2))
    · exact qg_tr (qg_mo hm q1) (qg_tr (qg_ed' hl) (qg_mo hm q2))
theorem qg_del_add (h : C l) (m : Nat) : C m ↔ qg_add (qg_del C l) l m := by
  constructor
  · intro q
    by_cases e : m = l
    · exact Or.inr e
    · exact Or.inl ⟨q, e⟩
  · intro q
    rcases q with q | q
    · exact q.1
    · rw [q]; exact h
theorem qg_del_iff (h : C l) : qg_R a b C x y ↔ qg_R a b (qg_del C l) x y ∨ (qg_R a b (qg_del C l) x (a l) ∧ qg_R a b (qg_del C l) (b l) y) ∨ (qg_R a b (qg_del C l) x (b l) ∧ qg_R a b (qg_del C l) (a l) y) :=
  (qg_cg (qg_del_add h)).trans qg_add_iff
theorem qg_del_mo (h : qg_R a b (qg_del C l) x y) : qg_R a b C x y := qg_mo (fun _ q => q.1) h
/-- no circle: without any of its lines, the line's ends are apart -/
def qg_F (a b : Nat → Nat) (C : Nat → Prop) : Prop := ∀ l, C l → ¬ qg_R a b (qg_del C l) (a l) (b l)
theorem qg_F_mo (hC : ∀ l, C l → C' l) (h : qg_F a b C') : qg_F a b C := fun l hl q => h l (hC l hl) (qg_mo (fun _ q => ⟨hC _ q.1, q.2⟩) q)
theorem qg_F_add (h : qg_F a b C) (hn : ¬ qg_R a b C (a l) (b l)) : qg_F a b (qg_add C l) := by
  intro k hk q
  by_cases e : k = l
  · subst e
    exact hn (qg_mo (fun j hj => by
      rcases hj with ⟨hj | hj, hne⟩
      · exact hj
      · exact absurd hj hne) q)
  · have hkC : C k := by
      rcases hk with hk | hk
      · exact hk
      · exact absurd hk e
    have q2 : qg_R a b (qg_add (qg_del C k) l) (a k) (b k) := qg_mo (fun j hj => by
      rcases hj with ⟨hj | hj, hne⟩
      · exact Or.inl ⟨hj, hne⟩
      · exact Or.inr hj) q
    rcases qg_add_iff.mp q2 with r | ⟨r1, r2⟩ | ⟨r1, r2⟩
    · exact h k hkC r
    · exact hn (qg_tr (qg_sy (qg_del_mo r1)) (qg_tr (qg_ed hkC) (qg_sy (qg_del_mo r2))))
    · exact hn (qg_tr (qg_del_mo r2) (qg_tr (qg_ed' hkC) (qg_del_mo r1)))
/-- no island with two sources -/
def qg_O (a b : Nat → Nat) (S C : Nat → Prop) : Prop := ∀ s t, S s → S t → qg_R a b C s t → s = t
theorem qg_O_mo (hC : ∀ l, C l → C' l) (h : qg_O a b S C') : qg_O a b S C := fun s t hs ht q => h s t hs ht (qg_mo hC q)
def qg_L (a b : Nat → Nat) (S C : Nat → Prop) (x : Nat) : Prop := ∃ s, S s ∧ qg_R a b C x s
theorem qg_L_of (h : qg_R a b C x y) (hy : qg_L a b S C y) : qg_L a b S C x := by
  obtain ⟨s, h1, h2⟩ := hy
  exact ⟨s, h1, qg_tr h h2⟩
theorem qg_O_add (h : qg_O a b S C) (hn : ¬ (qg_L a b S C (a l) ∧ qg_L a b S C (b l))) : qg_O a b S (qg_add C l) := by
  intro s t hs ht q
  rcases qg_add_iff.mp q with r | ⟨r1, r2⟩ | ⟨r1, r2⟩
  · exact h s t hs ht r
  · exact absurd ⟨⟨s, hs, qg_sy r1⟩, ⟨t, ht, r2⟩⟩ hn
  · exact absurd ⟨⟨t, ht, r2⟩, ⟨s, hs, qg_sy r1⟩⟩ hn
/-- the line l leads from x to y -/
def qg_E (a b : Nat → Nat) (l x y : Nat) : Prop := (a l = x ∧ b l = y) ∨ (b l = x ∧ a l = y)
theorem qg_E_sy (h : qg_E a b l x y) : qg_E a b l y x := by
  rcases h with ⟨h1, h2⟩ | ⟨h1, h2⟩
  · exact Or.inr ⟨h2, h1⟩
  · exact Or.inl ⟨h2, h1⟩
theorem qg_E_R (h : qg_E a b l x y) (hl : C l) : qg_R a b C x y := by
  rcases h with ⟨h1, h2⟩ | ⟨h1, h2⟩
  · subst h1; subst h2; exact qg_ed hl
  · subst h1; subst h2; exact qg_ed' hl
theorem qg_E_F (hF : qg_F a b C) (h : qg_E a b l x y) (hl : C l) : ¬ qg_R a b (qg_del C l) x y := by
  rcases h with ⟨h1, h2⟩ | ⟨h1, h2⟩
  · subst h1; subst h2; exact hF l hl
  · subst h1; subst h2; exact fun q => hF l hl (qg_sy q)
theorem qg_E_un (h : qg_E a b l x y) (h2 : qg_E a b l x z) (hne : a l ≠ b l) : y = z := by
  rcases h with ⟨h1, h3⟩ | ⟨h1, h3⟩ <;> rcases h2 with ⟨h4, h5⟩ | ⟨h4, h5⟩
  · exact h3.symm.trans h5
  · exact absurd (h1.trans h4.symm) hne
  · exact absurd (h4.trans h1.symm) hne
  · exact h3.symm.trans h5
theorem qg_E_del (h : qg_E a b l x y) (hl : C l) : qg_R a b C z x ↔ qg_R a b (qg_del C l) z x ∨ qg_R a b (qg_del C l) z y := by
  constructor
  · intro q
    rcases h with ⟨h1, h2⟩ | ⟨h1, h2⟩ <;> subst h1 <;> subst h2
    · rcases (qg_del_iff hl).mp q with r | ⟨r1, r2⟩ | ⟨r1, r2⟩
      · exact Or.inl r
      · exact Or.inl r1
      · exact Or.inr r1
    · rcases (qg_del_iff hl).mp q with r | ⟨r1, r2⟩ | ⟨r1, r2⟩
      · exact Or.inl r
      · exact Or.inr r1
      · exact Or.inl r1
  · intro q
    rcases q with q | q
    · exact qg_del_mo q
    · exact qg_tr (qg_del_mo q) (qg_sy (qg_E_R h hl))
/-- what hangs at x without l0: x, and what hangs at the far ends of its other lines -/
theorem qg_split (hF : qg_F a b C) {l0 : Nat} (h0 : C l0 → ∃ w, qg_E a b l0 x w) : qg_R a b (qg_del C l0) x z ↔ z = x ∨ ∃ l y, C l ∧ l ≠ l0 ∧ qg_E a b l x y ∧ qg_R a b (qg_del C l) y z := by
  constructor
  · intro h
    refine h (fun z => z = x ∨ ∃ l y, C l ∧ l ≠ l0 ∧ qg_E a b l x y ∧ qg_R a b (qg_del C l) y z) (Or.inl rfl) ?_
    have step : ∀ (k u w : Nat), qg_del C l0 k → qg_E a b k u w → (u = x ∨ ∃ l y, C l ∧ l ≠ l0 ∧ qg_E a b l x y ∧ qg_R a b (qg_del C l) y u) → (w = x ∨ ∃ l y, C l ∧ l ≠ l0 ∧ qg_E a b l x y ∧ qg_R a b (qg_del C l) y w) := by
      intro k u w hk he q
      rcases q with q | ⟨l, y, h1, h2, h3, h4⟩
      · subst q
        exact Or.inr ⟨k, w, hk.1, hk.2, he, qg_rf⟩
      · by_cases e : k = l
        · subst e
          rcases h3 with ⟨e1, e2⟩ | ⟨e1, e2⟩ <;> rcases he with ⟨f1, f2⟩ | ⟨f1, f2⟩
          · subst e1; subst e2; subst f1; subst f2
            exact absurd (qg_sy h4) (hF k hk.1)
          · subst e1; subst e2; subst f1; subst f2
            exact Or.inl rfl
          · subst e1; subst e2; subst f1; subst f2
            exact Or.inl rfl
          · subst e1; subst e2; subst f1; subst f2
            exact absurd h4 (hF k hk.1)
        · exact Or.inr ⟨l, y, h1, h2, h3, qg_tr h4 (qg_E_R he ⟨hk.1, e⟩)⟩
    intro k hk
    exact ⟨step k _ _ hk (Or.inl ⟨rfl, rfl⟩), step k _ _ hk (Or.inr ⟨rfl, rfl⟩)⟩
  · intro h
    rcases h with h | ⟨l, y, h1, h2, h3, h4⟩
    · subst h; exact qg_rf
    · have hx : qg_R a b (qg_del C l0) x y := qg_E_R h3 ⟨h1, h2⟩
      by_cases hl0 : C l0
      · obtain ⟨w, hw⟩ := h0 hl0
        refine qg_tr hx ?_
        have h5 : qg_R a b (qg_del C l) y z ∧ ¬ qg_R a b (qg_del C l) y x := ⟨h4, fun q => qg_E_F hF h3 h1 (qg_sy q)⟩
        refine (h4 (fun z => qg_R a b (qg_del C l0) y z ∧ qg_R a b (qg_del C l) y z) ⟨qg_rf, qg_rf⟩ ?_).1
        intro k hk
        have key : ∀ u v, qg_E a b k u v → (qg_R a b (qg_del C l0) y u ∧ qg_R a b (qg_del C l) y u) → (qg_R a b (qg_del C l0) y v ∧ qg_R a b (qg_del C l) y v) := by
          intro u v hu q
          have hv : qg_R a b (qg_del C l) y v := qg_tr q.2 (qg_E_R hu hk)
          refine ⟨?_, hv⟩
          by_cases e : k = l0
          · subst e
            rcases hw with ⟨e1, e2⟩ | ⟨e1, e2⟩ <;> rcases hu with ⟨f1, f2⟩ | ⟨f1, f2⟩
            · exact absurd (by rw [← e1, f1]; exact q.2) h5.2
            · exact absurd (by rw [← e1, f2]; exact hv) h5.2
            · exact absurd (by rw [← e1, f2]; exact hv) h5.2
            · exact absurd (by rw [← e1, f1]; exact q.2) h5.2
          · exact qg_tr q.1 (qg_E_R hu ⟨hk.1, e⟩)
        exact ⟨key _ _ (Or.inl ⟨rfl, rfl⟩), key _ _ (Or.inr ⟨rfl, rfl⟩)⟩
      · refine qg_tr hx (qg_mo (fun k hk => ⟨hk.1, fun e => hl0 (by rw [← e]; exact hk.1)⟩) h4)
theorem qg_disj (hF : qg_F a b C) {l' y' : Nat} (h1 : C l) (h2 : qg_E a b l x y) (h3 : C l') (h4 : qg_E a b l' x y') (hne : l ≠ l') (hz : qg_R a b (qg_del C l) y z) (hz' : qg_R a b (qg_del C l') y' z) : False := by
  have hyx : ¬ qg_R a b (qg_del C l) y x := fun q => qg_E_F hF h2 h1 (qg_sy q)
  have hyx' : ¬ qg_R a b (qg_del C l') y' x := fun q => qg_E_F hF h4 h3 (qg_sy q)
  -- the way from y' to z without l' keeps off x, so off l
  have key : qg_R a b (qg_del C l) y' z := by
    refine (hz' (fun w => qg_R a b (qg_del C l) y' w ∧ qg_R a b (qg_del C l') y' w) ⟨qg_rf, qg_rf⟩ ?_).1
    intro k hk
    have st : ∀ u v, qg_E a b k u v → (qg_R a b (qg_del C l) y' u ∧ qg_R a b (qg_del C l') y' u) → (qg_R a b (qg_del C l) y' v ∧ qg_R a b (qg_del C l') y' v) := by
      intro u v hu q
      have hv : qg_R a b (qg_del C l') y' v := qg_tr q.2 (qg_E_R hu hk)
      refine ⟨?_, hv⟩
      by_cases e : k = l
      · subst e
        rcases h2 with ⟨e1, e2⟩ | ⟨e1, e2⟩ <;> rcases hu with ⟨f1, f2⟩ | ⟨f1, f2⟩
        · exact absurd (by rw [← e1, f1]; exact q.2) hyx'
        · exact absurd (by rw [← e1, f2]; exact hv) hyx'
        · exact absurd (by rw [← e1, f2]; exact hv) hyx'
        · exact absurd (by rw [← e1, f1]; exact q.2) hyx'
      · exact qg_tr q.1 (qg_E_R hu ⟨hk.1, e⟩)
    exact ⟨st _ _ (Or.inl ⟨rfl, rfl⟩), st _ _ (Or.inr ⟨rfl, rfl⟩)⟩
  exact hyx (qg_tr hz (qg_tr (qg_sy key) (qg_sy (qg_E_R h4 ⟨h3, fun e => hne e.symm⟩))))
end GR
/-! sums over sets of numbers -/
section GS
noncomputable def qs (f : Nat → Nat) (P : Nat → Prop) : Nat → Nat
  | 0 => 0
  | n + 1 => qs f P n + (@ite Nat (P n) (Classical.propDecidable _) (f n) 0)
theorem qs_s1 {f : Nat → Nat} {P : Nat → Prop} {n : Nat} (h : P n) : qs f P (n + 1) = qs f P n + f n := by
  show qs f P n + (@ite Nat (P n) (Classical.propDecidable _) (f n) 0) = _
  rw [if_pos h]
theorem qs_s0 {f : Nat → Nat} {P : Nat → Prop} {n : Nat} (h : ¬ P n) : qs f P (n + 1) = qs f P n := by
  show qs f P n + (@ite Nat (P n) (Classical.propDecidable _) (f n) 0) = _
  rw [if_neg h, Nat.add_zero]
theorem qs_cg {f g : Nat → Nat} {P Q : Nat → Prop} : ∀ {n : Nat}, (∀ i, i < n → (P i ↔ Q i)) → (∀ i, i < n → P i → f i = g i) → qs f P n = qs g Q n
  | 0, _, _ => rfl
  | n + 1, h, h2 => by
    have ih := qs_cg (n := n) (fun i hi => h i (Nat.lt_succ_of_lt hi)) (fun i hi => h2 i (Nat.lt_succ_of_lt hi))
    by_cases q : P n
    · rw [qs_s1 q, qs_s1 ((h n (Nat.lt_succ_self n)).mp q), ih, h2 n (Nat.lt_succ_self n) q]
    · rw [qs_s0 q, qs_s0 (fun r => q ((h n (Nat.lt_succ_self n)).mpr r)), ih]
theorem qs_or {f : Nat → Nat} {P Q : Nat → Prop} : ∀ {n : Nat}, (∀ i, i < n → P i → Q i → False) → qs f (fun i => P i ∨ Q i) n = qs f P n + qs f Q n
  | 0, _ => rfl
  | n + 1, h => by
    have ih := qs_or (f := f) (n := n) (fun i hi => h i (Nat.lt_succ_of_lt hi))
    by_cases q : P n
    · have r : ¬ Q n := fun r => h n (Nat.lt_succ_self n) q r
      rw [qs_s1 (P := fun i => P i ∨ Q i) (Or.inl q), qs_s1 q, qs_s0 r, ih]; omega
    · by_cases r : Q n
      · rw [qs_s1 (P := fun i => P i ∨ Q i) (Or.inr r), qs_s0 q, qs_s1 r, ih]; omega
      · rw [qs_s0 (P := fun i => P i ∨ Q i) (fun z => z.elim q r), qs_s0 q, qs_s0 r, ih]
theorem qs_le {f : Nat → Nat} {P Q : Nat → Prop} : ∀ {n : Nat}, (∀ i, i < n → P i → Q i) → qs f P n ≤ qs f Q n
  | 0, _ => Nat.le_refl _
  | n + 1, h => by
    have ih := qs_le (f := f) (n := n) (fun i hi => h i (Nat.lt_succ_of_lt hi))
    by_cases q : P n
    · rw [qs_s1 q, qs_s1 (h n (Nat.lt_succ_self n) q)]; omega
    · rw [qs_s0 q]
      by_cases r : Q n
      · rw [qs_s1 r]; omega
      · rw [qs_s0 r]; exact ih
theorem qs_no {f : Nat → Nat} {P : Nat → Prop} : ∀ {n : Nat}, (∀ i, i < n → ¬ P i) → qs f P n = 0
  | 0, _ => rfl
  | n + 1, h => by rw [qs_s0 (h n (Nat.lt_succ_self n)), qs_no (fun i hi => h i (Nat.lt_succ_of_lt hi))]
theorem qs_one {f : Nat → Nat} {x : Nat} : ∀ {n : Nat}, x < n → qs f (fun i => i = x) n = f x
  | 0, h => absurd h (Nat.not_lt_zero x)
  | n + 1, h => by
    by_cases q : n = x
    · rw [qs_s1 (P := fun i => i = x) q, qs_no (fun i hi e => by omega), q]; omega
    · rw [qs_s0 (P := fun i => i = x) q, qs_one (by omega)]
theorem qs_bd {f : Nat → Nat} {P : Nat → Prop} {c : Nat} : ∀ {n : Nat}, (∀ i, i < n → P i → f i ≤ c) → qs f P n ≤ n * c
  | 0, _ => Nat.zero_le _
  | n + 1, h => by
    have ih := qs_bd (f := f) (n := n) (fun i hi => h i (Nat.lt_succ_of_lt hi))
    have e : (n + 1) * c = n * c + c := Nat.succ_mul n c
    by_cases q : P n
    · rw [qs_s1 q, e]; have := h n (Nat.lt_succ_self n) q; omega
    · rw [qs_s0 q, e]; omega
theorem qs_mem {f : Nat → Nat} {P : Nat → Prop} {x : Nat} : ∀ {n : Nat}, x < n → P x → f x ≤ qs f P n
  | 0, h, _ => absurd h (Nat.not_lt_zero x)
  | n + 1, h, hx => by
    by_cases e : n = x
    · subst e; rw [qs_s1 hx]; omega
    · have ih := qs_mem (f := f) (n := n) (show x < n by omega) hx
      by_cases q : P n
      · rw [qs_s1 q]; omega
      · rw [qs_s0 q]; exact ih
/-- how many -/
noncomputable def qc (P : Nat → Prop) (n : Nat) : Nat := qs (fun _ => 1) P n
theorem qc_le {P : Nat → Prop} {n : Nat} : qc P n ≤ n := by
  have h := qs_bd (f := fun _ => 1) (P := P) (c := 1) (n := n) (fun _ _ _ => Nat.le_refl 1)
  unfold qc; omega
theorem qc_pos {P : Nat → Prop} {x n : Nat} (h : x < n) (hx : P x) : 1 ≤ qc P n := qs_mem (f := fun _ => 1) h hx
end GS
