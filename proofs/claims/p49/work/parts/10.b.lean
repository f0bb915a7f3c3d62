/-! p49: how many islands a forest has; what a cut on the way leaves dark; what a closing brings to life -/
theorem qmin_core {R R' : Nat → Nat → Prop} {x y A M : Nat} (sy : ∀ {p q}, R p q → R q p) (tr : ∀ {p q r}, R p q → R q r → R p r) (h : ∀ p q, R' p q ↔ R p q ∨ (R p x ∧ R y q) ∨ (R p y ∧ R x q)) (hA : R x A ∧ ∀ z, R x z → A ≤ z) (hM : R y M ∧ ∀ z, R y z → M ≤ z) (hlt : A < M) : (∀ p, (∀ z, R p z → p ≤ z) ↔ (∀ z, R' p z → p ≤ z) ∨ p = M) ∧ ¬ (∀ z, R' M z → M ≤ z) := by
  refine ⟨fun p => ⟨fun hp => ?_, fun hp => ?_⟩, fun hc => ?_⟩
  · by_cases e : p = M
    · exact Or.inr e
    · refine Or.inl (fun z hz => ?_)
      rcases (h p z).mp hz with q | ⟨q1, q2⟩ | ⟨q1, q2⟩
      · exact hp z q
      · have h1 := hp A (tr q1 hA.1)
        have h2 := hM.2 z q2
        omega
      · have h1 := hp M (tr q1 hM.1)
        have h2 := hM.2 p (sy q1)
        omega
  · rcases hp with hp | hp
    · exact fun z hz => hp z ((h p z).mpr (Or.inl hz))
    · subst hp
      exact fun z hz => hM.2 z (tr hM.1 hz)
  · have := hc A ((h M A).mpr (Or.inr (Or.inr ⟨sy hM.1, hA.1⟩)))
    omega
section PB
variable {N n k : Nat} {u v u' v' w : sg_St} {a b ld cap pr rt pk mu ins lab : Nat → Nat} {S B C C' Lk Fl Lk' Fl' : Nat → Prop} {l x m t s : Nat}
/-- the least of its island -/
def qmin1 (a b : Nat → Nat) (C : Nat → Prop) (y : Nat) : Prop := ∀ z, qg_R a b C y z → y ≤ z
theorem qg_least (a b : Nat → Nat) (C : Nat → Prop) (x : Nat) : ∃ m, qg_R a b C x m ∧ ∀ z, qg_R a b C x z → m ≤ z := by
  rcases q_least (P := fun z => qg_R a b C x z) (x + 1) with ⟨i, h1, h2, h3⟩ | h
  · exact ⟨i, h2, fun z hz => Nat.le_of_not_lt (fun q => h3 z q hz)⟩
  · exact absurd qg_rf (h x (by omega))
theorem qmin1_cg (h : ∀ l, C l ↔ C' l) : ∀ y, qmin1 a b C y ↔ qmin1 a b C' y := fun y => ⟨fun q z hz => q z ((qg_cg h).mpr hz), fun q z hz => q z ((qg_cg h).mp hz)⟩
theorem qmin1_add (hn : ¬ qg_R a b C (a l) (b l)) : ∃ X, (qg_R a b C (a l) X ∨ qg_R a b C (b l) X) ∧ (∀ p, qmin1 a b C p ↔ qmin1 a b (qg_add C l) p ∨ p = X) ∧ ¬ qmin1 a b (qg_add C l) X := by
  obtain ⟨A, hA⟩ := qg_least a b C (a l)
  obtain ⟨M, hM⟩ := qg_least a b C (b l)
  have hne : A ≠ M := fun e => hn (qg_tr hA.1 (by rw [e]; exact qg_sy hM.1))
  rcases Nat.lt_or_ge A M with q | q
  · exact ⟨M, Or.inr hM.1, qmin_core (R := qg_R a b C) (R' := qg_R a b (qg_add C l)) qg_sy qg_tr (fun p z => qg_add_iff) hA hM q⟩
  · exact ⟨A, Or.inl hA.1, qmin_core (R := qg_R a b C) (R' := qg_R a b (qg_add C l)) qg_sy qg_tr (fun p z => qg_add_iff.trans (or_congr Iff.rfl Or.comm)) hM hA (by omega)⟩
theorem qc_all : ∀ n, qc (fun _ => True) n = n
  | 0 => rfl
  | n + 1 => by
    have h := qs_s1 (f := fun _ => 1) (P := fun _ : Nat => True) (n := n) trivial
    have e := qc_all n
    unfold qc at e ⊢
    omega
theorem qcount (hbd : ∀ l, C l → a l < n ∧ b l < n) (hF : qg_F a b C) : ∀ m, qc (qmin1 a b (fun l => C l ∧ l < m)) n + qc C m = n
  | 0 => by
    have h1 : qc (qmin1 a b (fun l => C l ∧ l < 0)) n = n := by
      rw [qc_cg (P := qmin1 a b (fun l => C l ∧ l < 0)) (Q := fun _ => True) (fun i _ => ⟨fun _ => trivial, fun _ z hz => ?_⟩), qc_all]
      have e : z = i := hz (fun q => q = i) rfl (fun l hl => absurd hl.2 (Nat.not_lt_zero l))
      omega
    have h2 : qc C 0 = 0 := rfl
    omega
  | m + 1 => by
    have ih := qcount hbd hF m
    by_cases hC : C m
    · have hcg : ∀ l, (C l ∧ l < m + 1) ↔ qg_add (fun l => C l ∧ l < m) m l := fun l => ⟨fun q => by
        by_cases e : l = m
        · exact Or.inr e
        · exact Or.inl ⟨q.1, by omega⟩, fun q => q.elim (fun q => ⟨q.1, by omega⟩) (fun q => by subst q; exact ⟨hC, by omega⟩)⟩
      have hn : ¬ qg_R a b (fun l => C l ∧ l < m) (a m) (b m) := fun q => hF m hC (qg_mo (fun l hl => ⟨hl.1, by omega⟩) q)
      obtain ⟨X, h1, h2, h3⟩ := qmin1_add hn
      have hX : X < n := h1.elim (fun q => qg_bd (fun l hl => hbd l hl.1) (hbd m hC).1 q) (fun q => qg_bd (fun l hl => hbd l hl.1) (hbd m hC).2 q)
      have e1 : qc (qmin1 a b (fun l => C l ∧ l < m)) n = qc (qmin1 a b (qg_add (fun l => C l ∧ l < m) m)) n + 1 := by
        rw [qc_cg (fun i _ => h2 i)]
        exact qc_add hX h3
      have e2 : qc (qmin1 a b (fun l => C l ∧ l < m + 1)) n = qc (qmin1 a b (qg_add (fun l => C l ∧ l < m) m)) n := qc_cg (fun i _ => qmin1_cg hcg i)
      have e3 : qc C (m + 1) = qc C m + 1 := qs_s1 hC
      omega
    · have e2 : qc (qmin1 a b (fun l => C l ∧ l < m + 1)) n = qc (qmin1 a b (fun l => C l ∧ l < m)) n := qc_cg (fun i _ => qmin1_cg (fun l => ⟨fun q => ⟨q.1, Nat.lt_of_le_of_ne (Nat.le_of_lt_succ q.2) (fun e => hC (by rw [← e]; exact q.1))⟩, fun q => ⟨q.1, by omega⟩⟩) i)
      have e3 : qc C (m + 1) = qc C m := qs_s0 hC
      omega
theorem q_islands (hJ : qJ n k a b ld cap pr rt pk mu ins S B C Lk Fl u v) (hlab : qlab n a b C lab) : qc (fun i => lab i = i) n + qc C k = n := by
  have h := qcount (hJ.1.1.bd hJ.gd.1) hJ.gd.2.1 k
  have e : qc (fun i => lab i = i) n = qc (qmin1 a b (fun l => C l ∧ l < k)) n := by
    refine qc_cg (fun i hi => ?_)
    rw [qmin1_cg (C' := C) (fun l => ⟨fun q => q.1, fun q => ⟨q, hJ.gd.1 l q⟩⟩) i]
    refine ⟨fun q z hz => ?_, fun q => ?_⟩
    · have hz2 := hJ.bdx hi z hz
      have e := (hlab.eq hi hz2).mpr hz
      have := (hlab.1 z hz2).2
      omega
    · have := q _ (hlab.1 i hi).1
      have := (hlab.1 i hi).2
      omega
  omega
theorem qc_le1 {P : Nat → Prop} : ∀ n, (∀ x y, x < n → y < n → P x → P y → x = y) → qc P n ≤ 1
  | 0, _ => by show (0 : Nat) ≤ 1; omega
  | n + 1, h => by
    by_cases q : P n
    · have e : qc P (n + 1) = qc P n + 1 := qs_s1 q
      have z : qc P n = 0 := qs_no (fun i hi hp => by have := h i n (by omega) (by omega) hp q; omega)
      omega
    · have e : qc P (n + 1) = qc P n := qs_s0 q
      have := qc_le1 n (fun x y hx hy => h x y (by omega) (by omega))
      omega
/-- no two sources in one island -/
theorem q_own (hJ : qJ n k a b ld cap pr rt pk mu ins S B C Lk Fl u v) (hlab : qlab n a b C lab) (i m : Nat) (hm : m ≤ n) : qc (fun x => S x ∧ lab x = i) m ≤ 1 :=
  qc_le1 m (fun x y hx hy p q => hJ.gd.2.2.1 x y p.1 q.1 ((hlab.eq (by omega) (by omega)).mp (p.2.trans q.2.symm)))
/-- the way's last line is the line itself -/
theorem qcn_last : ∀ (p : List Nat) (x l0 z lz : Nat), qcn a b C p x l0 z lz → p ≠ [] → p.getD (p.length - 1) 0 = lz
  | [], _, _, _, _, _, h => absurd rfl h
  | [l], x, l0, z, lz, h, _ => by
    obtain ⟨h1, h2, y, h3, h4, h5⟩ := h
    exact h5
  | l :: l' :: r, x, l0, z, lz, h, _ => by
    obtain ⟨h1, h2, y, h3, h4⟩ := h
    exact qcn_last (l' :: r) y l z lz h4 (by simp)
theorem qway.last {p : List Nat} (hw : qway a b S C l s p) : p.getD (p.length - 1) 0 = l := by
  obtain ⟨h1, h2, z, h3⟩ := hw
  exact qcn_last p s 12 z l h3 h2
/-- a line of the way, cut: before it the start stays, behind it the end -/
theorem qcn_cut (hF : qg_F a b C) : ∀ (p : List Nat) (x l0 z lz : Nat), (C l0 → ∃ w, qg_E a b l0 x w) → qcn a b C p x l0 z lz → t ∈ p → t ≠ lz → ∃ x' y', qg_E a b t x' y' ∧ C t ∧ qg_R a b (qg_del C t) x x' ∧ ∀ e e', qg_E a b lz e e' → qg_R a b (qg_del C t) y' e
  | [], _, _, _, _, _, _, ht, _ => absurd ht List.not_mem_nil
  | l :: r, x, l0, z, lz, h0, h, ht, hne => by
    obtain ⟨h1, h2, y, h3, h4⟩ := h
    by_cases e : l = t
    · subst e
      refine ⟨x, y, h3, h1, qg_rf, ?_⟩
      cases r with
      | nil => exact absurd h4.2 hne
      | cons l' r' => exact (qcn_below hF r' l' y l z lz (fun _ => ⟨x, qg_E_sy h3⟩) h4).2.2
    · have ht' : t ∈ r := (List.mem_cons.mp ht).resolve_left (fun q => e q.symm)
      obtain ⟨x', y', g1, g2, g3, g4⟩ := qcn_cut hF r y l z lz (fun _ => ⟨x, qg_E_sy h3⟩) h4 ht' hne
      exact ⟨x', y', g1, g2, qg_tr (qg_E_R h3 ⟨h1, e⟩) g3, g4⟩
theorem qway.cut {p : List Nat} (hC12 : ¬ C 12) (hF : qg_F a b C) (hO : qg_O a b S C) (hw : qway a b S C l s p) (ht : t ∈ p) (hne : t ≠ l) : ¬ qg_L a b S (qg_del C t) (a l) := by
  rintro ⟨s', hs', hR⟩
  have hRs := (hw.R hC12 hF).2
  have e : s' = s := hO s' s hs' hw.1 (qg_tr (qg_sy (qg_del_mo hR)) hRs)
  subst e
  obtain ⟨h1, h2, z, h3⟩ := hw
  obtain ⟨x', y', g1, g2, g3, g4⟩ := qcn_cut hF p s' 12 z l (fun q => absurd q hC12) h3 ht hne
  exact qg_E_F hF g1 g2 (qg_sy (qg_tr (g4 (a l) (b l) (Or.inl ⟨rfl, rfl⟩)) (qg_tr hR g3)))
theorem q_allcut (hC' : ∀ m, C' m → a m ≠ s ∧ b m ≠ s) (hl : C' l) : ¬ qg_R a b C' (a l) s := fun hR =>
  hR (fun y => y ≠ s) (hC' l hl).1 (fun m hm => ⟨fun _ => (hC' m hm).2, fun _ => (hC' m hm).1⟩) rfl
/-- no line with a fault is closed in a live island -/
def qnf (a b : Nat → Nat) (S C Fl : Nat → Prop) : Prop := ∀ m, C m → Fl m → ¬ qg_L a b S C (a m)
theorem qg_L_mono (hC : ∀ l, C l → C' l) (h : qg_L a b S C x) : qg_L a b S C' x := ⟨h.choose, h.choose_spec.1, qg_mo hC h.choose_spec.2⟩
theorem qnf_open (h : qnf a b S C Fl) (hC : ∀ l, C' l → C l) (hFl : ∀ l, Fl' l → Fl l) : qnf a b S C' Fl' := fun m h1 h2 h3 => h m (hC m h1) (hFl m h2) (qg_L_mono hC h3)
theorem qrs_f (h : qrs n k a b ld cap rt S B Lk Fl C l = 110) : ¬ (Fl l ∨ ∃ m, C m ∧ Fl m ∧ qfed a b S C l (a m)) := by
  intro z
  unfold qrs at h
  by_cases q1 : C l
  · rw [qite_1 q1] at h
    exact absurd h (by decide)
  rw [qite_0 q1] at h
  by_cases q2 : Lk l
  · rw [qite_1 q2] at h
    exact absurd h (by decide)
  rw [qite_0 q2, qite_1 z] at h
  exact absurd h (by decide)
theorem qnf_close (h : qnf a b S C Fl) (hq : qrs n k a b ld cap rt S B Lk Fl C l = 110) : qnf a b S (qg_add C l) Fl := by
  have hf := qrs_f hq
  obtain ⟨-, -, -, -, h5, -⟩ := qrs_n hq
  intro m h1 h2 h3
  rcases h1 with h1 | h1
  · have hd := h m h1 h2
    obtain ⟨s, hs, hR⟩ := h3
    rcases qg_add_iff.mp hR with q | ⟨q1, q2⟩ | ⟨q1, q2⟩
    · exact hd ⟨s, hs, q⟩
    · have hL : qg_L a b S C (b l) := ⟨s, hs, q2⟩
      exact hf (Or.inr ⟨m, h1, h2, Or.inr ⟨fun z => h5 ⟨z, hL⟩, hL, qg_sy q1⟩⟩)
    · have hL : qg_L a b S C (a l) := ⟨s, hs, q2⟩
      exact hf (Or.inr ⟨m, h1, h2, Or.inl ⟨hL, fun z => h5 ⟨hL, z⟩, qg_sy q1⟩⟩)
  · rw [h1] at h2
    exact hf (Or.inl h2)
theorem qnf_cg (h : qnf a b S C Fl) (hC : ∀ l, C' l ↔ C l) : qnf a b S C' Fl := qnf_open h (fun l => (hC l).mp) (fun _ q => q)
theorem qnf_plan {C0 : Nat → Prop} : ∀ (e p : List Nat) (f : Nat), qnf a b S (qcl C0 p) Fl → qval n k a b ld cap rt S B Lk Fl C0 p f e → qnf a b S (qcl C0 (p ++ e)) Fl
  | [], p, f, h, _ => by rw [List.append_nil]; exact h
  | l :: r, p, f, h, hv => by
    have h2 := qnf_plan r (p ++ [l]) (l + 1) (qnf_cg (qnf_close h hv.2.2.1) (fun m => qcl_snoc m)) hv.2.2.2
    rwa [List.append_assoc] at h2
end PB
