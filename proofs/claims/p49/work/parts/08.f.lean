/-! currents: what a line carries, and how the class measures it -/
section FL
variable {n k : Nat} {a b ld : Nat → Nat} {C S : Nat → Prop} {x y l m w z l0 s : Nat}
/-- the current of a line: the load of the side without the source -/
noncomputable def qfl (a b ld : Nat → Nat) (n : Nat) (S C : Nat → Prop) (l : Nat) : Nat := @ite _ (qg_L a b S (qg_del C l) (a l)) (Classical.propDecidable _) (qs ld (qg_R a b (qg_del C l) (b l)) n) (@ite _ (qg_L a b S (qg_del C l) (b l)) (Classical.propDecidable _) (qs ld (qg_R a b (qg_del C l) (a l)) n) 0)
noncomputable def qcu (a b ld : Nat → Nat) (n : Nat) (S C : Nat → Prop) (l : Nat) : Nat := @ite _ (C l) (Classical.propDecidable _) (qfl a b ld n S C l) 0
theorem qfl_a (h : qg_L a b S (qg_del C l) (a l)) : qfl a b ld n S C l = qs ld (qg_R a b (qg_del C l) (b l)) n := if_pos h
theorem qfl_b (h : ¬ qg_L a b S (qg_del C l) (a l)) (h2 : qg_L a b S (qg_del C l) (b l)) : qfl a b ld n S C l = qs ld (qg_R a b (qg_del C l) (a l)) n := by
  unfold qfl
  rw [if_neg h, if_pos h2]
theorem qfl_0 (h : ¬ qg_L a b S (qg_del C l) (a l)) (h2 : ¬ qg_L a b S (qg_del C l) (b l)) : qfl a b ld n S C l = 0 := by
  unfold qfl
  rw [if_neg h, if_neg h2]
theorem qfl_E (hE : qg_E a b l x y) (h : qg_L a b S (qg_del C l) x) (h2 : ¬ qg_L a b S (qg_del C l) y) : qfl a b ld n S C l = qs ld (qg_R a b (qg_del C l) y) n := by
  rcases hE with ⟨h3, h4⟩ | ⟨h3, h4⟩
  · subst h3; subst h4; exact qfl_a h
  · subst h3; subst h4; exact qfl_b h2 h
theorem qfl_bd (hl : ∀ i, i < n → ld i ≤ 99) : qfl a b ld n S C l ≤ n * 99 := by
  unfold qfl
  split
  · exact qs_bd (fun i hi _ => hl i hi)
  · split
    · exact qs_bd (fun i hi _ => hl i hi)
    · exact Nat.zero_le _
theorem qcu_1 (h : C l) : qcu a b ld n S C l = qfl a b ld n S C l := if_pos h
theorem qcu_0 (h : ¬ C l) : qcu a b ld n S C l = 0 := if_neg h
theorem qcu_bd (hl : ∀ i, i < n → ld i ≤ 99) : qcu a b ld n S C l ≤ n * 99 := by
  unfold qcu
  split
  · exact qfl_bd hl
  · exact Nat.zero_le _
theorem qg_L_mo (h : qg_L a b S (qg_del C l) x) : qg_L a b S C x := by
  obtain ⟨s, h1, h2⟩ := h
  exact ⟨s, h1, qg_del_mo h2⟩
theorem qfl_dark (hl : C l) (h : ¬ qg_L a b S C (a l)) : qfl a b ld n S C l = 0 :=
  qfl_0 (fun q => h (qg_L_mo q)) (fun q => h (qg_L_of (qg_ed hl) (qg_L_mo q)))
theorem qg_L_del (hl : C l) (h : qg_L a b S C (a l)) : qg_L a b S (qg_del C l) (a l) ∨ qg_L a b S (qg_del C l) (b l) := by
  obtain ⟨s, h1, h2⟩ := h
  rcases (qg_del_iff hl).mp h2 with q | ⟨-, q⟩ | ⟨-, q⟩
  · exact Or.inl ⟨s, h1, q⟩
  · exact Or.inr ⟨s, h1, q⟩
  · exact Or.inl ⟨s, h1, q⟩
theorem qg_keep (hF : qg_F a b C) (h0 : C l0) (hE0 : qg_E a b l0 x w) (hl : C l) (hE : qg_E a b l x y) (h : qg_R a b (qg_del C l0) w s) : qg_R a b (qg_del C l) w s := by
  have hwx : ¬ qg_R a b (qg_del C l0) w x := fun q => qg_E_F hF hE0 h0 (qg_sy q)
  refine (h (fun z => qg_R a b (qg_del C l) w z ∧ qg_R a b (qg_del C l0) w z) ⟨qg_rf, qg_rf⟩ ?_).1
  intro j hj
  have st : ∀ u v, qg_E a b j u v → (qg_R a b (qg_del C l) w u ∧ qg_R a b (qg_del C l0) w u) → (qg_R a b (qg_del C l) w v ∧ qg_R a b (qg_del C l0) w v) := by
    intro u v hu q
    have hv : qg_R a b (qg_del C l0) w v := qg_tr q.2 (qg_E_R hu hj)
    refine ⟨?_, hv⟩
    by_cases e : j = l
    · subst e
      rcases hE with ⟨e1, e2⟩ | ⟨e1, e2⟩ <;> rcases hu with ⟨f1, f2⟩ | ⟨f1, f2⟩
      · exact absurd (by rw [← e1, f1]; exact q.2) hwx
      · exact absurd (by rw [← e1, f2]; exact hv) hwx
      · exact absurd (by rw [← e1, f2]; exact hv) hwx
      · exact absurd (by rw [← e1, f1]; exact q.2) hwx
    · exact qg_tr q.1 (qg_E_R hu ⟨hj.1, e⟩)
  exact ⟨st _ _ (Or.inl ⟨rfl, rfl⟩), st _ _ (Or.inr ⟨rfl, rfl⟩)⟩
/-- from s over l0 to x: where one stands on the way from the source -/
def qat (a b : Nat → Nat) (C : Nat → Prop) (s x l0 : Nat) : Prop := (C l0 ∧ ∃ w, qg_E a b l0 x w ∧ qg_R a b (qg_del C l0) w s) ∨ (¬ C l0 ∧ x = s)
theorem qat.h0 (h : qat a b C s x l0) : C l0 → ∃ w, qg_E a b l0 x w := fun q => h.elim (fun r => let ⟨w, e, _⟩ := r.2; ⟨w, e⟩) (fun r => absurd q r.1)
theorem qat.R (hF : qg_F a b C) (h : qat a b C s x l0) (hl : C l) (hne : l ≠ l0) (hE : qg_E a b l x y) : qg_R a b (qg_del C l) x s := by
  rcases h with ⟨h0, w, h1, h2⟩ | ⟨h0, h1⟩
  · exact qg_tr (qg_E_R h1 ⟨h0, fun e => hne e.symm⟩) (qg_keep hF h0 h1 hl hE h2)
  · subst h1; exact qg_rf
theorem qat.next (hF : qg_F a b C) (h : qat a b C s x l0) (hl : C l) (hne : l ≠ l0) (hE : qg_E a b l x y) : qat a b C s y l := Or.inl ⟨hl, x, qg_E_sy hE, h.R hF hl hne hE⟩
theorem qat.fl (hF : qg_F a b C) (hO : qg_O a b S C) (hs : S s) (h : qat a b C s x l0) (hl : C l) (hne : l ≠ l0) (hE : qg_E a b l x y) : qfl a b ld n S C l = qs ld (qg_R a b (qg_del C l) y) n := by
  have hx := h.R hF hl hne hE
  refine qfl_E hE ⟨s, hs, hx⟩ (fun q => ?_)
  obtain ⟨t, h1, h2⟩ := q
  have e : t = s := hO t s h1 hs (qg_tr (qg_sy (qg_del_mo h2)) (qg_tr (qg_sy (qg_E_R hE hl)) (qg_del_mo hx)))
  subst e
  exact qg_E_F hF hE hl (qg_tr hx (qg_sy h2))
theorem qat.cnt (hF : qg_F a b C) (h : qat a b C s x l0) (hx : x < n) (hl : C l) (hne : l ≠ l0) (hE : qg_E a b l x y) : qc (qg_R a b (qg_del C l) y) n + 1 ≤ qc (qg_R a b (qg_del C l0) x) n :=
  qc_lt (fun i _ q => (qg_split hF h.h0).mpr (Or.inr ⟨l, y, hl, hne, hE, q⟩)) hx qg_rf (fun q => qg_E_F hF hE hl (qg_sy q))
end FL
/-- the class's net: what is built -/
def qW (u : sg_St) (n k : Nat) (a b ld cap pr rt : Nat → Nat) (S B : Nat → Prop) : Prop := qX u n k a b ∧ (∀ i, i < n → u 11 i = nI (cap i) ∧ u 12 i = nI (ld i) ∧ u 13 i = nI (pr i) ∧ cap i ≤ 999 ∧ ld i ≤ 99 ∧ pr i ≤ 9 ∧ (S i → 0 < cap i ∧ ld i = 0)) ∧ (∀ l, l < k → u 16 l = nI (rt l) ∧ rt l ≤ 999 ∧ 0 < rt l) ∧ qS (u 2 0) S ∧ (∀ i, S i → i < n) ∧ qS (u 3 0) B ∧ (∀ l, B l → l < k)
def qKW (u v : sg_St) : Prop := ∀ j, (j < 4 ∨ (11 ≤ j ∧ j < 17)) → v j = u j
section FM
variable {N n k : Nat} {u v : sg_St} {a b ld cap pr rt : Nat → Nat} {C S B P : Nat → Prop} {c s : Int32} {x y l : Nat}
theorem qKW.of17 (h : ∀ j, j ≠ 17 → v j = u j) : qKW u v := fun j hj => h j (by omega)
theorem qKW.offr (h : qfr u v) : qKW u v := fun j hj => h j (by omega) (by omega)
theorem qW.fr (h : qW u n k a b ld cap pr rt S B) (f : qKW u v) : qW v n k a b ld cap pr rt S B := by
  obtain ⟨⟨h0, h1, hn, hk, he⟩, h2, h3, h4, h5, h6, h7⟩ := h
  refine ⟨⟨by rw [f 0 (by omega)]; exact h0, by rw [f 1 (by omega)]; exact h1, hn, hk, fun l hl => ?_⟩, fun i hi => ?_, fun l hl => ?_, by rw [f 2 (by omega)]; exact h4, h5, by rw [f 3 (by omega)]; exact h6, h7⟩
  · rw [f 14 (by omega), f 15 (by omega)]; exact he l hl
  · rw [f 11 (by omega), f 12 (by omega), f 13 (by omega)]; exact h2 i hi
  · rw [f 16 (by omega)]; exact h3 l hl
theorem qW.ldv (h : qW u n k a b ld cap pr rt S B) : ∀ i, i < n → u 12 i = nI (ld i) := fun i hi => (h.2.1 i hi).2.1
theorem qW.ld9 (h : qW u n k a b ld cap pr rt S B) : ∀ i, i < n → ld i ≤ 99 := fun i hi => (h.2.1 i hi).2.2.2.2.1
theorem qW.sS (h : qW u n k a b ld cap pr rt S B) : qS (u 2 0) S := h.2.2.2.1
theorem qW.Sn (h : qW u n k a b ld cap pr rt S B) : ∀ i, S i → i < n := h.2.2.2.2.1
theorem qW.sB (h : qW u n k a b ld cap pr rt S B) : qS (u 3 0) B := h.2.2.2.2.2.1
/-- the slate holds what was measured, or nothing -/
def qok (a b ld : Nat → Nat) (n : Nat) (S C : Nat → Prop) (u : sg_St) : Prop := ∀ l, l < 12 → u 17 l = 0 ∨ (C l ∧ u 17 l = nI (qfl a b ld n S C l))
theorem qx_draw (hN : 20 < N) (hc : qS c C) (hC : ∀ l, C l → l < k) (hF : qg_F a b C) (hO : qg_O a b S C) {s : Nat} (hs : S s) : ∀ (d : Nat) (u : sg_St) (x l0 : Nat) (came : Int32) (dep : Nat), qW u n k a b ld cap pr rt S B → qok a b ld n S C u → x < n → qat a b C s x l0 → (∀ l, l < 12 → (nI l = came ↔ l = l0)) → dep + qc (qg_R a b (qg_del C l0) x) n ≤ 10 → 11 ≤ d + dep → ∃ u', fX0_drawAt N d u (nI x) came c (nI dep) = some (nI (qs ld (qg_R a b (qg_del C l0) x) n), u') ∧ (∀ j, j ≠ 17 → u' j = u j) ∧ qok a b ld n S C u' ∧ (∀ l, C l → u 17 l = nI (qfl a b ld n S C l) → u' 17 l = nI (qfl a b ld n S C l)) ∧ (∀ l, C l → l ≠ l0 → qg_R a b (qg_del C l0) x (a l) → u' 17 l = nI (qfl a b ld n S C l))
  | 0, u, x, l0, came, dep, hW, hok, hx, hat, hcm, hd, hf => by
    have h1 : 1 ≤ qc (qg_R a b (qg_del C l0) x) n := qc_pos hx qg_rf
    omega
  | d + 1, u, x, l0, came, dep, hW, hok, hx, hat, hcm, hd, hf => by
    have hg := hW.1
    have hk := hg.2.2.2.1
    have hn := hg.2.2.1
    have h1 : 1 ≤ qc (qg_R a b (qg_del C l0) x) n := qc_pos hx qg_rf
    obtain ⟨r, hr, hdr, hfr, hok2, hmo, hbl⟩ := q_loop (f := fun z : sg_St × Int32 × Int32 => fX0_drawAt_L22 N (fX0_drawAt N d) z.1 (nI x) came c (nI dep) z.2.1 z.2.2) (m := 12) (N := N) (x0 := (u, nI (ld x), 0))
      (fun i z => z.2.2 = nI i ∧ z.2.1 = nI (qs ld (fun q => q = x ∨ ∃ l y, l < i ∧ C l ∧ l ≠ l0 ∧ qg_E a b l x y ∧ qg_R a b (qg_del C l) y q) n) ∧ (∀ j, j ≠ 17 → z.1 j = u j) ∧ qok a b ld n S C z.1 ∧ (∀ l, C l → u 17 l = nI (qfl a b ld n S C l) → z.1 17 l = nI (qfl a b ld n S C l)) ∧ (∀ l l' y, l' < i → C l' → l' ≠ l0 → qg_E a b l' x y → C l → (l = l' ∨ (l ≠ l' ∧ qg_R a b (qg_del C l') y (a l))) → z.1 17 l = nI (qfl a b ld n S C l)))
      (fun r => r.2 = nI (qs ld (fun q => q = x ∨ ∃ l y, C l ∧ l ≠ l0 ∧ qg_E a b l x y ∧ qg_R a b (qg_del C l) y q) n) ∧ (∀ j, j ≠ 17 → r.1 j = u j) ∧ qok a b ld n S C r.1 ∧ (∀ l, C l → u 17 l = nI (qfl a b ld n S C l) → r.1 17 l = nI (qfl a b ld n S C l)) ∧ (∀ l l' y, C l' → l' ≠ l0 → qg_E a b l' x y → C l → (l = l' ∨ (l ≠ l' ∧ qg_R a b (qg_del C l') y (a l))) → r.1 17 l = nI (qfl a b ld n S C l)))
      (by omega) ⟨rfl, by
        show nI (ld x) = _
        rw [qs_cg (g := ld) (Q := fun q => q = x) (fun i _ => ⟨fun q => q.elim id (fun ⟨l, y, q, _⟩ => absurd q (Nat.not_lt_zero l)), Or.inl⟩) (fun _ _ _ => rfl), qs_one hx], fun _ _ => rfl, hok, fun _ _ q => q, fun l l' y q => absurd q (Nat.not_lt_zero l')⟩ (by
      rintro i ⟨v, dr, z⟩ hi ⟨hz, hdr, hfr, hokv, hmo, hbl⟩
      refine Classical.byContradiction (fun hG => ?_)
      replace hz : z = nI i := hz
      subst hz
      replace hdr : dr = _ := hdr
      subst hdr
      have hWv : qW v n k a b ld cap pr rt S B := hW.fr (qKW.of17 hfr)
      have head : fX0_drawAt_L22 N (fX0_drawAt N d) v (nI x) came c (nI dep) (nI (qs ld (fun q => q = x ∨ ∃ l y, l < i ∧ C l ∧ l ≠ l0 ∧ qg_E a b l x y ∧ qg_R a b (qg_del C l) y q) n)) (nI i) = (if nI i = came then some (.inl (v, nI (qs ld (fun q => q = x ∨ ∃ l y, l < i ∧ C l ∧ l ≠ l0 ∧ qg_E a b l x y ∧ qg_R a b (qg_del C l) y q) n), nI (i + 1))) else sg_b (fX5_has N c (nI i)) (fun r2 => (if r2 = 0 then some (.inl (v, nI (qs ld (fun q => q = x ∨ ∃ l y, l < i ∧ C l ∧ l ≠ l0 ∧ qg_E a b l x y ∧ qg_R a b (qg_del C l) y q) n), nI (i + 1))) else sg_b (fX1_acrossFrom N v (nI x) (nI i)) (fun r5 => fX0_drawAt_j58 N (fX0_drawAt N d) v (nI x) came c (nI dep) (nI (qs ld (fun q => q = x ∨ ∃ l y, l < i ∧ C l ∧ l ≠ l0 ∧ qg_E a b l x y ∧ qg_R a b (qg_del C l) y q) n)) (nI i) r5)))) := by
        have j1 : fX0_drawAt_j58 N (fX0_drawAt N d) v (nI x) came c (nI dep) (nI (qs ld (fun q => q = x ∨ ∃ l y, l < i ∧ C l ∧ l ≠ l0 ∧ qg_E a b l x y ∧ qg_R a b (qg_del C l) y q) n)) (nI i) (-1) = some (.inl (v, nI (qs ld (fun q => q = x ∨ ∃ l y, l < i ∧ C l ∧ l ≠ l0 ∧ qg_E a b l x y ∧ qg_R a b (qg_del C l) y q) n), nI (i + 1))) := by
          unfold fX0_drawAt_j58
          rw [q_im1a, q_sc]
        unfold fX0_drawAt_L22
        rw [if_neg (q_12n hi), j1]
      have skip : (∀ y, C i → i ≠ l0 → qg_E a b i x y → False) → fX0_drawAt_L22 N (fX0_drawAt N d) v (nI x) came c (nI dep) (nI (qs ld (fun q => q = x ∨ ∃ l y, l < i ∧ C l ∧ l ≠ l0 ∧ qg_E a b l x y ∧ qg_R a b (qg_del C l) y q) n)) (nI i) = some (.inl (v, nI (qs ld (fun q => q = x ∨ ∃ l y, l < i ∧ C l ∧ l ≠ l0 ∧ qg_E a b l x y ∧ qg_R a b (qg_del C l) y q) n), nI (i + 1))) → False := fun hno e => hG (Or.inl ⟨_, e, rfl, by
          show nI _ = nI _
          refine congrArg nI (qs_cg (fun q _ => ⟨fun r => r.imp id (fun ⟨l, y, r1, r2⟩ => ⟨l, y, by omega, r2⟩), fun r => r.imp id (fun ⟨l, y, r1, r2, r3, r4, r5⟩ => ⟨l, y, ?_, r2, r3, r4, r5⟩)⟩) (fun _ _ _ => rfl))
          rcases Nat.lt_or_ge l i with g | g
          · exact g
          · have e : l = i := by omega
            subst e
            exact (hno y r2 r3 r4).elim, hfr, hokv, hmo, fun l l' y r1 r2 r3 r4 r5 r6 => by
          rcases Nat.lt_or_ge l' i with g | g
          · exact hbl l l' y g r2 r3 r4 r5 r6
          · have e : l' = i := by omega
            subst e
            exact (hno y r2 r3 r4).elim⟩)
      by_cases q0 : i = l0
      · refine skip (fun y _ r _ => r q0) ?_
        rw [head, if_pos ((hcm i hi).mpr q0)]
      · have q0' : ¬ nI i = came := fun e => q0 ((hcm i hi).mp e)
        by_cases q1 : C i
        · rcases qx_across (N := N) hWv.1 hx (hC i q1) with ⟨y, f1, f2, f3⟩ | ⟨f1, f3⟩
          · have hcnt := hat.cnt (n := n) hF hx q1 q0 f1
            obtain ⟨v', g1, g2, g3, g4, g5⟩ := qx_draw hN hc hC hF hO hs d v y i (nI i) (dep + 1) hWv hokv f2 (hat.next hF q1 q0 f1) (fun l hl => q_eq (by omega) (by omega)) (by omega) (by omega)
            have hfl : qfl a b ld n S C i = qs ld (qg_R a b (qg_del C i) y) n := hat.fl hF hO hs q1 q0 f1
            refine hG (Or.inl ⟨(sg_set v' 17 i (nI (qs ld (qg_R a b (qg_del C i) y) n)), nI (qs ld (fun q => q = x ∨ ∃ l y, l < i + 1 ∧ C l ∧ l ≠ l0 ∧ qg_E a b l x y ∧ qg_R a b (qg_del C l) y q) n), nI (i + 1)), ?_, rfl, rfl, ?_, ?_, ?_, ?_⟩)
            · show fX0_drawAt_L22 N (fX0_drawAt N d) v (nI x) came c (nI dep) _ (nI i) = _
              rw [head, if_neg q0', hc.has1 q1, q_bs, q_10, f3, q_bs]
              unfold fX0_drawAt_j58
              rw [q_sc dep, g1]
              simp (disch := omega) only [q_ile0, q_ile1, q_ilt0, q_ilt1, q_ieq0, q_ieq1, q_iltz, q_ilez, q_ilez0, q_izlt, q_im1, q_im1a, q_ieqz, q_ieqz0, q_l10, q_l12, q_ck, q_cl, q_gt, q_bs, q_b2s, q_ls, q_sc, nI_add, if_true, if_false, ite_true, ite_false, reduceIte, q_10, q_01, q_11, q_00, sg_set_s, upd_s]
              have e : qs ld (fun q => q = x ∨ ∃ l y, l < i + 1 ∧ C l ∧ l ≠ l0 ∧ qg_E a b l x y ∧ qg_R a b (qg_del C l) y q) n = qs ld (fun q => q = x ∨ ∃ l y, l < i ∧ C l ∧ l ≠ l0 ∧ qg_E a b l x y ∧ qg_R a b (qg_del C l) y q) n + qs ld (qg_R a b (qg_del C i) y) n := by
                rw [← qs_or (Q := qg_R a b (qg_del C i) y) (fun q _ r1 r2 => by
                  rcases r1 with r1 | ⟨l, y', r3, r4, r5, r6, r7⟩
                  · subst r1; exact qg_E_F hF f1 q1 (qg_sy r2)
                  · exact qg_disj hF r4 r6 q1 f1 (by omega) r7 r2)]
                refine qs_cg (fun q _ => ⟨fun r => ?_, fun r => ?_⟩) (fun _ _ _ => rfl)
                · rcases r with r | ⟨l, y', r3, r4, r5, r6, r7⟩
                  · exact Or.inl (Or.inl r)
                  · by_cases e : l = i
                    · subst e
                      rw [qg_E_un f1 r6 (hg.2.2.2.2 l (hC l q1)).2.2.2.2]
                      exact Or.inr r7
                    · exact Or.inl (Or.inr ⟨l, y', by omega, r4, r5, r6, r7⟩)
                · rcases r with (r | ⟨l, y', r3, r4⟩) | r
                  · exact Or.inl r
                  · exact Or.inr ⟨l, y', by omega, r4⟩
                  · exact Or.inr ⟨i, y, by omega, q1, q0, f1, r⟩
              rw [e]
            · intro j hj
              show sg_set v' 17 i _ j = _
              rw [sg_set_o hj, g2 j hj]
              exact hfr j hj
            · intro l hl
              show sg_set v' 17 i _ 17 l = 0 ∨ (C l ∧ sg_set v' 17 i _ 17 l = _)
              rw [sg_set_s]
              by_cases e : l = i
              · subst e
                rw [upd_s, hfl]
                exact Or.inr ⟨q1, rfl⟩
              · rw [upd_o e]
                exact g3 l hl
            · intro l r1 r2
              show sg_set v' 17 i _ 17 l = _
              rw [sg_set_s]
              by_cases e : l = i
              · subst e
                rw [upd_s, hfl]
              · rw [upd_o e]
                exact g4 l r1 (hmo l r1 r2)
            · intro l l' y' r1 r2 r3 r4 r5 r6
              show sg_set v' 17 i _ 17 l = _
              rw [sg_set_s]
              by_cases e : l = i
              · subst e
                rw [upd_s, hfl]
              · rw [upd_o e]
                by_cases e2 : l' = i
                · subst e2
                  rcases r6 with r6 | r6
                  · exact absurd r6 e
                  · rw [← qg_E_un f1 r4 (hg.2.2.2.2 l' (hC l' q1)).2.2.2.2] at r6
                    exact g5 l r5 r6.1 r6.2
                · exact g4 l r5 (hbl l l' y' (by omega) r2 r3 r4 r5 r6)
          · refine skip (fun y _ _ r => f1 y r) ?_
            rw [head, if_neg q0', hc.has1 q1, q_bs, q_10, f3, q_bs]
            unfold fX0_drawAt_j58
            rw [q_im1a, q_sc]
        · refine skip (fun y r _ _ => q1 r) ?_
          rw [head, if_neg q0', hc.has0 (by omega) q1, q_bs, q_00]) (by
      rintro ⟨v, dr, z⟩ ⟨hz, hdr, hfr, hokv, hmo, hbl⟩
      replace hz : z = nI 12 := hz
      subst hz
      refine ⟨(v, dr), ?_, ?_, hfr, hokv, hmo, fun l l' y r1 r2 r3 r4 r5 => hbl l l' y (by have := hC l' r1; omega) r1 r2 r3 r4 r5⟩
      · show fX0_drawAt_L22 N (fX0_drawAt N d) v (nI x) came c (nI dep) dr (nI 12) = _
        unfold fX0_drawAt_L22
        simp (disch := omega) only [q_ile0, q_ile1, q_ilt0, q_ilt1, q_ieq0, q_ieq1, q_iltz, q_ilez, q_ilez0, q_izlt, q_im1, q_im1a, q_ieqz, q_ieqz0, q_l10, q_l12, q_ck, q_cl, q_gt, q_bs, q_b2s, q_ls, q_sc, nI_add, if_true, if_false, ite_true, ite_false, reduceIte, q_10, q_01, q_11, q_00]
      · show dr = _
        refine hdr.trans (congrArg nI (qs_cg (fun q _ => ⟨fun r => r.imp id (fun ⟨l, y, r1, r2⟩ => ⟨l, y, r2⟩), fun r => r.imp id (fun ⟨l, y, r2⟩ => ⟨l, y, by have := hC l r2.1; omega, r2⟩)⟩) (fun _ _ _ => rfl))))
    refine ⟨r.1, ?_, hfr, hok2, hmo, fun l r1 r2 r3 => ?_⟩
    · show fX0_drawAt_B N (fX0_drawAt N d) u (nI x) came c (nI dep) = _
      unfold fX0_drawAt_B
      rw [qx_load hg hx, hW.ldv x hx, q_bs, hr, q_bs, hdr, qs_cg (g := ld) (Q := qg_R a b (qg_del C l0) x) (fun q _ => (qg_split hF hat.h0).symm) (fun _ _ _ => rfl)]
      simp (disch := omega) only [q_ile0, q_ile1, q_ilt0, q_ilt1, q_ieq0, q_ieq1, q_iltz, q_ilez, q_ilez0, q_izlt, q_im1, q_im1a, q_ieqz, q_ieqz0, q_l10, q_l12, q_ck, q_cl, q_gt, q_bs, q_b2s, q_ls, q_sc, nI_add, if_true, if_false, ite_true, ite_false, reduceIte, q_10, q_01, q_11, q_00]
    · rcases (qg_split hF hat.h0).mp r3 with q | ⟨l', y, q1, q2, q3, q4⟩
      · exact hbl l l (b l) r1 r2 (Or.inl ⟨q, rfl⟩) r1 (Or.inl rfl)
      · by_cases e : l = l'
        · exact hbl l l' y q1 q2 q3 r1 (Or.inl e)
        · exact hbl l l' y q1 q2 q3 r1 (Or.inr ⟨e, q4⟩)
theorem qx_measure (hN : 20 < N) (hW : qW u n k a b ld cap pr rt S B) (hc : qS c C) (hC : ∀ l, C l → l < k) (hF : qg_F a b C) (hO : qg_O a b S C) : ∃ u', fX0_measure N u c = some u' ∧ (∀ j, j ≠ 17 → u' j = u j) ∧ ∀ l, l < 12 → u' 17 l = nI (qcu a b ld n S C l) := by
  have hg := hW.1
  have hk := hg.2.2.2.1
  have hn := hg.2.2.1
  have hC12 : ¬ C 12 := fun q => by have := hC 12 q; omega
  have hdel : ∀ l, qg_del C 12 l ↔ C l := fun l => ⟨fun q => q.1, fun q => ⟨q, fun e => hC12 (e ▸ q)⟩⟩
  obtain ⟨u1, e1, e2, e3⟩ := q_loop (f := fun z : sg_St × Int32 => fX0_measure_L2 N z.1 c z.2) (m := 12) (N := N) (x0 := (u, 0)) (fun i z => z.2 = nI i ∧ (∀ j, j ≠ 17 → z.1 j = u j) ∧ ∀ l, l < i → z.1 17 l = 0) (fun r => (∀ j, j ≠ 17 → r j = u j) ∧ ∀ l, l < 12 → r 17 l = 0) (by omega) ⟨rfl, fun _ _ => rfl, fun l hl => absurd hl (Nat.not_lt_zero l)⟩ (by
    rintro i ⟨v, z⟩ hi ⟨hz, h1, h2⟩
    replace hz : z = nI i := hz
    subst hz
    refine Or.inl ⟨(sg_set v 17 i 0, nI (i + 1)), ?_, rfl, fun j hj => ?_, fun l hl => ?_⟩
    · show fX0_measure_L2 N v c (nI i) = _
      unfold fX0_measure_L2
      simp (disch := omega) only [q_ile0, q_ile1, q_ilt0, q_ilt1, q_ieq0, q_ieq1, q_iltz, q_ilez, q_ilez0, q_izlt, q_im1, q_im1a, q_ieqz, q_ieqz0, q_l10, q_l12, q_ck, q_cl, q_gt, q_bs, q_b2s, q_ls, q_sc, nI_add, if_true, if_false, ite_true, ite_false, reduceIte, q_10, q_01, q_11, q_00]
    · show sg_set v 17 i 0 j = _
      rw [sg_set_o hj]
      exact h1 j hj
    · show sg_set v 17 i 0 17 l = _
      rw [sg_set_s]
      by_cases e : l = i
      · rw [e, upd_s]
      · rw [upd_o e]
        exact h2 l (by omega)) (by
    rintro ⟨v, z⟩ ⟨hz, h1, h2⟩
    replace hz : z = nI 12 := hz
    subst hz
    refine ⟨v, ?_, h1, h2⟩
    show fX0_measure_L2 N v c (nI 12) = _
    unfold fX0_measure_L2
    simp (disch := omega) only [q_ile0, q_ile1, q_ilt0, q_ilt1, q_ieq0, q_ieq1, q_iltz, q_ilez, q_ilez0, q_izlt, q_im1, q_im1a, q_ieqz, q_ieqz0, q_l10, q_l12, q_ck, q_cl, q_gt, q_bs, q_b2s, q_ls, q_sc, nI_add, if_true, if_false, ite_true, ite_false, reduceIte, q_10, q_01, q_11, q_00])
  obtain ⟨u2, f1, f2, f3, f4⟩ := q_loop (f := fun z : sg_St × Int32 => fX0_measure_L23 N z.1 c z.2) (m := n) (N := N) (x0 := (u1, 0)) (fun i z => z.2 = nI i ∧ (∀ j, j ≠ 17 → z.1 j = u j) ∧ qok a b ld n S C z.1 ∧ ∀ s l, s < i → S s → C l → qg_R a b C s (a l) → z.1 17 l = nI (qfl a b ld n S C l)) (fun r => (∀ j, j ≠ 17 → r j = u j) ∧ qok a b ld n S C r ∧ ∀ s l, S s → C l → qg_R a b C s (a l) → r 17 l = nI (qfl a b ld n S C l)) (by omega) ⟨rfl, e2, fun l hl => Or.inl (e3 l hl), fun s l hl => absurd hl (Nat.not_lt_zero s)⟩ (by
    rintro i ⟨v, z⟩ hi ⟨hz, h1, h2, h3⟩
    replace hz : z = nI i := hz
    subst hz
    have hWv : qW v n k a b ld cap pr rt S B := hW.fr (qKW.of17 h1)
    by_cases q : S i
    · obtain ⟨v', g1, g2, g3, g4, g5⟩ := qx_draw (d := 13) (u := v) (x := i) (l0 := 12) (came := -1) (dep := 0) hN hc hC hF hO q hWv h2 hi (Or.inr ⟨hC12, rfl⟩) (fun l hl => ⟨fun e => absurd e (q_m1 (by omega)), fun e => by omega⟩) (by have := qc_le (P := qg_R a b (qg_del C 12) i) (n := n); omega) (by omega)
      refine Or.inl ⟨(v', nI (i + 1)), ?_, rfl, fun j hj => (g2 j hj).trans (h1 j hj), g3, fun s l r1 r2 r3 r4 => ?_⟩
      · show fX0_measure_L23 N v c (nI i) = _
        unfold fX0_measure_L23
        rw [hWv.sS.has1 q, show (0 : Int32) = nI 0 from rfl, g1]
        simp (disch := omega) only [q_ile0, q_ile1, q_ilt0, q_ilt1, q_ieq0, q_ieq1, q_iltz, q_ilez, q_ilez0, q_izlt, q_im1, q_im1a, q_ieqz, q_ieqz0, q_l10, q_l12, q_ck, q_cl, q_gt, q_bs, q_b2s, q_ls, q_sc, nI_add, if_true, if_false, ite_true, ite_false, reduceIte, q_10, q_01, q_11, q_00, hWv.1.1]
        rfl
      · by_cases e : s = i
        · subst e
          exact g5 l r3 (fun e => hC12 (e ▸ r3)) ((qg_cg hdel).mpr r4)
        · exact g4 l r3 (h3 s l (by omega) r2 r3 r4)
    · refine Or.inl ⟨(v, nI (i + 1)), ?_, rfl, h1, h2, fun s l r1 r2 r3 r4 => ?_⟩
      · show fX0_measure_L23 N v c (nI i) = _
        unfold fX0_measure_L23
        simp (disch := omega) only [q_ile0, q_ile1, q_ilt0, q_ilt1, q_ieq0, q_ieq1, q_iltz, q_ilez, q_ilez0, q_izlt, q_im1, q_im1a, q_ieqz, q_ieqz0, q_l10, q_l12, q_ck, q_cl, q_gt, q_bs, q_b2s, q_ls, q_sc, nI_add, if_true, if_false, ite_true, ite_false, reduceIte, q_10, q_01, q_11, q_00, hWv.1.1, hWv.sS.has0 (show i < 32 by omega) q]
      · by_cases e : s = i
        · subst e; exact absurd r2 q
        · exact h3 s l (by omega) r2 r3 r4) (by
    rintro ⟨v, z⟩ ⟨hz, h1, h2, h3⟩
    replace hz : z = nI n := hz
    subst hz
    have hWv : qW v n k a b ld cap pr rt S B := hW.fr (qKW.of17 h1)
    refine ⟨v, ?_, h1, h2, fun s l r1 r2 r3 => h3 s l (hW.Sn s r1) r1 r2 r3⟩
    show fX0_measure_L23 N v c (nI n) = _
    unfold fX0_measure_L23
    simp (disch := omega) only [q_ile0, q_ile1, q_ilt0, q_ilt1, q_ieq0, q_ieq1, q_iltz, q_ilez, q_ilez0, q_izlt, q_im1, q_im1a, q_ieqz, q_ieqz0, q_l10, q_l12, q_ck, q_cl, q_gt, q_bs, q_b2s, q_ls, q_sc, nI_add, if_true, if_false, ite_true, ite_false, reduceIte, q_10, q_01, q_11, q_00, hWv.1.1])
  refine ⟨u2, ?_, f2, fun l hl => ?_⟩
  · unfold fX0_measure
    rw [e1, q_bs, f1]
    rfl
  · by_cases q : C l
    · rw [qcu_1 q]
      by_cases r : qg_L a b S C (a l)
      · obtain ⟨s, r1, r2⟩ := r
        exact f4 s l r1 q (qg_sy r2)
      · rcases f3 l hl with g | g
        · rw [g, qfl_dark q r]
          rfl
        · exact g.2
    · rw [qcu_0 q]
      rcases f3 l hl with g | g
      · exact g
      · exact absurd g.1 q
theorem qx_curIn (hN : 20 < N) (hW : qW u n k a b ld cap pr rt S B) (hc : qS c C) (hC : ∀ l, C l → l < k) (hF : qg_F a b C) (hO : qg_O a b S C) (hl : l < k) : ∃ u', fX0_currentIn N u (nI l) c = some (nI (qcu a b ld n S C l), u') ∧ qfr u u' := by
  obtain ⟨u', e1, e2, e3⟩ := qx_measure hN hW hc hC hF hO
  have hk := hW.1.2.2.2.1
  have hW' := hW.fr (qKW.of17 e2)
  refine ⟨u', ?_, fun j h1 _ => e2 j h1⟩
  unfold fX0_currentIn
  rw [e1, q_bs, qx_isL hW'.1 hl]
  simp (disch := omega) only [q_ile0, q_ile1, q_ilt0, q_ilt1, q_ieq0, q_ieq1, q_iltz, q_ilez, q_ilez0, q_izlt, q_im1, q_im1a, q_ieqz, q_ieqz0, q_l10, q_l12, q_ck, q_cl, q_gt, q_bs, q_b2s, q_ls, q_sc, nI_add, if_true, if_false, ite_true, ite_false, reduceIte, q_10, q_01, q_11, q_00, e3 l (show l < 12 by omega)]
theorem qx_sumCur (hN : 20 < N) (hW : qW u n k a b ld cap pr rt S B) (hc : qS c C) (hC : ∀ l, C l → l < k) (hF : qg_F a b C) (hO : qg_O a b S C) : ∃ u', fX0_sumOfCurrents N u c = some (nI (qs (qcu a b ld n S C) (fun _ => True) 12), u') ∧ qfr u u' := by
  obtain ⟨u', e1, e2, e3⟩ := qx_measure hN hW hc hC hF hO
  refine ⟨u', ?_, fun j h1 _ => e2 j h1⟩
  unfold fX0_sumOfCurrents
  rw [e1, q_bs, q_sum (g := qcu a b ld n S C) (P := fun _ => True) (n := 12) (by omega) (fun i w hi hp => absurd trivial hp) (fun i w hi hp => by
    show fX0_sumOfCurrents_L9 N u' w (nI i) = _
    unfold fX0_sumOfCurrents_L9
    simp (disch := omega) only [q_ile0, q_ile1, q_ilt0, q_ilt1, q_ieq0, q_ieq1, q_iltz, q_ilez, q_ilez0, q_izlt, q_im1, q_im1a, q_ieqz, q_ieqz0, q_l10, q_l12, q_ck, q_cl, q_gt, q_bs, q_b2s, q_ls, q_sc, nI_add, if_true, if_false, ite_true, ite_false, reduceIte, q_10, q_01, q_11, q_00, e3 i hi]) (fun w => by
    show fX0_sumOfCurrents_L9 N u' w (nI 12) = _
    unfold fX0_sumOfCurrents_L9
    simp (disch := omega) only [q_ile0, q_ile1, q_ilt0, q_ilt1, q_ieq0, q_ieq1, q_iltz, q_ilez, q_ilez0, q_izlt, q_im1, q_im1a, q_ieqz, q_ieqz0, q_l10, q_l12, q_ck, q_cl, q_gt, q_bs, q_b2s, q_ls, q_sc, nI_add, if_true, if_false, ite_true, ite_false, reduceIte, q_10, q_01, q_11, q_00])]
  rfl
theorem qx_rat0 (hg : qX u n k a b) (h1 : k ≤ l) (h2 : l < 12) : fX1_ratingAt N u (nI l) = some 0 := by
  unfold fX1_ratingAt
  rcases qx_isLine (N := N) hg (nI l) with ⟨j, g1, g2, g3⟩ | ⟨g1, g2⟩
  · have hk := hg.2.2.2.1
    rw [q_eq (by omega) (by omega)] at g2
    omega
  · rw [g2]
    rfl
theorem qx_over (hN : 20 < N) (hW : qW u n k a b ld cap pr rt S B) (hc : qS c C) (hC : ∀ l, C l → l < k) (hF : qg_F a b C) (hO : qg_O a b S C) : ∃ u', fX0_firstOverloaded N u c = some (qf (fun l => rt l < qcu a b ld n S C l) k, u') ∧ qfr u u' := by
  obtain ⟨u', e1, e2, e3⟩ := qx_measure hN hW hc hC hF hO
  have hk := hW.1.2.2.2.1
  have hn := hW.1.2.2.1
  have hW' := hW.fr (qKW.of17 e2)
  refine ⟨u', ?_, fun j h1 _ => e2 j h1⟩
  have hb : ∀ l, qcu a b ld n S C l ≤ 990 := fun l => by have := qcu_bd (a := a) (b := b) (S := S) (C := C) (l := l) hW.ld9; omega
  have e : qf (fun l => rt l < qcu a b ld n S C l) k = qf (fun l => l < k ∧ rt l < qcu a b ld n S C l) 12 := qf_cg (fun i => ⟨fun q => ⟨by omega, q⟩, fun q => q.2⟩)
  unfold fX0_firstOverloaded
  rw [e1, q_bs, e]
  have step : ∀ i, i < 12 → ¬ (i < k ∧ rt i < qcu a b ld n S C i) → fX0_firstOverloaded_L7 N u' (nI i) = some (.inl (nI (i + 1))) := by
    intro i hi hp
    have hbi := hb i
    unfold fX0_firstOverloaded_L7
    by_cases q : i < k
    · have hr := hW'.2.2.1 i q
      simp (disch := omega) only [q_ile0, q_ile1, q_ilt0, q_ilt1, q_ieq0, q_ieq1, q_iltz, q_ilez, q_ilez0, q_izlt, q_im1, q_im1a, q_ieqz, q_ieqz0, q_l10, q_l12, q_ck, q_cl, q_gt, q_bs, q_b2s, q_ls, q_sc, nI_add, if_true, if_false, ite_true, ite_false, reduceIte, q_10, q_01, q_11, q_00, e3 i hi, qx_rat hW'.1 q, hr.1]
    · have hz : qcu a b ld n S C i = 0 := qcu_0 (fun r => q (hC i r))
      simp (disch := omega) only [q_ile0, q_ile1, q_ilt0, q_ilt1, q_ieq0, q_ieq1, q_iltz, q_ilez, q_ilez0, q_izlt, q_im1, q_im1a, q_ieqz, q_ieqz0, q_l10, q_l12, q_ck, q_cl, q_gt, q_bs, q_b2s, q_ls, q_sc, nI_add, if_true, if_false, ite_true, ite_false, reduceIte, q_10, q_01, q_11, q_00, e3 i hi, qx_rat0 hW'.1 (show k ≤ i by omega) hi, hz]
  have hit : ∀ i, i < 12 → (i < k ∧ rt i < qcu a b ld n S C i) → fX0_firstOverloaded_L7 N u' (nI i) = some (.inr (nI i, u')) := by
    intro i hi hp
    have hbi := hb i
    unfold fX0_firstOverloaded_L7
    have hr := hW'.2.2.1 i hp.1
    simp (disch := omega) only [q_ile0, q_ile1, q_ilt0, q_ilt1, q_ieq0, q_ieq1, q_iltz, q_ilez, q_ilez0, q_izlt, q_im1, q_im1a, q_ieqz, q_ieqz0, q_l10, q_l12, q_ck, q_cl, q_gt, q_bs, q_b2s, q_ls, q_sc, nI_add, if_true, if_false, ite_true, ite_false, reduceIte, q_10, q_01, q_11, q_00, e3 i hi, qx_rat hW'.1 hp.1, hr.1]
  rcases qf_or (fun l => l < k ∧ rt l < qcu a b ld n S C l) 12 with ⟨i, g1, g2, g3, g4⟩ | ⟨g1, g2⟩
  · rw [g4]
    exact q_for (fun j => nI j) (n := i) (by omega) (fun j hj => step j (by omega) (g3 j hj)) (hit i g1 g2)
  · rw [g2]
    refine q_for (fun j => nI j) (n := 12) (by omega) (fun j hj => step j hj (g1 j hj)) ?_
    show fX0_firstOverloaded_L7 N u' (nI 12) = _
    unfold fX0_firstOverloaded_L7
    simp (disch := omega) only [q_ile0, q_ile1, q_ilt0, q_ilt1, q_ieq0, q_ieq1, q_iltz, q_ilez, q_ilez0, q_izlt, q_im1, q_im1a, q_ieqz, q_ieqz0, q_l10, q_l12, q_ck, q_cl, q_gt, q_bs, q_b2s, q_ls, q_sc, nI_add, if_true, if_false, ite_true, ite_false, reduceIte, q_10, q_01, q_11, q_00]
end FM
