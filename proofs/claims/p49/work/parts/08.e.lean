/-! the class's islands -/
section XI
variable {N n k : Nat} {u v : sg_St} {a b ld pr : Nat → Nat} {C S P Q : Nat → Prop} {c s : Int32} {x y l : Nat}
theorem qg_bd (h : ∀ l, C l → a l < n ∧ b l < n) (hx : x < n) (hR : qg_R a b C x y) : y < n :=
  hR (fun z => z < n) hx (fun l hl => ⟨fun _ => (h l hl).2, fun _ => (h l hl).1⟩)
theorem qX.bd (hg : qX u n k a b) (hC : ∀ l, C l → l < k) : ∀ l, C l → a l < n ∧ b l < n := fun l hl => ⟨(hg.2.2.2.2 l (hC l hl)).2.2.1, (hg.2.2.2.2 l (hC l hl)).2.2.2.1⟩
theorem qx_island (hg : qX u n k a b) (hN : 20 < N) (hx : x < n) (hc : qS c C) (hC : ∀ l, C l → l < k) : ∃ r, fX1_islandAround N u (nI x) c = some r ∧ qS r (fun y => qg_R a b C x y) := by
  have hg' := hg
  obtain ⟨h0, h1, hn, hk, he⟩ := hg
  have fin : ∀ I : Nat → Prop, I x → (∀ i, I i → qg_R a b C x i) → (∀ i, I i → ∀ l j, C l → qg_E a b l i j → I j) → ∀ i, I i ↔ qg_R a b C x i := fun I g1 g2 g3 i => ⟨g2 i, fun q => q I g1 (fun l hl => ⟨fun r => g3 _ r l _ hl (Or.inl ⟨rfl, rfl⟩), fun r => g3 _ r l _ hl (Or.inr ⟨rfl, rfl⟩)⟩)⟩
  obtain ⟨r, hr, hs⟩ := q_loop (f := fun z : Int32 × Int32 × Int32 => fX1_islandAround_L11 N u c z.1 z.2.1 z.2.2) (m := 10) (N := N) (x0 := (qB x, qB x, 0)) (fun st z => z.2.2 = nI st ∧ ∃ I W D : Nat → Prop, qS z.1 I ∧ qS z.2.1 W ∧ (∀ i, I i ↔ D i ∨ W i) ∧ (∀ i, D i → ¬ W i) ∧ qc D n = st ∧ I x ∧ (∀ i, I i → i < n ∧ qg_R a b C x i) ∧ (∀ i, D i → ∀ l j, C l → qg_E a b l i j → I j)) (fun r => qS r (fun y => qg_R a b C x y)) (by omega) ⟨rfl, fun i => i = x, fun i => i = x, fun _ => False, qS.bit (by omega), qS.bit (by omega), fun i => ⟨Or.inr, fun q => q.elim (fun q => q.elim) id⟩, fun i q => q.elim, qs_no (fun i _ q => q), rfl, fun i q => by subst q; exact ⟨hx, qg_rf⟩, fun i q => q.elim⟩ (by
    rintro st ⟨w1, w2, w3⟩ hst ⟨hz, I, W, D, g1, g2, g3, g4, g5, g6, g7, g8⟩
    replace hz : w3 = nI st := hz
    subst hz
    replace g1 : qS w1 I := g1
    replace g2 : qS w2 W := g2
    by_cases hw : ∀ i, ¬ W i
    · refine Or.inr ⟨w1, ?_, g1.cg (fin I g6 (fun i q => (g7 i q).2) (fun i q => g8 i (((g3 i).mp q).elim id (fun r => absurd r (hw i)))))⟩
      show fX1_islandAround_L11 N u c w1 w2 (nI st) = _
      unfold fX1_islandAround_L11
      rw [if_pos (c := w2 = 0) (g2.eq0.mpr hw)]
      simp (disch := omega) only [q_ile0, q_ile1, q_ilt0, q_ilt1, q_ieq0, q_ieq1, q_iltz, q_ilez, q_ilez0, q_izlt, q_im1, q_im1a, q_ieqz, q_ieqz0, q_l10, q_l12, q_ck, q_cl, q_gt, q_bs, q_b2s, q_ls, q_sc, nI_add, if_true, if_false, ite_true, ite_false, reduceIte, q_10, q_01, q_11, q_00]
    · obtain ⟨h, hh, hl⟩ : ∃ h, W h ∧ fX5_lowestIn N w2 = some (nI h) := by
        rcases qf_or W 12 with ⟨i, f1, f2, f3, f4⟩ | ⟨f1, f2⟩
        · exact ⟨i, f2, by rw [qx_low g2 hN (fun j q => by have := (g7 j ((g3 j).mpr (Or.inr q))).1; omega), f4]⟩
        · exact absurd (fun i q => f1 i (by have := (g7 i ((g3 i).mpr (Or.inr q))).1; omega) q) hw
      have hhn : h < n := (g7 h ((g3 h).mpr (Or.inr hh))).1
      obtain ⟨nb, hnb, snb⟩ := qx_neigh (N := N) hN hg' hhn hc hC
      have sn := snb.diff g1
      have hI' : ∀ i, (I i ∨ ((∃ l, C l ∧ qg_E a b l h i) ∧ ¬ I i)) ↔ (I i ∨ (∃ l, C l ∧ qg_E a b l h i)) := fun i => ⟨fun q => q.imp id (fun q => q.1), fun q => q.elim Or.inl (fun r => (Classical.em (I i)).imp id (fun z => ⟨r, z⟩))⟩
      refine Or.inl ⟨(w1 ||| (nb &&& (w1 ^^^ (-1))), (w2 &&& (qB h ^^^ (-1))) ||| (nb &&& (w1 ^^^ (-1))), nI (st + 1)), ?_, rfl, fun i => I i ∨ ((∃ l, C l ∧ qg_E a b l h i) ∧ ¬ I i), fun i => (W i ∧ ¬ i = h) ∨ ((∃ l, C l ∧ qg_E a b l h i) ∧ ¬ I i), fun i => D i ∨ i = h, g1.or sn, (g2.diff (qS.bit (show h < 32 by omega))).or sn, ?_, ?_, ?_, Or.inl g6, ?_, ?_⟩
      · show fX1_islandAround_L11 N u c w1 w2 (nI st) = _
        unfold fX1_islandAround_L11
        rw [if_neg (c := w2 = 0) (fun q => hw (g2.eq0.mp q)), hl]
        simp (disch := omega) only [q_ile0, q_ile1, q_ilt0, q_ilt1, q_ieq0, q_ieq1, q_iltz, q_ilez, q_ilez0, q_izlt, q_im1, q_im1a, q_ieqz, q_ieqz0, q_l10, q_l12, q_ck, q_cl, q_gt, q_bs, q_b2s, q_ls, q_sc, nI_add, if_true, if_false, ite_true, ite_false, reduceIte, q_10, q_01, q_11, q_00, hnb, qx_bit]
      · intro i
        constructor
        · intro q
          rcases q with q | q
          · rcases (g3 i).mp q with r | r
            · exact Or.inl (Or.inl r)
            · by_cases e : i = h
              · exact Or.inl (Or.inr e)
              · exact Or.inr (Or.inl ⟨r, e⟩)
          · exact Or.inr (Or.inr q)
        · intro q
          rcases q with (q | q) | (q | q)
          · exact Or.inl ((g3 i).mpr (Or.inl q))
          · subst q; exact Or.inl ((g3 i).mpr (Or.inr hh))
          · exact Or.inl ((g3 i).mpr (Or.inr q.1))
          · exact Or.inr q
      · intro i q r
        rcases q with q | q
        · rcases r with r | r
          · exact g4 i q r.1
          · exact r.2 ((g3 i).mpr (Or.inl q))
        · rcases r with r | r
          · exact r.2 q
          · subst q; exact r.2 ((g3 i).mpr (Or.inr hh))
      · rw [qc_add hhn (fun q => g4 h q hh), g5]
      · intro i q
        rcases (hI' i).mp q with q | ⟨l, q1, q2⟩
        · exact g7 i q
        · have := qg_tr (g7 h ((g3 h).mpr (Or.inr hh))).2 (qg_E_R q2 q1)
          exact ⟨qg_bd (hg'.bd hC) hx this, this⟩
      · intro i q l j q2 q3
        refine (hI' j).mpr ?_
        rcases q with q | q
        · exact Or.inl (g8 i q l j q2 q3)
        · subst q; exact Or.inr ⟨l, q2, q3⟩) (by
    rintro ⟨w1, w2, w3⟩ ⟨hz, I, W, D, g1, g2, g3, g4, g5, g6, g7, g8⟩
    replace hz : w3 = nI 10 := hz
    subst hz
    replace g1 : qS w1 I := g1
    refine ⟨w1, ?_, g1.cg (fin I g6 (fun i q => (g7 i q).2) (fun i q => g8 i (qc_full (by omega) (g7 i q).1)))⟩
    show fX1_islandAround_L11 N u c w1 w2 (nI 10) = _
    unfold fX1_islandAround_L11
    simp (disch := omega) only [q_ile0, q_ile1, q_ilt0, q_ilt1, q_ieq0, q_ieq1, q_iltz, q_ilez, q_ilez0, q_izlt, q_im1, q_im1a, q_ieqz, q_ieqz0, q_l10, q_l12, q_ck, q_cl, q_gt, q_bs, q_b2s, q_ls, q_sc, nI_add, if_true, if_false, ite_true, ite_false, reduceIte, q_10, q_01, q_11, q_00])
  refine ⟨r, ?_, hs⟩
  unfold fX1_islandAround
  rw [qx_bit, q_bs, hr]
  rfl
theorem qx_grown (hg : qX u n k a b) (hN : 20 < N) (hx : x < n) (hc : qS c C) (hC : ∀ l, C l → l < k) : ∃ r, fX1_islandGrownFrom N u (nI x) c = some r ∧ qS r (fun y => qg_R a b C x y) := by
  have hg' := hg
  obtain ⟨h0, h1, hn, hk, he⟩ := hg
  have fin : ∀ I : Nat → Prop, I x → (∀ i, I i → qg_R a b C x i) → (∀ l, C l → (I (a l) ↔ I (b l))) → ∀ i, I i ↔ qg_R a b C x i := fun I g1 g2 g3 i => ⟨g2 i, fun q => q I g1 g3⟩
  -- one round over the lines
  have inner : ∀ (w v3 v5 : Int32) (I : Nat → Prop), qS w I → I x → (∀ i, I i → i < n ∧ qg_R a b C x i) → ∃ r, sg_it (fun z : Int32 × Int32 => fX1_islandGrownFrom_L29 N u c v5 v3 z.1 z.2) N (w, 0) = some r ∧ ∃ I' : Nat → Prop, qS r I' ∧ (∀ i, I i → I' i) ∧ (∀ i, I' i → i < n ∧ qg_R a b C x i) ∧ ((∀ i, I' i → I i) → ∀ l, C l → (I (a l) ↔ I (b l))) := by
    intro w v3 v5 I hw hIx hI
    refine q_loop (f := fun z : Int32 × Int32 => fX1_islandGrownFrom_L29 N u c v5 v3 z.1 z.2) (m := k) (fun i z => z.2 = nI i ∧ ∃ I' : Nat → Prop, qS z.1 I' ∧ (∀ i, I i → I' i) ∧ (∀ i, I' i → i < n ∧ qg_R a b C x i) ∧ ((∀ i, I' i → I i) → ∀ l, l < i → C l → (I (a l) ↔ I (b l)))) _ (by omega) ⟨rfl, I, hw, fun i q => q, hI, fun _ l hl => absurd hl (Nat.not_lt_zero l)⟩ ?_ ?_
    · rintro i ⟨z1, z2⟩ hi ⟨hz, I', g1, g2, g3, g4⟩
      replace hz : z2 = nI i := hz
      subst hz
      replace g1 : qS z1 I' := g1
      obtain ⟨e1, e2, e3, e4, e5⟩ := he i hi
      have skip : (C i → (¬ I' (a i) ∧ ¬ I' (b i))) → ((∀ i, I' i → I i) → ∀ l, l < i + 1 → C l → (I (a l) ↔ I (b l))) := fun hno hs l hl hCl => by
        by_cases e : l = i
        · subst e
          exact ⟨fun q => absurd (g2 _ q) (hno hCl).1, fun q => absurd (g2 _ q) (hno hCl).2⟩
        · exact g4 hs l (by omega) hCl
      have take : C i → (I' (a i) ∨ I' (b i)) → ∃ I'' : Nat → Prop, qS (z1 ||| (qB (a i) ||| qB (b i))) I'' ∧ (∀ i, I i → I'' i) ∧ (∀ i, I'' i → i < n ∧ qg_R a b C x i) ∧ ((∀ i, I'' i → I i) → ∀ l, l < i + 1 → C l → (I (a l) ↔ I (b l))) := fun hCi hor => by
        refine ⟨fun j => I' j ∨ (j = a i ∨ j = b i), g1.or ((qS.bit (show a i < 32 by omega)).or (qS.bit (show b i < 32 by omega))), fun j q => Or.inl (g2 j q), fun j q => ?_, fun hs l hl hCl => ?_⟩
        · rcases q with q | q | q
          · exact g3 j q
          · subst q
            exact ⟨e3, hor.elim (fun r => (g3 _ r).2) (fun r => qg_tr (g3 _ r).2 (qg_ed' hCi))⟩
          · subst q
            exact ⟨e4, hor.elim (fun r => qg_tr (g3 _ r).2 (qg_ed hCi)) (fun r => (g3 _ r).2)⟩
        · by_cases e : l = i
          · subst e
            exact ⟨fun _ => hs _ (Or.inr (Or.inr rfl)), fun _ => hs _ (Or.inr (Or.inl rfl))⟩
          · exact g4 (fun j q => hs j (Or.inl q)) l (by omega) hCl
      refine Or.inl ?_
      show ∃ y, fX1_islandGrownFrom_L29 N u c v5 v3 z1 (nI i) = some (.inl y) ∧ _
      unfold fX1_islandGrownFrom_L29 fX1_islandGrownFrom_j75
      by_cases q1 : C i
      · rw [hc.has1 q1]
        by_cases q2 : I' (a i)
        · refine ⟨(z1 ||| (qB (a i) ||| qB (b i)), nI (i + 1)), ?_, rfl, take q1 (Or.inl q2)⟩
          simp (disch := omega) only [q_ile0, q_ile1, q_ilt0, q_ilt1, q_ieq0, q_ieq1, q_iltz, q_ilez, q_ilez0, q_izlt, q_im1, q_im1a, q_ieqz, q_ieqz0, q_l10, q_l12, q_ck, q_cl, q_gt, q_bs, q_b2s, q_ls, q_sc, nI_add, if_true, if_false, ite_true, ite_false, reduceIte, q_10, q_01, q_11, q_00, h1, e1, e2, g1.has1 q2, qx_bit]
        · by_cases q3 : I' (b i)
          · refine ⟨(z1 ||| (qB (a i) ||| qB (b i)), nI (i + 1)), ?_, rfl, take q1 (Or.inr q3)⟩
            simp (disch := omega) only [q_ile0, q_ile1, q_ilt0, q_ilt1, q_ieq0, q_ieq1, q_iltz, q_ilez, q_ilez0, q_izlt, q_im1, q_im1a, q_ieqz, q_ieqz0, q_l10, q_l12, q_ck, q_cl, q_gt, q_bs, q_b2s, q_ls, q_sc, nI_add, if_true, if_false, ite_true, ite_false, reduceIte, q_10, q_01, q_11, q_00, h1, e1, e2, g1.has0 (show a i < 32 by omega) q2, g1.has1 q3, qx_bit]
          · refine ⟨(z1, nI (i + 1)), ?_, rfl, I', g1, g2, g3, skip (fun _ => ⟨q2, q3⟩)⟩
            simp (disch := omega) only [q_ile0, q_ile1, q_ilt0, q_ilt1, q_ieq0, q_ieq1, q_iltz, q_ilez, q_ilez0, q_izlt, q_im1, q_im1a, q_ieqz, q_ieqz0, q_l10, q_l12, q_ck, q_cl, q_gt, q_bs, q_b2s, q_ls, q_sc, nI_add, if_true, if_false, ite_true, ite_false, reduceIte, q_10, q_01, q_11, q_00, h1, e1, e2, g1.has0 (show a i < 32 by omega) q2, g1.has0 (show b i < 32 by omega) q3]
      · rw [hc.has0 (show i < 32 by omega) q1]
        refine ⟨(z1, nI (i + 1)), ?_, rfl, I', g1, g2, g3, skip (fun q => absurd q q1)⟩
        simp (disch := omega) only [q_ile0, q_ile1, q_ilt0, q_ilt1, q_ieq0, q_ieq1, q_iltz, q_ilez, q_ilez0, q_izlt, q_im1, q_im1a, q_ieqz, q_ieqz0, q_l10, q_l12, q_ck, q_cl, q_gt, q_bs, q_b2s, q_ls, q_sc, nI_add, if_true, if_false, ite_true, ite_false, reduceIte, q_10, q_01, q_11, q_00, h1]
    · rintro ⟨z1, z2⟩ ⟨hz, I', g1, g2, g3, g4⟩
      replace hz : z2 = nI k := hz
      subst hz
      refine ⟨z1, ?_, I', g1, g2, g3, fun hs l hl => g4 hs l (hC l hl) hl⟩
      show fX1_islandGrownFrom_L29 N u c v5 v3 z1 (nI k) = _
      unfold fX1_islandGrownFrom_L29
      simp (disch := omega) only [q_ile0, q_ile1, q_ilt0, q_ilt1, q_ieq0, q_ieq1, q_iltz, q_ilez, q_ilez0, q_izlt, q_im1, q_im1a, q_ieqz, q_ieqz0, q_l10, q_l12, q_ck, q_cl, q_gt, q_bs, q_b2s, q_ls, q_sc, nI_add, if_true, if_false, ite_true, ite_false, reduceIte, q_10, q_01, q_11, q_00, h1]
  obtain ⟨r, hr, hs⟩ := q_loop (f := fun z : Int32 × Int32 × Int32 => fX1_islandGrownFrom_L11 N u c z.1 z.2.1 z.2.2) (m := 10) (N := N) (x0 := (qB x, 1, 0)) (fun st z => z.2.2 = nI st ∧ ∃ I : Nat → Prop, qS z.1 I ∧ I x ∧ (∀ i, I i → i < n ∧ qg_R a b C x i) ∧ ((z.2.1 = 1 ∧ st + 1 ≤ qc I n) ∨ (z.2.1 = 0 ∧ ∀ l, C l → (I (a l) ↔ I (b l))))) (fun r => qS r (fun y => qg_R a b C x y)) (by omega) ⟨rfl, fun i => i = x, qS.bit (by omega), rfl, fun i q => by subst q; exact ⟨hx, qg_rf⟩, Or.inl ⟨rfl, by unfold qc; rw [qs_one hx]; exact Nat.le_refl 1⟩⟩ (by
    rintro st ⟨w1, w2, w3⟩ hst ⟨hz, I, g1, g2, g3, g4⟩
    replace hz : w3 = nI st := hz
    subst hz
    replace g1 : qS w1 I := g1
    rcases g4 with ⟨g4, g5⟩ | ⟨g4, g5⟩
    · replace g4 : w2 = 1 := g4
      subst g4
      obtain ⟨r, hr, I', f1, f2, f3, f4⟩ := inner w1 w1 (nI st) I g1 g2 g3
      refine Or.inl ?_
      show ∃ y, fX1_islandGrownFrom_L11 N u c w1 1 (nI st) = some (.inl y) ∧ _
      unfold fX1_islandGrownFrom_L11 fX1_islandGrownFrom_j116
      rw [hr]
      by_cases e : ∀ i, I' i ↔ I i
      · refine ⟨(r, 0, nI (st + 1)), ?_, rfl, I', f1, f2 _ g2, f3, Or.inr ⟨rfl, fun l hl => ?_⟩⟩
        · rw [q_bs, if_pos (c := r = w1) ((f1.eqv g1).mpr e)]
          simp (disch := omega) only [q_ile0, q_ile1, q_ilt0, q_ilt1, q_ieq0, q_ieq1, q_iltz, q_ilez, q_ilez0, q_izlt, q_im1, q_im1a, q_ieqz, q_ieqz0, q_l10, q_l12, q_ck, q_cl, q_gt, q_bs, q_b2s, q_ls, q_sc, nI_add, if_true, if_false, ite_true, ite_false, reduceIte, q_10, q_01, q_11, q_00]
        · rw [e, e]; exact f4 (fun i q => (e i).mp q) l hl
      · refine ⟨(r, 1, nI (st + 1)), ?_, rfl, I', f1, f2 _ g2, f3, Or.inl ⟨rfl, ?_⟩⟩
        · rw [q_bs, if_neg (c := r = w1) (fun q => e ((f1.eqv g1).mp q))]
          simp (disch := omega) only [q_ile0, q_ile1, q_ilt0, q_ilt1, q_ieq0, q_ieq1, q_iltz, q_ilez, q_ilez0, q_izlt, q_im1, q_im1a, q_ieqz, q_ieqz0, q_l10, q_l12, q_ck, q_cl, q_gt, q_bs, q_b2s, q_ls, q_sc, nI_add, if_true, if_false, ite_true, ite_false, reduceIte, q_10, q_01, q_11, q_00]
        · obtain ⟨i, hi⟩ := Classical.not_forall.mp e
          have hi' : I' i ∧ ¬ I i := by
            by_cases q : I i
            · exact absurd ⟨fun _ => q, fun _ => f2 i q⟩ hi
            · refine ⟨Classical.byContradiction (fun r => hi ⟨fun z => absurd z r, fun z => absurd z q⟩), q⟩
          have := qc_lt (P := I) (Q := I') (n := n) (fun i _ q => f2 i q) (f3 i hi'.1).1 hi'.1 hi'.2
          omega
    · replace g4 : w2 = 0 := g4
      subst g4
      refine Or.inr ⟨w1, ?_, g1.cg (fin I g2 (fun i q => (g3 i q).2) g5)⟩
      show fX1_islandGrownFrom_L11 N u c w1 0 (nI st) = _
      unfold fX1_islandGrownFrom_L11
      simp (disch := omega) only [q_ile0, q_ile1, q_ilt0, q_ilt1, q_ieq0, q_ieq1, q_iltz, q_ilez, q_ilez0, q_izlt, q_im1, q_im1a, q_ieqz, q_ieqz0, q_l10, q_l12, q_ck, q_cl, q_gt, q_bs, q_b2s, q_ls, q_sc, nI_add, if_true, if_false, ite_true, ite_false, reduceIte, q_10, q_01, q_11, q_00]) (by
    rintro ⟨w1, w2, w3⟩ ⟨hz, I, g1, g2, g3, g4⟩
    replace hz : w3 = nI 10 := hz
    subst hz
    replace g1 : qS w1 I := g1
    have g5 : ∀ l, C l → (I (a l) ↔ I (b l)) := by
      rcases g4 with ⟨g4, g5⟩ | ⟨g4, g5⟩
      · have := qc_le (P := I) (n := n)
        omega
      · exact g5
    refine ⟨w1, ?_, g1.cg (fin I g2 (fun i q => (g3 i q).2) g5)⟩
    show fX1_islandGrownFrom_L11 N u c w1 w2 (nI 10) = _
    unfold fX1_islandGrownFrom_L11
    simp (disch := omega) only [q_ile0, q_ile1, q_ilt0, q_ilt1, q_ieq0, q_ieq1, q_iltz, q_ilez, q_ilez0, q_izlt, q_im1, q_im1a, q_ieqz, q_ieqz0, q_l10, q_l12, q_ck, q_cl, q_gt, q_bs, q_b2s, q_ls, q_sc, nI_add, if_true, if_false, ite_true, ite_false, reduceIte, q_10, q_01, q_11, q_00])
  refine ⟨r, ?_, hs⟩
  unfold fX1_islandGrownFrom
  rw [qx_bit, q_bs, hr]
  rfl
theorem qx_src (hN : 20 < N) (hn : n ≤ 10) (hs : qS s P) (hS : qS (u 2 0) S) (hSn : ∀ i, S i → i < n) : fX1_sourceIn N u s = some (qf (fun i => P i ∧ S i) n) := by
  unfold fX1_sourceIn
  rw [qx_low (hs.and hS) hN (fun i q => by have := hSn i q.2; omega), q_bs, qf_cg (P := fun i => P i ∧ S i) (n := 12) (m := n) (fun i => ⟨fun q => ⟨hSn i q.2.2, q.2⟩, fun q => ⟨by omega, q.2⟩⟩)]
theorem qx_srcl (hg : qX u n k a b) (hN : 20 < N) (hl : l < k) (hc : qS c C) (hC : ∀ l, C l → l < k) (hS : qS (u 2 0) S) (hSn : ∀ i, S i → i < n) : fX1_sourceOfLine N u (nI l) c = some (qf (fun i => qg_R a b C (a l) i ∧ S i) n) := by
  unfold fX1_sourceOfLine
  obtain ⟨r, e1, e2⟩ := qx_island (N := N) hg hN (hg.2.2.2.2 l hl).2.2.1 hc hC
  rw [qx_oneEnd hg hl, q_bs, e1, q_bs, qx_src hN hg.2.2.1 e2 hS hSn]
  rfl
theorem qx_live (hg : qX u n k a b) (hN : 20 < N) (hc : qS c C) (hC : ∀ l, C l → l < k) (hS : qS (u 2 0) S) (hSn : ∀ i, S i → i < n) : ∃ r, fX1_liveWith N u c = some r ∧ qS r (fun y => qg_L a b S C y) := by
  have hg' := hg
  obtain ⟨h0, h1, hn, hk, he⟩ := hg
  obtain ⟨r, hr, hs⟩ := q_loop (f := fun z : Int32 × Int32 => fX1_liveWith_L4 N u c z.1 z.2) (m := n) (N := N) (x0 := (0, 0)) (fun i z => z.2 = nI i ∧ qS z.1 (fun y => ∃ s, s < i ∧ S s ∧ qg_R a b C s y)) (fun r => qS r (fun y => qg_L a b S C y)) (by omega) ⟨rfl, qS.z.cg (fun i => ⟨fun q => q.elim, fun ⟨l, q, _⟩ => absurd q (Nat.not_lt_zero l)⟩)⟩ (by
    rintro i ⟨w, z⟩ hi ⟨hz, hw⟩
    replace hz : z = nI i := hz
    subst hz
    replace hw : qS w (fun y => ∃ s, s < i ∧ S s ∧ qg_R a b C s y) := hw
    refine Or.inl ?_
    show ∃ y, fX1_liveWith_L4 N u c w (nI i) = some (.inl y) ∧ _
    unfold fX1_liveWith_L4
    by_cases q1 : S i
    · obtain ⟨r, e1, e2⟩ := qx_island (N := N) hg' hN hi hc hC
      refine ⟨(w ||| r, nI (i + 1)), ?_, rfl, (hw.or e2).cg (fun j => ⟨fun q => ?_, fun q => ?_⟩)⟩
      · simp (disch := omega) only [q_ile0, q_ile1, q_ilt0, q_ilt1, q_ieq0, q_ieq1, q_iltz, q_ilez, q_ilez0, q_izlt, q_im1, q_im1a, q_ieqz, q_ieqz0, q_l10, q_l12, q_ck, q_cl, q_gt, q_bs, q_b2s, q_ls, q_sc, nI_add, if_true, if_false, ite_true, ite_false, reduceIte, q_10, q_01, q_11, q_00, h0, hS.has1 q1, e1]
      · rcases q with ⟨s, q2, q3⟩ | q
        · exact ⟨s, by omega, q3⟩
        · exact ⟨i, by omega, q1, q⟩
      · obtain ⟨s, q2, q3, q4⟩ := q
        by_cases e : s = i
        · subst e; exact Or.inr q4
        · exact Or.inl ⟨s, by omega, q3, q4⟩
    · refine ⟨(w, nI (i + 1)), ?_, rfl, hw.cg (fun j => ⟨fun ⟨s, q2, q3⟩ => ⟨s, by omega, q3⟩, fun ⟨s, q2, q3, q4⟩ => ⟨s, ?_, q3, q4⟩⟩)⟩
      · simp (disch := omega) only [q_ile0, q_ile1, q_ilt0, q_ilt1, q_ieq0, q_ieq1, q_iltz, q_ilez, q_ilez0, q_izlt, q_im1, q_im1a, q_ieqz, q_ieqz0, q_l10, q_l12, q_ck, q_cl, q_gt, q_bs, q_b2s, q_ls, q_sc, nI_add, if_true, if_false, ite_true, ite_false, reduceIte, q_10, q_01, q_11, q_00, h0, hS.has0 (show i < 32 by omega) q1]
      · rcases Nat.lt_or_ge s i with r | r
        · exact r
        · have e : s = i := by omega
          subst e
          exact absurd q3 q1) (by
    rintro ⟨w, z⟩ ⟨hz, hw⟩
    replace hz : z = nI n := hz
    subst hz
    replace hw : qS w (fun y => ∃ s, s < n ∧ S s ∧ qg_R a b C s y) := hw
    refine ⟨w, ?_, hw.cg (fun j => ⟨fun ⟨s, q2, q3, q4⟩ => ⟨s, q3, qg_sy q4⟩, fun ⟨s, q3, q4⟩ => ⟨s, hSn s q3, q3, qg_sy q4⟩⟩)⟩
    show fX1_liveWith_L4 N u c w (nI n) = _
    unfold fX1_liveWith_L4
    simp (disch := omega) only [q_ile0, q_ile1, q_ilt0, q_ilt1, q_ieq0, q_ieq1, q_iltz, q_ilez, q_ilez0, q_izlt, q_im1, q_im1a, q_ieqz, q_ieqz0, q_l10, q_l12, q_ck, q_cl, q_gt, q_bs, q_b2s, q_ls, q_sc, nI_add, if_true, if_false, ite_true, ite_false, reduceIte, q_10, q_01, q_11, q_00, h0])
  refine ⟨r, ?_, hs⟩
  unfold fX1_liveWith
  rw [hr]
  rfl
end XI
