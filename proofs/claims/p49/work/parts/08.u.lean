/-! calls: closing and opening, plain questions -/
theorem qite_p {Q : Int32 → Prop} {P : Prop} {x y : Int32} (h1 : Q x) (h2 : Q y) : Q (qite P x y) := by
  by_cases h : P
  · rw [qite_1 h]; exact h1
  · rw [qite_0 h]; exact h2
section CA
variable {N n k : Nat} {u v u' v' w : sg_St} {a b ld cap pr rt pk mu ins : Nat → Nat} {S B C C' Lk Fl Lk' Fl' : Nat → Prop} {l x : Nat}
theorem qrs_char : decide (vp_nar .char (qrs n k a b ld cap rt S B Lk Fl C l) = qrs n k a b ld cap rt S B Lk Fl C l) = true := by
  unfold qrs
  refine qite_p (Q := fun z => decide (vp_nar .char z = z) = true) (by decide) ?_
  refine qite_p (Q := fun z => decide (vp_nar .char z = z) = true) (by decide) ?_
  refine qite_p (Q := fun z => decide (vp_nar .char z = z) = true) (by decide) ?_
  refine qite_p (Q := fun z => decide (vp_nar .char z = z) = true) (by decide) ?_
  refine qite_p (Q := fun z => decide (vp_nar .char z = z) = true) (by decide) ?_
  refine qite_p (Q := fun z => decide (vp_nar .char z = z) = true) (by decide) ?_
  refine qite_p (Q := fun z => decide (vp_nar .char z = z) = true) (by decide) ?_
  exact qite_p (Q := fun z => decide (vp_nar .char z = z) = true) (by decide) (by decide)
theorem qJ.Cs (h : qJ n k a b ld cap pr rt pk mu ins S B C Lk Fl u v) : qS (u 4 0) C := h.2.2.1.1
theorem qJ.Ls (h : qJ n k a b ld cap pr rt pk mu ins S B C Lk Fl u v) : qS (u 5 0) Lk := h.2.2.1.2.1
theorem qJ.Fs (h : qJ n k a b ld cap pr rt pk mu ins S B C Lk Fl u v) : qS (u 6 0) Fl := h.2.2.1.2.2
theorem qJ.gd (h : qJ n k a b ld cap pr rt pk mu ins S B C Lk Fl u v) : qgood n k a b ld cap rt S C := h.2.2.2.2.2.2.2.1
theorem qJ.Sn (h : qJ n k a b ld cap pr rt pk mu ins S B C Lk Fl u v) : ∀ i, S i → i < n := h.1.2.2.2.2.1
theorem qJ.k12 (h : qJ n k a b ld cap pr rt pk mu ins S B C Lk Fl u v) : k ≤ 12 := h.1.1.2.2.2.1
theorem qJ.n10 (h : qJ n k a b ld cap pr rt pk mu ins S B C Lk Fl u v) : n ≤ 10 := h.1.1.2.2.1
/-- the switches' rows, to their ends -/
theorem qJ.fl (h : qJ n k a b ld cap pr rt pk mu ins S B C Lk Fl u v) (l : Nat) (hl : l < 12) : v 19 l = qt (C l) ∧ v 20 l = qt (Lk l) ∧ v 21 l = qt (Fl l) := by
  by_cases q : l < k
  · exact h.2.2.2.1 l q
  · have := h.2.2.2.2.2.2.2.2.2.2.2.2 l (by omega) hl
    rw [qt_0 (fun z => q (h.gd.1 l z)), qt_0 (fun z => q (h.2.2.2.2.2.2.2.2.1 l z)), qt_0 (fun z => q (h.2.2.2.2.2.2.2.2.2.1 l z))]
    exact this.2
theorem qJ.sw (h : qJ n k a b ld cap pr rt pk mu ins S B C Lk Fl u v) (F : ∀ j, j < 4 ∨ (10 < j ∧ j < 17) ∨ 18 < j → u' j = u j) (G : ∀ j, (0 < j ∧ j < 3) ∨ (7 < j ∧ j < 19) → v' j = v j) (h4 : qS (u' 4 0) C') (h5 : qS (u' 5 0) Lk') (h6 : qS (u' 6 0) Fl') (hv : ∀ l, l < 12 → v' 19 l = qt (C' l) ∧ v' 20 l = qt (Lk' l) ∧ v' 21 l = qt (Fl' l)) (hg : qgood n k a b ld cap rt S C') (hL : ∀ l, Lk' l → l < k) (hF : ∀ l, Fl' l → l < k) (ht : u' 10 0 = v' 3 0) : qJ n k a b ld cap pr rt pk mu ins S B C' Lk' Fl' u' v' := by
  have hk := h.k12
  obtain ⟨h1, h2, -, -, q5, q6, q7, -, -, -, -, q12⟩ := h
  refine ⟨h1.fr (fun j hj => F j (by omega)), h2.fr (fun j hj => G j (by omega)), ⟨h4, h5, h6⟩, fun l hl => hv l (by omega), fun l hl => ?_, fun l hl => ?_, q7, hg, hL, hF, ht, fun i h1 h2 => ?_, fun l h1 h2 => ?_⟩
  · rw [F 19 (by omega), F 20 (by omega), F 21 (by omega)]; exact q5 l hl
  · rw [G 15 (by omega), G 16 (by omega), G 17 (by omega)]; exact q6 l hl
  · rw [G 8 (by omega), G 9 (by omega), G 10 (by omega), G 11 (by omega)]; exact q12.1 i h1 h2
  · obtain ⟨e1, e2, e3⟩ := hv l h2
    rw [G 17 (by omega), e1, e2, e3, qt_0 (fun z => by have := hg.1 l z; omega), qt_0 (fun z => by have := hL l z; omega), qt_0 (fun z => by have := hF l z; omega)]
    exact ⟨(q12.2 l h1 h2).1, rfl, rfl, rfl⟩
theorem sb7 (hN : 5000 < N) (u v : sg_St) (hI : qI u v) (p : Int32) : sb_7 N qI u v p := by
  unfold sb_7 fX5_canClose fX6_canClose
  refine q_line hI p _ _ 0 (fun n k a b ld cap pr rt pk mu ins S B C Lk Fl l v' hJ h0 hl hp => ?_)
  subst hp
  obtain ⟨u', e1, e2⟩ := qx_reason (N := N) (by omega) hJ.1 hJ.Ls hJ.Fs hJ.Cs hJ.gd hl
  obtain ⟨w, f1, f2⟩ := qm_reason (N := N) (by omega) hJ.2.1 hJ.2.2.2.1 hJ.Sn hJ.gd hl
  refine ⟨_, _, _, ?_, ?_, q_ok22 (r := qrs n k a b ld cap rt S B Lk Fl C l) hJ.I h0 e2 f2⟩
  · rw [e1, q_b2s, qrs_char, q_gt]
  · rw [f1, q_b2s, qrs_char, q_gt]
theorem sb5 (hN : 5000 < N) (u v : sg_St) (hI : qI u v) (p : Int32) : sb_5 N qI u v p := by
  unfold sb_5 fX5_close fX6_close
  refine q_line hI p _ _ 0 (fun n k a b ld cap pr rt pk mu ins S B C Lk Fl l v' hJ h0 hl hp => ?_)
  subst hp
  have hk := hJ.k12
  obtain ⟨u', e1, e2⟩ := qx_reason (N := N) (by omega) hJ.1 hJ.Ls hJ.Fs hJ.Cs hJ.gd hl
  obtain ⟨w, f1, f2⟩ := qm_reason (N := N) (by omega) hJ.2.1 hJ.2.2.2.1 hJ.Sn hJ.gd hl
  by_cases q : qrs n k a b ld cap rt S B Lk Fl C l = 110
  · have hJ' := hJ.fr (qFX.of e2) (qFM.of22 f2)
    refine ⟨(.inr (qrs n k a b ld cap rt S B Lk Fl C l), sg_set u' 4 0 (u' 4 0 ||| qB l)), qrs n k a b ld cap rt S B Lk Fl C l, sg_set w 19 l 1, ?_, ?_, Or.inl ⟨sg_set u' 4 0 (u' 4 0 ||| qB l), rfl, ?_, (hJ'.sw (C' := qg_add C l) (Lk' := Lk) (Fl' := Fl) (u' := sg_set u' 4 0 (u' 4 0 ||| qB l)) (v' := sg_set w 19 l 1) (fun j hj => sg_set_o (by omega)) (fun j hj => sg_set_o (by omega)) ?_ ?_ ?_ (fun m hm => ?_) (qgood_close hJ.gd hl q) hJ.2.2.2.2.2.2.2.2.1 hJ.2.2.2.2.2.2.2.2.2.1 ?_).I⟩⟩
    · rw [e1, q_b2s, if_pos q, qx_bit, q_bs]
      unfold fX4_closeAll
      rw [q_bs, qrs_char, q_gt]
    · rw [f1, q_b2s, if_pos q, q_ck (by omega) (by omega), q_gt, qrs_char, q_gt, q_cl (by omega)]
      rfl
    · rw [sg_set_o (by omega), f2 0 (by omega)]; exact h0
    · rw [sg_set_s, upd_s]; exact hJ'.Cs.or (qS.bit (by omega))
    · rw [sg_set_o (by omega)]; exact hJ'.Ls
    · rw [sg_set_o (by omega)]; exact hJ'.Fs
    · have := hJ'.fl m hm
      rw [sg_set_o (u := w) (show (20 : Nat) ≠ 19 by omega), sg_set_o (u := w) (show (21 : Nat) ≠ 19 by omega), sg_set_s]
      refine ⟨?_, this.2⟩
      by_cases e : m = l
      · rw [e, upd_s, qt_1 (P := qg_add C l l) (Or.inr rfl)]
      · rw [upd_o e, this.1]
        by_cases z : C m
        · rw [qt_1 z, qt_1 (P := qg_add C l m) (Or.inl z)]
        · rw [qt_0 z, qt_0 (P := qg_add C l m) (fun t => t.elim z e)]
    · rw [sg_set_o (by omega), sg_set_o (by omega)]; exact hJ'.2.2.2.2.2.2.2.2.2.2.1
  · refine ⟨_, _, _, ?_, ?_, q_ok22 (r := qrs n k a b ld cap rt S B Lk Fl C l) hJ.I h0 e2 f2⟩
    · rw [e1, q_b2s, if_neg q, qrs_char, q_gt]
    · rw [f1, q_b2s, if_neg q, qrs_char, q_gt]
/-- why a line cannot be opened -/
noncomputable def qro (a b ld : Nat → Nat) (n : Nat) (S B C : Nat → Prop) (l : Nat) : Int32 := qite (¬ C l) 99 (qite (B l ∨ qcu a b ld n S C l = 0) 110 100)
theorem qro_char : decide (vp_nar .char (qro a b ld n S B C l) = qro a b ld n S B C l) = true := by
  unfold qro
  refine qite_p (Q := fun z => decide (vp_nar .char z = z) = true) (by decide) ?_
  exact qite_p (Q := fun z => decide (vp_nar .char z = z) = true) (by decide) (by decide)
theorem qx_open (hN : 20 < N) (hJ : qJ n k a b ld cap pr rt pk mu ins S B C Lk Fl u v) (hl : l < k) : ∃ u', fX4_openReason N u (nI l) = some (qro a b ld n S B C l, u') ∧ qfr u u' := by
  have hk := hJ.k12
  have hn := hJ.n10
  unfold fX4_openReason qro
  by_cases q1 : C l
  · rw [hJ.Cs.has1 q1, q_bs, q_10, qite_0 (fun z => z q1)]
    by_cases q2 : B l
    · rw [hJ.1.sB.has1 q2, q_bs, q_10, qite_1 (Or.inl q2)]
      exact ⟨u, rfl, qfr.rf u⟩
    · obtain ⟨u', e1, e2⟩ := qx_curIn hN hJ.1 hJ.Cs hJ.gd.1 hJ.gd.2.1 hJ.gd.2.2.1 hl
      have hb := qcu_bd (a := a) (b := b) (S := S) (C := C) (l := l) hJ.1.ld9
      rw [hJ.1.sB.has0 (by omega) q2, q_bs, q_00, e1, q_b2s]
      by_cases q3 : qcu a b ld n S C l = 0
      · rw [q_ieqz0 q3, qite_1 (Or.inr q3)]
        exact ⟨u', rfl, e2⟩
      · rw [q_ieqz (by omega) (by omega), qite_0 (fun z => z.elim q2 q3)]
        exact ⟨u', rfl, e2⟩
  · rw [hJ.Cs.has0 (by omega) q1, q_bs, q_00, qite_1 q1]
    exact ⟨u, rfl, qfr.rf u⟩
theorem qm_flowOf (hN : 200 < N) (hJ : qJ n k a b ld cap pr rt pk mu ins S B C Lk Fl u v) (hl : l < k) : ∃ v', fX6_flowOf N v (nI l) = some (nI (qcu a b ld n S C l), v') ∧ ∀ j, j ≠ 22 → v' j = v j := by
  have hk := hJ.k12
  unfold fX6_flowOf
  by_cases q1 : C l
  · obtain ⟨v', e1, e2⟩ := qm_flow (C' := C) (X := -1) hN hJ.2.1 hJ.Sn hJ.V (fun m => ⟨fun z => ⟨hJ.gd.1 m z, Or.inl z⟩, fun z => z.2.elim id (fun e => absurd e (q_m1 (by omega)))⟩) hl
    refine ⟨v', ?_, e2⟩
    rw [qcu_1 q1]
    simp (disch := omega) only [q_ile0, q_ile1, q_ilt0, q_ilt1, q_ieq0, q_ieq1, q_iltz, q_ilez, q_ilez0, q_izlt, q_im1, q_im1a, q_ieqz, q_ieqz0, q_l10, q_l12, q_ck, q_cl, q_gt, q_bs, q_b2s, q_ls, q_sc, nI_add, if_true, if_false, ite_true, ite_false, reduceIte, q_10, q_01, q_11, q_00, hJ.V l hl, qt_1 q1, e1]
  · refine ⟨v, ?_, fun _ _ => rfl⟩
    rw [qcu_0 q1]
    simp (disch := omega) only [q_ile0, q_ile1, q_ilt0, q_ilt1, q_ieq0, q_ieq1, q_iltz, q_ilez, q_ilez0, q_izlt, q_im1, q_im1a, q_ieqz, q_ieqz0, q_l10, q_l12, q_ck, q_cl, q_gt, q_bs, q_b2s, q_ls, q_sc, nI_add, if_true, if_false, ite_true, ite_false, reduceIte, q_10, q_01, q_11, q_00, hJ.V l hl, qt_0 q1]
    rfl
theorem qm_open (hN : 200 < N) (hJ : qJ n k a b ld cap pr rt pk mu ins S B C Lk Fl u v) (hl : l < k) : ∃ v', fX6_reasonToOpen N v (nI l) = some (qro a b ld n S B C l, v') ∧ ∀ j, j ≠ 22 → v' j = v j := by
  have hk := hJ.k12
  have hn := hJ.n10
  have h18 := (hJ.2.1.2.2.2.2.2.2 l hl).2.2.2
  unfold fX6_reasonToOpen qro
  by_cases q1 : C l
  · rw [qite_0 (fun z => z q1)]
    by_cases q2 : B l
    · refine ⟨v, ?_, fun _ _ => rfl⟩
      rw [qite_1 (Or.inl q2)]
      simp (disch := omega) only [q_ile0, q_ile1, q_ilt0, q_ilt1, q_ieq0, q_ieq1, q_iltz, q_ilez, q_ilez0, q_izlt, q_im1, q_im1a, q_ieqz, q_ieqz0, q_l10, q_l12, q_ck, q_cl, q_gt, q_bs, q_b2s, q_ls, q_sc, nI_add, if_true, if_false, ite_true, ite_false, reduceIte, q_10, q_01, q_11, q_00, hJ.V l hl, qt_1 q1, h18, qt_1 q2]
    · obtain ⟨v', e1, e2⟩ := qm_flowOf hN hJ hl
      have hb := qcu_bd (a := a) (b := b) (S := S) (C := C) (l := l) hJ.1.ld9
      refine ⟨v', ?_, e2⟩
      by_cases q3 : qcu a b ld n S C l = 0
      · rw [qite_1 (Or.inr q3)]
        simp (disch := omega) only [q_ile0, q_ile1, q_ilt0, q_ilt1, q_ieq0, q_ieq1, q_iltz, q_ilez, q_ilez0, q_izlt, q_im1, q_im1a, q_ieqz, q_ieqz0, q_l10, q_l12, q_ck, q_cl, q_gt, q_bs, q_b2s, q_ls, q_sc, nI_add, if_true, if_false, ite_true, ite_false, reduceIte, q_10, q_01, q_11, q_00, hJ.V l hl, qt_1 q1, h18, qt_0 q2, e1]
      · rw [qite_0 (fun z => z.elim q2 q3)]
        simp (disch := omega) only [q_ile0, q_ile1, q_ilt0, q_ilt1, q_ieq0, q_ieq1, q_iltz, q_ilez, q_ilez0, q_izlt, q_im1, q_im1a, q_ieqz, q_ieqz0, q_l10, q_l12, q_ck, q_cl, q_gt, q_bs, q_b2s, q_ls, q_sc, nI_add, if_true, if_false, ite_true, ite_false, reduceIte, q_10, q_01, q_11, q_00, hJ.V l hl, qt_1 q1, h18, qt_0 q2, e1]
  · refine ⟨v, ?_, fun _ _ => rfl⟩
    rw [qite_1 q1]
    simp (disch := omega) only [q_ile0, q_ile1, q_ilt0, q_ilt1, q_ieq0, q_ieq1, q_iltz, q_ilez, q_ilez0, q_izlt, q_im1, q_im1a, q_ieqz, q_ieqz0, q_l10, q_l12, q_ck, q_cl, q_gt, q_bs, q_b2s, q_ls, q_sc, nI_add, if_true, if_false, ite_true, ite_false, reduceIte, q_10, q_01, q_11, q_00, hJ.V l hl, qt_0 q1]
theorem sb8 (hN : 5000 < N) (u v : sg_St) (hI : qI u v) (p : Int32) : sb_8 N qI u v p := by
  unfold sb_8 fX5_canOpen fX6_canOpen
  refine q_line hI p _ _ 0 (fun n k a b ld cap pr rt pk mu ins S B C Lk Fl l v' hJ h0 hl hp => ?_)
  subst hp
  obtain ⟨u', e1, e2⟩ := qx_open (N := N) (by omega) hJ hl
  obtain ⟨w, f1, f2⟩ := qm_open (N := N) (by omega) hJ hl
  refine ⟨_, _, _, ?_, ?_, q_ok22 (r := qro a b ld n S B C l) hJ.I h0 e2 f2⟩
  · rw [e1, q_b2s, qro_char, q_gt]
  · rw [f1, q_b2s, qro_char, q_gt]
theorem sb6 (hN : 5000 < N) (u v : sg_St) (hI : qI u v) (p : Int32) : sb_6 N qI u v p := by
  unfold sb_6 fX5_open fX6_open
  refine q_line hI p _ _ 0 (fun n k a b ld cap pr rt pk mu ins S B C Lk Fl l v' hJ h0 hl hp => ?_)
  subst hp
  have hk := hJ.k12
  obtain ⟨u', e1, e2⟩ := qx_open (N := N) (by omega) hJ hl
  obtain ⟨w, f1, f2⟩ := qm_open (N := N) (by omega) hJ hl
  by_cases q : qro a b ld n S B C l = 110
  · have hJ' := hJ.fr (qFX.of e2) (qFM.of22 f2)
    refine ⟨(.inr (qro a b ld n S B C l), sg_set u' 4 0 (u' 4 0 &&& (qB l ^^^ (-1)))), qro a b ld n S B C l, sg_set w 19 l 0, ?_, ?_, Or.inl ⟨sg_set u' 4 0 (u' 4 0 &&& (qB l ^^^ (-1))), rfl, ?_, (hJ'.sw (C' := fun m => C m ∧ ¬ m = l) (Lk' := Lk) (Fl' := Fl) (u' := sg_set u' 4 0 (u' 4 0 &&& (qB l ^^^ (-1)))) (v' := sg_set w 19 l 0) (fun j hj => sg_set_o (by omega)) (fun j hj => sg_set_o (by omega)) ?_ ?_ ?_ (fun m hm => ?_) (qgood_open hJ.gd (fun m z => z.1)) hJ.2.2.2.2.2.2.2.2.1 hJ.2.2.2.2.2.2.2.2.2.1 ?_).I⟩⟩
    · rw [e1, q_b2s, if_pos q, qx_bit, q_bs]
      unfold fX4_openAll
      rw [q_bs, qro_char, q_gt]
    · rw [f1, q_b2s, if_pos q, q_ck (by omega) (by omega), q_gt, qro_char, q_gt, q_cl (by omega)]
      rfl
    · rw [sg_set_o (by omega), f2 0 (by omega)]; exact h0
    · rw [sg_set_s, upd_s]; exact hJ'.Cs.diff (qS.bit (by omega))
    · rw [sg_set_o (by omega)]; exact hJ'.Ls
    · rw [sg_set_o (by omega)]; exact hJ'.Fs
    · have := hJ'.fl m hm
      rw [sg_set_o (u := w) (show (20 : Nat) ≠ 19 by omega), sg_set_o (u := w) (show (21 : Nat) ≠ 19 by omega), sg_set_s]
      refine ⟨?_, this.2⟩
      by_cases e : m = l
      · rw [e, upd_s, qt_0 (fun z => z.2 rfl)]
      · rw [upd_o e, this.1]
        by_cases z : C m
        · rw [qt_1 z, qt_1 ⟨z, e⟩]
        · rw [qt_0 z, qt_0 (fun t => z t.1)]
    · rw [sg_set_o (by omega), sg_set_o (by omega)]; exact hJ'.2.2.2.2.2.2.2.2.2.2.1
  · refine ⟨_, _, _, ?_, ?_, q_ok22 (r := qro a b ld n S B C l) hJ.I h0 e2 f2⟩
    · rw [e1, q_b2s, if_neg q, qro_char, q_gt]
    · rw [f1, q_b2s, if_neg q, qro_char, q_gt]
theorem qrs_l (h : qrs n k a b ld cap rt S B Lk Fl C l = 108) : ¬ C l ∧ ¬ qg_R a b C (a l) (b l) ∧ ¬ (qg_L a b S C (a l) ∧ qg_L a b S C (b l)) := by
  unfold qrs at h
  by_cases q1 : C l
  · rw [qite_1 q1] at h; exact absurd h (by decide)
  rw [qite_0 q1] at h
  by_cases q2 : Lk l
  · rw [qite_1 q2] at h; exact absurd h (by decide)
  rw [qite_0 q2] at h
  by_cases q3 : Fl l ∨ ∃ m, C m ∧ Fl m ∧ qfed a b S C l (a m)
  · rw [qite_1 q3] at h; exact absurd h (by decide)
  rw [qite_0 q3] at h
  by_cases q4 : qg_R a b C (a l) (b l) ∨ (qg_L a b S C (a l) ∧ qg_L a b S C (b l))
  · rw [qite_1 q4] at h; exact absurd h (by decide)
  exact ⟨q1, fun q => q4 (Or.inl q), fun q => q4 (Or.inr q)⟩
theorem sb9 (hN : 5000 < N) (u v : sg_St) (hI : qI u v) (p : Int32) : sb_9 N qI u v p := by
  unfold sb_9 fX5_overloaded fX6_overloaded
  refine q_line hI p _ _ 0 (fun n k a b ld cap pr rt pk mu ins S B C Lk Fl l v' hJ h0 hl hp => ?_)
  subst hp
  have hk := hJ.k12
  obtain ⟨u', e1, e2⟩ := qx_reason (N := N) (by omega) hJ.1 hJ.Ls hJ.Fs hJ.Cs hJ.gd hl
  obtain ⟨w, f1, f2⟩ := qm_reason (N := N) (by omega) hJ.2.1 hJ.2.2.2.1 hJ.Sn hJ.gd hl
  have hJ' := hJ.fr (qFX.of e2) (qFM.of22 f2)
  by_cases q : qrs n k a b ld cap rt S B Lk Fl C l = 108
  · obtain ⟨q1, q2, q3⟩ := qrs_l q
    obtain ⟨x, g1, g2⟩ := qx_over (N := N) (by omega) hJ'.1 (hJ'.Cs.or (qS.bit (show l < 32 by omega))) (fun m z => z.elim (hJ.gd.1 m) (fun e => by rw [e]; exact hl)) (qg_F_add hJ.gd.2.1 q2) (qg_O_add hJ.gd.2.2.1 q3)
    obtain ⟨y, i1, i2⟩ := qm_over (N := N) (C' := qg_add C l) (X := nI l) (by omega) hJ'.2.1 hJ.Sn hJ'.V (fun m => ⟨fun z => z.elim (fun z => ⟨hJ.gd.1 m z, Or.inl z⟩) (fun e => ⟨by rw [e]; exact hl, Or.inr (by rw [e])⟩), fun z => z.2.imp id (fun e => (q_eq (by omega) (by omega)).mp e)⟩)
    refine ⟨_, _, _, ?_, ?_, q_ok22 (r := qf (fun l' => rt l' < qcu a b ld n S (qg_add C l) l') k) hJ'.I (by rw [f2 0 (by omega)]; exact h0) g2 i2⟩
    · rw [e1, q_b2s, if_pos q, qx_bit, q_bs, g1]
      rfl
    · rw [f1, q_b2s, if_pos q, i1]
      rfl
  · refine ⟨(.inl 0, u'), 0, sg_set w 0 0 2, ?_, ?_, Or.inr ⟨0, u', rfl, by decide, ?_, (hJ'.fr (qFX.rf u') (qFM.of0 w 2)).I⟩⟩
    · rw [e1, q_b2s, if_neg q]
    · rw [f1, q_b2s, if_neg q]
      rfl
    · rw [q_th0]; rfl
end CA
