/-! why a line cannot be closed: class and reference -/
section RX
variable {N n k : Nat} {u v : sg_St} {a b ld cap pr rt lab : Nat → Nat} {C C' E S B P Lk Fl : Nat → Prop} {c s : Int32} {x y l i j : Nat}
theorem q_two (hO : qg_O a b S C) (hs : S i) (hr : qg_R a b C x i) (hs2 : S j) (hr2 : qg_R a b C x j) : i = j := hO i j hs hs2 (qg_tr (qg_sy hr) hr2)
/-- the source of an island is the only one -/
theorem qf_src (hO : qg_O a b S C) (hSn : ∀ i, S i → i < n) (hs : S i) (hr : qg_R a b C x i) : qf (fun i => qg_R a b C x i ∧ S i) n = nI i :=
  qf_s (P := fun i => qg_R a b C x i ∧ S i) ⟨hr, hs⟩ (fun j hj q => by
    have := q_two hO hs hr q.2 q.1
    omega) (hSn i hs)
theorem qx_reason (hN : 20 < N) (hW : qW u n k a b ld cap pr rt S B) (hLk : qS (u 5 0) Lk) (hFl : qS (u 6 0) Fl) (hc : qS c C) (hg : qgood n k a b ld cap rt S C) (hl : l < k) : ∃ u', fX4_closeReason N u (nI l) c = some (qrs n k a b ld cap rt S B Lk Fl C l, u') ∧ qfr u u' := by
  have hX := hW.1
  have hk := hX.2.2.2.1
  have hn := hX.2.2.1
  obtain ⟨hC, hF, hO, hcap, hrt⟩ := hg
  obtain ⟨e1, e2, e3, e4, e5⟩ := hX.2.2.2.2 l hl
  have hl32 : l < 32 := by omega
  unfold fX4_closeReason qrs
  by_cases q1 : C l
  · rw [hc.has1 q1, qite_1 q1]
    exact ⟨u, rfl, qfr.rf u⟩
  rw [hc.has0 hl32 q1, qite_0 q1]
  by_cases q2 : Lk l
  · rw [qite_1 q2]
    refine ⟨u, ?_, qfr.rf u⟩
    simp (disch := omega) only [q_ile0, q_ile1, q_ilt0, q_ilt1, q_ieq0, q_ieq1, q_iltz, q_ilez, q_ilez0, q_izlt, q_im1, q_im1a, q_ieqz, q_ieqz0, q_l10, q_l12, q_ck, q_cl, q_gt, q_bs, q_b2s, q_ls, q_sc, nI_add, if_true, if_false, ite_true, ite_false, reduceIte, q_10, q_01, q_11, q_00, hLk.has1 q2]
  rw [qite_0 q2]
  obtain ⟨here, i1, i2⟩ := qx_island (N := N) hX hN e3 hc hC
  obtain ⟨there, j1, j2⟩ := qx_island (N := N) hX hN e4 hc hC
  have hacr : fX1_acrossFrom N u (nI (a l)) (nI l) = some (nI (b l)) := qx_acr hX e3 hl (Or.inl ⟨rfl, rfl⟩)
  have hsrc1 := qx_src (N := N) hN hn i2 hW.sS hW.Sn
  have hsrc2 := qx_src (N := N) hN hn j2 hW.sS hW.Sn
  -- from the two ends' states on
  have main : ∀ (f : Int32), qS f (qfed a b S C l) → ∃ u', fX4_closeReason_j127 N u (nI l) c here there (qt (qg_L a b S C (a l))) (qt (qg_L a b S C (b l))) f = some (qite (Fl l ∨ ∃ m, C m ∧ Fl m ∧ qfed a b S C l (a m)) 102 (qite (qg_R a b C (a l) (b l) ∨ (qg_L a b S C (a l) ∧ qg_L a b S C (b l))) 114 (qite (¬ B l ∧ 0 < qs ld (qfed a b S C l) n) 100 (qite (qg_L a b S C (a l) ↔ qg_L a b S C (b l)) 110 (qite (∃ s, S s ∧ (qg_R a b C (a l) s ∨ qg_R a b C (b l) s) ∧ cap s < qs ld (qg_R a b C (a l)) n + qs ld (qg_R a b C (b l)) n) 115 (qite (∃ m, m < k ∧ rt m < qcu a b ld n S (qg_add C l) m) 108 110))))), u') ∧ qfr u u' := by
    intro f hf
    unfold fX4_closeReason_j127
    by_cases q3 : Fl l
    · rw [hFl.has1 q3, qite_1 (Or.inl q3)]
      exact ⟨u, rfl, qfr.rf u⟩
    rw [hFl.has0 hl32 q3, q_bs, q_00]
    obtain ⟨r, r1, r2⟩ := qx_lines (N := N) hX hN hf hc
    rw [r1, q_bs]
    have hfe : ∀ m, C m → (qfed a b S C l (a m) ∨ qfed a b S C l (b m) ↔ qfed a b S C l (a m)) := fun m hm => ⟨fun z => z.elim id (fun z => z.imp (fun z => ⟨z.1, z.2.1, qg_tr z.2.2 (qg_ed' hm)⟩) (fun z => ⟨z.1, z.2.1, qg_tr z.2.2 (qg_ed' hm)⟩)), Or.inl⟩
    by_cases q4 : ∃ m, C m ∧ Fl m ∧ qfed a b S C l (a m)
    · rw [qite_1 (Or.inr q4), if_neg]
      · exact ⟨u, rfl, qfr.rf u⟩
      · intro z
        obtain ⟨m, z1, z2, z3⟩ := q4
        exact (r2.and hFl).eq0.mp z m ⟨⟨hC m z1, z1, Or.inl z3⟩, z2⟩
    rw [qite_0 (fun z => z.elim q3 q4), if_pos ((r2.and hFl).eq0.mpr (fun m z => q4 ⟨m, z.1.2.1, z.2, (hfe m z.1.2.1).mp z.1.2.2⟩))]
    by_cases q5 : qg_R a b C (a l) (b l)
    · rw [qite_1 (Or.inl q5), if_pos ((i2.eqv j2).mpr (fun i => ⟨fun z => qg_tr (qg_sy q5) z, fun z => qg_tr q5 z⟩))]
      exact ⟨u, rfl, qfr.rf u⟩
    rw [if_neg (fun z => q5 (((i2.eqv j2).mp z (b l)).mpr qg_rf))]
    by_cases q6 : qg_L a b S C (a l) ∧ qg_L a b S C (b l)
    · rw [qite_1 (Or.inr q6), qt_1 q6.1, qt_1 q6.2, q_10, q_10]
      exact ⟨u, rfl, qfr.rf u⟩
    rw [qite_0 (fun z => z.elim q5 q6)]
    have to181 : (if qt (qg_L a b S C (a l)) = 0 then fX4_closeReason_j181 N u (nI l) c here there f else if qt (qg_L a b S C (b l)) = 0 then fX4_closeReason_j181 N u (nI l) c here there f else some (114, u)) = fX4_closeReason_j181 N u (nI l) c here there f := by
      by_cases z : qg_L a b S C (a l)
      · rw [qt_1 z, q_10, qt_0 (fun w => q6 ⟨z, w⟩), q_00]
      · rw [qt_0 z, q_00]
    rw [to181]
    have to210 : ∃ u', fX4_closeReason_j210 N u (nI l) c here there f = some (qite (qg_L a b S C (a l) ↔ qg_L a b S C (b l)) 110 (qite (∃ s, S s ∧ (qg_R a b C (a l) s ∨ qg_R a b C (b l) s) ∧ cap s < qs ld (qg_R a b C (a l)) n + qs ld (qg_R a b C (b l)) n) 115 (qite (∃ m, m < k ∧ rt m < qcu a b ld n S (qg_add C l) m) 108 110)), u') ∧ qfr u u' := by
      unfold fX4_closeReason_j210
      by_cases q7 : qg_L a b S C (a l) ↔ qg_L a b S C (b l)
      · rw [qite_1 q7, if_pos (hf.eq0.mpr (fun i z => z.elim (fun z => z.2.1 (q7.mp z.1)) (fun z => z.1 (q7.mpr z.2.1))))]
        exact ⟨u, rfl, qfr.rf u⟩
      have hne : ∃ i, qfed a b S C l i := by
        by_cases z : qg_L a b S C (a l)
        · exact ⟨b l, Or.inl ⟨z, fun w => q7 ⟨fun _ => w, fun _ => z⟩, qg_rf⟩⟩
        · by_cases w : qg_L a b S C (b l)
          · exact ⟨a l, Or.inr ⟨z, w, qg_rf⟩⟩
          · exact absurd ⟨fun x => absurd x z, fun x => absurd x w⟩ q7
      rw [qite_0 q7, if_neg (fun z => by obtain ⟨i, hi⟩ := hne; exact hf.eq0.mp z i hi)]
      -- the one source
      obtain ⟨s0, t1, t2, t3⟩ : ∃ s0, S s0 ∧ (qg_R a b C (a l) s0 ∨ qg_R a b C (b l) s0) ∧ ∀ s, S s → (qg_R a b C (a l) s ∨ qg_R a b C (b l) s) → s = s0 := by
        by_cases z : qg_L a b S C (a l)
        · obtain ⟨s0, z1, z2⟩ := z
          refine ⟨s0, z1, Or.inl z2, fun s w1 w2 => w2.elim (fun w => q_two hO w1 w z1 z2) (fun w => absurd ⟨⟨s0, z1, z2⟩, ⟨s, w1, w⟩⟩ q6)⟩
        · by_cases w : qg_L a b S C (b l)
          · obtain ⟨s0, z1, z2⟩ := w
            exact ⟨s0, z1, Or.inr z2, fun s w1 w2 => w2.elim (fun w => absurd ⟨s, w1, w⟩ z) (fun w => q_two hO w1 w z1 z2)⟩
          · exact absurd ⟨fun x => absurd x z, fun x => absurd x w⟩ q7
      have hs0 := hW.Sn s0 t1
      have hcap0 := hW.2.1 s0 hs0
      have hask : fX1_asksTooMuch N u (here ||| there) = some (if cap s0 < qs ld (qg_R a b C (a l)) n + qs ld (qg_R a b C (b l)) n then 1 else 0) := by
        have hb1 := qs_bd (f := ld) (P := qg_R a b C (a l)) (c := 99) (n := n) (fun i hi _ => hW.ld9 i hi)
        have hb2 := qs_bd (f := ld) (P := qg_R a b C (b l)) (c := 99) (n := n) (fun i hi _ => hW.ld9 i hi)
        unfold fX1_asksTooMuch
        rw [qx_li hX hN hW.ldv (i2.or j2), q_bs, qs_or (P := qg_R a b C (a l)) (Q := qg_R a b C (b l)) (fun i _ z1 z2 => q5 (qg_tr z1 (qg_sy z2))), qx_src hN hn (i2.or j2) hW.sS hW.Sn, q_bs, qf_s (P := fun i => (qg_R a b C (a l) i ∨ qg_R a b C (b l) i) ∧ S i) ⟨t2, t1⟩ (fun j hj z => by have := t3 j z.2 z.1; omega) hs0, qx_cap hX hs0, q_bs, hcap0.1]
        by_cases z : cap s0 < qs ld (qg_R a b C (a l)) n + qs ld (qg_R a b C (b l)) n
        · rw [if_pos z, q_ile0 z (by omega)]
        · rw [if_neg z, q_ile1 (by omega) (by omega)]
      rw [hask, q_bs]
      by_cases q8 : cap s0 < qs ld (qg_R a b C (a l)) n + qs ld (qg_R a b C (b l)) n
      · rw [if_pos q8, qite_1 ⟨s0, t1, t2, q8⟩, q_10]
        exact ⟨u, rfl, qfr.rf u⟩
      rw [if_neg q8, qite_0 (fun z => by obtain ⟨s, z1, z2, z3⟩ := z; rw [t3 s z1 z2] at z3; exact q8 z3), q_00, qx_bit, q_bs]
      have hC2 : ∀ m, qg_add C l m → m < k := fun m z => z.elim (hC m) (fun e => by rw [e]; exact hl)
      obtain ⟨u', w1, w2⟩ := qx_over (N := N) hN hW (hc.or (qS.bit hl32)) hC2 (qg_F_add hF q5) (qg_O_add hO q6)
      rw [w1, q_b2s]
      rcases qf_or (fun l' => rt l' < qcu a b ld n S (fun i => C i ∨ i = l) l') k with ⟨m, z1, z2, z3, z4⟩ | ⟨z1, z2⟩
      · rw [z4, q_im1 (by omega), qite_1 ⟨m, z1, z2⟩]
        exact ⟨u', rfl, w2⟩
      · rw [z2, q_im1a, qite_0 (fun ⟨m, w3, w4⟩ => z1 m w3 w4)]
        exact ⟨u', rfl, w2⟩
    unfold fX4_closeReason_j181
    by_cases q9 : B l
    · rw [hW.sB.has1 q9, qite_0 (fun z => z.1 q9), q_bs, q_10]
      exact to210
    rw [hW.sB.has0 hl32 q9, q_bs, q_00, qx_li hX hN hW.ldv hf, q_bs]
    have hb := qs_bd (f := ld) (P := qfed a b S C l) (c := 99) (n := n) (fun i hi _ => hW.ld9 i hi)
    by_cases q10 : 0 < qs ld (qfed a b S C l) n
    · rw [qite_1 ⟨q9, q10⟩, q_ilez q10 (by omega)]
      exact ⟨u, rfl, qfr.rf u⟩
    rw [qite_0 (fun z => q10 z.2), q_ilez0 (by omega)]
    exact to210
  have z0 : qS 0 (fun _ : Nat => False) := qS.z
  simp (disch := omega) only [q_ile0, q_ile1, q_ilt0, q_ilt1, q_ieq0, q_ieq1, q_iltz, q_ilez, q_ilez0, q_izlt, q_im1, q_im1a, q_ieqz, q_ieqz0, q_l10, q_l12, q_ck, q_cl, q_gt, q_bs, q_b2s, q_ls, q_sc, nI_add, if_true, if_false, ite_true, ite_false, reduceIte, q_10, q_01, q_11, q_00, hLk.has0 hl32 q2, qx_oneEnd hX hl, i1, hacr, j1]
  rw [hsrc1, q_bs]
  unfold fX4_closeReason_j82
  rw [hsrc2]
  unfold fX4_closeReason_j102
  rcases q_srcL (a := a) (b := b) (E := C) hW.Sn (a l) with ⟨s1, g1, -, -, g4, g5⟩ | ⟨g1, g5⟩ <;> rcases q_srcL (a := a) (b := b) (E := C) hW.Sn (b l) with ⟨s2, h1, -, -, h4, h5⟩ | ⟨h1, h5⟩
  · obtain ⟨u', m1, m2⟩ := main 0 (z0.cg (fun i => ⟨fun z => z.elim, fun z => z.elim (fun z => z.2.1 h1) (fun z => z.1 g1)⟩))
    rw [qt_1 g1, qt_1 h1] at m1
    refine ⟨u', ?_, m2⟩
    rw [g5, h5]
    simp (disch := omega) only [q_ile0, q_ile1, q_ilt0, q_ilt1, q_ieq0, q_ieq1, q_iltz, q_ilez, q_ilez0, q_izlt, q_im1, q_im1a, q_ieqz, q_ieqz0, q_l10, q_l12, q_ck, q_cl, q_gt, q_bs, q_b2s, q_ls, q_sc, nI_add, if_true, if_false, ite_true, ite_false, reduceIte, q_10, q_01, q_11, q_00]
    exact m1
  · obtain ⟨u', m1, m2⟩ := main there (j2.cg (fun i => ⟨fun z => Or.inl ⟨g1, h1, z⟩, fun z => z.elim (fun z => z.2.2) (fun z => absurd g1 z.1)⟩))
    rw [qt_1 g1, qt_0 h1] at m1
    refine ⟨u', ?_, m2⟩
    rw [g5, h5]
    simp (disch := omega) only [q_ile0, q_ile1, q_ilt0, q_ilt1, q_ieq0, q_ieq1, q_iltz, q_ilez, q_ilez0, q_izlt, q_im1, q_im1a, q_ieqz, q_ieqz0, q_l10, q_l12, q_ck, q_cl, q_gt, q_bs, q_b2s, q_ls, q_sc, nI_add, if_true, if_false, ite_true, ite_false, reduceIte, q_10, q_01, q_11, q_00]
    exact m1
  · obtain ⟨u', m1, m2⟩ := main here (i2.cg (fun i => ⟨fun z => Or.inr ⟨g1, h1, z⟩, fun z => z.elim (fun z => absurd z.1 g1) (fun z => z.2.2)⟩))
    rw [qt_0 g1, qt_1 h1] at m1
    refine ⟨u', ?_, m2⟩
    rw [g5, h5]
    simp (disch := omega) only [q_ile0, q_ile1, q_ilt0, q_ilt1, q_ieq0, q_ieq1, q_iltz, q_ilez, q_ilez0, q_izlt, q_im1, q_im1a, q_ieqz, q_ieqz0, q_l10, q_l12, q_ck, q_cl, q_gt, q_bs, q_b2s, q_ls, q_sc, nI_add, if_true, if_false, ite_true, ite_false, reduceIte, q_10, q_01, q_11, q_00]
    exact m1
  · obtain ⟨u', m1, m2⟩ := main 0 (z0.cg (fun i => ⟨fun z => z.elim, fun z => z.elim (fun z => g1 z.1) (fun z => h1 z.2.1)⟩))
    rw [qt_0 g1, qt_0 h1] at m1
    refine ⟨u', ?_, m2⟩
    rw [g5, h5]
    simp (disch := omega) only [q_ile0, q_ile1, q_ilt0, q_ilt1, q_ieq0, q_ieq1, q_iltz, q_ilez, q_ilez0, q_izlt, q_im1, q_im1a, q_ieqz, q_ieqz0, q_l10, q_l12, q_ck, q_cl, q_gt, q_bs, q_b2s, q_ls, q_sc, nI_add, if_true, if_false, ite_true, ite_false, reduceIte, q_10, q_01, q_11, q_00]
    exact m1
/-- the reference's switches -/
def qV (v : sg_St) (k : Nat) (C Lk Fl : Nat → Prop) : Prop := ∀ l, l < k → v 19 l = qt (C l) ∧ v 20 l = qt (Lk l) ∧ v 21 l = qt (Fl l)
theorem qm_faultIn (hN : 20 < N) (hM : qM v n k a b ld cap pr rt S B) (hV : qV v k C Lk Fl) (hC : ∀ l, C l → l < k) (h22 : ∀ i, i < n → v 22 i = nI (lab i)) (hlab : qlab n a b C lab) (hx : x < n) : fX6_hasFaultIn N v (nI (lab x)) = some (qt (∃ m, C m ∧ Fl m ∧ qg_R a b C x (a m))) := by
  obtain ⟨h0, h1, hn, hk, he, -, -⟩ := hM
  have hlx := (hlab.1 x hx).2
  have ev : ∀ i, i < k → fX6_hasFaultIn_L2 N v (nI (lab x)) (nI i) = @ite _ (C i ∧ Fl i ∧ lab x = lab (a i)) (Classical.propDecidable _) (some (Sum.inr 1)) (some (Sum.inl (nI (i + 1)))) := by
    intro i hi
    obtain ⟨e1, e2, e3, e4, e5⟩ := he i hi
    obtain ⟨v1, v2, v3⟩ := hV i hi
    have hli := (hlab.1 (a i) e3).2
    unfold fX6_hasFaultIn_L2
    by_cases q1 : C i
    · by_cases q2 : Fl i
      · by_cases q3 : lab x = lab (a i)
        · rw [if_pos (c := C i ∧ Fl i ∧ lab x = lab (a i)) ⟨q1, q2, q3⟩]
          simp (disch := omega) only [q_ile0, q_ile1, q_ilt0, q_ilt1, q_ieq0, q_ieq1, q_iltz, q_ilez, q_ilez0, q_izlt, q_im1, q_im1a, q_ieqz, q_ieqz0, q_l10, q_l12, q_ck, q_cl, q_gt, q_bs, q_b2s, q_ls, q_sc, nI_add, if_true, if_false, ite_true, ite_false, reduceIte, q_10, q_01, q_11, q_00, h1, v1, v3, qt_1 q1, qt_1 q2, e1, h22 _ e3]
        · rw [if_neg (c := C i ∧ Fl i ∧ lab x = lab (a i)) (fun z => q3 z.2.2)]
          simp (disch := omega) only [q_ile0, q_ile1, q_ilt0, q_ilt1, q_ieq0, q_ieq1, q_iltz, q_ilez, q_ilez0, q_izlt, q_im1, q_im1a, q_ieqz, q_ieqz0, q_l10, q_l12, q_ck, q_cl, q_gt, q_bs, q_b2s, q_ls, q_sc, nI_add, if_true, if_false, ite_true, ite_false, reduceIte, q_10, q_01, q_11, q_00, h1, v1, v3, qt_1 q1, qt_1 q2, e1, h22 _ e3]
      · rw [if_neg (c := C i ∧ Fl i ∧ lab x = lab (a i)) (fun z => q2 z.2.1)]
        simp (disch := omega) only [q_ile0, q_ile1, q_ilt0, q_ilt1, q_ieq0, q_ieq1, q_iltz, q_ilez, q_ilez0, q_izlt, q_im1, q_im1a, q_ieqz, q_ieqz0, q_l10, q_l12, q_ck, q_cl, q_gt, q_bs, q_b2s, q_ls, q_sc, nI_add, if_true, if_false, ite_true, ite_false, reduceIte, q_10, q_01, q_11, q_00, h1, v1, v3, qt_1 q1, qt_0 q2]
    · rw [if_neg (c := C i ∧ Fl i ∧ lab x = lab (a i)) (fun z => q1 z.1)]
      simp (disch := omega) only [q_ile0, q_ile1, q_ilt0, q_ilt1, q_ieq0, q_ieq1, q_iltz, q_ilez, q_ilez0, q_izlt, q_im1, q_im1a, q_ieqz, q_ieqz0, q_l10, q_l12, q_ck, q_cl, q_gt, q_bs, q_b2s, q_ls, q_sc, nI_add, if_true, if_false, ite_true, ite_false, reduceIte, q_10, q_01, q_11, q_00, h1, v1, qt_0 q1]
  unfold fX6_hasFaultIn
  rcases q_least (P := fun i => C i ∧ Fl i ∧ lab x = lab (a i)) k with ⟨i, g1, g2, g3⟩ | g
  · rw [qt_1 ⟨i, g2.1, g2.2.1, (hlab.eq hx (he i g1).2.2.1).mp g2.2.2⟩]
    refine q_for (fun j => nI j) (n := i) (by omega) (fun j hj => ?_) ?_
    · show fX6_hasFaultIn_L2 N v (nI (lab x)) (nI j) = _
      rw [ev j (by omega), if_neg (g3 j hj)]
    · show fX6_hasFaultIn_L2 N v (nI (lab x)) (nI i) = _
      rw [ev i g1, if_pos g2]
  · rw [qt_0 (fun ⟨m, z1, z2, z3⟩ => g m (hC m z1) ⟨z1, z2, (hlab.eq hx (he m (hC m z1)).2.2.1).mpr z3⟩)]
    refine q_for (fun j => nI j) (n := k) (by omega) (fun j hj => ?_) ?_
    · show fX6_hasFaultIn_L2 N v (nI (lab x)) (nI j) = _
      rw [ev j hj, if_neg (g j hj)]
    · show fX6_hasFaultIn_L2 N v (nI (lab x)) (nI k) = _
      unfold fX6_hasFaultIn_L2
      simp (disch := omega) only [q_ile0, q_ile1, q_ilt0, q_ilt1, q_ieq0, q_ieq1, q_iltz, q_ilez, q_ilez0, q_izlt, q_im1, q_im1a, q_ieqz, q_ieqz0, q_l10, q_l12, q_ck, q_cl, q_gt, q_bs, q_b2s, q_ls, q_sc, nI_add, if_true, if_false, ite_true, ite_false, reduceIte, q_10, q_01, q_11, q_00, h1]
theorem qV.fr (h : qV u k C Lk Fl) (f : ∀ j, j ≠ 22 → v j = u j) : qV v k C Lk Fl := fun l hl => by
  rw [f 19 (by omega), f 20 (by omega), f 21 (by omega)]
  exact h l hl
theorem qm_reason (hN : 200 < N) (hM : qM v n k a b ld cap pr rt S B) (hV : qV v k C Lk Fl) (hSn : ∀ i, S i → i < n) (hg : qgood n k a b ld cap rt S C) (hl : l < k) : ∃ v', fX6_reason N v (nI l) = some (qrs n k a b ld cap rt S B Lk Fl C l, v') ∧ ∀ j, j ≠ 22 → v' j = v j := by
  have hk := hM.2.2.2.1
  have hn := hM.2.2.1
  have hg' := hg
  obtain ⟨hC, hF, hO, hcap, hrt⟩ := hg
  obtain ⟨v1, v2, v3⟩ := hV l hl
  unfold fX6_reason qrs
  by_cases q1 : C l
  · rw [qite_1 q1]
    refine ⟨v, ?_, fun _ _ => rfl⟩
    simp (disch := omega) only [q_ile0, q_ile1, q_ilt0, q_ilt1, q_ieq0, q_ieq1, q_iltz, q_ilez, q_ilez0, q_izlt, q_im1, q_im1a, q_ieqz, q_ieqz0, q_l10, q_l12, q_ck, q_cl, q_gt, q_bs, q_b2s, q_ls, q_sc, nI_add, if_true, if_false, ite_true, ite_false, reduceIte, q_10, q_01, q_11, q_00, v1, qt_1 q1]
  rw [qite_0 q1]
  by_cases q2 : Lk l
  · rw [qite_1 q2]
    refine ⟨v, ?_, fun _ _ => rfl⟩
    simp (disch := omega) only [q_ile0, q_ile1, q_ilt0, q_ilt1, q_ieq0, q_ieq1, q_iltz, q_ilez, q_ilez0, q_izlt, q_im1, q_im1a, q_ieqz, q_ieqz0, q_l10, q_l12, q_ck, q_cl, q_gt, q_bs, q_b2s, q_ls, q_sc, nI_add, if_true, if_false, ite_true, ite_false, reduceIte, q_10, q_01, q_11, q_00, v1, v2, qt_0 q1, qt_1 q2]
  rw [qite_0 q2]
  by_cases q3 : Fl l
  · rw [qite_1 (Or.inl q3)]
    refine ⟨v, ?_, fun _ _ => rfl⟩
    simp (disch := omega) only [q_ile0, q_ile1, q_ilt0, q_ilt1, q_ieq0, q_ieq1, q_iltz, q_ilez, q_ilez0, q_izlt, q_im1, q_im1a, q_ieqz, q_ieqz0, q_l10, q_l12, q_ck, q_cl, q_gt, q_bs, q_b2s, q_ls, q_sc, nI_add, if_true, if_false, ite_true, ite_false, reduceIte, q_10, q_01, q_11, q_00, v1, v2, v3, qt_0 q1, qt_0 q2, qt_1 q3]
  obtain ⟨w, p1, p2, lab, p3, p4⟩ := qm_paint (E := C) (W := -1) (X := -1) hN hM (fun l hl => (hV l hl).1) (fun m => ⟨fun z => ⟨hC m z, q_m1 (by have := hC m z; omega), Or.inl z⟩, fun z => z.2.2.elim id (fun e => absurd e (q_m1 (by omega)))⟩)
  have hMw := hM.fr (qKM.of22 p2)
  have hVw := hV.fr p2
  obtain ⟨e1, e2, e3, e4, e5⟩ := hMw.2.2.2.2.1 l hl
  have la := (p4.1 _ e3).2
  have lb := (p4.1 _ e4).2
  have hsa := qm_src (N := N) (by omega) hMw p3 p4 e3
  have hsb := qm_src (N := N) (by omega) hMw p3 p4 e4
  have hua := qm_sum (N := N) (by omega) hMw p3 p4 e3
  have hub := qm_sum (N := N) (by omega) hMw p3 p4 e4
  have w18 := (hMw.2.2.2.2.2.2 l hl).2.2.2
  have h228 : ∃ v', fX6_reason_j228 N w (nI l) = some (qite (∃ m, m < k ∧ rt m < qcu a b ld n S (qg_add C l) m) 108 110, v') ∧ ∀ j, j ≠ 22 → v' j = v j := by
    obtain ⟨v', w1, w2⟩ := qm_over (C' := qg_add C l) (X := nI l) hN hMw hSn (fun l hl => (hVw l hl).1) (fun m => ⟨fun z => z.elim (fun z => ⟨hC m z, Or.inl z⟩) (fun e => ⟨by rw [e]; exact hl, Or.inr (by rw [e])⟩), fun z => z.2.imp id (fun e => (q_eq (by omega) (by omega)).mp e)⟩)
    unfold fX6_reason_j228
    rw [w1, q_b2s]
    rcases qf_or (fun l' => rt l' < qcu a b ld n S (qg_add C l) l') k with ⟨m, z1, z2, z3, z4⟩ | ⟨z1, z2⟩
    · rw [z4, q_im1 (by omega), qite_1 ⟨m, z1, z2⟩]
      exact ⟨v', rfl, fun j hj => (w2 j hj).trans (p2 j hj)⟩
    · rw [z2, q_im1a, qite_0 (fun ⟨m, w3, w4⟩ => z1 m w3 w4)]
      exact ⟨v', rfl, fun j hj => (w2 j hj).trans (p2 j hj)⟩
  simp (disch := omega) only [q_ile0, q_ile1, q_ilt0, q_ilt1, q_ieq0, q_ieq1, q_iltz, q_ilez, q_ilez0, q_izlt, q_im1, q_im1a, q_ieqz, q_ieqz0, q_l10, q_l12, q_ck, q_cl, q_gt, q_bs, q_b2s, q_ls, q_sc, nI_add, if_true, if_false, ite_true, ite_false, reduceIte, q_10, q_01, q_11, q_00, v1, v2, v3, qt_0 q1, qt_0 q2, qt_0 q3, p1, e1, e2, p3 _ e3, p3 _ e4]
  rw [hsa, q_bs, hsb]
  rcases q_srcL (a := a) (b := b) (E := C) hSn (a l) with ⟨s1, g1, g2, g3, g4, g5⟩ | ⟨g1, g5⟩ <;> rcases q_srcL (a := a) (b := b) (E := C) hSn (b l) with ⟨s2, h1, h2, h3, h4, h5⟩ | ⟨h1, h5⟩
  · -- both live
    rw [qite_0 (fun z => z.elim q3 (fun ⟨m, z1, z2, z3⟩ => z3.elim (fun z => z.2.1 h1) (fun z => z.1 g1))), qite_1 (Or.inr ⟨g1, h1⟩), g5, h5]
    refine ⟨w, ?_, p2⟩
    unfold fX6_reason_j91 fX6_reason_j102 fX6_reason_j110 fX6_reason_j123 fX6_reason_j142
    by_cases z : lab (a l) = lab (b l)
    · simp (disch := omega) only [q_ile0, q_ile1, q_ilt0, q_ilt1, q_ieq0, q_ieq1, q_iltz, q_ilez, q_ilez0, q_izlt, q_im1, q_im1a, q_ieqz, q_ieqz0, q_l10, q_l12, q_ck, q_cl, q_gt, q_bs, q_b2s, q_ls, q_sc, nI_add, if_true, if_false, ite_true, ite_false, reduceIte, q_10, q_01, q_11, q_00]
    · simp (disch := omega) only [q_ile0, q_ile1, q_ilt0, q_ilt1, q_ieq0, q_ieq1, q_iltz, q_ilez, q_ilez0, q_izlt, q_im1, q_im1a, q_ieqz, q_ieqz0, q_l10, q_l12, q_ck, q_cl, q_gt, q_bs, q_b2s, q_ls, q_sc, nI_add, if_true, if_false, ite_true, ite_false, reduceIte, q_10, q_01, q_11, q_00]
  · -- the first end live
    have hfed : qfed a b S C l = qg_R a b C (b l) := funext (fun i => propext ⟨fun z => z.elim (fun z => z.2.2) (fun z => absurd g1 z.1), fun z => Or.inl ⟨g1, h1, z⟩⟩)
    have hnR : ¬ qg_R a b C (a l) (b l) := fun z => h1 (qg_L_of (qg_sy z) g1)
    have hnl : ¬ lab (a l) = lab (b l) := fun z => hnR ((p4.eq e3 e4).mp z)
    rw [hfed, g5, h5]
    unfold fX6_reason_j91 fX6_reason_j102 fX6_reason_j110 fX6_reason_j123
    have hft := qm_faultIn (N := N) (x := b l) (by omega) hMw hVw hC p3 p4 e4
    by_cases q4 : ∃ m, C m ∧ Fl m ∧ qg_R a b C (b l) (a m)
    · rw [qite_1 (Or.inr q4)]
      rw [qt_1 q4] at hft
      refine ⟨w, ?_, p2⟩
      simp (disch := omega) only [q_ile0, q_ile1, q_ilt0, q_ilt1, q_ieq0, q_ieq1, q_iltz, q_ilez, q_ilez0, q_izlt, q_im1, q_im1a, q_ieqz, q_ieqz0, q_l10, q_l12, q_ck, q_cl, q_gt, q_bs, q_b2s, q_ls, q_sc, nI_add, if_true, if_false, ite_true, ite_false, reduceIte, q_10, q_01, q_11, q_00, hft]
    rw [qite_0 (fun z => z.elim q3 q4), qite_0 (fun z => z.elim hnR (fun z => h1 z.2))]
    rw [qt_0 q4] at hft
    unfold fX6_reason_j142
    have hb := qs_bd (f := ld) (P := qg_R a b C (b l)) (c := 99) (n := n) (fun i hi _ => (hM.2.2.2.2.2.1 i hi).2.2.2.2.2.1)
    have ha := qs_bd (f := ld) (P := qg_R a b C (a l)) (c := 99) (n := n) (fun i hi _ => (hM.2.2.2.2.2.1 i hi).2.2.2.2.2.1)
    have hc1 := hMw.2.2.2.2.2.1 s1 g4
    have h188 : ∃ v', fX6_reason_j188 N w (nI l) (nI (lab (a l))) (nI (lab (b l))) (nI s1) (-1) 1 = some (qite (qg_L a b S C (a l) ↔ qg_L a b S C (b l)) 110 (qite (∃ s, S s ∧ (qg_R a b C (a l) s ∨ qg_R a b C (b l) s) ∧ cap s < qs ld (qg_R a b C (a l)) n + qs ld (qg_R a b C (b l)) n) 115 (qite (∃ m, m < k ∧ rt m < qcu a b ld n S (qg_add C l) m) 108 110)), v') ∧ ∀ j, j ≠ 22 → v' j = v j := by
      rw [qite_0 (fun z => h1 (z.mp g1))]
      unfold fX6_reason_j188 fX6_reason_j221
      rw [hua, hub]
      by_cases q8 : cap s1 < qs ld (qg_R a b C (a l)) n + qs ld (qg_R a b C (b l)) n
      · rw [qite_1 ⟨s1, g2, Or.inl g3, q8⟩]
        refine ⟨w, ?_, p2⟩
        simp (disch := omega) only [q_ile0, q_ile1, q_ilt0, q_ilt1, q_ieq0, q_ieq1, q_iltz, q_ilez, q_ilez0, q_izlt, q_im1, q_im1a, q_ieqz, q_ieqz0, q_l10, q_l12, q_ck, q_cl, q_gt, q_bs, q_b2s, q_ls, q_sc, nI_add, if_true, if_false, ite_true, ite_false, reduceIte, q_10, q_01, q_11, q_00, hc1.2.1]
      · rw [qite_0 (fun ⟨s, z1, z2, z3⟩ => by
          have e : s = s1 := z2.elim (fun z => q_two hO z1 z g2 g3) (fun z => absurd ⟨s, z1, z⟩ h1)
          rw [e] at z3
          exact q8 z3)]
        obtain ⟨v', x1, x2⟩ := h228
        refine ⟨v', ?_, x2⟩
        simp (disch := omega) only [q_ile0, q_ile1, q_ilt0, q_ilt1, q_ieq0, q_ieq1, q_iltz, q_ilez, q_ilez0, q_izlt, q_im1, q_im1a, q_ieqz, q_ieqz0, q_l10, q_l12, q_ck, q_cl, q_gt, q_bs, q_b2s, q_ls, q_sc, nI_add, if_true, if_false, ite_true, ite_false, reduceIte, q_10, q_01, q_11, q_00, hc1.2.1]
        exact x1
    have h162 : ∃ v', fX6_reason_j162 N w (nI l) (nI (lab (a l))) (nI (lab (b l))) (nI s1) (-1) 1 (nI (lab (b l))) = some (qite (¬ B l ∧ 0 < qs ld (qg_R a b C (b l)) n) 100 (qite (qg_L a b S C (a l) ↔ qg_L a b S C (b l)) 110 (qite (∃ s, S s ∧ (qg_R a b C (a l) s ∨ qg_R a b C (b l) s) ∧ cap s < qs ld (qg_R a b C (a l)) n + qs ld (qg_R a b C (b l)) n) 115 (qite (∃ m, m < k ∧ rt m < qcu a b ld n S (qg_add C l) m) 108 110))), v') ∧ ∀ j, j ≠ 22 → v' j = v j := by
      unfold fX6_reason_j162
      by_cases q9 : B l
      · rw [qite_0 (fun z => z.1 q9)]
        obtain ⟨v', x1, x2⟩ := h188
        refine ⟨v', ?_, x2⟩
        simp (disch := omega) only [q_ile0, q_ile1, q_ilt0, q_ilt1, q_ieq0, q_ieq1, q_iltz, q_ilez, q_ilez0, q_izlt, q_im1, q_im1a, q_ieqz, q_ieqz0, q_l10, q_l12, q_ck, q_cl, q_gt, q_bs, q_b2s, q_ls, q_sc, nI_add, if_true, if_false, ite_true, ite_false, reduceIte, q_10, q_01, q_11, q_00, w18, qt_1 q9]
        exact x1
      · by_cases q10 : 0 < qs ld (qg_R a b C (b l)) n
        · rw [qite_1 ⟨q9, q10⟩]
          refine ⟨w, ?_, p2⟩
          simp (disch := omega) only [q_ile0, q_ile1, q_ilt0, q_ilt1, q_ieq0, q_ieq1, q_iltz, q_ilez, q_ilez0, q_izlt, q_im1, q_im1a, q_ieqz, q_ieqz0, q_l10, q_l12, q_ck, q_cl, q_gt, q_bs, q_b2s, q_ls, q_sc, nI_add, if_true, if_false, ite_true, ite_false, reduceIte, q_10, q_01, q_11, q_00, w18, qt_0 q9, hub]
        · rw [qite_0 (fun z => q10 z.2)]
          obtain ⟨v', x1, x2⟩ := h188
          refine ⟨v', ?_, x2⟩
          simp (disch := omega) only [q_ile0, q_ile1, q_ilt0, q_ilt1, q_ieq0, q_ieq1, q_iltz, q_ilez, q_ilez0, q_izlt, q_im1, q_im1a, q_ieqz, q_ieqz0, q_l10, q_l12, q_ck, q_cl, q_gt, q_bs, q_b2s, q_ls, q_sc, nI_add, if_true, if_false, ite_true, ite_false, reduceIte, q_10, q_01, q_11, q_00, w18, qt_0 q9, hub]
          exact x1
    obtain ⟨v', x1, x2⟩ := h162
    refine ⟨v', ?_, x2⟩
    simp (disch := omega) only [q_ile0, q_ile1, q_ilt0, q_ilt1, q_ieq0, q_ieq1, q_iltz, q_ilez, q_ilez0, q_izlt, q_im1, q_im1a, q_ieqz, q_ieqz0, q_l10, q_l12, q_ck, q_cl, q_gt, q_bs, q_b2s, q_ls, q_sc, nI_add, if_true, if_false, ite_true, ite_false, reduceIte, q_10, q_01, q_11, q_00, hft]
    exact x1
  · -- the second end live
    have hfed : qfed a b S C l = qg_R a b C (a l) := funext (fun i => propext ⟨fun z => z.elim (fun z => absurd z.1 g1) (fun z => z.2.2), fun z => Or.inr ⟨g1, h1, z⟩⟩)
    have hnR : ¬ qg_R a b C (a l) (b l) := fun z => g1 (qg_L_of z h1)
    have hnl : ¬ lab (a l) = lab (b l) := fun z => hnR ((p4.eq e3 e4).mp z)
    rw [hfed, g5, h5]
    unfold fX6_reason_j91 fX6_reason_j102 fX6_reason_j110 fX6_reason_j123
    have hft := qm_faultIn (N := N) (x := a l) (by omega) hMw hVw hC p3 p4 e3
    by_cases q4 : ∃ m, C m ∧ Fl m ∧ qg_R a b C (a l) (a m)
    · rw [qite_1 (Or.inr q4)]
      rw [qt_1 q4] at hft
      refine ⟨w, ?_, p2⟩
      simp (disch := omega) only [q_ile0, q_ile1, q_ilt0, q_ilt1, q_ieq0, q_ieq1, q_iltz, q_ilez, q_ilez0, q_izlt, q_im1, q_im1a, q_ieqz, q_ieqz0, q_l10, q_l12, q_ck, q_cl, q_gt, q_bs, q_b2s, q_ls, q_sc, nI_add, if_true, if_false, ite_true, ite_false, reduceIte, q_10, q_01, q_11, q_00, hft]
    rw [qite_0 (fun z => z.elim q3 q4), qite_0 (fun z => z.elim hnR (fun z => g1 z.1))]
    rw [qt_0 q4] at hft
    unfold fX6_reason_j142
    have hb := qs_bd (f := ld) (P := qg_R a b C (b l)) (c := 99) (n := n) (fun i hi _ => (hM.2.2.2.2.2.1 i hi).2.2.2.2.2.1)
    have ha := qs_bd (f := ld) (P := qg_R a b C (a l)) (c := 99) (n := n) (fun i hi _ => (hM.2.2.2.2.2.1 i hi).2.2.2.2.2.1)
    have hc1 := hMw.2.2.2.2.2.1 s2 h4
    have h188 : ∃ v', fX6_reason_j188 N w (nI l) (nI (lab (a l))) (nI (lab (b l))) (-1) (nI s2) 1 = some (qite (qg_L a b S C (a l) ↔ qg_L a b S C (b l)) 110 (qite (∃ s, S s ∧ (qg_R a b C (a l) s ∨ qg_R a b C (b l) s) ∧ cap s < qs ld (qg_R a b C (a l)) n + qs ld (qg_R a b C (b l)) n) 115 (qite (∃ m, m < k ∧ rt m < qcu a b ld n S (qg_add C l) m) 108 110)), v') ∧ ∀ j, j ≠ 22 → v' j = v j := by
      rw [qite_0 (fun z => g1 (z.mpr h1))]
      unfold fX6_reason_j188 fX6_reason_j221
      rw [hua, hub]
      by_cases q8 : cap s2 < qs ld (qg_R a b C (a l)) n + qs ld (qg_R a b C (b l)) n
      · rw [qite_1 ⟨s2, h2, Or.inr h3, q8⟩]
        refine ⟨w, ?_, p2⟩
        simp (disch := omega) only [q_ile0, q_ile1, q_ilt0, q_ilt1, q_ieq0, q_ieq1, q_iltz, q_ilez, q_ilez0, q_izlt, q_im1, q_im1a, q_ieqz, q_ieqz0, q_l10, q_l12, q_ck, q_cl, q_gt, q_bs, q_b2s, q_ls, q_sc, nI_add, if_true, if_false, ite_true, ite_false, reduceIte, q_10, q_01, q_11, q_00, hc1.2.1]
      · rw [qite_0 (fun ⟨s, z1, z2, z3⟩ => by
          have e : s = s2 := z2.elim (fun z => absurd ⟨s, z1, z⟩ g1) (fun z => q_two hO z1 z h2 h3)
          rw [e] at z3
          exact q8 z3)]
        obtain ⟨v', x1, x2⟩ := h228
        refine ⟨v', ?_, x2⟩
        simp (disch := omega) only [q_ile0, q_ile1, q_ilt0, q_ilt1, q_ieq0, q_ieq1, q_iltz, q_ilez, q_ilez0, q_izlt, q_im1, q_im1a, q_ieqz, q_ieqz0, q_l10, q_l12, q_ck, q_cl, q_gt, q_bs, q_b2s, q_ls, q_sc, nI_add, if_true, if_false, ite_true, ite_false, reduceIte, q_10, q_01, q_11, q_00, hc1.2.1]
        exact x1
    have h162 : ∃ v', fX6_reason_j162 N w (nI l) (nI (lab (a l))) (nI (lab (b l))) (-1) (nI s2) 1 (nI (lab (a l))) = some (qite (¬ B l ∧ 0 < qs ld (qg_R a b C (a l)) n) 100 (qite (qg_L a b S C (a l) ↔ qg_L a b S C (b l)) 110 (qite (∃ s, S s ∧ (qg_R a b C (a l) s ∨ qg_R a b C (b l) s) ∧ cap s < qs ld (qg_R a b C (a l)) n + qs ld (qg_R a b C (b l)) n) 115 (qite (∃ m, m < k ∧ rt m < qcu a b ld n S (qg_add C l) m) 108 110))), v') ∧ ∀ j, j ≠ 22 → v' j = v j := by
      unfold fX6_reason_j162
      by_cases q9 : B l
      · rw [qite_0 (fun z => z.1 q9)]
        obtain ⟨v', x1, x2⟩ := h188
        refine ⟨v', ?_, x2⟩
        simp (disch := omega) only [q_ile0, q_ile1, q_ilt0, q_ilt1, q_ieq0, q_ieq1, q_iltz, q_ilez, q_ilez0, q_izlt, q_im1, q_im1a, q_ieqz, q_ieqz0, q_l10, q_l12, q_ck, q_cl, q_gt, q_bs, q_b2s, q_ls, q_sc, nI_add, if_true, if_false, ite_true, ite_false, reduceIte, q_10, q_01, q_11, q_00, w18, qt_1 q9]
        exact x1
      · by_cases q10 : 0 < qs ld (qg_R a b C (a l)) n
        · rw [qite_1 ⟨q9, q10⟩]
          refine ⟨w, ?_, p2⟩
          simp (disch := omega) only [q_ile0, q_ile1, q_ilt0, q_ilt1, q_ieq0, q_ieq1, q_iltz, q_ilez, q_ilez0, q_izlt, q_im1, q_im1a, q_ieqz, q_ieqz0, q_l10, q_l12, q_ck, q_cl, q_gt, q_bs, q_b2s, q_ls, q_sc, nI_add, if_true, if_false, ite_true, ite_false, reduceIte, q_10, q_01, q_11, q_00, w18, qt_0 q9, hua]
        · rw [qite_0 (fun z => q10 z.2)]
          obtain ⟨v', x1, x2⟩ := h188
          refine ⟨v', ?_, x2⟩
          simp (disch := omega) only [q_ile0, q_ile1, q_ilt0, q_ilt1, q_ieq0, q_ieq1, q_iltz, q_ilez, q_ilez0, q_izlt, q_im1, q_im1a, q_ieqz, q_ieqz0, q_l10, q_l12, q_ck, q_cl, q_gt, q_bs, q_b2s, q_ls, q_sc, nI_add, if_true, if_false, ite_true, ite_false, reduceIte, q_10, q_01, q_11, q_00, w18, qt_0 q9, hua]
          exact x1
    obtain ⟨v', x1, x2⟩ := h162
    refine ⟨v', ?_, x2⟩
    simp (disch := omega) only [q_ile0, q_ile1, q_ilt0, q_ilt1, q_ieq0, q_ieq1, q_iltz, q_ilez, q_ilez0, q_izlt, q_im1, q_im1a, q_ieqz, q_ieqz0, q_l10, q_l12, q_ck, q_cl, q_gt, q_bs, q_b2s, q_ls, q_sc, nI_add, if_true, if_false, ite_true, ite_false, reduceIte, q_10, q_01, q_11, q_00, hft]
    exact x1
  · -- both dark
    have hfed : ∀ i, ¬ qfed a b S C l i := fun i z => z.elim (fun z => g1 z.1) (fun z => h1 z.2.1)
    rw [qite_0 (fun z => z.elim q3 (fun ⟨m, z1, z2, z3⟩ => hfed _ z3)), g5, h5, q_bs, q_im1a]
    unfold fX6_reason_j91
    rw [q_im1a]
    unfold fX6_reason_j102
    rw [q_11]
    unfold fX6_reason_j110
    rw [q_im1a]
    unfold fX6_reason_j123
    rw [q_00]
    unfold fX6_reason_j142
    by_cases q5 : qg_R a b C (a l) (b l)
    · rw [qite_1 (Or.inl q5), q_ieq1 ((p4.eq e3 e4).mpr q5)]
      exact ⟨w, rfl, p2⟩
    · have hnl : ¬ lab (a l) = lab (b l) := fun z => q5 ((p4.eq e3 e4).mp z)
      rw [qite_0 (fun z => z.elim q5 (fun z => g1 z.1)), qite_0 (fun z => by rw [qs_no (fun i _ => hfed i)] at z; exact absurd z.2 (Nat.lt_irrefl 0)), qite_1 ⟨fun z => absurd z g1, fun z => absurd z h1⟩, q_ieq0 (by omega) (by omega) (by omega), q_im1a]
      unfold fX6_reason_j162
      rw [q_00]
      unfold fX6_reason_j188
      rw [q_00]
      obtain ⟨v', x1, x2⟩ := h228
      rw [qite_0 (fun ⟨m, z1, z2⟩ => by have := qdark hg' q1 g1 h1 m; omega)] at x1
      exact ⟨v', x1, x2⟩
end RX
