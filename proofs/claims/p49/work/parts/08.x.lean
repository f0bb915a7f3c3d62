/-! calls: faults, repairs, resets -/
theorem qt_cg {P Q : Prop} (h : P ↔ Q) : qt P = qt Q := by
  by_cases q : P
  · rw [qt_1 q, qt_1 (h.mp q)]
  · rw [qt_0 q, qt_0 (fun z => q (h.mpr z))]
theorem q_m2 {i : Nat} (h : i < 2147483648) : ¬ nI i = -2 := fun e => by
  have e2 : (nI i).toInt = (-2 : Int32).toInt := by rw [e]
  rw [nI_toInt (show i < 2 ^ 31 by omega), show (-2 : Int32).toInt = -2 from by decide] at e2
  omega
section CD
variable {N n k : Nat} {u v u' v' w : sg_St} {a b ld cap pr rt pk mu ins : Nat → Nat} {S B C C' Lk Fl Lk' Fl' : Nat → Prop} {l x : Nat}
theorem sb12 (hN : 5000 < N) (u v : sg_St) (hI : qI u v) (p : Int32) : sb_12 N qI u v p := by
  unfold sb_12 fX5_reset fX6_reset
  refine q_line hI p _ _ 0 (fun n k a b ld cap pr rt pk mu ins S B C Lk Fl l v' hJ h0 hl hp => ?_)
  subst hp
  have hk := hJ.k12
  obtain ⟨f19, f20, f21⟩ := hJ.fl l (by omega)
  by_cases q1 : Fl l
  · refine ⟨(.inl 4, u), 0, sg_set v' 0 0 2, ?_, ?_, Or.inr ⟨4, u, rfl, by decide, ?_, (hJ.fr (qFX.rf u) (qFM.of0 v' 2)).I⟩⟩
    · rw [hJ.Fs.has1 q1, q_bs, q_10]
    · simp (disch := omega) only [q_ile0, q_ile1, q_ilt0, q_ilt1, q_ieq0, q_ieq1, q_iltz, q_ilez, q_ilez0, q_izlt, q_im1, q_im1a, q_ieqz, q_ieqz0, q_l10, q_l12, q_ck, q_cl, q_gt, q_bs, q_b2s, q_ls, q_sc, nI_add, if_true, if_false, ite_true, ite_false, reduceIte, q_10, q_01, q_11, q_00, f21, qt_1 q1]
      rfl
    · rw [q_th0]; rfl
  by_cases q2 : Lk l
  · have hLs : qS (u 5 0 &&& (qB l ^^^ (-1))) (fun m => Lk m ∧ ¬ m = l) := hJ.Ls.diff (qS.bit (by omega))
    have hLb : ∀ m, (Lk m ∧ ¬ m = l) → m < k := fun m z => hJ.2.2.2.2.2.2.2.2.1 m z.1
    generalize hy : sg_set v' 20 l 0 = y
    have fy : ∀ j, j ≠ 20 → y j = v' j := fun j hj => by rw [← hy, sg_set_o hj]
    have y20 : ∀ m, m < 12 → y 20 m = qt (Lk m ∧ ¬ m = l) := fun m hm => by
      rw [← hy, sg_set_s]
      by_cases e : m = l
      · rw [e, upd_s, qt_0 (fun z => z.2 rfl)]
      · rw [upd_o e, (hJ.fl m hm).2.1]
        exact qt_cg ⟨fun z => ⟨z, e⟩, fun z => z.1⟩
    have hJ' : qJ n k a b ld cap pr rt pk mu ins S B C (fun m => Lk m ∧ ¬ m = l) Fl (sg_set u 5 0 (u 5 0 &&& (qB l ^^^ (-1)))) y := hJ.sw (fun j hj => sg_set_o (by omega)) (fun j hj => fy j (by omega)) (by rw [sg_set_o (by omega)]; exact hJ.Cs) (by rw [sg_set_s, upd_s]; exact hLs) (by rw [sg_set_o (by omega)]; exact hJ.Fs) (fun m hm => by
      rw [y20 m hm, fy 19 (by omega), fy 21 (by omega)]
      exact ⟨(hJ.fl m hm).1, rfl, (hJ.fl m hm).2.2⟩) hJ.gd hLb hJ.2.2.2.2.2.2.2.2.2.1 (by rw [sg_set_o (by omega), fy 3 (by omega)]; exact hJ.2.2.2.2.2.2.2.2.2.2.1)
    have y2 : y 2 0 = nI k := by rw [fy 2 (by omega)]; exact hJ.2.1.2.1
    refine ⟨(.inr (nI (qc (fun m => Lk m ∧ ¬ m = l) k)), sg_set u 5 0 (u 5 0 &&& (qB l ^^^ (-1)))), nI (qc (fun m => Lk m ∧ ¬ m = l) k), y, ?_, ?_, Or.inl ⟨_, rfl, by rw [fy 0 (by omega)]; exact h0, hJ'.I⟩⟩
    · rw [hJ.Fs.has0 (by omega) q1, q_bs, q_00, hJ.Ls.has1 q2, q_bs, q_10, qx_bit, q_bs, sg_set_s, upd_s, qx_count N hLs (fun m z => by have := hLb m z; omega), q_bs]
      unfold qc
      rw [qs_up hLb hk]
    · have hc : sg_it (fun z : Int32 × Int32 => fX6_reset_L55 N y z.1 z.2) N (0, 0) = some (nI (qc (fun m => Lk m ∧ ¬ m = l) k)) := by
        refine q_sum (g := fun _ => 1) (P := fun m => Lk m ∧ ¬ m = l) (by omega) (fun i z hi hp => ?_) (fun i z hi hp => ?_) (fun z => ?_)
        · show fX6_reset_L55 N y z (nI i) = _
          unfold fX6_reset_L55 fX6_reset_j78
          rw [y2, q_ile0 hi (by omega), q_ck (show i < 12 by omega) (by omega), q_gt, q_cl (show i < 2147483648 by omega), y20 i (by omega), qt_0 hp, q_00, Int32.add_zero, q_sc]
        · show fX6_reset_L55 N y z (nI i) = _
          unfold fX6_reset_L55 fX6_reset_j78
          rw [y2, q_ile0 hi (by omega), q_ck (show i < 12 by omega) (by omega), q_gt, q_cl (show i < 2147483648 by omega), y20 i (by omega), qt_1 hp, q_10, q_sc]
          rfl
        · show fX6_reset_L55 N y z (nI k) = _
          unfold fX6_reset_L55
          rw [y2, q_ile1 (Nat.le_refl k) (by omega)]
      simp (disch := omega) only [q_ile0, q_ile1, q_ilt0, q_ilt1, q_ieq0, q_ieq1, q_iltz, q_ilez, q_ilez0, q_izlt, q_im1, q_im1a, q_ieqz, q_ieqz0, q_l10, q_l12, q_ck, q_cl, q_gt, q_bs, q_b2s, q_ls, q_sc, nI_add, if_true, if_false, ite_true, ite_false, reduceIte, q_10, q_01, q_11, q_00, f21, qt_0 q1, f20, qt_1 q2, show vp_nar .boolean 0 = 0 from rfl, hy, hc]
  · refine ⟨(.inl 0, u), 0, sg_set v' 0 0 3, ?_, ?_, Or.inr ⟨0, u, rfl, by decide, ?_, (hJ.fr (qFX.rf u) (qFM.of0 v' 3)).I⟩⟩
    · rw [hJ.Fs.has0 (by omega) q1, q_bs, q_00, hJ.Ls.has0 (by omega) q2, q_bs, q_00]
    · simp (disch := omega) only [q_ile0, q_ile1, q_ilt0, q_ilt1, q_ieq0, q_ieq1, q_iltz, q_ilez, q_ilez0, q_izlt, q_im1, q_im1a, q_ieqz, q_ieqz0, q_l10, q_l12, q_ck, q_cl, q_gt, q_bs, q_b2s, q_ls, q_sc, nI_add, if_true, if_false, ite_true, ite_false, reduceIte, q_10, q_01, q_11, q_00, f21, qt_0 q1, f20, qt_0 q2]
      rfl
    · rw [q_th0]; rfl
theorem sb11 (hN : 5000 < N) (u v : sg_St) (hI : qI u v) (p : Int32) : sb_11 N qI u v p := by
  have key : ∃ (R : (Nat ⊕ Int32) × sg_St) (r1 : Int32) (v1 : sg_St), fX5_repair N u p = some R ∧ fX6_repair N v p = some (r1, v1) ∧ sg_Rel qI [5, 0] R r1 v1 := by
    unfold fX5_repair fX6_repair
    refine q_line hI p _ _ 0 (fun n k a b ld cap pr rt pk mu ins S B C Lk Fl l v' hJ h0 hl hp => ?_)
    subst hp
    have hk := hJ.k12
    obtain ⟨f19, f20, f21⟩ := hJ.fl l (by omega)
    have n0 : vp_nar .boolean 0 = 0 := rfl
    unfold fX6_repair_j29 fX6_repair_j59
    by_cases q1 : Fl l
    · have hFs : qS (u 6 0 &&& (qB l ^^^ (-1))) (fun m => Fl m ∧ ¬ m = l) := hJ.Fs.diff (qS.bit (by omega))
      generalize hy : sg_set (sg_set v' 0 0 0) 21 l 0 = y
      have fy : ∀ j, j ≠ 0 → j ≠ 21 → y j = v' j := fun j h1 h2 => by rw [← hy, sg_set_o h2, sg_set_o h1]
      have y0 : y 0 0 = 0 := by rw [← hy, sg_set_o (by omega), sg_set_s, upd_s]
      have y21 : ∀ m, m < 12 → y 21 m = qt (Fl m ∧ ¬ m = l) := fun m hm => by
        rw [← hy, sg_set_s, sg_set_o (by omega)]
        by_cases e : m = l
        · rw [e, upd_s, qt_0 (fun z => z.2 rfl)]
        · rw [upd_o e, (hJ.fl m hm).2.2]
          exact qt_cg ⟨fun z => ⟨z, e⟩, fun z => z.1⟩
      have hJ' : qJ n k a b ld cap pr rt pk mu ins S B C Lk (fun m => Fl m ∧ ¬ m = l) (sg_set u 6 0 (u 6 0 &&& (qB l ^^^ (-1)))) y := hJ.sw (fun j hj => sg_set_o (by omega)) (fun j hj => fy j (by omega) (by omega)) (by rw [sg_set_o (by omega)]; exact hJ.Cs) (by rw [sg_set_o (by omega)]; exact hJ.Ls) (by rw [sg_set_s, upd_s]; exact hFs) (fun m hm => by
        rw [y21 m hm, fy 19 (by omega) (by omega), fy 20 (by omega) (by omega)]
        exact ⟨(hJ.fl m hm).1, (hJ.fl m hm).2.1, rfl⟩) hJ.gd hJ.2.2.2.2.2.2.2.2.1 (fun m z => hJ.2.2.2.2.2.2.2.2.2.1 m z.1) (by rw [sg_set_o (by omega), fy 3 (by omega) (by omega)]; exact hJ.2.2.2.2.2.2.2.2.2.2.1)
      have y20 : y 20 l = qt (Lk l) := by rw [fy 20 (by omega) (by omega)]; exact f20
      refine ⟨(.inr (qt (Lk l)), sg_set u 6 0 (u 6 0 &&& (qB l ^^^ (-1)))), qt (Lk l), y, ?_, ?_, Or.inl ⟨_, rfl, y0, hJ'.I⟩⟩
      · rw [hJ.Fs.has1 q1, q_bs, q_10, qx_bit, q_bs, sg_set_o (by omega)]
        exact q_flag hJ.Ls (by omega) Iff.rfl
      · rw [q_ck (show l < 12 by omega) (by omega), q_gt, q_cl (show l < 2147483648 by omega), f21, qt_1 q1, q_10, q_gt, n0, hy, y0, q_00, q_gt, y20]
        by_cases q2 : Lk l
        · rw [qt_1 q2, q_10]
        · rw [qt_0 q2, q_00]
    · generalize hy : sg_set (sg_set v' 0 0 2) 21 l 0 = y
      have fy : ∀ j, j ≠ 0 → j ≠ 21 → y j = v' j := fun j h1 h2 => by rw [← hy, sg_set_o h2, sg_set_o h1]
      have y0 : y 0 0 = 2 := by rw [← hy, sg_set_o (by omega), sg_set_s, upd_s]
      have y21 : ∀ m, m < 12 → y 21 m = qt (Fl m) := fun m hm => by
        rw [← hy, sg_set_s, sg_set_o (by omega)]
        by_cases e : m = l
        · rw [e, upd_s, qt_0 q1]
        · rw [upd_o e, (hJ.fl m hm).2.2]
      have hJ' : qJ n k a b ld cap pr rt pk mu ins S B C Lk Fl u y := hJ.sw (fun j hj => rfl) (fun j hj => fy j (by omega) (by omega)) hJ.Cs hJ.Ls hJ.Fs (fun m hm => by
        rw [y21 m hm, fy 19 (by omega) (by omega), fy 20 (by omega) (by omega)]
        exact ⟨(hJ.fl m hm).1, (hJ.fl m hm).2.1, rfl⟩) hJ.gd hJ.2.2.2.2.2.2.2.2.1 hJ.2.2.2.2.2.2.2.2.2.1 (by rw [fy 3 (by omega) (by omega)]; exact hJ.2.2.2.2.2.2.2.2.2.2.1)
      refine ⟨(.inl 0, u), 0, y, ?_, ?_, Or.inr ⟨0, u, rfl, by decide, ?_, hJ'.I⟩⟩
      · rw [hJ.Fs.has0 (by omega) q1, q_bs, q_00]
      · rw [q_ck (show l < 12 by omega) (by omega), q_gt, q_cl (show l < 2147483648 by omega), f21, qt_0 q1, q_00, q_gt, n0, hy, y0]
        exact if_neg (by decide)
      · rw [y0]; rfl
  exact key
theorem sb10 (hN : 5000 < N) (u v : sg_St) (hI : qI u v) (p : Int32) : sb_10 N qI u v p := by
  unfold sb_10 fX5_fault fX6_fault
  refine q_line hI p _ _ 0 (fun n k a b ld cap pr rt pk mu ins S B C Lk Fl l v' hJ h0 hl hp => ?_)
  subst hp
  have hk := hJ.k12
  have hn := hJ.n10
  obtain ⟨f19, f20, f21⟩ := hJ.fl l (by omega)
  have n0 : vp_nar .boolean 0 = 0 := rfl
  have n1 : vp_nar .boolean 1 = 1 := rfl
  by_cases q1 : Fl l
  · refine ⟨(.inl 0, u), 0, sg_set v' 0 0 2, ?_, ?_, Or.inr ⟨0, u, rfl, by decide, ?_, (hJ.fr (qFX.rf u) (qFM.of0 v' 2)).I⟩⟩
    · rw [hJ.Fs.has1 q1, q_bs, q_10]
    · simp (disch := omega) only [q_ile0, q_ile1, q_ilt0, q_ilt1, q_ieq0, q_ieq1, q_iltz, q_ilez, q_ilez0, q_izlt, q_im1, q_im1a, q_ieqz, q_ieqz0, q_l10, q_l12, q_ck, q_cl, q_gt, q_bs, q_b2s, q_ls, q_sc, nI_add, if_true, if_false, ite_true, ite_false, reduceIte, q_10, q_01, q_11, q_00, f21, qt_1 q1]
      rfl
    · rw [q_th0]; rfl
  obtain ⟨r, o, e1, e2, e3⟩ := qx_answer (N := N) (by omega) hJ.1 hJ.2.2.2.2.1 hJ.2.2.2.2.2.2.1 hJ.Cs hJ.gd.1 hJ.gd.2.1 hJ.gd.2.2.1 hl
  obtain ⟨r', w, g1, g2, g3, g4⟩ := qm_tripped (N := N) (by omega) hJ.2.1 hJ.2.2.2.2.2.1 hJ.2.2.2.2.2.2.1 hJ.V hJ.Sn hJ.gd.1 hJ.gd.2.1 hJ.gd.2.2.1 hl
  have := e3.un hJ.C12 hJ.gd.2.1 hJ.gd.2.2.1 hJ.ne g3
  subst this
  have hJ' := hJ.fr (qFX.of e2) (qFM.of (fun j h1 h2 h3 h4 h5 => g2 j h2 h3 h4 h5))
  have w0 : w 0 0 = 0 := by rw [g2 0 (by omega) (by omega) (by omega) (by omega)]; exact h0
  -- the fault is noted on both sides
  generalize hx : sg_set o 6 0 (o 6 0 ||| qB l) = x
  generalize hy : sg_set w 21 l 1 = y
  have fx : ∀ j, j ≠ 6 → x j = o j := fun j hj => by rw [← hx, sg_set_o hj]
  have fy : ∀ j, j ≠ 21 → y j = w j := fun j hj => by rw [← hy, sg_set_o hj]
  have x6 : qS (x 6 0) (fun m => Fl m ∨ m = l) := by rw [← hx, sg_set_s, upd_s]; exact hJ'.Fs.or (qS.bit (by omega))
  have y21 : ∀ m, m < 12 → y 21 m = qt (Fl m ∨ m = l) := fun m hm => by
    rw [← hy, sg_set_s]
    by_cases e : m = l
    · rw [e, upd_s, qt_1 (Or.inr rfl)]
    · rw [upd_o e, (hJ'.fl m hm).2.2]
      exact qt_cg ⟨Or.inl, fun z => z.elim id (fun z => absurd z e)⟩
  have hFb : ∀ m, (Fl m ∨ m = l) → m < k := fun m z => z.elim (hJ.2.2.2.2.2.2.2.2.2.1 m) (fun e => by rw [e]; exact hl)
  have hJ2 : qJ n k a b ld cap pr rt pk mu ins S B C Lk (fun m => Fl m ∨ m = l) x y := hJ'.sw (fun j hj => fx j (by omega)) (fun j hj => fy j (by omega)) (by rw [fx 4 (by omega)]; exact hJ'.Cs) (by rw [fx 5 (by omega)]; exact hJ'.Ls) x6 (fun m hm => by
    rw [y21 m hm, fy 19 (by omega), fy 20 (by omega)]
    exact ⟨(hJ'.fl m hm).1, (hJ'.fl m hm).2.1, rfl⟩) hJ.gd hJ.2.2.2.2.2.2.2.2.1 hFb (by rw [fx 10 (by omega), fy 3 (by omega)]; exact hJ'.2.2.2.2.2.2.2.2.2.2.1)
  have y0 : y 0 0 = 0 := by rw [fy 0 (by omega)]; exact w0
  have headX : ∀ K : Int32 → sg_St → Option ((Nat ⊕ Int32) × sg_St), (sg_b (fX5_has N (u 6 0) (nI l)) (fun r6 => if r6 = 0 then sg_b2 (fX3_answerTo N u (nI l) (u 4 0)) K else some (.inl 0, u))) = K r o := fun K => by
    rw [hJ.Fs.has0 (by omega) q1, q_bs, q_00, e1, q_b2s]
  rw [headX, qx_bit, q_bs, hx]
  have headM : ∀ (K : Int32 → sg_St → Option (Int32 × sg_St)) (Z : Option (Int32 × sg_St)), sg_g (sg_inb (nI l) 12) (if v' 21 (nI l).toNatClampNeg = 0 then sg_b2 (fX6_tripped N v' (nI l)) K else Z) = K r w := fun K Z => by
    rw [q_ck (by omega) (by omega), q_gt, q_cl (by omega), f21, qt_0 q1, q_00, g1, q_b2s]
  rw [headM, q_ck (show l < 12 by omega) (by omega), q_gt, q_cl (show l < 2147483648 by omega), n1, hy]
  rcases e3 with ⟨t1, t2⟩ | ⟨s, pt, t1, ⟨t2, t3⟩ | ⟨j, t2, t3⟩⟩
  · subst t1
    refine ⟨(.inr (-1), x), -1, y, ?_, ?_, Or.inl ⟨x, rfl, y0, hJ2.I⟩⟩
    · rw [if_neg (by decide), if_pos rfl]
    · rw [if_neg (by decide)]
      rfl
  · subst t2
    obtain ⟨l1, l2⟩ := t1.len hJ.gd.2.1 hJ.C12 (hJ.1.1.bd hJ.gd.1) hJ.Sn hJ.n10
    obtain ⟨w4, w23⟩ := g4 s pt t1
    have hR := (t1.R hJ.C12 hJ.gd.2.1).2
    have hsn := hJ.Sn s t1.1
    have hsop := qm_sop (N := N) hJ2.2.1 hJ.gd.1 hJ.gd.2.2.1 t1 hR (by rw [fy 23 (by omega)]; exact w23 0 l1) l1
    obtain ⟨z, z1, z2⟩ := qx_lines (N := N) (s := qB s) (c := x 4 0) (P := fun i => i = s) hJ2.1.1 (by omega) (qS.bit (by omega)) hJ2.Cs
    generalize hx3 : sg_set (sg_set x 4 0 (x 4 0 &&& (z ^^^ (-1)))) 5 0 (x 5 0 ||| z) = x3
    have fx3 : ∀ j, j ≠ 4 → j ≠ 5 → x3 j = x j := fun j h1 h2 => by rw [← hx3, sg_set_o h2, sg_set_o h1]
    obtain ⟨y3, i1, i2, i3⟩ := q_loop (f := fun q : sg_St × Int32 => fX6_fault_L56 N q.1 (-2) (nI s) q.2) (m := k) (N := N) (x0 := (y, 0)) (fun i q => q.2 = nI i ∧ (∀ j, j ≠ 19 → j ≠ 20 → q.1 j = y j) ∧ ∀ m, m < 12 → q.1 19 m = qt (C m ∧ ¬ (m < i ∧ C m ∧ (a m = s ∨ b m = s))) ∧ q.1 20 m = qt (Lk m ∨ (m < i ∧ C m ∧ (a m = s ∨ b m = s)))) (fun r => (∀ j, j ≠ 19 → j ≠ 20 → r j = y j) ∧ ∀ m, m < 12 → r 19 m = qt (C m ∧ ¬ (m < k ∧ C m ∧ (a m = s ∨ b m = s))) ∧ r 20 m = qt (Lk m ∨ (m < k ∧ C m ∧ (a m = s ∨ b m = s)))) (by omega) ⟨rfl, fun _ _ _ => rfl, fun m hm => by
      have := hJ2.fl m hm
      exact ⟨this.1.trans (qt_cg ⟨fun z => ⟨z, fun z => absurd z.1 (Nat.not_lt_zero m)⟩, fun z => z.1⟩), this.2.1.trans (qt_cg ⟨Or.inl, fun z => z.elim id (fun z => absurd z.1 (Nat.not_lt_zero m))⟩)⟩⟩ (by
      rintro i ⟨q, c⟩ hi ⟨hz, d1, d2⟩
      dsimp only at hz d1 d2
      subst hz
      obtain ⟨c1, c2, c3, c4, c5⟩ := hJ2.2.1.2.2.2.2.1 i hi
      have q2 : q 2 0 = nI k := by rw [d1 2 (by omega) (by omega)]; exact hJ2.2.1.2.1
      have q12 : q 12 i = nI (a i) := by rw [d1 12 (by omega) (by omega)]; exact c1
      have q13 : q 13 i = nI (b i) := by rw [d1 13 (by omega) (by omega)]; exact c2
      have q19 : q 19 i = qt (C i) := (d2 i (by omega)).1.trans (qt_cg ⟨fun z => z.1, fun z => ⟨z, fun t => absurd t.1 (Nat.lt_irrefl i)⟩⟩)
      have step : ∀ m, ¬ m = i → ((m < i ∧ C m ∧ (a m = s ∨ b m = s)) ↔ (m < i + 1 ∧ C m ∧ (a m = s ∨ b m = s))) := fun m hm => ⟨fun z => ⟨by omega, z.2⟩, fun z => ⟨by omega, z.2⟩⟩
      refine Or.inl ?_
      show ∃ r, fX6_fault_L56 N q (-2) (nI s) (nI i) = some (.inl r) ∧ _
      unfold fX6_fault_L56 fX6_fault_j97 fX6_locks
      rw [q2, q_ile0 hi (by omega), q_ck (show i < 12 by omega) (by omega), q_gt, q_cl (show i < 2147483648 by omega), q19, q12, q13, n0, n1, q_sc]
      have skip : ¬ (C i ∧ (a i = s ∨ b i = s)) → ∀ m, m < 12 → q 19 m = qt (C m ∧ ¬ (m < i + 1 ∧ C m ∧ (a m = s ∨ b m = s))) ∧ q 20 m = qt (Lk m ∨ (m < i + 1 ∧ C m ∧ (a m = s ∨ b m = s))) := fun hno m hm => by
        by_cases e : m = i
        · subst e
          exact ⟨(d2 m hm).1.trans (qt_cg ⟨fun z => ⟨z.1, fun t => hno t.2⟩, fun z => ⟨z.1, fun t => hno t.2⟩⟩), (d2 m hm).2.trans (qt_cg ⟨fun z => z.elim Or.inl (fun z => absurd z.2 hno), fun z => z.elim Or.inl (fun z => absurd z.2 hno)⟩)⟩
        · exact ⟨(d2 m hm).1.trans (qt_cg ⟨fun z => ⟨z.1, fun t => z.2 ((step m e).mpr t)⟩, fun z => ⟨z.1, fun t => z.2 ((step m e).mp t)⟩⟩), (d2 m hm).2.trans (qt_cg ⟨fun z => z.imp id (step m e).mp, fun z => z.imp id (step m e).mpr⟩)⟩
      have take : C i ∧ (a i = s ∨ b i = s) → ∀ m, m < 12 → sg_set (sg_set q 19 i 0) 20 i 1 19 m = qt (C m ∧ ¬ (m < i + 1 ∧ C m ∧ (a m = s ∨ b m = s))) ∧ sg_set (sg_set q 19 i 0) 20 i 1 20 m = qt (Lk m ∨ (m < i + 1 ∧ C m ∧ (a m = s ∨ b m = s))) := fun hy m hm => by
        rw [sg_set_o (u := sg_set q 19 i 0) (show (19 : Nat) ≠ 20 by omega), sg_set_s, sg_set_s, sg_set_o (u := q) (show (20 : Nat) ≠ 19 by omega)]
        by_cases e : m = i
        · subst e
          rw [upd_s, upd_s, qt_0 (fun z => z.2 ⟨by omega, hy⟩), qt_1 (Or.inr ⟨by omega, hy⟩)]
          exact ⟨rfl, rfl⟩
        · rw [upd_o e, upd_o e]
          exact ⟨(d2 m hm).1.trans (qt_cg ⟨fun z => ⟨z.1, fun t => z.2 ((step m e).mpr t)⟩, fun z => ⟨z.1, fun t => z.2 ((step m e).mp t)⟩⟩), (d2 m hm).2.trans (qt_cg ⟨fun z => z.imp id (step m e).mp, fun z => z.imp id (step m e).mpr⟩)⟩
      have takeF : ∀ j, j ≠ 19 → j ≠ 20 → sg_set (sg_set q 19 i 0) 20 i 1 j = y j := fun j h1 h2 => by rw [sg_set_o h2, sg_set_o h1]; exact d1 j h1 h2
      by_cases b1 : C i
      · rw [qt_1 b1, q_10]
        by_cases b2 : a i = s
        · rw [q_ieq1 b2, q_gt, q_gt]
          exact ⟨_, rfl, rfl, takeF, take ⟨b1, Or.inl b2⟩⟩
        · rw [q_ieq0 (by omega) (by omega) (by omega), q_gt]
          by_cases b3 : b i = s
          · rw [q_ieq1 b3, q_gt, q_gt]
            exact ⟨_, rfl, rfl, takeF, take ⟨b1, Or.inr b3⟩⟩
          · rw [q_ieq0 (by omega) (by omega) (by omega)]
            exact ⟨_, rfl, rfl, d1, skip (fun z => z.2.elim b2 b3)⟩
      · rw [qt_0 b1, q_00]
        exact ⟨_, rfl, rfl, d1, skip (fun z => b1 z.1)⟩) (by
      rintro ⟨q, c⟩ ⟨hz, d1, d2⟩
      dsimp only at hz d1 d2
      subst hz
      have q2 : q 2 0 = nI k := by rw [d1 2 (by omega) (by omega)]; exact hJ2.2.1.2.1
      refine ⟨q, ?_, d1, d2⟩
      show fX6_fault_L56 N q (-2) (nI s) (nI k) = _
      unfold fX6_fault_L56
      rw [q2, q_ile1 (Nat.le_refl k) (by omega)])
    have hJ3 : qJ n k a b ld cap pr rt pk mu ins S B (fun m => C m ∧ ¬ (m < k ∧ C m ∧ (a m = s ∨ b m = s))) (fun m => Lk m ∨ (m < k ∧ C m ∧ (a m = s ∨ b m = s))) (fun m => Fl m ∨ m = l) x3 y3 := hJ2.sw (fun j hj => fx3 j (by omega) (by omega)) (fun j hj => i2 j (by omega) (by omega)) (by rw [← hx3, sg_set_o (by omega), sg_set_s, upd_s]; exact hJ2.Cs.diff z2) (by rw [← hx3, sg_set_s, upd_s]; exact hJ2.Ls.or z2) (by rw [fx3 6 (by omega) (by omega)]; exact x6) (fun m hm => by
      refine ⟨(i3 m hm).1, (i3 m hm).2, ?_⟩
      rw [i2 21 (by omega) (by omega)]
      exact y21 m hm) (qgood_open hJ.gd (fun m z => z.1)) (fun m z => z.elim (hJ.2.2.2.2.2.2.2.2.1 m) (fun z => z.1)) hFb (by rw [fx3 10 (by omega) (by omega), i2 3 (by omega) (by omega)]; exact hJ2.2.2.2.2.2.2.2.2.2.2.1)
    refine ⟨(.inr (-2), x3), -2, y3, ?_, ?_, Or.inl ⟨x3, rfl, by rw [i2 0 (by omega) (by omega)]; exact y0, hJ3.I⟩⟩
    · rw [if_pos rfl, qx_srcl hJ2.1.1 (by omega) hl hJ2.Cs hJ.gd.1 hJ2.1.sS hJ.Sn, q_bs, qf_src hJ.gd.2.2.1 hJ.Sn t1.1 hR, qx_bit, q_bs, z1, q_bs]
      unfold fX4_lockOut
      rw [sg_set_o (u := x) (show (5 : Nat) ≠ 4 by omega), q_ls, hx3]
      rfl
    · rw [if_pos rfl, hsop, q_bs, i1, q_bs]
      rfl
  · subst t2
    have hCj := t1.mem t3.1
    have hjk := hJ.gd.1 _ hCj
    generalize pt.getD j 0 = m0 at hCj hjk
    generalize hx3 : sg_set (sg_set x 4 0 (x 4 0 &&& (qB m0 ^^^ (-1)))) 5 0 (x 5 0 ||| qB m0) = x3
    have fx3 : ∀ j, j ≠ 4 → j ≠ 5 → x3 j = x j := fun j h1 h2 => by rw [← hx3, sg_set_o h2, sg_set_o h1]
    generalize hx4 : sg_set x3 10 0 (x 10 0 + 1) = x4
    have fx4 : ∀ j, j ≠ 4 → j ≠ 5 → j ≠ 10 → x4 j = x j := fun j h1 h2 h3 => by rw [← hx4, sg_set_o h3]; exact fx3 j h1 h2
    generalize hy3 : sg_set (sg_set y 19 m0 0) 20 m0 1 = y3
    generalize hy4 : sg_set y3 3 0 (y 3 0 + 1) = y4
    have fy4 : ∀ j, j ≠ 19 → j ≠ 20 → j ≠ 3 → y4 j = y j := fun j h1 h2 h3 => by rw [← hy4, sg_set_o h3, ← hy3, sg_set_o h2, sg_set_o h1]
    have hJ3 : qJ n k a b ld cap pr rt pk mu ins S B (fun m => C m ∧ ¬ m = m0) (fun m => Lk m ∨ m = m0) (fun m => Fl m ∨ m = l) x4 y4 := hJ2.sw (fun j hj => fx4 j (by omega) (by omega) (by omega)) (fun j hj => fy4 j (by omega) (by omega) (by omega)) (by rw [← hx4, sg_set_o (by omega), ← hx3, sg_set_o (by omega), sg_set_s, upd_s]; exact hJ2.Cs.diff (qS.bit (by omega))) (by rw [← hx4, sg_set_o (by omega), ← hx3, sg_set_s, upd_s]; exact hJ2.Ls.or (qS.bit (by omega))) (by rw [fx4 6 (by omega) (by omega) (by omega)]; exact x6) (fun m hm => by
      have hfl := hJ2.fl m hm
      rw [← hy4, sg_set_o (u := y3) (show (19 : Nat) ≠ 3 by omega), sg_set_o (u := y3) (show (20 : Nat) ≠ 3 by omega), sg_set_o (u := y3) (show (21 : Nat) ≠ 3 by omega), ← hy3, sg_set_o (u := sg_set y 19 m0 0) (show (19 : Nat) ≠ 20 by omega), sg_set_s, sg_set_s, sg_set_o (u := y) (show (20 : Nat) ≠ 19 by omega), sg_set_o (u := sg_set y 19 m0 0) (show (21 : Nat) ≠ 20 by omega), sg_set_o (u := y) (show (21 : Nat) ≠ 19 by omega)]
      refine ⟨?_, ?_, y21 m hm⟩
      · by_cases e : m = m0
        · rw [e, upd_s, qt_0 (fun z => z.2 rfl)]
        · rw [upd_o e, hfl.1]
          exact qt_cg ⟨fun z => ⟨z, e⟩, fun z => z.1⟩
      · by_cases e : m = m0
        · rw [e, upd_s, qt_1 (Or.inr rfl)]
        · rw [upd_o e, hfl.2.1]
          exact qt_cg ⟨Or.inl, fun z => z.elim id (fun z => absurd z e)⟩) (qgood_open hJ.gd (fun m z => z.1)) (fun m z => z.elim (hJ.2.2.2.2.2.2.2.2.1 m) (fun z => by rw [z]; exact hjk)) hFb (by rw [← hx4, sg_set_s, upd_s, ← hy4, sg_set_s, upd_s, hJ2.2.2.2.2.2.2.2.2.2.2.1])
    refine ⟨(.inr (nI m0), x4), nI m0, y4, ?_, ?_, Or.inl ⟨x4, rfl, by rw [fy4 0 (by omega) (by omega) (by omega)]; exact y0, hJ3.I⟩⟩
    · rw [if_neg (q_m2 (by omega)), q_im1 (by omega), qx_bit, q_bs]
      unfold fX4_lockOut
      rw [sg_set_o (u := x) (show (5 : Nat) ≠ 4 by omega), q_ls, hx3, q_bs, fx3 10 (by omega) (by omega), hx4]
    · rw [if_neg (q_m2 (by omega))]
      unfold fX6_fault_j109 fX6_locks
      rw [q_iltz (by omega), q_ck (by omega) (by omega), q_gt, q_gt, q_cl (by omega), n0, n1, hy3, q_bs, show y3 3 0 = y 3 0 from by rw [← hy3, sg_set_o (by omega), sg_set_o (by omega)], hy4]
end CD
