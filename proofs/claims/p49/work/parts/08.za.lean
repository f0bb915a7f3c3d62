/-! calls: sums of loads, shares, means -/
def qpl (a b : Nat → Nat) (S C : Nat → Prop) (l : Nat) : Prop := C l ∧ qg_L a b S C (a l)
section CF
variable {N n k : Nat} {u v u' v' w : sg_St} {a b ld cap pr rt pk mu ins : Nat → Nat} {S B C C' Lk Fl Lk' Fl' L : Nat → Prop} {l x : Nat}
theorem qx_all (hN : 20 < N) (hJ : qJ n k a b ld cap pr rt pk mu ins S B C Lk Fl u v) : ∃ r, fX1_allNodes N u = some r ∧ fX1_loadIn N u r = some (nI (qs ld (fun _ => True) n)) := by
  have hn := hJ.n10
  refine ⟨qB n - 1, ?_, ?_⟩
  · unfold fX1_allNodes
    rw [hJ.1.1.1, qx_bit, q_bs]
  · rw [qx_li hJ.1.1 hN hJ.1.ldv (qS.below (show n < 12 by omega)), qs_cg (P := fun i => i < n) (Q := fun _ => True) (g := ld) (fun i hi => ⟨fun _ => trivial, fun _ => hi⟩) (fun _ _ _ => rfl)]
theorem qx_liveL (hN : 20 < N) (hJ : qJ n k a b ld cap pr rt pk mu ins S B C Lk Fl u v) : ∃ r, fX5_liveNodes N u = some r ∧ qS r (fun y => qg_L a b S C y) ∧ fX1_loadIn N u r = some (nI (qs ld (fun y => qg_L a b S C y) n)) := by
  obtain ⟨r, r1, r2⟩ := qx_live (N := N) hJ.1.1 hN hJ.Cs hJ.gd.1 hJ.1.sS hJ.Sn
  refine ⟨r, ?_, r2, qx_li hJ.1.1 hN hJ.1.ldv r2⟩
  unfold fX5_liveNodes
  rw [r1, q_bs]
theorem qs_split : qs ld (fun _ => True) n = qs ld L n + qs ld (fun i => ¬ L i) n := by
  rw [← qs_or (P := L) (Q := fun i => ¬ L i) (fun i _ z1 z2 => z2 z1)]
  exact qs_cg (fun i _ => ⟨fun _ => Classical.em (L i), fun _ => trivial⟩) (fun _ _ _ => rfl)
theorem qm_load0 (hN : 200 < N) (hJ : qJ n k a b ld cap pr rt pk mu ins S B C Lk Fl u v) : ∃ w, fX6_loads N v 0 = some (nI (qs ld (fun _ => True) n), w) ∧ ∀ j, j ≠ 22 → w j = v j := by
  obtain ⟨w, w1, w2, lab, w3, w4⟩ := hJ.paint hN
  have hM := hJ.2.1.fr (qKM.of22 w2)
  have hn := hJ.n10
  refine ⟨w, ?_, w2⟩
  have hc : sg_it (fun z : Int32 × Int32 => fX6_loads_L10 N w 0 z.1 z.2) N (0, 0) = some (nI (qs ld (fun _ => True) n)) := by
    refine q_sum (g := ld) (P := fun _ => True) (by omega) (fun i z hi hp => absurd trivial hp) (fun i z hi hp => ?_) (fun z => ?_)
    · show fX6_loads_L10 N w 0 z (nI i) = _
      unfold fX6_loads_L10 fX6_loads_j41 fX6_loads_j47
      rw [hM.1, q_ile0 hi (by omega), q_00, q_ck (show i < 10 by omega) (by omega), q_gt, q_cl (show i < 2147483648 by omega), (hM.2.2.2.2.2.1 i hi).2.2.1, q_sc]
    · show fX6_loads_L10 N w 0 z (nI n) = _
      unfold fX6_loads_L10
      rw [hM.1, q_ile1 (Nat.le_refl n) (by omega)]
  unfold fX6_loads
  rw [w1, q_bs, hc, q_bs]
theorem qm_load1 (hN : 200 < N) (hJ : qJ n k a b ld cap pr rt pk mu ins S B C Lk Fl u v) : ∃ w, fX6_loads N v 1 = some (nI (qs ld (fun i => ¬ qg_L a b S C i) n), w) ∧ ∀ j, j ≠ 22 → w j = v j := by
  obtain ⟨w, w1, w2, lab, w3, w4⟩ := hJ.paint hN
  have hM := hJ.2.1.fr (qKM.of22 w2)
  have hn := hJ.n10
  refine ⟨w, ?_, w2⟩
  have hc : sg_it (fun z : Int32 × Int32 => fX6_loads_L10 N w 1 z.1 z.2) N (0, 0) = some (nI (qs ld (fun i => ¬ qg_L a b S C i) n)) := by
    refine q_sum (g := ld) (P := fun i => ¬ qg_L a b S C i) (by omega) (fun i z hi hp => ?_) (fun i z hi hp => ?_) (fun z => ?_)
    · show fX6_loads_L10 N w 1 z (nI i) = _
      unfold fX6_loads_L10 fX6_loads_j47
      rcases q_srcL (a := a) (b := b) (E := C) hJ.Sn i with ⟨s, g1, g2, g3, g4, g5⟩ | ⟨g1, g5⟩
      · rw [hM.1, q_ile0 hi (by omega), q_10, q_ck (show i < 10 by omega) (by omega), q_gt, q_cl (show i < 2147483648 by omega), w3 i hi, qm_src (N := N) (by omega) hM w3 w4 hi, g5, q_bs, q_im1 (by omega), Int32.add_zero, q_sc]
      · exact absurd g1 hp
    · show fX6_loads_L10 N w 1 z (nI i) = _
      unfold fX6_loads_L10
      rcases q_srcL (a := a) (b := b) (E := C) hJ.Sn i with ⟨s, g1, g2, g3, g4, g5⟩ | ⟨g1, g5⟩
      · exact absurd g1 hp
      · rw [hM.1, q_ile0 hi (by omega), q_10, q_ck (show i < 10 by omega) (by omega), q_gt, q_cl (show i < 2147483648 by omega), w3 i hi, qm_src (N := N) (by omega) hM w3 w4 hi, g5, q_bs, q_im1a]
        unfold fX6_loads_j41 fX6_loads_j47
        rw [q_ck (show i < 10 by omega) (by omega), q_gt, q_cl (show i < 2147483648 by omega), (hM.2.2.2.2.2.1 i hi).2.2.1, q_sc]
    · show fX6_loads_L10 N w 1 z (nI n) = _
      unfold fX6_loads_L10
      rw [hM.1, q_ile1 (Nat.le_refl n) (by omega)]
  unfold fX6_loads
  rw [w1, q_bs, hc, q_bs]
theorem sb37 (hN : 5000 < N) (u v : sg_St) (hI : qI u v) : sb_37 N qI u v := by
  unfold sb_37 fX5_darkLoad fX6_darkLoad
  obtain ⟨n, k, a, b, ld, cap, pr, rt, pk, mu, ins, S, B, C, Lk, Fl, hJ⟩ := hI
  obtain ⟨r, r1, r2⟩ := qx_all (N := N) (by omega) hJ
  obtain ⟨t, t1, t2, t3⟩ := qx_liveL (N := N) (by omega) hJ
  have hJ0 := hJ.fr (qFX.rf u) (qFM.of0 v 0)
  obtain ⟨w, w1, w2⟩ := qm_load1 (N := N) (by omega) hJ0
  have hs := qs_split (ld := ld) (n := n) (L := fun y => qg_L a b S C y)
  refine ⟨nI (qs ld (fun i => ¬ qg_L a b S C i) n), u, w, ?_, ?_, (hJ0.fr (qFX.rf u) (qFM.of22 w2)).I, rfl⟩
  · rw [r1, q_bs, r2, q_bs, t1, q_bs, t3, q_bs, q_sub (by omega), hs, Nat.add_sub_cancel_left]
  · rw [w1, q_b2s]
theorem sb44 (hN : 5000 < N) (u v : sg_St) (hI : qI u v) : sb_44 N qI u v := by
  unfold sb_44 fX5_liveShare fX6_liveShare
  obtain ⟨n, k, a, b, ld, cap, pr, rt, pk, mu, ins, S, B, C, Lk, Fl, hJ⟩ := hI
  have hn := hJ.n10
  obtain ⟨r, r1, r2⟩ := qx_all (N := N) (by omega) hJ
  obtain ⟨t, t1, t2, t3⟩ := qx_liveL (N := N) (by omega) hJ
  obtain ⟨w, w1, w2⟩ := qm_load0 (N := N) (by omega) hJ
  have hJw := hJ.fr (qFX.rf u) (qFM.of22 w2)
  obtain ⟨y, y1, y2⟩ := qm_load1 (N := N) (by omega) hJw
  have hJy := hJw.fr (qFX.rf u) (qFM.of22 y2)
  have hs := qs_split (ld := ld) (n := n) (L := fun y => qg_L a b S C y)
  have hb : qs ld (fun _ => True) n ≤ n * 99 := qs_bd (fun i hi _ => hJ.1.ld9 i hi)
  generalize qs ld (fun _ => True) n = A at r2 w1 hs hb
  generalize qs ld (fun y => qg_L a b S C y) n = Lv at t3 hs
  generalize qs ld (fun i => ¬ qg_L a b S C i) n = D at y1 hs
  by_cases q : A = 0
  · refine ⟨(.inl 3, u), FP.fconst0, sg_set y 0 0 1, ?_, ?_, Or.inr ⟨3, u, rfl, by decide, ?_, (hJy.fr (qFX.rf u) (qFM.of0 y 1)).I⟩, fun w t e => ?_, fun t e => ?_⟩
    · rw [r1, q_bs, r2, q_bs, q_ieqz0 q]
    · rw [w1, q_b2s, y1, q_b2s, q_ieqz0 q]
      unfold fX6_liveShare_j22
      rw [q_ieqz0 q]
    · rw [q_th0]; rfl
    · simp at e
    · simp at e
  · have hx := qd_div32 (qd_num32 (show Lv < 2147483648 by omega)) (qd_den32 A (by omega) (by omega))
    have f1 : decide (FP.fdiv (FP.i2f (nI Lv)) (FP.i2f (nI A)) &&& 0x7fffffff ≤ 0x7f800000) = true := decide_eq_true (qd_m32 hx)
    have hsub : nI A - nI D = nI Lv := by rw [q_sub (by omega), show A - D = Lv by omega]
    refine ⟨(.inr (FP.fdiv (FP.i2f (nI Lv)) (FP.i2f (nI A))), u), FP.fdiv (FP.i2f (nI Lv)) (FP.i2f (nI A)), sg_set y 0 0 0, ?_, ?_, Or.inl ⟨u, rfl, q_th0 y 0, (hJy.fr (qFX.rf u) (qFM.of0 y 0)).I⟩, fun w t e => ?_, fun t e => ⟨qd_cmp (qd_f2d hx), qd_m64 (qd_f2d hx)⟩⟩
    · rw [r1, q_bs, r2, q_bs, q_ieqz (by omega) (by omega), t1, q_bs, t3, q_bs, f1, q_gt]
    · rw [w1, q_b2s, y1, q_b2s, q_ieqz (by omega) (by omega)]
      unfold fX6_liveShare_j22
      rw [q_ieqz (by omega) (by omega), hsub, f1, q_gt]
    · have e1 : FP.fdiv (FP.i2f (nI Lv)) (FP.i2f (nI A)) = w := by
        injection e with e1 _
        injection e1 with e2
      rw [← e1]
      exact qd_m64 (qd_f2d hx)
theorem qm_mean (hN : 5000 < N) (hJ : qJ n k a b ld cap pr rt pk mu ins S B C Lk Fl u v) : ∃ y, sg_it (fun q : sg_St × Int32 × Int32 × Int32 => fX6_meanCurrent_L6 N q.1 q.2.1 q.2.2.1 q.2.2.2) N (v, 0, 0, 0) = some (y, nI (qs (fun _ => 1) (qpl a b S C) k), nI (qs (qcu a b ld n S C) (qpl a b S C) k)) ∧ ∀ j, j ≠ 4 → j ≠ 22 → j ≠ 23 → j ≠ 24 → y j = v j := by
  have hk := hJ.k12
  obtain ⟨⟨y, c1, c2⟩, i1, i2, i3, i4⟩ := q_loop (f := fun q : sg_St × Int32 × Int32 × Int32 => fX6_meanCurrent_L6 N q.1 q.2.1 q.2.2.1 q.2.2.2) (m := k) (N := N) (x0 := (v, 0, 0, 0)) (fun i q => q.2.2.2 = nI i ∧ q.2.1 = nI (qs (fun _ => 1) (qpl a b S C) i) ∧ q.2.2.1 = nI (qs (qcu a b ld n S C) (qpl a b S C) i) ∧ ∀ j, j ≠ 4 → j ≠ 22 → j ≠ 23 → j ≠ 24 → q.1 j = v j) (fun r => r.2.1 = nI (qs (fun _ => 1) (qpl a b S C) k) ∧ r.2.2 = nI (qs (qcu a b ld n S C) (qpl a b S C) k) ∧ ∀ j, j ≠ 4 → j ≠ 22 → j ≠ 23 → j ≠ 24 → r.1 j = v j) (by omega) ⟨rfl, rfl, rfl, fun _ _ _ _ _ => rfl⟩ (by
    rintro i ⟨q, c1, c2, c3⟩ hi ⟨hz, z1, z2, d⟩
    dsimp only at hz z1 z2 d
    subst hz
    subst z1
    subst z2
    have hJq := hJ.fr (qFX.rf u) (qFM.of (fun j _ h2 h3 h4 h5 => d j h2 h3 h4 h5))
    obtain ⟨r, w, e1, e2, e3⟩ := qm_way (N := N) (by omega) hJq.2.1 hJq.V hJq.Sn hJq.gd.1 hJq.gd.2.1 hi
    have hJw := hJq.fr (qFX.rf u) (qFM.of (fun j _ h2 h3 h4 h5 => e2 j h2 h3 h4 h5))
    have q2 : q 2 0 = nI k := hJq.2.1.2.1
    refine Or.inl ?_
    show ∃ y, fX6_meanCurrent_L6 N q (nI (qs (fun _ => 1) (qpl a b S C) i)) (nI (qs (qcu a b ld n S C) (qpl a b S C) i)) (nI i) = some (.inl y) ∧ _
    unfold fX6_meanCurrent_L6 fX6_meanCurrent_j32 fX6_meanCurrent_j49
    rw [q2, q_ile0 hi (by omega), e1, q_b2s]
    rcases e3 with ⟨t1, t2⟩ | ⟨t1, s, p, t3, _⟩
    · subst t1
      have hp : ¬ qpl a b S C i := t2
      rw [q_00, q_00, Int32.add_zero, Int32.add_zero, q_sc]
      exact ⟨_, rfl, rfl, (congrArg nI (qs_s0 hp)).symm, (congrArg nI (qs_s0 hp)).symm, fun j h2 h3 h4 h5 => (e2 j h2 h3 h4 h5).trans (d j h2 h3 h4 h5)⟩
    · subst t1
      have hR := t3.R hJ.C12 hJ.gd.2.1
      have hp : qpl a b S C i := ⟨hR.1, s, t3.1, hR.2⟩
      obtain ⟨y, y1, y2⟩ := qm_flowOf (N := N) (by omega) hJw hi
      rw [q_10, q_10, y1, q_b2s, q_sc, nI_add, q_sc]
      exact ⟨_, rfl, rfl, (congrArg nI (qs_s1 hp)).symm, (congrArg nI (qs_s1 hp)).symm, fun j h2 h3 h4 h5 => (y2 j h3).trans ((e2 j h2 h3 h4 h5).trans (d j h2 h3 h4 h5))⟩) (by
    rintro ⟨q, c1, c2, c3⟩ ⟨hz, z1, z2, d⟩
    dsimp only at hz z1 z2 d
    subst hz
    have q2 : q 2 0 = nI k := by rw [d 2 (by omega) (by omega) (by omega) (by omega)]; exact hJ.2.1.2.1
    refine ⟨(q, c1, c2), ?_, z1, z2, d⟩
    show fX6_meanCurrent_L6 N q c1 c2 (nI k) = _
    unfold fX6_meanCurrent_L6
    rw [q2, q_ile1 (Nat.le_refl k) (by omega)])
  dsimp only at i2 i3 i4
  subst i2
  subst i3
  exact ⟨y, i1, i4⟩
theorem sb45 (hN : 5000 < N) (u v : sg_St) (hI : qI u v) : sb_45 N qI u v := by
  unfold sb_45 fX5_meanCurrent fX6_meanCurrent
  obtain ⟨n, k, a, b, ld, cap, pr, rt, pk, mu, ins, S, B, C, Lk, Fl, hJ⟩ := hI
  have hn := hJ.n10
  have hk := hJ.k12
  obtain ⟨t, t1, t2, t3⟩ := qx_liveL (N := N) (by omega) hJ
  obtain ⟨z, z1, z2⟩ := qx_lines (N := N) hJ.1.1 (by omega) t2 hJ.Cs
  have z3 : qS z (qpl a b S C) := z2.cg (fun m => ⟨fun h => ⟨h.2.1, h.2.2.elim id (fun h3 => qg_L_of (qg_ed h.2.1) h3)⟩, fun h => ⟨hJ.gd.1 m h.1, h.1, Or.inl h.2⟩⟩)
  have hpb : ∀ m, qpl a b S C m → m < k := fun m h => hJ.gd.1 m h.1
  have hcnt : qc (qpl a b S C) 12 = qs (fun _ => 1) (qpl a b S C) k := qs_up hpb hk
  have hsum : qs (qcu a b ld n S C) (fun _ => True) 12 = qs (qcu a b ld n S C) (qpl a b S C) k := by
    rw [← qs_up (f := qcu a b ld n S C) hpb hk]
    refine Eq.symm (qs_z (f := qcu a b ld n S C) (P := qpl a b S C) (Q := fun _ => True) (fun _ _ _ => trivial) (fun i _ _ h => ?_))
    by_cases hC : C i
    · rw [qcu_1 hC]
      exact qfl_dark hC (fun h2 => h ⟨hC, h2⟩)
    · exact qcu_0 hC
  have hb2 : qs (qcu a b ld n S C) (qpl a b S C) k ≤ k * (n * 99) := qs_bd (fun i _ _ => qcu_bd (fun i hi => hJ.1.ld9 i hi))
  have hb3 : k * (n * 99) ≤ 12 * (10 * 99) := Nat.mul_le_mul hk (Nat.mul_le_mul hn (Nat.le_refl 99))
  have hb1 : qs (fun _ => 1) (qpl a b S C) k ≤ k := qc_le
  obtain ⟨y, y1, y2⟩ := qm_mean hN hJ
  have hJy := hJ.fr (qFX.rf u) (qFM.of (fun j _ h2 h3 h4 h5 => y2 j h2 h3 h4 h5))
  obtain ⟨o, o1, o2⟩ := qx_sumCur (N := N) (by omega) hJ.1 hJ.Cs hJ.gd.1 hJ.gd.2.1 hJ.gd.2.2.1
  rw [hsum] at o1
  have hct := qx_count N z3 (fun m h => by have := hpb m h; omega)
  rw [hcnt] at hct
  generalize qs (fun _ => 1) (qpl a b S C) k = A at hct y1 hb1
  generalize qs (qcu a b ld n S C) (qpl a b S C) k = D at o1 y1 hb2
  by_cases q : A = 0
  · refine ⟨(.inl 3, u), FP.dconst0, sg_set y 0 0 1, ?_, ?_, Or.inr ⟨3, u, rfl, by decide, ?_, (hJy.fr (qFX.rf u) (qFM.of0 y 1)).I⟩, fun t e => ?_⟩
    · rw [t1, q_bs, z1, q_bs, hct, q_bs, q_ieqz0 q]
    · rw [y1, q_bs]
      unfold fX6_meanCurrent_j67
      dsimp only
      rw [q_ieqz0 q, q_ieqz0 q]
    · rw [q_th0]; rfl
    · simp at e
  · have hx := qd_div64 (qd_num64 (show D < 2147483648 by omega)) (qd_den64 A (by omega) (by omega))
    have f1 : decide (FP.ddiv (FP.i2d (nI D)) (FP.i2d (nI A)) &&& 0x7fffffffffffffff ≤ 0x7ff0000000000000) = true := decide_eq_true (qd_m64 hx)
    refine ⟨(.inr (FP.ddiv (FP.i2d (nI D)) (FP.i2d (nI A))), o), FP.ddiv (FP.i2d (nI D)) (FP.i2d (nI A)), sg_set y 0 0 0, ?_, ?_, Or.inl ⟨o, rfl, q_th0 y 0, (hJy.fr (qFX.of o2) (qFM.of0 y 0)).I⟩, fun t e => ⟨qd_cmp hx, trivial⟩⟩
    · rw [t1, q_bs, z1, q_bs, hct, q_bs, q_ieqz (by omega) (by omega), o1, q_b2s, f1, q_gt]
    · rw [y1, q_bs]
      unfold fX6_meanCurrent_j67
      dsimp only
      rw [q_ieqz (by omega) (by omega), q_ieqz (by omega) (by omega), f1, q_gt]
end CF
