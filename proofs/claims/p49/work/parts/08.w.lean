/-! calls: the way, relays, faults -/
theorem qs_up {f : Nat → Nat} {P : Nat → Prop} {n : Nat} (hP : ∀ i, P i → i < n) : ∀ {m : Nat}, n ≤ m → qs f P m = qs f P n
  | 0, h => by
    have : n = 0 := by omega
    rw [this]
  | m + 1, h => by
    by_cases e : n = m + 1
    · rw [e]
    · rw [qs_s0 (fun q => by have := hP m q; omega), qs_up hP (show n ≤ m by omega)]
/-- the least of the times of the first i lines -/
def qmin (p : List Nat) (τ : Nat → Nat) (i m : Nat) : Prop := (∃ j, j < i ∧ 0 < τ (p.getD j 0) ∧ m = τ (p.getD j 0)) ∧ ∀ j, j < i → 0 < τ (p.getD j 0) → m ≤ τ (p.getD j 0)
theorem qmin_un {p : List Nat} {τ : Nat → Nat} {i m m' : Nat} (h : qmin p τ i m) (h2 : qmin p τ i m') : m = m' := by
  obtain ⟨⟨j, h1, h2', h3⟩, h4⟩ := h
  obtain ⟨⟨j', g1, g2, g3⟩, g4⟩ := h2
  have := h4 j' g1 g2
  have := g4 j h1 h2'
  omega
theorem qwin_min {p : List Nat} {τ : Nat → Nat} {i j : Nat} (h : qwin p τ i j) : qmin p τ i (τ (p.getD j 0)) := ⟨⟨j, h.1, h.2.1, rfl⟩, fun j' h1 h2 => (h.2.2 j' h1 h2).1⟩
section CC
variable {N n k : Nat} {u v u' v' w : sg_St} {a b ld cap pr rt pk mu ins : Nat → Nat} {S B C C' Lk Fl Lk' Fl' : Nat → Prop} {l x : Nat}
theorem qJ.C12 (hJ : qJ n k a b ld cap pr rt pk mu ins S B C Lk Fl u v) : ¬ C 12 := fun q => by have := hJ.gd.1 12 q; have := hJ.k12; omega
theorem qJ.ne (hJ : qJ n k a b ld cap pr rt pk mu ins S B C Lk Fl u v) : ∀ l, C l → a l ≠ b l := fun l hl => (hJ.1.1.2.2.2.2 l (hJ.gd.1 l hl)).2.2.2.2
theorem q_wcall {cs : List Nat} (hN : 5000 < N) (hI : qI u v) (p : Int32) (K : Int32 → sg_St → Option ((Nat ⊕ Int32) × sg_St)) (L : sg_St → Option (Int32 × sg_St)) (h : ∀ (n k : Nat) (a b ld cap pr rt pk mu ins : Nat → Nat) (S B C Lk Fl : Nat → Prop) (l s : Nat) (pt : List Nat) (u' v' : sg_St), qJ n k a b ld cap pr rt pk mu ins S B C Lk Fl u' v' → v' 0 0 = 0 → l < k → p = nI l → qway a b S C l s pt → 0 < pt.length → pt.length ≤ 9 → (∀ i, i < pt.length → u' 18 i = nI (pt.getD i 0)) → v' 4 0 = nI pt.length → (∀ i, i < pt.length → v' 23 i = nI (pt.getD i 0)) → ∃ R r1 v1, K (nI pt.length) u' = some R ∧ L v' = some (r1, v1) ∧ sg_Rel qI (5 :: 0 :: cs) R r1 v1) : ∃ R r1 v1, sg_bt (fX5_needLine N u p) (fun _ u3 => sg_bt (fX5_lengthOfPathTo N u3 p) (fun r6 u7 => K r6 u7)) = some R ∧ sg_b2 (fX6_isFound N v p) (fun r2 u3 => if r2 = 0 then some (0, u3) else L u3) = some (r1, v1) ∧ sg_Rel qI (5 :: 0 :: cs) R r1 v1 := by
  obtain ⟨n, k, a, b, ld, cap, pr, rt, pk, mu, ins, S, B, C, Lk, Fl, hJ⟩ := hI
  unfold fX6_isFound
  rcases qx_needLine (N := N) hJ.1.1 p with ⟨l, h1, h2, h3⟩ | ⟨h1, h3⟩ <;> rcases qm_isLine (N := N) hJ.2.1 p with ⟨l', g1, g2, g3⟩ | ⟨g1, g3⟩
  · have hJ0 := hJ.fr (qFX.rf u) (qFM.of0 v 0)
    obtain ⟨r, x, x1, x2, x3⟩ := qx_way (N := N) (by omega) hJ.1 hJ.Cs hJ.gd.1 hJ.gd.2.1 h1
    obtain ⟨q, y, y1, y2, y3⟩ := qm_way (N := N) (by omega) hJ0.2.1 hJ0.V hJ.Sn hJ.gd.1 hJ.gd.2.1 h1
    have hJ' := hJ0.fr (qFX.of x2) (qFM.of (fun j h1 h2 h3 h4 h5 => y2 j h2 h3 h4 h5))
    have y0 : y 0 0 = 0 := by rw [y2 0 (by omega) (by omega) (by omega) (by omega)]; exact q_th0 v 0
    have noway : ∀ {s pt}, qway a b S C l s pt → ¬ (C l ∧ qg_L a b S C (a l)) → False := fun {s pt} hw z => z ⟨(hw.R hJ.C12 hJ.gd.2.1).1, s, hw.1, (hw.R hJ.C12 hJ.gd.2.1).2⟩
    rw [h3, sg_bt_r, g3, q_bs, qm_there1, q_b2s, q_10]
    unfold fX5_lengthOfPathTo
    rw [h2, x1, q_b2s, y1, q_b2s]
    unfold fX6_isFound_j28
    rcases x3 with ⟨x3, x4⟩ | ⟨s, pt, x3, x4, x5⟩ <;> rcases y3 with ⟨y3, y4⟩ | ⟨y3, s', pt', y4, y5, y6⟩
    · refine ⟨(.inl 0, x), 0, sg_set y 0 0 2, ?_, ?_, Or.inr ⟨0, x, rfl, List.mem_cons_of_mem _ List.mem_cons_self, ?_, (hJ'.fr (qFX.rf x) (qFM.of0 y 2)).I⟩⟩
      · rw [x3, q_00]; rfl
      · rw [y3, q_00, q_th0]; rfl
      · rw [q_th0]; rfl
    · exact (noway y4 x4).elim
    · exact (noway x3 y4).elim
    · obtain ⟨z1, z2⟩ := x3.un hJ.C12 hJ.gd.2.1 hJ.gd.2.2.1 hJ.ne y4
      subst z1; subst z2
      obtain ⟨t1, t2⟩ := x3.len hJ.gd.2.1 hJ.C12 (hJ.1.1.bd hJ.gd.1) hJ.Sn hJ.n10
      have hJ2 := hJ'.fr (qFX.rf x) (qFM.of0 y 0)
      obtain ⟨R, r1, v1, e1, e2, e3⟩ := h n k a b ld cap pr rt pk mu ins S B C Lk Fl l s pt x (sg_set y 0 0 0) hJ2 (q_th0 y 0) h1 h2 x3 t1 t2 x5 (by rw [sg_set_o (by omega)]; exact y5) (fun i hi => by rw [sg_set_o (by omega)]; exact y6 i hi)
      refine ⟨R, r1, v1, ?_, ?_, e3⟩
      · rw [x4, q_ieqz t1 (by omega), sg_bt_r]; exact e1
      · rw [y3, q_10, q_th0, q_00, q_b2s, q_10]; exact e2
  · exact absurd h2 (g1 l h1)
  · exact absurd g2 (h1 l' g1)
  · refine ⟨(.inl 5, u), 0, sg_set v 0 0 1, ?_, ?_, Or.inr ⟨5, u, rfl, List.mem_cons_self, ?_, (hJ.fr (qFX.rf u) (qFM.of0 v 1)).I⟩⟩
    · rw [h3]; rfl
    · rw [g3, q_bs, qm_there0, q_b2s, q_00]; rfl
    · rw [q_th0]; rfl
theorem sb29 (hN : 5000 < N) (u v : sg_St) (hI : qI u v) (p : Int32) : sb_29 N qI u v p := by
  unfold sb_29 fX5_distance fX6_distance
  refine q_wcall hN hI p _ _ (fun n k a b ld cap pr rt pk mu ins S B C Lk Fl l s pt u' v' hJ h0 hl hp hw t1 t2 h18 h4 h23 => ?_)
  exact ⟨(.inr (nI pt.length), u'), nI pt.length, v', rfl, by rw [h4], q_ok hJ.I (qFX.rf u') (qFM.rf v') h0⟩
theorem sb30 (hN : 5000 < N) (u v : sg_St) (hI : qI u v) (p q : Int32) : sb_30 N qI u v p q := by
  unfold sb_30 fX5_pathAt fX6_pathAt
  refine q_wcall hN hI p _ _ (fun n k a b ld cap pr rt pk mu ins S B C Lk Fl l s pt u' v' hJ h0 hl hp hw t1 t2 h18 h4 h23 => ?_)
  unfold fX5_pathAt_j20
  rw [h4]
  rcases qm_in (N := N) pt.length (by omega) q with ⟨j, j1, j2, j3⟩ | ⟨j1, j3⟩
  · subst j2
    refine ⟨(.inr (nI (pt.getD j 0)), u'), nI (pt.getD j 0), v', ?_, ?_, q_ok hJ.I (qFX.rf u') (qFM.rf v') h0⟩
    · rw [q_iltz (by omega), q_ilt1 j1 (by omega)]
      unfold fX0_lineOnPath
      simp (disch := omega) only [q_ile0, q_ile1, q_ilt0, q_ilt1, q_ieq0, q_ieq1, q_iltz, q_ilez, q_ilez0, q_izlt, q_im1, q_im1a, q_ieqz, q_ieqz0, q_l10, q_l12, q_ck, q_cl, q_gt, q_bs, q_b2s, q_ls, q_sc, nI_add, if_true, if_false, ite_true, ite_false, reduceIte, q_10, q_01, q_11, q_00, h18 j j1]
    · rw [j3]
      simp (disch := omega) only [q_ile0, q_ile1, q_ilt0, q_ilt1, q_ieq0, q_ieq1, q_iltz, q_ilez, q_ilez0, q_izlt, q_im1, q_im1a, q_ieqz, q_ieqz0, q_l10, q_l12, q_ck, q_cl, q_gt, q_bs, q_b2s, q_ls, q_sc, nI_add, if_true, if_false, ite_true, ite_false, reduceIte, q_10, q_01, q_11, q_00, h23 j j1]
  · refine ⟨(.inl 2, u'), 0, sg_set v' 0 0 3, ?_, ?_, Or.inr ⟨2, u', rfl, by decide, ?_, (hJ.fr (qFX.rf u') (qFM.of0 v' 3)).I⟩⟩
    · by_cases z : q < 0
      · rw [if_pos z]
      · obtain ⟨j, hj, hq⟩ := nI_of z
        rw [if_neg z, hq, q_ilt0 (Nat.le_of_not_lt (fun t => j1 j t hq)) (by omega)]
    · rw [j3]; rfl
    · rw [q_th0]; rfl
theorem sb31 (hN : 5000 < N) (u v : sg_St) (hI : qI u v) (p : Int32) : sb_31 N qI u v p := by
  unfold sb_31 fX5_faultCurrent fX6_faultCurrent
  refine q_wcall hN hI p _ _ (fun n k a b ld cap pr rt pk mu ins S B C Lk Fl l s pt u' v' hJ h0 hl hp hw t1 t2 h18 h4 h23 => ?_)
  subst hp
  refine ⟨(.inr (nI (qcur cap s pt)), u'), nI (qcur cap s pt), v', ?_, ?_, q_ok hJ.I (qFX.rf u') (qFM.rf v') h0⟩
  · rw [qx_cof (by omega) hJ.1 hJ.Cs hJ.gd.1 hJ.gd.2.1 hJ.gd.2.2.1 hl hw]; rfl
  · rw [qm_drawn hJ.2.1 hJ.Sn hJ.gd.1 hJ.gd.2.2.1 hw (hw.R hJ.C12 hJ.gd.2.1).2 h4 (h23 0 t1) t1 t2]; rfl
theorem sb33 (hN : 5000 < N) (u v : sg_St) (hI : qI u v) (p : Int32) : sb_33 N qI u v p := by
  unfold sb_33 fX5_wouldTrip fX6_wouldTrip
  refine q_line hI p _ _ 0 (fun n k a b ld cap pr rt pk mu ins S B C Lk Fl l v' hJ h0 hl hp => ?_)
  subst hp
  obtain ⟨r, u', e1, e2, e3⟩ := qx_answer (N := N) (by omega) hJ.1 hJ.2.2.2.2.1 hJ.2.2.2.2.2.2.1 hJ.Cs hJ.gd.1 hJ.gd.2.1 hJ.gd.2.2.1 hl
  obtain ⟨r', w, f1, f2, f3, f4⟩ := qm_tripped (N := N) (by omega) hJ.2.1 hJ.2.2.2.2.2.1 hJ.2.2.2.2.2.2.1 hJ.V hJ.Sn hJ.gd.1 hJ.gd.2.1 hJ.gd.2.2.1 hl
  have := e3.un hJ.C12 hJ.gd.2.1 hJ.gd.2.2.1 hJ.ne f3
  subst this
  refine ⟨(.inr r, u'), r, w, ?_, ?_, q_ok hJ.I (qFX.of e2) (qFM.of (fun j h1 h2 h3 h4 h5 => f2 j h2 h3 h4 h5)) (by rw [f2 0 (by omega) (by omega) (by omega) (by omega)]; exact h0)⟩
  · rw [e1]; rfl
  · rw [f1]; rfl
/-- the line that trips is switched by a breaker -/
theorem qans.brk (hl : l < 12) (h : qans a b S C B cap pk mu ins x (nI l)) (hk : ∀ m, C m → m < 12) : B l := by
  rcases h with ⟨h1, h2⟩ | ⟨s, p, h1, ⟨h2, h3⟩ | ⟨j, h2, h3⟩⟩
  · exact absurd h1 (q_m1 (by omega))
  · exact absurd h2 (fun e => by
      have e2 : (nI l).toInt = (-2 : Int32).toInt := by rw [e]
      rw [nI_toInt (show l < 2 ^ 31 by omega), show (-2 : Int32).toInt = -2 from by decide] at e2
      omega)
  · have hm := hk _ (h1.mem h3.1)
    have e : l = p.getD j 0 := (q_eq (by omega) (by omega)).mp h2
    rw [e]
    exact Classical.byContradiction (fun q => by have := h3.2.1; rw [qta_0 q] at this; omega)
theorem qm_itself (hN : 200 < N) (hJ : qJ n k a b ld cap pr rt pk mu ins S B C Lk Fl u v) (hl : l < k) {r : Int32} (hr : qans a b S C B cap pk mu ins l r) : ∃ v', fX6_tripsItself N v (nI l) = some (qt (r = nI l), v') ∧ (∀ j, j ≠ 4 → j ≠ 22 → j ≠ 23 → j ≠ 24 → v' j = v j) ∧ (r = nI l → ∀ s p, qway a b S C l s p → v' 4 0 = nI p.length ∧ ∀ i, i < p.length → v' 23 i = nI (p.getD i 0)) := by
  have hk := hJ.k12
  have h18 := (hJ.2.1.2.2.2.2.2.2 l hl).2.2.2
  unfold fX6_tripsItself fX6_tripsItself_j22
  by_cases q : B l
  · obtain ⟨r', w, f1, f2, f3, f4⟩ := qm_tripped (N := N) (by omega) hJ.2.1 hJ.2.2.2.2.2.1 hJ.2.2.2.2.2.2.1 hJ.V hJ.Sn hJ.gd.1 hJ.gd.2.1 hJ.gd.2.2.1 hl
    have := hr.un hJ.C12 hJ.gd.2.1 hJ.gd.2.2.1 hJ.ne f3
    subst this
    refine ⟨w, ?_, f2, fun _ => f4⟩
    simp (disch := omega) only [q_ck, q_cl, q_gt, h18, qt_1 q, q_10, f1, q_b2s]
    by_cases z : r = nI l
    · rw [if_pos z, qt_1 z]
    · rw [if_neg z, qt_0 z]
  · have z : ¬ r = nI l := fun e => q (qans.brk (by omega) (by rw [← e]; exact hr) (fun m hm => by have := hJ.gd.1 m hm; omega))
    refine ⟨v, ?_, fun _ _ _ _ _ => rfl, fun e => absurd e z⟩
    rw [qt_0 z]
    simp (disch := omega) only [q_ck, q_cl, q_gt, h18, qt_0 q, q_00, if_true, ite_true]
theorem sb34 (hN : 5000 < N) (u v : sg_St) (hI : qI u v) (p : Int32) : sb_34 N qI u v p := by
  unfold sb_34 fX5_isSelective fX6_isSelective
  refine q_line hI p _ _ 0 (fun n k a b ld cap pr rt pk mu ins S B C Lk Fl l v' hJ h0 hl hp => ?_)
  subst hp
  obtain ⟨r, u', e1, e2, e3⟩ := qx_answer (N := N) (by omega) hJ.1 hJ.2.2.2.2.1 hJ.2.2.2.2.2.2.1 hJ.Cs hJ.gd.1 hJ.gd.2.1 hJ.gd.2.2.1 hl
  obtain ⟨w, f1, f2, f3⟩ := qm_itself (N := N) (by omega) hJ hl e3
  have ok : ∀ z : Int32, sg_Rel qI [5] (.inr z, u') z w := fun z => q_ok hJ.I (qFX.of e2) (qFM.of (fun j h1 h2 h3 h4 h5 => f2 j h2 h3 h4 h5)) (by rw [f2 0 (by omega) (by omega) (by omega) (by omega)]; exact h0)
  by_cases q : r = nI l
  · refine ⟨(.inr 1, u'), 1, w, ?_, ?_, ok 1⟩
    · rw [e1, q_b2s, if_pos q]
    · rw [f1, q_b2s, qt_1 q, q_10]
  · refine ⟨(.inr 0, u'), 0, w, ?_, ?_, ok 0⟩
    · rw [e1, q_b2s, if_neg q]
    · rw [f1, q_b2s, qt_0 q, q_00]; rfl
theorem sb35 (hN : 5000 < N) (u v : sg_St) (hI : qI u v) (p : Int32) : sb_35 N qI u v p := by
  unfold sb_35 fX5_margin fX6_margin
  refine q_line hI p _ _ 0 (fun n k a b ld cap pr rt pk mu ins S B C Lk Fl l v' hJ h0 hl hp => ?_)
  subst hp
  have hk := hJ.k12
  have hP := hJ.2.2.2.2.2.2.1
  obtain ⟨r, u', e1, e2, e3⟩ := qx_answer (N := N) (by omega) hJ.1 hJ.2.2.2.2.1 hP hJ.Cs hJ.gd.1 hJ.gd.2.1 hJ.gd.2.2.1 hl
  obtain ⟨w, f1, f2, f3⟩ := qm_itself (N := N) (by omega) hJ hl e3
  have hJ' := hJ.fr (qFX.of e2) (qFM.of (fun j h1 h2 h3 h4 h5 => f2 j h2 h3 h4 h5))
  have w0 : w 0 0 = 0 := by rw [f2 0 (by omega) (by omega) (by omega) (by omega)]; exact h0
  rw [e1, q_b2s, f1, q_b2s]
  by_cases q : r = nI l
  · rw [if_pos q, qt_1 q, q_10]
    obtain ⟨r2, x, x1, x2, x3⟩ := qx_way (N := N) (by omega) hJ'.1 hJ'.Cs hJ.gd.1 hJ.gd.2.1 hl
    have hJx := hJ'.fr (qFX.of x2) (qFM.rf w)
    -- the way is there
    rcases x3 with ⟨x3, x4⟩ | ⟨s, pt, x3, x4, x5⟩
    · exfalso
      rcases e3 with ⟨z1, z2⟩ | ⟨s, pt, z1, z2⟩
      · rw [q] at z1; exact q_m1 (by omega) z1
      · exact x4 ⟨(z1.R hJ.C12 hJ.gd.2.1).1, s, z1.1, (z1.R hJ.C12 hJ.gd.2.1).2⟩
    · obtain ⟨t1, t2⟩ := x3.len hJ.gd.2.1 hJ.C12 (hJ.1.1.bd hJ.gd.1) hJ.Sn hJ.n10
      have hcur : qcur cap s pt < 1000000 := qcur_bd (hJ.1.2.1 s (hJ.Sn s x3.1)).2.2.2.1
      obtain ⟨w4, w23⟩ := f3 q s pt x3
      have hdr := qm_drawn (N := N) hJ'.2.1 hJ.Sn hJ.gd.1 hJ.gd.2.2.1 x3 (x3.R hJ.C12 hJ.gd.2.1).2 w4 (w23 0 t1) t1 t2
      have hmem : ∀ i, i < pt.length → pt.getD i 0 < k := fun i hi => hJ.gd.1 _ (x3.mem hi)
      -- the line itself trips, no other one before it
      obtain ⟨j0, j1, j2⟩ : ∃ j, l = pt.getD j 0 ∧ qwin pt (qta B pk mu ins (qcur cap s pt)) pt.length j := by
        rcases e3 with ⟨z1, z2⟩ | ⟨s', pt', z1, ⟨z2, z3⟩ | ⟨j, z2, z3⟩⟩
        · rw [q] at z1; exact absurd z1 (q_m1 (by omega))
        · exfalso
          rw [q] at z2
          have e5 : (nI l).toInt = (-2 : Int32).toInt := by rw [z2]
          rw [nI_toInt (show l < 2 ^ 31 by omega), show (-2 : Int32).toInt = -2 from by decide] at e5
          omega
        · obtain ⟨y1, y2⟩ := x3.un hJ.C12 hJ.gd.2.1 hJ.gd.2.2.1 hJ.ne z1
          subst y1; subst y2
          have hm := hmem j z3.1
          exact ⟨j, (q_eq (by omega) (by omega)).mp (q.symm.trans z2), z3⟩
      have hτl : 0 < qta B pk mu ins (qcur cap s pt) l := by rw [j1]; exact j2.2.1
      have hBl : B l := Classical.byContradiction (fun z => by rw [qta_0 z] at hτl; omega)
      -- the times of the others
      generalize hτ : (fun m => @ite _ (nI m = nI l) (Classical.propDecidable _) 0 (qta B pk mu ins (qcur cap s pt) m)) = τ
      have hτ1 : ∀ m, m < k → τ m = @ite _ (nI m = nI l) (Classical.propDecidable _) 0 (qta B pk mu ins (qcur cap s pt) m) := fun m _ => by rw [← hτ]
      have hτb : ∀ m, m < k → τ m ≤ 99902 := fun m hm => by
        rw [hτ1 m hm]
        split
        · omega
        · exact qta_bd hP hm
      obtain ⟨r3, g1, g2⟩ := qx_first (N := N) (out := nI l) (τ := τ) (by omega) hJx.1 hJx.2.2.2.2.1 hP hmem t2 x5 hcur hτ1
      obtain ⟨m, m1, m2⟩ : ∃ m, sg_it (fun z : Int32 × Int32 => fX6_margin_L32 N w (nI l) z.1 z.2) N (-1, 0) = some m ∧ ((m = -1 ∧ qnon pt τ pt.length) ∨ ∃ y, m = nI y ∧ 0 < y ∧ y ≤ 99902 ∧ qmin pt τ pt.length y) := by
        refine q_loop (f := fun z : Int32 × Int32 => fX6_margin_L32 N w (nI l) z.1 z.2) (m := pt.length) (fun i z => z.2 = nI i ∧ ((z.1 = -1 ∧ qnon pt τ i) ∨ ∃ y, z.1 = nI y ∧ 0 < y ∧ y ≤ 99902 ∧ qmin pt τ i y)) _ (by omega) ⟨rfl, Or.inl ⟨rfl, fun j hj => absurd hj (Nat.not_lt_zero j)⟩⟩ ?_ ?_
        · rintro i ⟨f, z⟩ hi ⟨hz, hst⟩
          dsimp only at hz hst
          subst hz
          have hpi := hmem i hi
          have h18 := (hJ'.2.1.2.2.2.2.2.2 _ hpi).2.2.2
          have hbi := hτb _ hpi
          have head : fX6_margin_L32 N w (nI l) f (nI i) = fX6_margin_j78 N w (nI l) f (nI i) (qti (τ (pt.getD i 0))) := by
            unfold fX6_margin_L32 fX6_margin_j77
            rw [w4, q_ile0 hi (by omega), q_ck (show i < 12 by omega) (by omega), q_gt, q_cl (show i < 2147483648 by omega), w23 i hi, hτ1 _ hpi]
            by_cases z1 : nI (pt.getD i 0) = nI l
            · rw [if_pos z1, if_pos z1]; rfl
            · rw [if_neg z1, if_neg z1, q_ck (show pt.getD i 0 < 12 by omega) (by omega), q_gt, q_cl (show pt.getD i 0 < 2147483648 by omega), h18]
              by_cases z2 : B (pt.getD i 0)
              · rw [qt_1 z2, q_10, hdr, q_bs, qm_time hk hJ'.2.2.2.2.2.1 hP hpi hcur, q_bs, qta_1 z2]
              · rw [qt_0 z2, q_00, qta_0 z2]; rfl
          refine Or.inl ?_
          show ∃ y, fX6_margin_L32 N w (nI l) f (nI i) = some (.inl y) ∧ _
          rw [head]
          unfold fX6_margin_j78 fX6_margin_j97
          by_cases z0 : τ (pt.getD i 0) = 0
          · rw [z0, qti_0, q_im1a, q_sc]
            refine ⟨_, rfl, rfl, hst.imp (fun z => ⟨z.1, qnon_skip z.2 z0⟩) (fun ⟨y, y1, y2, y3, ⟨j, t1, t2, t3⟩, y5⟩ => ⟨y, y1, y2, y3, ⟨j, by omega, t2, t3⟩, fun j' h1 h2 => ?_⟩)⟩
            rcases Nat.lt_or_ge j' i with t | t
            · exact y5 j' t h2
            · have : j' = i := by omega
              subst this; omega
          · rw [qti_1 (by omega), q_im1 (by omega), q_sc]
            rcases hst with ⟨y1, y2⟩ | ⟨y, y1, y2, y3, y4⟩
            · subst y1
              rw [q_im1a]
              exact ⟨_, rfl, rfl, Or.inr ⟨_, rfl, by omega, hbi, qwin_min (qwin_first y2 (by omega))⟩⟩
            · subst y1
              rw [q_im1 (by omega)]
              obtain ⟨⟨j, t1, t2, t3⟩, y5⟩ := y4
              by_cases z1 : y ≤ τ (pt.getD i 0)
              · rw [q_ile1 z1 (by omega)]
                refine ⟨_, rfl, rfl, Or.inr ⟨y, rfl, y2, y3, ⟨j, by omega, t2, t3⟩, fun j' h1 h2 => ?_⟩⟩
                rcases Nat.lt_or_ge j' i with t | t
                · exact y5 j' t h2
                · have : j' = i := by omega
                  subst this; exact z1
              · rw [q_ile0 (by omega) (by omega)]
                refine ⟨_, rfl, rfl, Or.inr ⟨_, rfl, by omega, hbi, ⟨i, by omega, by omega, rfl⟩, fun j' h1 h2 => ?_⟩⟩
                rcases Nat.lt_or_ge j' i with t | t
                · have := y5 j' t h2; omega
                · have : j' = i := by omega
                  subst this; exact Nat.le_refl _
        · rintro ⟨f, z⟩ ⟨hz, hst⟩
          dsimp only at hz hst
          subst hz
          refine ⟨f, ?_, hst⟩
          show fX6_margin_L32 N w (nI l) f (nI pt.length) = _
          unfold fX6_margin_L32
          rw [w4, q_ile1 (Nat.le_refl _) (by omega)]
      have hcof := qx_cof (N := N) (by omega) hJx.1 hJx.Cs hJ.gd.1 hJ.gd.2.1 hJ.gd.2.2.1 hl x3
      have hC4 : x 4 0 = u' 4 0 := congrFun (x2 4 (by omega) (by omega)) 0
      unfold fX3_leadOf
      rw [x1, q_b2s, x4, ← hC4, hcof, q_bs, g1, q_bs, m1, q_bs]
      rcases g2 with ⟨g2, g3⟩ | ⟨j, g2, g3⟩ <;> rcases m2 with ⟨m2, m3⟩ | ⟨y, m2, m3, m4, m5⟩
      · rw [g2, m2, q_im1a, q_im1a, q_b2s, q_im1a]
        refine ⟨(.inl 4, x), 0, sg_set w 0 0 3, rfl, rfl, Or.inr ⟨4, x, rfl, by decide, ?_, (hJx.fr (qFX.rf x) (qFM.of0 w 3)).I⟩⟩
        rw [q_th0]; rfl
      · exfalso
        obtain ⟨⟨j, t1, t2, t3⟩, -⟩ := m5
        have := g3 j t1
        omega
      · exfalso
        have := m3 j g3.1
        have := g3.2.1
        omega
      · have ey := qmin_un m5 (qwin_min g3)
        have hpj := hmem j g3.1
        have hnl : ¬ nI (pt.getD j 0) = nI l := fun z => by
          have := g3.2.1
          rw [hτ1 _ hpj, if_pos z] at this
          omega
        have hτj : τ (pt.getD j 0) = qta B pk mu ins (qcur cap s pt) (pt.getD j 0) := by rw [hτ1 _ hpj, if_neg hnl]
        have hge : qta B pk mu ins (qcur cap s pt) l ≤ y := by
          rw [ey, hτj, j1]
          exact (j2.2.2 j g3.1 (by rw [← hτj]; exact g3.2.1)).1
        have htr := qx_time hJx.1 hJx.2.2.2.2.1 hP hpj hcur (N := N)
        have htl := qx_time hJx.1 hJx.2.2.2.2.1 hP hl hcur (N := N)
        rw [← hτj, ← ey, qti_1 m3] at htr
        rw [qti_1 hτl] at htl
        have htm := qm_time (N := N) hk hJ'.2.2.2.2.2.1 hP hl hcur
        rw [← qta_1 (B := B) hBl, qti_1 hτl] at htm
        refine ⟨(.inr (nI (y - qta B pk mu ins (qcur cap s pt) l)), x), nI (y - qta B pk mu ins (qcur cap s pt) l), w, ?_, ?_, q_ok hJx.I (qFX.rf x) (qFM.rf w) w0⟩
        · rw [g2, q_im1 (by omega), htr, q_bs, htl, q_bs, q_b2s, q_sub hge, q_im1 (by omega)]
        · rw [m2, q_im1 (by omega), hdr, q_bs, htm, q_bs, q_sub hge]
  · rw [if_neg q, qt_0 q, q_00]
    refine ⟨(.inl 0, u'), 0, sg_set w 0 0 2, rfl, rfl, Or.inr ⟨0, u', rfl, by decide, ?_, (hJ'.fr (qFX.rf u') (qFM.of0 w 2)).I⟩⟩
    rw [q_th0]; rfl
end CC
