/-! p49: what must hold after every call (the law's isRight) -/
/-- the law's own rows: the sources' capacities, the lines' ends and ratings -/
def qrow (n k : Nat) (a b cap rt : Nat → Nat) (S : Nat → Prop) (w : sg_St) : Prop := (∀ i, i < n → S i → w 0 i = nI (cap i)) ∧ ∀ l, l < k → w 1 (2 * l) = nI (a l) ∧ w 1 (2 * l + 1) = nI (b l) ∧ w 2 l = nI (rt l)
/-- what holds all along -/
def qT (n k : Nat) (a b ld cap pr rt pk mu ins : Nat → Nat) (S B C Lk Fl : Nat → Prop) (u : sg_St) : Prop := qK n k a b ld cap pr rt pk mu ins S B C Lk Fl u ∧ (∀ l, C l → ¬ Lk l) ∧ qnf a b S C Fl
section PE
variable {N n k : Nat} {u v u' v' w : sg_St} {a b ld cap pr rt pk mu ins lab : Nat → Nat} {S B C C' Lk Fl Lk' Fl' : Nat → Prop} {l x y m t s c d e : Nat} {A9 : sg_St} {w9 : Nat → Int32} {V1 V5 V6 V7 : Int32}
theorem qT.fr (h : qT n k a b ld cap pr rt pk mu ins S B C Lk Fl u) (f : qFX u u') : qT n k a b ld cap pr rt pk mu ins S B C Lk Fl u' := ⟨h.1.fr f, h.2⟩
theorem q_2l (l : Nat) : (2 : Int32) * nI l = nI (2 * l) := q_mul 2 l
theorem r497 (hN : 20 < N) (hK : qK n k a b ld cap pr rt pk mu ins S B C Lk Fl u) (hl : l < k) : ∃ u', fL_isRight_j497 N A9 u w9 V1 V5 V6 V7 (nI l) 1 1 = some (.inl (u', w9, V5, 1, nI (l + 1))) ∧ qFX u u' := by
  obtain ⟨v, hJ⟩ := hK.J
  obtain ⟨r, -, -, -, hr⟩ := cx_answer (N := N) hN hJ hl
  obtain ⟨u1, e1, f1⟩ := hl_isSelective (N := N) hN hJ hl hr
  have hJ1 := hJ.fr f1 (qFM.rf v)
  unfold fL_isRight_j497 fL_isRight_j547
  rw [e1, q_b2s]
  by_cases q : r = nI l
  · obtain ⟨u2, e2, f2⟩ := hl_wouldTrip (N := N) hN hJ1 hl hr
    rw [qt_1 q, q_11, e2, q_b2s, if_pos q, q_sc]
    exact ⟨u2, rfl, f1.tr f2⟩
  · obtain ⟨u2, e2, f2⟩ := hl_margin0 (N := N) hN hJ1 hl hr q
    rw [qt_0 q, q_01, e2, q_b2s, if_pos rfl, q_sc]
    exact ⟨u2, rfl, f1.tr f2⟩
theorem r411 (hN : 20 < N) (hK : qK n k a b ld cap pr rt pk mu ins S B C Lk Fl u) (hA : qrow n k a b cap rt S A9) (hl : l < k) {v13 : Int32} (h13 : v13 = qt (C l ∧ qg_L a b S C (a l))) : ∃ u', fL_isRight_j411 N A9 u w9 V1 V5 V6 V7 (nI l) v13 1 1 = some (.inl (u', w9, V5, 1, nI (l + 1))) ∧ qFX u u' := by
  subst h13
  obtain ⟨v, hJ⟩ := hK.J
  have hk := hJ.k12
  have hn := hJ.n10
  unfold fL_isRight_j411
  by_cases q : C l ∧ qg_L a b S C (a l)
  · obtain ⟨r, u0, -, -, hw⟩ := hl_way (N := N) hN hJ hl
    rcases hw with ⟨-, hw⟩ | ⟨s, p, hw, t1, t2, t3, t4, -, -⟩
    · exact absurd q hw
    obtain ⟨u1, e1, f1⟩ := hl_dist1 (N := N) hN hJ hl hw
    have hJ1 := hJ.fr f1 (qFM.rf v)
    obtain ⟨u2, e2, f2⟩ := hl_pathAt (N := N) hN hJ1 hl hw (j := p.length - 1) (by omega)
    have hJ2 := hJ1.fr f2 (qFM.rf v)
    obtain ⟨u3, e3, f3⟩ := hl_faultCurrent (N := N) hN hJ2 hl hw
    have hJ3 := hJ2.fr f3 (qFM.rf v)
    have ha := (hJ.1.1.2.2.2.2 l hl).2.2.1
    have hsn := hJ.Sn s hw.1
    have hcap := (hJ.1.2.1 s hsn).2.2.2.1
    have e4 := hl_sourceOf1 (N := N) hN hJ3 ha hw.1 t4
    obtain ⟨u4, e5, f5⟩ := r497 (N := N) (A9 := A9) (w9 := w9) (V1 := V1) (V5 := V5) (V6 := V6) (V7 := V7) hN (qK.of hJ3) hl
    rw [e1, q_b2s, qt_1 q, q_10, q_ilez t1 (by omega), show nI p.length - 1 = nI (p.length - 1) from q_sub (b := 1) (by omega), e2, q_b2s, hw.last, if_pos rfl, e3, q_b2s, q_2l, q_ck (show 2 * l < 24 by omega) (by omega), q_gt, q_cl (show 2 * l < 2147483648 by omega), (hA.2 l hl).1, e4, q_b2s, q_ck (show s < 10 by omega) (by omega), q_gt, q_dn0 t1 (by omega), q_gt, q_cl (show s < 2147483648 by omega), hA.1 s hsn hw.1, show (10 : Int32) * nI (cap s) = nI (10 * cap s) from q_mul 10 (cap s), q_div (by omega) (by omega), show nI (qcur cap s p) = nI (10 * cap s / p.length) from by unfold qcur; rw [Nat.mul_comm], if_pos rfl]
    exact ⟨u4, e5, f1.tr (f2.tr (f3.tr f5))⟩
  · obtain ⟨u1, e1, f1⟩ := hl_dist0 (N := N) hN hJ hl q
    have hJ1 := hJ.fr f1 (qFM.rf v)
    obtain ⟨u4, e5, f5⟩ := r497 (N := N) (A9 := A9) (w9 := w9) (V1 := V1) (V5 := V5) (V6 := V6) (V7 := V7) hN (qK.of hJ1) hl
    rw [e1, q_b2s, qt_0 q, q_00, if_pos rfl]
    exact ⟨u4, e5, f1.tr f5⟩
theorem r391 (hN : 20 < N) (hK : qK n k a b ld cap pr rt pk mu ins S B C Lk Fl u) (hCL : ∀ l, C l → ¬ Lk l) (hA : qrow n k a b cap rt S A9) (hl : l < k) {v12 v13 : Int32} (h12 : v12 = qt (C l)) (h13 : v13 = qt (C l ∧ qg_L a b S C (a l))) : ∃ u', fL_isRight_j391 N A9 u w9 V1 V5 V6 V7 (nI l) v12 v13 1 = some (.inl (u', w9, V5, 1, nI (l + 1))) ∧ qFX u u' := by
  subst h12
  have h := r411 (N := N) (w9 := w9) (V1 := V1) (V5 := V5) (V6 := V6) (V7 := V7) hN hK hA hl h13
  obtain ⟨v, hJ⟩ := hK.J
  unfold fL_isRight_j391
  by_cases q : C l
  · rw [qt_1 q, q_10, hl_isLocked hJ hl, q_b2s, qt_0 (hCL l q), q_01]
    exact h
  · rw [qt_0 q, q_00]
    exact h
theorem r376 (hN : 20 < N) (hT : qT n k a b ld cap pr rt pk mu ins S B C Lk Fl u) (hA : qrow n k a b cap rt S A9) (hl : l < k) {v12 v13 : Int32} (h12 : v12 = qt (C l)) (h13 : v13 = qt (C l ∧ qg_L a b S C (a l))) : ∃ u', fL_isRight_j376 N A9 u w9 V1 V5 V6 V7 (nI l) v12 v13 1 = some (.inl (u', w9, V5, 1, nI (l + 1))) ∧ qFX u u' := by
  have h := r391 (N := N) (w9 := w9) (V1 := V1) (V5 := V5) (V6 := V6) (V7 := V7) hN hT.1 hT.2.1 hA hl h12 h13
  obtain ⟨v, hJ⟩ := hT.1.J
  unfold fL_isRight_j376
  by_cases q : C l ∧ qg_L a b S C (a l)
  · have hF : ¬ Fl l := fun z => hT.2.2 l q.1 z q.2
    rw [h13, qt_1 q, q_10, hl_hasFault hJ hl, q_b2s, qt_0 hF, q_01]
    rw [h13, qt_1 q] at h
    exact h
  · rw [h13, qt_0 q, q_00]
    rw [h13, qt_0 q] at h
    exact h
theorem r346 (hN : 20 < N) (hT : qT n k a b ld cap pr rt pk mu ins S B C Lk Fl u) (hA : qrow n k a b cap rt S A9) (hl : l < k) {v12 v13 : Int32} (h12 : v12 = qt (C l)) (h13 : v13 = qt (C l ∧ qg_L a b S C (a l))) : ∃ u', fL_isRight_j346 N A9 u w9 V1 V5 V6 V7 (nI l) v12 v13 1 = some (.inl (u', w9, V5, 1, nI (l + 1))) ∧ qFX u u' := by
  have h := r376 (N := N) (w9 := w9) (V1 := V1) (V5 := V5) (V6 := V6) (V7 := V7) hN hT hA hl h12 h13
  obtain ⟨v, hJ⟩ := hT.1.J
  have hk := hJ.k12
  obtain ⟨lab, hlab⟩ := hJ.hasLab
  obtain ⟨-, -, ha, hb, -⟩ := hJ.1.1.2.2.2.2 l hl
  unfold fL_isRight_j346
  by_cases q : C l
  · rw [h12, qt_1 q, q_10, q_2l, q_ck (show 2 * l < 24 by omega) (by omega), q_gt, q_cl (show 2 * l < 2147483648 by omega), (hA.2 l hl).1, hl_islandOf hN hJ hlab ha, q_b2s, q_sc, q_ck (show 2 * l + 1 < 24 by omega) (by omega), q_gt, q_cl (show 2 * l + 1 < 2147483648 by omega), (hA.2 l hl).2.1, hl_islandOf hN hJ hlab hb, q_b2s, hlab.2 l q, if_pos rfl]
    rw [h12, qt_1 q] at h
    exact h
  · rw [h12, qt_0 q, q_00]
    rw [h12, qt_0 q] at h
    exact h
theorem r306 (hN : 20 < N) (hT : qT n k a b ld cap pr rt pk mu ins S B C Lk Fl u) (hA : qrow n k a b cap rt S A9) (hl : l < k) {v12 v13 k1 : Int32} {c : Nat} (h12 : v12 = qt (C l)) (h13 : v13 = qt (C l ∧ qg_L a b S C (a l))) (k0 : Int32) : ∃ u', fL_isRight_j306 N A9 u w9 V1 V6 V7 1 (nI l) (nI (qcu a b ld n S C l)) v12 v13 k0 k1 = some (.inl (u', w9, k0 + k1, 1, nI (l + 1))) ∧ qFX u u' := by
  have h := r346 (N := N) (w9 := w9) (V1 := V1) (V5 := k0 + k1) (V6 := V6) (V7 := V7) hN hT hA hl h12 h13
  obtain ⟨v, hJ⟩ := hT.1.J
  have hk := hJ.k12
  have hg := hJ.gd.2.2.2.2 l
  have hrt := (hJ.1.2.2.1 l hl).2.1
  unfold fL_isRight_j306
  rw [hl_cutting hN hJ hl, q_b2s, if_pos rfl, q_iltz (by omega), q_ck (show l < 12 by omega) (by omega), q_gt, q_cl (show l < 2147483648 by omega), (hA.2 l hl).2.2, q_ilt0 hg (by omega)]
  by_cases q : C l ∧ qg_L a b S C (a l)
  · rw [h13, qt_1 q, q_10]
    rw [h13, qt_1 q] at h
    exact h
  · have h0 : qcu a b ld n S C l = 0 := by
      by_cases q1 : C l
      · rw [qcu_1 q1]
        exact qfl_dark q1 (fun z => q ⟨q1, z⟩)
      · exact qcu_0 q1
    rw [h13, qt_0 q, q_00, q_ieqz0 h0]
    rw [h13, qt_0 q] at h
    exact h
theorem rL237 (hN : 20 < N) (hT : qT n k a b ld cap pr rt pk mu ins S B C Lk Fl u) (hA : qrow n k a b cap rt S A9) (hl : l < k) : ∃ u', fL_isRight_L237 N A9 u w9 (nI k) V6 V7 (nI (qc C l)) 1 (nI l) = some (.inl (u', w9, nI (qc C (l + 1)), 1, nI (l + 1))) ∧ qFX u u' := by
  obtain ⟨v, hJ⟩ := hT.1.J
  have hk := hJ.k12
  obtain ⟨u1, e1, f1⟩ := hl_current (N := N) hN hJ hl
  have hJ1 := hJ.fr f1 (qFM.rf v)
  have hT1 := hT.fr f1
  have ha := (hJ.1.1.2.2.2.2 l hl).2.2.1
  unfold fL_isRight_L237
  rw [q_ile0 hl (by omega), e1, q_b2s, hl_isClosed hJ1 hl, q_b2s]
  by_cases q : C l
  · have eC : nI (qc C (l + 1)) = nI (qc C l) + 1 := by
      rw [show qc C (l + 1) = qc C l + 1 from qs_s1 q]; exact (q_sc _).symm
    have h := r306 (N := N) (w9 := w9) (V1 := nI k) (V6 := V6) (V7 := V7) (k1 := 1) (c := 0) hN hT1 hA hl (qt_1 q).symm (v13 := qt (C l ∧ qg_L a b S C (a l))) rfl (nI (qc C l))
    rw [qt_1 q, q_11, eC]
    unfold fL_isRight_j266
    rw [q_10, q_2l, q_ck (show 2 * l < 24 by omega) (by omega), q_gt, q_cl (show 2 * l < 2147483648 by omega), (hA.2 l hl).1, hl_isLive hN hJ1 ha, q_b2s]
    unfold fL_isRight_j291 fL_isRight_j292
    rw [q_10]
    by_cases q2 : qg_L a b S C (a l)
    · rw [qt_1 q2, q_11]
      rw [qt_1 ⟨q, q2⟩] at h
      obtain ⟨u2, e2, f2⟩ := h
      exact ⟨u2, e2, f1.tr f2⟩
    · rw [qt_0 q2, q_01]
      rw [qt_0 (fun z => q2 z.2)] at h
      obtain ⟨u2, e2, f2⟩ := h
      exact ⟨u2, e2, f1.tr f2⟩
  · have eC : nI (qc C (l + 1)) = nI (qc C l) + 0 := by
      rw [show qc C (l + 1) = qc C l from qs_s0 q, Int32.add_zero]
    have h := r306 (N := N) (w9 := w9) (V1 := nI k) (V6 := V6) (V7 := V7) (k1 := 0) (c := 0) hN hT1 hA hl (qt_0 q).symm (v13 := qt (C l ∧ qg_L a b S C (a l))) rfl (nI (qc C l))
    rw [qt_0 q, q_01, eC]
    unfold fL_isRight_j266 fL_isRight_j291 fL_isRight_j292
    rw [q_00, q_00]
    rw [qt_0 (fun z => q z.1)] at h
    obtain ⟨u2, e2, f2⟩ := h
    exact ⟨u2, e2, f1.tr f2⟩
/-- how many sources stand in the island with the number j, of the first i nodes -/
noncomputable def qown (S : Nat → Prop) (lab : Nat → Nat) (i : Nat) : Nat → Int32 := fun j => nI (qc (fun x => S x ∧ lab x = j) i)
theorem qown_s (i : Nat) : upd (qown S lab i) (lab i) (qown S lab i (lab i) + qt (S i)) = qown S lab (i + 1) := by
  funext j
  unfold qown
  by_cases e : j = lab i
  · subst e
    rw [upd_s]
    by_cases q : S i
    · rw [qt_1 q, show qc (fun x => S x ∧ lab x = lab i) (i + 1) = qc (fun x => S x ∧ lab x = lab i) i + 1 from qs_s1 ⟨q, rfl⟩, q_sc]
    · rw [qt_0 q, show qc (fun x => S x ∧ lab x = lab i) (i + 1) = qc (fun x => S x ∧ lab x = lab i) i from qs_s0 (fun z => q z.1), Int32.add_zero]
  · rw [upd_o e, show qc (fun x => S x ∧ lab x = j) (i + 1) = qc (fun x => S x ∧ lab x = j) i from qs_s0 (fun z => e z.2.symm)]
theorem rL21 (hN : 20 < N) (hT : qT n k a b ld cap pr rt pk mu ins S B C Lk Fl u) (hA : qrow n k a b cap rt S A9) (hlab : qlab n a b C lab) (hx : x < n) : fL_isRight_L21 N A9 u (qown S lab x) V1 V5 (nI (qs ld (fun y => qg_L a b S C y) x)) (nI (qs ld (fun _ => True) x)) 1 (nI x) = some (.inl (u, qown S lab (x + 1), nI (qs ld (fun y => qg_L a b S C y) (x + 1)), nI (qs ld (fun _ => True) (x + 1)), 1, nI (x + 1))) := by
  obtain ⟨v, hJ⟩ := hT.1.J
  have hn := hJ.n10
  have hlx := (hlab.1 x hx).2
  have hlR := (hlab.1 x hx).1
  have hl10 : lab x < n := by omega
  have hll : lab (lab x) = lab x := (hlab.eq hl10 hx).mpr (qg_sy hlR)
  have eA : nI (qs ld (fun _ => True) (x + 1)) = nI (qs ld (fun _ => True) x) + nI (ld x) := by rw [qs_s1 trivial, nI_add]
  -- the last checks of a node
  have tail : ∀ v6 : Int32, fL_isRight_j79 N A9 u (qown S lab x) V1 V5 (nI (qs ld (fun _ => True) (x + 1))) 1 (nI x) (nI (lab x)) (@ite _ (qg_L a b S C x) (Classical.propDecidable _) (nI (qf (fun i => qg_R a b C x i ∧ S i) n).toNatClampNeg) (-79)) (nI (qs ld (fun y => qg_L a b S C y) x)) v6 = some (.inl (u, qown S lab (x + 1), nI (qs ld (fun y => qg_L a b S C y) x) + v6, nI (qs ld (fun _ => True) (x + 1)), 1, nI (x + 1))) := by
    intro v6
    unfold fL_isRight_j79
    rw [q_ck (show lab x < 10 by omega) (by omega), q_gt, hl_isSource hJ hx, q_b2s, q_gt, hl_islandBy hN hJ hlab hx, q_b2s, if_pos rfl, hl_islandOf hN hJ hlab hl10, q_b2s, hll, if_pos rfl, q_ilt0 hlx (by omega), q_cl (show lab x < 2147483648 by omega), qown_s]
    by_cases q : qg_L a b S C x
    · obtain ⟨s, hs, hR⟩ := q
      have hsn := hJ.Sn s hs
      have hL : qg_L a b S C x := ⟨s, hs, hR⟩
      have hcs : qs ld (qg_R a b C x) n ≤ cap s := by
        rw [qs_cg (g := ld) (Q := qg_R a b C s) (fun i _ => ⟨fun z => qg_tr (qg_sy hR) z, fun z => qg_tr hR z⟩) (fun _ _ _ => rfl)]
        exact hJ.gd.2.2.2.1 s hs
      have hcb := (hJ.1.2.1 s hsn).2.2.2.1
      rw [if_pos hL, qf_src hJ.gd.2.2.1 hJ.Sn hs hR, q_cl (show s < 2147483648 by omega), q_iltz (by omega)]
      unfold fL_isRight_j137
      rw [hl_isLive hN hJ hx, q_b2s, qt_1 hL, q_11]
      unfold fL_isRight_j152 fL_isRight_j190
      rw [q_11, q_iltz (by omega), hl_islandOf hN hJ hlab hsn, q_b2s, (hlab.eq hsn hx).mpr (qg_sy hR), if_pos rfl, hl_islandLoad hN hJ hx, q_b2s, q_ck (show s < 10 by omega) (by omega), q_gt, q_cl (show s < 2147483648 by omega), hA.1 s hsn hs, q_ilt0 hcs (by omega), q_sc]
      rfl
    · rw [if_neg q, if_pos (show (-79 : Int32) < 0 by decide)]
      unfold fL_isRight_j137
      rw [hl_isLive hN hJ hx, q_b2s, qt_0 q, q_01]
      unfold fL_isRight_j152 fL_isRight_j190
      rw [q_00, if_pos (show (-79 : Int32) < 0 by decide), q_sc]
      rfl
  unfold fL_isRight_L21 fX5_nodes
  rw [hJ.1.1.1, q_bs, q_ile0 hx (by omega), hl_islandOf hN hJ hlab hx, q_b2s]
  by_cases q : qg_L a b S C x
  · have hq := q
    obtain ⟨s, hs, hR⟩ := q
    have hsn := hJ.Sn s hs
    have t := tail (nI (ld x))
    rw [if_pos hq, qf_src hJ.gd.2.2.1 hJ.Sn hs hR, q_cl (show s < 2147483648 by omega)] at t
    rw [hl_sourceOf1 hN hJ hx hs hR, q_b2s, hl_loadOf hJ hx, q_b2s, hl_isLive hN hJ hx, q_b2s, qt_1 hq, q_11, hl_loadOf hJ hx, q_b2s, ← eA, t, show nI (qs ld (fun y => qg_L a b S C y) (x + 1)) = nI (qs ld (fun y => qg_L a b S C y) x) + nI (ld x) from by rw [qs_s1 hq, nI_add]]
  · have t := tail 0
    rw [if_neg q] at t
    rw [hl_sourceOf0 hN hJ hx q, q_b2s, hl_loadOf hJ hx, q_b2s, hl_isLive hN hJ hx, q_b2s, qt_0 q, q_01, ← eA, t, Int32.add_zero, ← qs_s0 (f := ld) (P := fun y => qg_L a b S C y) q]
theorem hl_isRight (hN : 20 < N) (hT : qT n k a b ld cap pr rt pk mu ins S B C Lk Fl u) (hA : qrow n k a b cap rt S A9) : ∃ u', fL_isRight N A9 u (nI k) = some (1, u') ∧ qFX u u' := by
  obtain ⟨v, hJ⟩ := hT.1.J
  have hn := hJ.n10
  have hk := hJ.k12
  obtain ⟨lab, hlab⟩ := hJ.hasLab
  have h1 := q_for (f := fun x : sg_St × (Nat → Int32) × Int32 × Int32 × Int32 × Int32 => fL_isRight_L21 N A9 x.1 x.2.1 (nI k) 0 x.2.2.1 x.2.2.2.1 x.2.2.2.2.1 x.2.2.2.2.2) (fun i => (u, qown S lab i, nI (qs ld (fun y => qg_L a b S C y) i), nI (qs ld (fun _ => True) i), 1, nI i)) (n := n) (N := 11) (r := (u, qown S lab n, nI (qs ld (fun y => qg_L a b S C y) n), nI (qs ld (fun _ => True) n), 1)) (by omega) (fun i hi => rL21 hN hT hA hlab hi) (by
    show fL_isRight_L21 N A9 u _ _ _ _ _ _ (nI n) = _
    unfold fL_isRight_L21 fX5_nodes
    rw [hJ.1.1.1, q_bs, q_ile1 (Nat.le_refl n) (by omega)])
  have h2 := q_for (f := fun x : sg_St × (Nat → Int32) × Int32 × Int32 => fL_isRight_L202 N A9 x.1 x.2.1 (nI k) 0 (nI (qs ld (fun y => qg_L a b S C y) n)) (nI (qs ld (fun _ => True) n)) x.2.2.1 x.2.2.2) (fun i => (u, qown S lab n, 1, nI i)) (n := 10) (N := 11) (r := (u, qown S lab n, 1)) (by omega) (fun i hi => by
    show fL_isRight_L202 N A9 u _ _ _ _ _ _ (nI i) = _
    have ho := q_own hJ hlab i n (Nat.le_refl n)
    have hno : ¬ (1 : Int32) < qown S lab n i := fun z => by
      have z2 := (q_lt (a := 1) (by omega) (by omega)).mp z
      omega
    unfold fL_isRight_L202 fL_isRight_j225
    dsimp only
    rw [q_l10, q_ile0 hi (by omega), q_ck (show i < 10 by omega) (by omega), q_gt, q_cl (show i < 2147483648 by omega), if_neg hno, q_sc]
    rfl) (by
    show fL_isRight_L202 N A9 u _ _ _ _ _ _ (nI 10) = _
    unfold fL_isRight_L202
    rw [q_l10, q_ile1 (Nat.le_refl 10) (by omega)])
  obtain ⟨⟨u3, o3, c3, i3⟩, h3, g1, g2, g3, g4⟩ := q_loop (f := fun x : sg_St × (Nat → Int32) × Int32 × Int32 × Int32 => fL_isRight_L237 N A9 x.1 x.2.1 (nI k) (nI (qs ld (fun y => qg_L a b S C y) n)) (nI (qs ld (fun _ => True) n)) x.2.2.1 x.2.2.2.1 x.2.2.2.2) (m := k) (N := 13) (x0 := (u, qown S lab n, 0, 1, 0)) (fun i x => qFX u x.1 ∧ x.2.1 = qown S lab n ∧ x.2.2.1 = nI (qc C i) ∧ x.2.2.2.1 = 1 ∧ x.2.2.2.2 = nI i) (fun r => qFX u r.1 ∧ r.2.1 = qown S lab n ∧ r.2.2.1 = nI (qc C k) ∧ r.2.2.2 = 1) (by omega) ⟨qFX.rf u, rfl, rfl, rfl, rfl⟩ (by
    rintro i ⟨y, o, c, is, z⟩ hi ⟨f, z1, z2, z3, z4⟩
    dsimp only at f z1 z2 z3 z4
    subst z1; subst z2; subst z3; subst z4
    obtain ⟨u', e, f'⟩ := rL237 (N := N) (w9 := qown S lab n) (V6 := nI (qs ld (fun y => qg_L a b S C y) n)) (V7 := nI (qs ld (fun _ => True) n)) hN (hT.fr f) hA hi
    exact Or.inl ⟨_, e, f.tr f', rfl, rfl, rfl, rfl⟩) (by
    rintro ⟨y, o, c, is, z⟩ ⟨f, z1, z2, z3, z4⟩
    dsimp only at f z1 z2 z3 z4
    subst z1; subst z2; subst z3; subst z4
    refine ⟨(y, qown S lab n, nI (qc C k), 1), ?_, f, rfl, rfl, rfl⟩
    show fL_isRight_L237 N A9 y _ (nI k) _ _ _ _ (nI k) = _
    unfold fL_isRight_L237
    rw [q_ile1 (Nat.le_refl k) (by omega)])
  dsimp only at g1 g2 g3 g4
  subst g2; subst g3; subst g4
  have hJ3 := hJ.fr g1 (qFM.rf v)
  have hcnt := q_islands hJ hlab
  have e1 : sg_it (fun x : sg_St × (Nat → Int32) × Int32 × Int32 × Int32 × Int32 => fL_isRight_L21 N A9 x.1 x.2.1 (nI k) 0 x.2.2.1 x.2.2.2.1 x.2.2.2.2.1 x.2.2.2.2.2) 11 (u, (fun _ => 0), 0, 0, 1, 0) = _ := h1
  have e2 : sg_it (fun x : sg_St × (Nat → Int32) × Int32 × Int32 => fL_isRight_L202 N A9 x.1 x.2.1 (nI k) 0 (nI (qs ld (fun y => qg_L a b S C y) n)) (nI (qs ld (fun _ => True) n)) x.2.2.1 x.2.2.2) 11 (u, qown S lab n, 1, 0) = _ := h2
  refine ⟨u3, ?_, g1⟩
  unfold fL_isRight
  rw [e1, q_bs]
  dsimp only
  rw [e2, q_bs]
  dsimp only
  rw [h3, q_bs]
  dsimp only
  unfold fX5_nodes
  rw [q_10, cx_islands hN hJ3 hlab, q_bs, hJ3.1.1.1, q_bs, q_sub (show qc C k ≤ n by omega), show n - qc C k = qc (fun i => lab i = i) n by omega, if_pos rfl, cx_dark hN hJ3, q_bs, if_pos rfl]
  unfold fL_isRight_j608
  rcases hl_share (N := N) hN hJ3 with ⟨q1, q2⟩ | ⟨q1, q2, q3, q4, q5⟩
  · rw [q2, q_b2s, q_ieqz0 q1, if_pos (show Op.cmpValue (FP.fcmp 3264479232 3264479232) .l = 0 by decide +kernel)]
    rfl
  · rw [q3, q_b2s, q_ieqz q1 q2, q4, q_gt, if_pos q5]
    rfl
end PE
