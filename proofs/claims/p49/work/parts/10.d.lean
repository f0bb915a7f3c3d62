/-! p49: loads, relays, plans, what is added, sums -/
section PD
variable {N n k : Nat} {u v u' v' w : sg_St} {a b ld cap pr rt pk mu ins lab : Nat → Nat} {S B C C' Lk Fl Lk' Fl' : Nat → Prop} {l x y m t s c d e : Nat}
theorem hl_setLoadk (hJ : qJ n k a b ld cap pr rt pk mu ins S B C Lk Fl u v) (p : Int32) : fL_setLoad N u (nI n) p = some (-75, u) := by
  unfold fL_setLoad fX5_setLoad
  rw [qx_nNdk hJ.1.1]; rfl
theorem hl_setLoad (hN : 20 < N) (hJ : qJ n k a b ld cap pr rt pk mu ins S B C Lk Fl u v) (hx : x < n) (hd : d ≤ 100) : ∃ (r : Int32) (u' : sg_St), fL_setLoad N u (nI x) (nI d) = some (r, u') ∧ ((r < 0 ∧ qFX u u') ∨ (r = nI (ld x) ∧ qK n k a b (qpt ld x d) cap pr rt pk mu ins S B C Lk Fl u' ∧ u' 10 0 = u 10 0)) := by
  have hn := hJ.n10
  unfold fL_setLoad fX5_setLoad
  rw [qx_nNd hJ.1.1 hx, sg_bt_r]
  rcases qx_ndLoad (N := N) (nI d) with ⟨d', d1, d9, d2, d3⟩ | ⟨d2, d3⟩
  rotate_left
  · rw [d2]
    exact ⟨-78, u, rfl, Or.inl ⟨by decide, qFX.rf u⟩⟩
  rw [d2, sg_bt0_r]
  have ed : d = d' := (q_eq (by omega) (by omega)).mp d9
  subst ed
  have u12 : u 12 x = nI (ld x) := hJ.1.ldv x hx
  unfold fX5_needBus
  by_cases hS : S x
  · rw [hJ.1.sS.has1 hS]
    exact ⟨-76, u, rfl, Or.inl ⟨by decide, qFX.rf u⟩⟩
  have hW' := qW_load hJ.1 hx hS d1
  have hc' : qS (sg_set u 12 x (nI d) 4 0) C := by rw [sg_set_o (by omega)]; exact hJ.Cs
  obtain ⟨⟨r, o⟩, o1, o2, o3⟩ := qx_keepL (N := N) hN hW' hc' hJ.gd.1 hJ.gd.2.1 hJ.gd.2.2.1
  dsimp only at o2 o3
  rw [hJ.1.sS.has0 (by omega) hS, q_bs, q_00, sg_bt_r, qx_load hJ.1.1 hx, q_bs, qx_put hJ.1.1 hx, q_bs, o1, q_b2s, u12]
  rcases o3 with ⟨z1, z2, z3⟩ | ⟨z1, z2⟩
  · refine ⟨nI (ld x), o, ?_, Or.inr ⟨rfl, qK.of (hJ.load (v' := sg_set v 10 x (nI d)) hx hS d1 ⟨hJ.gd.1, hJ.gd.2.1, hJ.gd.2.2.1, z2, z3⟩ o2 (fun j _ _ => rfl)), ?_⟩⟩
    · rw [z1, q_10]; rfl
    · rw [o2 10 (by omega) (by omega), sg_set_o (by omega)]
  · refine ⟨-79, sg_set o 12 x (nI (ld x)), ?_, Or.inl ⟨by decide, fun j h7 h8 h9 h17 h18 => ?_⟩⟩
    · rw [z1, q_00, qx_put (hW'.1.fr o2) hx, q_bs]; rfl
    · by_cases e : j = 12
      · rw [e, sg_set_s]
        funext i
        by_cases e2 : i = x
        · rw [e2, upd_s]; exact u12.symm
        · rw [upd_o e2, o2 12 (by omega) (by omega), sg_set_s, upd_o e2]
      · rw [sg_set_o e, o2 j h17 h18, sg_set_o e]
theorem hl_setRelayk (hJ : qJ n k a b ld cap pr rt pk mu ins S B C Lk Fl u v) (p q r : Int32) : fL_setRelay N u (nI k) p q r = some (-75, u) := by
  unfold fL_setRelay fX5_setRelay
  rw [qx_nLk hJ.1.1]; rfl
theorem hl_setRelay (hJ : qJ n k a b ld cap pr rt pk mu ins S B C Lk Fl u v) (hl : l < k) (hc : c ≤ 999) (hd : 1 ≤ d ∧ d ≤ 10) (he : e < 100000) : ∃ (r : Int32) (u' : sg_St), fL_setRelay N u (nI l) (nI c) (nI d) (nI e) = some (r, u') ∧ ((r < 0 ∧ u' = u) ∨ (¬ r < 0 ∧ B l ∧ 1 ≤ c ∧ qK n k a b ld cap pr rt (qpt pk l c) (qpt mu l d) (qpt ins l e) S B C Lk Fl u' ∧ u' 10 0 = u 10 0)) := by
  have hk := hJ.k12
  unfold fL_setRelay fX5_setRelay
  rw [qx_nL hJ.1.1 hl, sg_bt_r]
  by_cases c0 : c = 0
  · subst c0
    rw [if_pos (show nI 0 < 1 by decide)]
    exact ⟨-78, u, rfl, Or.inl ⟨by decide, rfl⟩⟩
  have hc' := q_rng (lo := 1) (hi := 999) (c := c) (by omega) hc (by omega)
  have hd' := q_rng (lo := 1) (hi := 10) (c := d) hd.1 hd.2 (by omega)
  rw [if_neg (show ¬ nI c < 1 from hc'.1), if_pos (show nI c ≤ 999 from hc'.2), if_neg (show ¬ nI d < 1 from hd'.1), if_pos (show nI d ≤ 10 from hd'.2)]
  have good : ∃ (r : Int32) (u' : sg_St), sg_hc (fX5_setRelay_j69 N u (nI l) (nI c) (nI d) (nI e)) (sg_hx [(5, (-75 : Int32)), (1, -78), (4, -76)]) (fun r => some r) = some (r, u') ∧ ((r < 0 ∧ u' = u) ∨ (¬ r < 0 ∧ B l ∧ 1 ≤ c ∧ qK n k a b ld cap pr rt (qpt pk l c) (qpt mu l d) (qpt ins l e) S B C Lk Fl u' ∧ u' 10 0 = u 10 0)) := by
    unfold fX5_setRelay_j69
    by_cases q : B l
    · have e1 : u 19 l = nI (pk l) := (hJ.2.2.2.2.1 l hl).1
      refine ⟨nI (pk l), sg_set (sg_set (sg_set u 19 l (nI c)) 20 l (nI d)) 21 l (nI e), ?_, Or.inr ⟨nI_pos (by have := (hJ.2.2.2.2.2.2.1 l hl).2.1; omega), q, by omega, ?_, ?_⟩⟩
      · rw [(qx_needBr hJ hl).1 q, sg_bt_r]
        unfold fX3_pickupAt
        rw [qx_isL hJ.1.1 hl, q_bs, q_10, q_ck (show l < 12 by omega) (by omega), q_gt, q_cl (show l < 2147483648 by omega), q_bs, qx_setUp hJ.1.1 hl, q_bs, e1]; rfl
      · obtain ⟨h1, h2, h3, h4, h5, h6, h7⟩ := qK.of hJ
        have F : ∀ j, j ≠ 19 → j ≠ 20 → j ≠ 21 → sg_set (sg_set (sg_set u 19 l (nI c)) 20 l (nI d)) 21 l (nI e) j = u j := fun j z1 z2 z3 => by rw [sg_set_o z3, sg_set_o z2, sg_set_o z1]
        refine ⟨h1.fr (fun j hj => F j (by omega) (by omega) (by omega)), ?_, fun m hm => ?_, fun m hm => ?_, h5, h6, h7⟩
        · rw [F 4 (by omega) (by omega) (by omega), F 5 (by omega) (by omega) (by omega), F 6 (by omega) (by omega) (by omega)]; exact h2
        · rw [sg_set_s, sg_set_o (show (19 : Nat) ≠ 21 by omega), sg_set_o (show (19 : Nat) ≠ 20 by omega), sg_set_s, sg_set_o (show (20 : Nat) ≠ 21 by omega), sg_set_s, sg_set_o (show (20 : Nat) ≠ 19 by omega), sg_set_o (show (21 : Nat) ≠ 20 by omega), sg_set_o (show (21 : Nat) ≠ 19 by omega)]
          by_cases e0 : m = l
          · rw [e0, qpt_s, qpt_s, qpt_s, upd_s, upd_s, upd_s]; exact ⟨rfl, rfl, rfl⟩
          · rw [qpt_o e0, qpt_o e0, qpt_o e0, upd_o e0, upd_o e0, upd_o e0]; exact h3 m hm
        · by_cases e0 : m = l
          · rw [e0, qpt_s, qpt_s, qpt_s]; exact ⟨by omega, hc, hd.1, hd.2, by omega⟩
          · rw [qpt_o e0, qpt_o e0, qpt_o e0]; exact h4 m hm
      · rw [sg_set_o (by omega), sg_set_o (by omega), sg_set_o (by omega)]
    · rw [(qx_needBr hJ hl).2 q]
      exact ⟨-76, u, rfl, Or.inl ⟨by decide, rfl⟩⟩
  by_cases z1 : nI e = 0
  · rw [if_pos z1]
    exact good
  · rw [if_neg z1]
    by_cases z2 : nI c < nI e
    · rw [if_pos z2]
      exact good
    · rw [if_neg z2]
      exact ⟨-78, u, rfl, Or.inl ⟨by decide, rfl⟩⟩
theorem hl_tripTime (hJ : qJ n k a b ld cap pr rt pk mu ins S B C Lk Fl u v) (hl : l < k) (hB : B l) (hc : 1 ≤ c ∧ c ≤ 99999) : fL_tripTime N u (nI l) (nI c) = some (qti (qtm (pk l) (mu l) (ins l) c), u) := by
  have h := q_rng (lo := 1) (hi := 99999) hc.1 hc.2 (by omega)
  unfold fL_tripTime fX5_tripTime
  rw [qx_nL hJ.1.1 hl, sg_bt_r, if_neg (show ¬ nI c < 1 from h.1), if_pos (show nI c ≤ 99999 from h.2), (qx_needBr hJ hl).1 hB, sg_bt_r, qx_time hJ.1 hJ.2.2.2.2.1 hJ.2.2.2.2.2.2.1 hl (by omega), q_bs, qta_1 hB]; rfl
theorem qti_gt {pk mu ins : Nat} (c : Nat) (h1 : pk = c) (h2 : pk ≤ 999) (h3 : mu ≤ 10) : 0 < qti (qtm pk mu ins (c + 1)) := by
  have hb := qtm_bd (pk := pk) (mu := mu) (ins := ins) (cur := c + 1) h2 h3
  have hp : 0 < qtm pk mu ins (c + 1) := by
    unfold qtm
    rw [if_neg (by omega)]
    by_cases q : 0 < ins ∧ ins ≤ c + 1
    · rw [if_pos q]; omega
    · rw [if_neg q]; exact Nat.succ_pos _
  rw [qti_1 hp]
  exact (q_lt (a := 0) (by omega) (by omega)).mpr hp
-- plans
theorem cx_best (hN : 5000 < N) (hJ : qJ n k a b ld cap pr rt pk mu ins S B C Lk Fl u v) : ∃ g, qbest n k a b ld cap pr rt S B Lk Fl C g := by
  obtain ⟨u', g, h1, h2, h3, h4⟩ := qx_findBest (N := N) (by omega) hJ.Z0 hJ.gd
  exact ⟨g, h4⟩
theorem cx_findBest {g : List Nat} (hN : 5000 < N) (hJ : qJ n k a b ld cap pr rt pk mu ins S B C Lk Fl u v) (hb : qbest n k a b ld cap pr rt S B Lk Fl C g) : ∃ u', fX2_findBest N u = some u' ∧ qFX u u' ∧ qBX u' n a b ld pr S C g := by
  obtain ⟨u', g', h1, h2, h3, h4⟩ := qx_findBest (N := N) (by omega) hJ.Z0 hJ.gd
  have e := qbest_un h4 hb
  subst e
  exact ⟨u', h1, h2, h3⟩
theorem cx_bestValue {g : List Nat} (hN : 5000 < N) (hJ : qJ n k a b ld cap pr rt pk mu ins S B C Lk Fl u v) (hb : qbest n k a b ld cap pr rt S B Lk Fl C g) : ∃ u', fX5_bestValue N u = some (nI (qworth n a b ld pr S (qcl C g)), u') ∧ qFX u u' := by
  obtain ⟨u', h1, h2, h3⟩ := cx_findBest hN hJ hb
  refine ⟨u', ?_, h2⟩
  unfold fX5_bestValue
  rw [h1, q_bs, h3.2.1]
theorem cx_bestSize {g : List Nat} (hN : 5000 < N) (hJ : qJ n k a b ld cap pr rt pk mu ins S B C Lk Fl u v) (hb : qbest n k a b ld cap pr rt S B Lk Fl C g) : ∃ u', fX5_bestSize N u = some (nI g.length, u') ∧ qFX u u' := by
  obtain ⟨u', h1, h2, h3⟩ := cx_findBest hN hJ hb
  refine ⟨u', ?_, h2⟩
  unfold fX5_bestSize
  rw [h1, q_bs, h3.cnt, q_bs]
theorem hl_bestAt0 {g : List Nat} (hN : 5000 < N) (hJ : qJ n k a b ld cap pr rt pk mu ins S B C Lk Fl u v) (hb : qbest n k a b ld cap pr rt S B Lk Fl C g) : ∃ (r : Int32) (u' : sg_St), fL_bestAt N u 0 = some (r, u') ∧ qFX u u' ∧ (0 < g.length → r = nI (g.getD 0 0)) := by
  obtain ⟨u', h1, h2, h3⟩ := cx_findBest hN hJ hb
  have hg := q_len12 h3.2.2.1 h3.2.2.2
  unfold fL_bestAt fX5_bestAt
  rw [h1, q_bs, if_neg (show ¬ (0 : Int32) < 0 by decide), h3.cnt, q_bs]
  rcases Nat.eq_zero_or_pos g.length with q | q
  · rw [if_neg (show ¬ (0 : Int32) < nI g.length by rw [q]; decide)]
    exact ⟨-77, u', rfl, h2, fun z => absurd z (by omega)⟩
  · rw [show (0 : Int32) = nI 0 from rfl, q_ilt1 q (by omega), qx_member (by omega) h3.1 (qval_asc g [] 0 hb.1) h3.2.2.2 q (by omega)]
    exact ⟨_, u', rfl, h2, fun _ => rfl⟩
theorem cx_tryAll {g : List Nat} (hN : 5000 < N) (hJ : qJ n k a b ld cap pr rt pk mu ins S B C Lk Fl u v) (hb : qbest n k a b ld cap pr rt S B Lk Fl C g) : ∃ u' g', fX2_tryAllSets N u = some u' ∧ qFX u u' ∧ qBX u' n a b ld pr S C g' ∧ g'.length = g.length ∧ qworth n a b ld pr S (qcl C g') = qworth n a b ld pr S (qcl C g) := by
  obtain ⟨u', g', h1, h2, h3, h4, h5⟩ := qx_tryAll hN hJ.Z0 hJ.gd
  obtain ⟨w, -, -, h6⟩ := cx_findBest hN hJ hb
  have e : qsc n a b ld pr S C g' = qsc n a b ld pr S C g := by
    have e1 := h5 g hb.1
    rcases hb.2 g' h4 with q | ⟨q, _⟩ <;> omega
  obtain ⟨e1, e2⟩ := qsc_len e (q_len12 h3.2.2.1 h3.2.2.2) (q_len12 h6.2.2.1 h6.2.2.2)
  exact ⟨u', g', h1, h2, h3, e1, e2⟩
theorem hl_valueBy {g : List Nat} (hN : 5000 < N) (hJ : qJ n k a b ld cap pr rt pk mu ins S B C Lk Fl u v) (hb : qbest n k a b ld cap pr rt S B Lk Fl C g) : ∃ u', (fL_valueByTrying N u = some (-76, u') ∨ fL_valueByTrying N u = some (nI (qworth n a b ld pr S (qcl C g)), u')) ∧ qFX u u' := by
  unfold fL_valueByTrying fX5_valueByTrying
  rw [qx_few hN hJ]
  by_cases q : qc (qcand B Lk Fl C) k ≤ 9
  · obtain ⟨u', g', h1, h2, h3, h4, h5⟩ := cx_tryAll hN hJ hb
    refine ⟨u', Or.inr ?_, h2⟩
    rw [if_pos q, sg_bt_r, h1, q_bs, h3.2.1, h5]; rfl
  · refine ⟨u, Or.inl ?_, qFX.rf u⟩
    rw [if_neg q]; rfl
theorem hl_sizeBy {g : List Nat} (hN : 5000 < N) (hJ : qJ n k a b ld cap pr rt pk mu ins S B C Lk Fl u v) (hb : qbest n k a b ld cap pr rt S B Lk Fl C g) (hne : ∀ u', ¬ fL_valueByTrying N u' = some (-76, u') → True) (hq : qc (qcand B Lk Fl C) k ≤ 9) : ∃ u', fL_sizeByTrying N u = some (nI g.length, u') ∧ qFX u u' := by
  unfold fL_sizeByTrying fX5_sizeByTrying
  rw [qx_few hN hJ]
  obtain ⟨u', g', h1, h2, h3, h4, h5⟩ := cx_tryAll hN hJ hb
  refine ⟨u', ?_, h2⟩
  rw [if_pos hq, sg_bt_r, h1, q_bs, h3.cnt, q_bs, h4]; rfl
theorem hl_valueBy0 (hN : 5000 < N) (hJ : qJ n k a b ld cap pr rt pk mu ins S B C Lk Fl u v) (hq : ¬ qc (qcand B Lk Fl C) k ≤ 9) : fL_valueByTrying N u = some (-76, u) := by
  unfold fL_valueByTrying fX5_valueByTrying
  rw [qx_few hN hJ, if_neg hq]; rfl
theorem hl_valueBy1 {g : List Nat} (hN : 5000 < N) (hJ : qJ n k a b ld cap pr rt pk mu ins S B C Lk Fl u v) (hb : qbest n k a b ld cap pr rt S B Lk Fl C g) (hq : qc (qcand B Lk Fl C) k ≤ 9) : ∃ u', fL_valueByTrying N u = some (nI (qworth n a b ld pr S (qcl C g)), u') ∧ qFX u u' := by
  obtain ⟨u', g', h1, h2, h3, h4, h5⟩ := cx_tryAll hN hJ hb
  refine ⟨u', ?_, h2⟩
  unfold fL_valueByTrying fX5_valueByTrying
  rw [qx_few hN hJ, if_pos hq, sg_bt_r, h1, q_bs, h3.2.1, h5]; rfl
theorem cx_restore {g : List Nat} (hN : 5000 < N) (hJ : qJ n k a b ld cap pr rt pk mu ins S B C Lk Fl u v) (hb : qbest n k a b ld cap pr rt S B Lk Fl C g) : ∃ u', fX5_restore N u = some (nI g.length, u') ∧ qK n k a b ld cap pr rt pk mu ins S B (qcl C g) Lk Fl u' ∧ u' 10 0 = u 10 0 := by
  obtain ⟨u', h1, h2, h3⟩ := cx_findBest hN hJ hb
  have hJ' := hJ.fr h2 (qFM.rf v)
  have hgd : qgood n k a b ld cap rt S (qcl C g) := qval_good (S := S) (B := B) (Lk := Lk) (Fl := Fl) hJ.Bk g [] 0 (by rw [qcl_nil]; exact hJ.gd) hb.1
  refine ⟨sg_set u' 4 0 (u' 4 0 ||| u' 8 0), ?_, (qK.of hJ').sw (fun j hj => sg_set_o (by omega)) (by rw [sg_set_s, upd_s]; exact hJ'.Cs.or h3.1) (by rw [sg_set_o (by omega)]; exact hJ'.Ls) (by rw [sg_set_o (by omega)]; exact hJ'.Fs) hgd hJ.Lb hJ.Fb, ?_⟩
  · unfold fX5_restore
    rw [h1, q_bs]
    unfold fX4_closeAll
    rw [q_bs, sg_set_o (show (8 : Nat) ≠ 4 by omega), h3.cnt, q_bs]
  · rw [sg_set_o (by omega), h2 10 (by omega) (by omega) (by omega) (by omega) (by omega)]
-- sums
def qfold (f : Nat → Int64 → Int64) : Nat → Int64 → Int64
  | 0, z => z
  | i + 1, z => f i (qfold f i z)
noncomputable def qsumv (n k : Nat) (ld : Nat → Nat) (C Lk : Nat → Prop) (t : Int32) : Int64 := qfold (fun i z => (131 * z) + (nI (ld i)).toInt64) n (qfold (fun i z => ((31 * z) + (qt (C i)).toInt64) + (2 * (qt (Lk i)).toInt64)) k t.toInt64)
theorem qfold_cg {f g : Nat → Int64 → Int64} : ∀ (n : Nat) (z : Int64), (∀ i, i < n → ∀ z, f i z = g i z) → qfold f n z = qfold g n z
  | 0, _, _ => rfl
  | n + 1, z, h => by
    show f n (qfold f n z) = g n (qfold g n z)
    rw [qfold_cg n z (fun i hi => h i (by omega)), h n (by omega)]
theorem hl_sum (hJ : qJ n k a b ld cap pr rt pk mu ins S B C Lk Fl u v) : fL_sum N u = some (qsumv n k ld C Lk (u 10 0), u) := by
  have hn := hJ.n10
  have hk := hJ.k12
  have h1 := q_for (f := fun x : sg_St × Int64 × Int32 => fL_sum_L8 N x.1 x.2.1 x.2.2) (fun i => (u, qfold (fun i z => ((31 * z) + (qt (C i)).toInt64) + (2 * (qt (Lk i)).toInt64)) i (u 10 0).toInt64, nI i)) (n := k) (N := 13) (r := (u, qfold (fun i z => ((31 * z) + (qt (C i)).toInt64) + (2 * (qt (Lk i)).toInt64)) k (u 10 0).toInt64)) (by omega) (fun i hi => by
    show fL_sum_L8 N u _ (nI i) = _
    unfold fL_sum_L8 fX5_lines
    rw [hJ.1.1.2.1, q_bs, q_ile0 hi (by omega), hl_isClosed hJ hi, q_b2s, hl_isLocked hJ hi, q_b2s, q_sc]
    rfl) (by
    show fL_sum_L8 N u _ (nI k) = _
    unfold fL_sum_L8 fX5_lines
    rw [hJ.1.1.2.1, q_bs, q_ile1 (Nat.le_refl k) (by omega)])
  have h2 := fun z0 : Int64 => q_for (f := fun x : sg_St × Int64 × Int32 => fL_sum_L48 N x.1 x.2.1 x.2.2) (fun i => (u, qfold (fun i z => (131 * z) + (nI (ld i)).toInt64) i z0, nI i)) (n := n) (N := 11) (r := (u, qfold (fun i z => (131 * z) + (nI (ld i)).toInt64) n z0)) (by omega) (fun i hi => by
    show fL_sum_L48 N u _ (nI i) = _
    unfold fL_sum_L48 fX5_nodes
    rw [hJ.1.1.1, q_bs, q_ile0 hi (by omega), hl_loadOf hJ hi, q_b2s, q_sc]
    rfl) (by
    show fL_sum_L48 N u _ (nI n) = _
    unfold fL_sum_L48 fX5_nodes
    rw [hJ.1.1.1, q_bs, q_ile1 (Nat.le_refl n) (by omega)])
  unfold fL_sum fX5_trips
  rw [q_bs]
  have e1 : sg_it (fun x : sg_St × Int64 × Int32 => fL_sum_L8 N x.1 x.2.1 x.2.2) 13 (u, (u 10 0).toInt64, 0) = _ := h1
  rw [e1, q_bs]
  have e2 := h2 (qfold (fun i z => ((31 * z) + (qt (C i)).toInt64) + (2 * (qt (Lk i)).toInt64)) k (u 10 0).toInt64)
  have e3 : sg_it (fun x : sg_St × Int64 × Int32 => fL_sum_L48 N x.1 x.2.1 x.2.2) 11 (u, qfold (fun i z => ((31 * z) + (qt (C i)).toInt64) + (2 * (qt (Lk i)).toInt64)) k (u 10 0).toInt64, 0) = _ := e2
  rw [e3, q_bs]
  rfl
theorem qJ.cg1 (h : ∀ l, C l ↔ C' l) (h2 : ∀ l, Lk l ↔ Lk' l) (t : Int32) : qsumv n k ld C Lk t = qsumv n k ld C' Lk' t := by
  unfold qsumv
  rw [qfold_cg k _ (fun i hi z => by rw [qt_cg (h i), qt_cg (h2 i)])]
theorem hl_value (hN : 20 < N) (hJ : qJ n k a b ld cap pr rt pk mu ins S B C Lk Fl u v) : fL_value N u = some (nI (qworth n a b ld pr S C), u) := by
  have hn := hJ.n10
  have e9 : ∀ i, qs (fun i => ld i * pr i) (fun x => ¬ S x ∧ qg_L a b S C x) i = qs (fun i => ld i * pr i) (fun x => ¬ S x ∧ qg_L a b S C x) i := fun _ => rfl
  have h1 := q_for (f := fun x : sg_St × Int32 × Int32 => fL_value_L4 N x.1 x.2.1 x.2.2) (fun i => (u, nI (qs (fun i => ld i * pr i) (fun x => ¬ S x ∧ qg_L a b S C x) i), nI i)) (n := n) (N := 11) (r := (u, nI (qs (fun i => ld i * pr i) (fun x => ¬ S x ∧ qg_L a b S C x) n))) (by omega) (fun i hi => by
    show fL_value_L4 N u _ (nI i) = _
    unfold fL_value_L4 fX5_nodes fL_value_j38 fL_value_j39
    rw [hJ.1.1.1, q_bs, q_ile0 hi (by omega), hl_isSource hJ hi, q_b2s]
    by_cases q1 : S i
    · rw [qt_1 q1, q_10, q_sc, qs_s0 (fun z => z.1 q1), Int32.add_zero]
    · rw [qt_0 q1, q_00, hl_isLive hN hJ hi, q_b2s]
      by_cases q2 : qg_L a b S C i
      · rw [qt_1 q2, q_11, hl_weight hN hJ hi q1, q_b2s, q_sc, qs_s1 ⟨q1, q2⟩, nI_add]
      · rw [qt_0 q2, q_01, q_sc, qs_s0 (fun z => q2 z.2), Int32.add_zero]) (by
    show fL_value_L4 N u _ (nI n) = _
    unfold fL_value_L4 fX5_nodes
    rw [hJ.1.1.1, q_bs, q_ile1 (Nat.le_refl n) (by omega)])
  have e1 : sg_it (fun x : sg_St × Int32 × Int32 => fL_value_L4 N x.1 x.2.1 x.2.2) 11 (u, 0, 0) = _ := h1
  unfold fL_value
  rw [e1, q_bs]
  have e2 : qs (fun i => ld i * pr i) (fun x => ¬ S x ∧ qg_L a b S C x) n = qworth n a b ld pr S C := by
    unfold qworth
    refine qs_z (fun i _ z => z.2) (fun i _ z1 z2 => ?_)
    have hs : S i := Classical.byContradiction (fun q => z2 ⟨q, z1⟩)
    rw [hJ.S0 i hs, Nat.zero_mul]
  rw [e2]
theorem cx_dark (hN : 20 < N) (hJ : qJ n k a b ld cap pr rt pk mu ins S B C Lk Fl u v) : fX5_darkLoad N u = some (nI (qs ld (fun _ => True) n) - nI (qs ld (fun y => qg_L a b S C y) n)) := by
  obtain ⟨r, r1, r2⟩ := qx_all (N := N) hN hJ
  obtain ⟨t, t1, t2, t3⟩ := qx_liveL (N := N) hN hJ
  unfold fX5_darkLoad
  rw [r1, q_bs, r2, q_bs, t1, q_bs, t3, q_bs]
theorem qd_cmp32 {x : UInt32} (hx : x.toNat ≤ 2139095040) : Op.cmpValue (FP.fcmp x x) .l = 0 := by
  have hc : ∀ z : Int, compare z z = Ordering.eq := fun z => by
    show compareOfLessAndEq z z = Ordering.eq
    unfold compareOfLessAndEq
    rw [if_neg (Int.lt_irrefl z), if_pos rfl]
  have e : FP.fcmp x x = some Ordering.eq := by
    show FP.Core.order (FP.Core.decode FP.Core.b32 x.toNat) (FP.Core.decode FP.Core.b32 x.toNat) = _
    rcases qd_dec32 hx with h | ⟨c, q, h⟩
    · rw [h]; exact congrArg some (hc _)
    · rw [h]; exact congrArg some (hc _)
  rw [e]
  rfl
theorem hl_share (hN : 20 < N) (hJ : qJ n k a b ld cap pr rt pk mu ins S B C Lk Fl u v) : (qs ld (fun _ => True) n = 0 ∧ fL_liveShare N u = some (3264479232, u)) ∨ (0 < qs ld (fun _ => True) n ∧ qs ld (fun _ => True) n < 2147483648 ∧ fL_liveShare N u = some (FP.fdiv (FP.i2f (nI (qs ld (fun y => qg_L a b S C y) n))) (FP.i2f (nI (qs ld (fun _ => True) n))), u) ∧ decide (FP.fdiv (FP.i2f (nI (qs ld (fun y => qg_L a b S C y) n))) (FP.i2f (nI (qs ld (fun _ => True) n))) &&& 0x7fffffff ≤ 0x7f800000) = true ∧ Op.cmpValue (FP.fcmp (FP.fdiv (FP.i2f (nI (qs ld (fun y => qg_L a b S C y) n))) (FP.i2f (nI (qs ld (fun _ => True) n)))) (FP.fdiv (FP.i2f (nI (qs ld (fun y => qg_L a b S C y) n))) (FP.i2f (nI (qs ld (fun _ => True) n))))) .l = 0) := by
  have hn := hJ.n10
  obtain ⟨r, r1, r2⟩ := qx_all (N := N) hN hJ
  obtain ⟨t, t1, t2, t3⟩ := qx_liveL (N := N) hN hJ
  have hb : qs ld (fun _ => True) n ≤ n * 99 := qs_bd (fun i hi _ => hJ.1.ld9 i hi)
  have hb2 : qs ld (fun y => qg_L a b S C y) n ≤ n * 99 := qs_bd (fun i hi _ => hJ.1.ld9 i hi)
  generalize qs ld (fun _ => True) n = A at r2 hb ⊢
  generalize qs ld (fun y => qg_L a b S C y) n = Lv at t3 hb2 ⊢
  unfold fL_liveShare fX5_liveShare
  by_cases q : A = 0
  · refine Or.inl ⟨q, ?_⟩
    rw [r1, q_bs, r2, q_bs, q_ieqz0 q]; rfl
  · have hx := qd_div32 (qd_num32 (show Lv < 2147483648 by omega)) (qd_den32 A (by omega) (by omega))
    have f1 : decide (FP.fdiv (FP.i2f (nI Lv)) (FP.i2f (nI A)) &&& 0x7fffffff ≤ 0x7f800000) = true := decide_eq_true (qd_m32 hx)
    refine Or.inr ⟨by omega, by omega, ?_, f1, qd_cmp32 hx⟩
    rw [r1, q_bs, r2, q_bs, q_ieqz (by omega) (by omega), t1, q_bs, t3, q_bs, f1, q_gt]; rfl
end PD
