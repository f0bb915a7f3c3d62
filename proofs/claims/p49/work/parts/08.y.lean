/-! calls: restoration -/
theorem q_memD : ∀ (g : List Nat) (m : Nat), m ∈ g → ∃ j, j < g.length ∧ g.getD j 0 = m
  | [], _, h => absurd h List.not_mem_nil
  | x :: r, m, h => by
    rcases List.mem_cons.mp h with e | h2
    · exact ⟨0, Nat.succ_pos _, e.symm⟩
    · obtain ⟨j, h3, h4⟩ := q_memD r m h2
      exact ⟨j + 1, Nat.succ_lt_succ h3, h4⟩
section CE
variable {N n k : Nat} {u v u' v' w : sg_St} {a b ld cap pr rt pk mu ins : Nat → Nat} {S B C C' Lk Fl Lk' Fl' : Nat → Prop} {l x : Nat}
theorem qJ.Bk (h : qJ n k a b ld cap pr rt pk mu ins S B C Lk Fl u v) : ∀ l, B l → l < k := h.1.2.2.2.2.2.2
theorem q_choose (hN : 5000 < N) (hJ : qJ n k a b ld cap pr rt pk mu ins S B C Lk Fl u v) : ∃ v' g, fX6_chooses N v = some v' ∧ qFM v v' ∧ v' 0 0 = 0 ∧ qY v' n k a b ld cap pr rt S B Lk Fl C [] g ∧ qbest n k a b ld cap pr rt S B Lk Fl C g := by
  obtain ⟨v', g', g1, g2, g3, g4, g5, g6⟩ := qm_chooses (N := N) (by omega) hJ.2.1 hJ.2.2.2.1 hJ.Bk hJ.Sn hJ.S0 hJ.gd
  refine ⟨v', g', g1, ⟨fun j a1 a2 a3 a4 a5 a6 a7 a8 a9 a10 a11 => g2 j a1 a3 a4 a5 a6 a7 a10 a11, fun l hl => ?_⟩, g4, g5, g6⟩
  by_cases hlk : l < k
  · rw [(g5.2.1 l hlk).1, hJ.V l hlk, qcl_nil]
  · exact g3 l (by omega)
theorem q_both (hN : 5000 < N) (hJ : qJ n k a b ld cap pr rt pk mu ins S B C Lk Fl u v) : ∃ u' v' g, fX2_findBest N u = some u' ∧ fX6_chooses N v = some v' ∧ qFX u u' ∧ qFM v v' ∧ v' 0 0 = 0 ∧ qBX u' n a b ld pr S C g ∧ qY v' n k a b ld cap pr rt S B Lk Fl C [] g ∧ qbest n k a b ld cap pr rt S B Lk Fl C g := by
  obtain ⟨u', g, h1, h2, h3, h4⟩ := qx_findBest (N := N) (by omega) hJ.Z0 hJ.gd
  obtain ⟨v', g', g1, g2, g4, g5, g6⟩ := q_choose hN hJ
  have := qbest_un h4 g6
  subst this
  exact ⟨u', v', g, h1, g1, h2, g2, g4, h3, g5, h4⟩
theorem qBX.cnt {g : List Nat} (h : qBX u n a b ld pr S C g) : fJ6_bitCount_0f7a4 N (u 8 0) = some (nI g.length) := by
  rw [qx_count N h.1 h.2.2.2, qc_list g h.2.2.1 h.2.2.2]
theorem sb38 (hN : 5000 < N) (u v : sg_St) (hI : qI u v) : sb_38 N qI u v := by
  unfold sb_38 fX5_bestValue fX6_bestValue
  obtain ⟨n, k, a, b, ld, cap, pr, rt, pk, mu, ins, S, B, C, Lk, Fl, hJ⟩ := hI
  obtain ⟨u', v', g, h1, h2, h3, h4, h5, h6, h7, h8⟩ := q_both hN hJ
  refine ⟨nI (qworth n a b ld pr S (qcl C g)), u', v', ?_, ?_, (hJ.fr h3 h4).I⟩
  · rw [h1, q_bs, h6.2.1]
  · rw [h2, q_bs, h7.2.2.2.2.2.1]
theorem sb39 (hN : 5000 < N) (u v : sg_St) (hI : qI u v) : sb_39 N qI u v := by
  unfold sb_39 fX5_bestSize fX6_bestSize
  obtain ⟨n, k, a, b, ld, cap, pr, rt, pk, mu, ins, S, B, C, Lk, Fl, hJ⟩ := hI
  obtain ⟨u', v', g, h1, h2, h3, h4, h5, h6, h7, h8⟩ := q_both hN hJ
  refine ⟨nI g.length, u', v', ?_, ?_, (hJ.fr h3 h4).I⟩
  · rw [h1, q_bs, h6.cnt, q_bs]
  · rw [h2, q_bs, h7.2.2.2.2.1]
theorem sb40 (hN : 5000 < N) (u v : sg_St) (hI : qI u v) (p : Int32) : sb_40 N qI u v p := by
  unfold sb_40 fX5_bestAt fX6_bestAt
  obtain ⟨n, k, a, b, ld, cap, pr, rt, pk, mu, ins, S, B, C, Lk, Fl, hJ⟩ := hI
  obtain ⟨u', v', g, h1, h2, h3, h4, h5, h6, h7, h8⟩ := q_both hN hJ
  have hg := q_len12 h6.2.2.1 h6.2.2.2
  rcases qm_in (N := N) g.length (by omega) p with ⟨j, j1, j2, j3⟩ | ⟨j1, j3⟩
  · subst j2
    refine ⟨(.inr (nI (g.getD j 0)), u'), nI (g.getD j 0), v', ?_, ?_, Or.inl ⟨u', rfl, h5, (hJ.fr h3 h4).I⟩⟩
    · rw [h1, q_bs, q_iltz (by omega), h6.cnt, q_bs, q_ilt1 j1 (by omega), qx_member (by omega) h6.1 (qval_asc g [] 0 h8.1) h6.2.2.2 j1 (by omega)]
      rfl
    · rw [h2, q_bs, h7.2.2.2.2.1, j3, q_bs, q_10, q_ck (by omega) (by omega), q_gt, q_cl (by omega), h7.2.2.2.2.2.2.1 j j1]
  · refine ⟨(.inl 2, u'), 0, sg_set v' 0 0 1, ?_, ?_, Or.inr ⟨2, u', rfl, by decide, ?_, (hJ.fr h3 (h4.tr (qFM.of0 v' 1))).I⟩⟩
    · rw [h1, q_bs]
      by_cases hp : p < 0
      · rw [if_pos hp]; rfl
      · obtain ⟨j, hj, rfl⟩ := nI_of hp
        rw [if_neg hp, h6.cnt, q_bs, q_ilt0 (Nat.le_of_not_lt (fun q => j1 j q rfl)) (by omega)]
        rfl
    · rw [h2, q_bs, h7.2.2.2.2.1, j3, q_bs, q_00]
      rfl
    · rw [q_th0]; rfl
theorem qm_many (hN : 5000 < N) (hJ : qJ n k a b ld cap pr rt pk mu ins S B C Lk Fl u v) : sg_it (fun z : Int32 × Int32 => fX6_canTry_L4 N v z.1 z.2) N (0, 0) = some (nI (qc (qcand B Lk Fl C) k)) := by
  have hk := hJ.k12
  have v2 : v 2 0 = nI k := hJ.2.1.2.1
  have hch : ∀ i, i < k → fX6_isChoice N v (nI i) = some (qt (qcand B Lk Fl C i)) := fun i (hi : i < k) => qm_choice (N := N) (B := B) hk hi (hJ.fl i (by omega)).1 (hJ.fl i (by omega)).2.1 (hJ.fl i (by omega)).2.2 (hJ.2.1.2.2.2.2.2.2 i hi).2.2.2
  refine q_sum (g := fun _ => 1) (P := qcand B Lk Fl C) (by omega) (fun i z hi hp => ?_) (fun i z hi hp => ?_) (fun z => ?_)
  · show fX6_canTry_L4 N v z (nI i) = _
    unfold fX6_canTry_L4 fX6_canTry_j26
    rw [v2, q_ile0 hi (by omega), hch i hi, q_bs, qt_0 (fun q => hp q), q_00, Int32.add_zero, q_sc]
  · show fX6_canTry_L4 N v z (nI i) = _
    unfold fX6_canTry_L4 fX6_canTry_j26
    rw [v2, q_ile0 hi (by omega), hch i hi, q_bs, qt_1 hp, q_10, q_sc]
    rfl
  · show fX6_canTry_L4 N v z (nI k) = _
    unfold fX6_canTry_L4
    rw [v2, q_ile1 (Nat.le_refl k) (by omega)]
theorem qx_few (hN : 5000 < N) (hJ : qJ n k a b ld cap pr rt pk mu ins S B C Lk Fl u v) : fX5_needFewLinesToTry N u = if qc (qcand B Lk Fl C) k ≤ 9 then some (.inr (), u) else some (.inl 4, u) := by
  have hk := hJ.k12
  have hcb : ∀ m, qcand B Lk Fl C m → m < k := fun m z => hJ.Bk m z.1
  have hle : qc (qcand B Lk Fl C) k ≤ k := qc_le
  obtain ⟨r, r1, r2⟩ := qx_ofPlans (N := N) hJ.Z0
  unfold fX5_needFewLinesToTry
  rw [r1, q_bs, qx_count N r2 (fun m z => by have := hcb m z; omega), q_bs, show qc (qcand B Lk Fl C) 12 = qc (qcand B Lk Fl C) k from qs_up hcb hk, show (9 : Int32) = nI 9 from by decide]
  by_cases q : qc (qcand B Lk Fl C) k ≤ 9
  · rw [if_pos q, q_ile1 q (by omega)]
  · rw [if_neg q, q_ile0 (by omega) (by omega)]
theorem qm_few (hN : 5000 < N) (hJ : qJ n k a b ld cap pr rt pk mu ins S B C Lk Fl u v) : fX6_canTry N v = if qc (qcand B Lk Fl C) k ≤ 9 then some (1, sg_set v 0 0 0) else some (0, sg_set v 0 0 1) := by
  have hk := hJ.k12
  have hle : qc (qcand B Lk Fl C) k ≤ k := qc_le
  unfold fX6_canTry
  rw [qm_many hN hJ, q_bs, show (9 : Int32) = nI 9 from by decide]
  by_cases q : qc (qcand B Lk Fl C) k ≤ 9
  · rw [if_pos q, q_ilt0 q (by omega), qm_there1, q_b2s]
    rfl
  · rw [if_neg q, q_ilt1 (by omega) (by omega), qm_there0, q_b2s]
    rfl
theorem q_tryboth (hN : 5000 < N) (hJ : qJ n k a b ld cap pr rt pk mu ins S B C Lk Fl u v) : ∃ u' v' g g', fX2_tryAllSets N u = some u' ∧ fX6_chooses N v = some v' ∧ qFX u u' ∧ qFM v v' ∧ v' 0 0 = 0 ∧ qBX u' n a b ld pr S C g ∧ qY v' n k a b ld cap pr rt S B Lk Fl C [] g' ∧ g.length = g'.length ∧ qworth n a b ld pr S (qcl C g) = qworth n a b ld pr S (qcl C g') := by
  obtain ⟨u', g, h1, h2, h3, h4, h5⟩ := qx_tryAll hN hJ.Z0 hJ.gd
  obtain ⟨v', g', g1, g2, g4, g5, g6⟩ := q_choose hN hJ
  have hk := hJ.k12
  have e : qsc n a b ld pr S C g = qsc n a b ld pr S C g' := by
    have e1 := h5 g' g6.1
    rcases g6.2 g h4 with q | ⟨q, _⟩ <;> omega
  obtain ⟨e1, e2⟩ := qsc_len e (q_len12 h3.2.2.1 h3.2.2.2) (q_len12 g5.2.2.2.2.2.2.2.1 (fun x hx => by have := g5.2.2.2.2.2.2.2.2 x hx; omega))
  exact ⟨u', v', g, g', h1, g1, h2, g2, g4, h3, g5, e1, e2⟩
theorem sb41 (hN : 5000 < N) (u v : sg_St) (hI : qI u v) : sb_41 N qI u v := by
  unfold sb_41 fX5_valueByTrying fX6_valueByTrying
  obtain ⟨n, k, a, b, ld, cap, pr, rt, pk, mu, ins, S, B, C, Lk, Fl, hJ⟩ := hI
  rw [qx_few hN hJ, qm_few hN hJ]
  by_cases q : qc (qcand B Lk Fl C) k ≤ 9
  · have hJ0 := hJ.fr (qFX.rf u) (qFM.of0 v 0)
    obtain ⟨u', v', g, g', h1, h2, h3, h4, h5, h6, h7, h8, h9⟩ := q_tryboth hN hJ0
    refine ⟨(.inr (nI (qworth n a b ld pr S (qcl C g))), u'), nI (qworth n a b ld pr S (qcl C g)), v', ?_, ?_, Or.inl ⟨u', rfl, h5, (hJ0.fr h3 h4).I⟩⟩
    · rw [if_pos q, sg_bt_r, h1, q_bs, h6.2.1]
    · rw [if_pos q, q_b2s, q_10]
      unfold fX6_bestValue
      rw [h2, q_bs, q_b2s, h7.2.2.2.2.2.1, h9]
  · refine ⟨(.inl 4, u), 0, sg_set v 0 0 1, ?_, ?_, Or.inr ⟨4, u, rfl, by decide, ?_, (hJ.fr (qFX.rf u) (qFM.of0 v 1)).I⟩⟩
    · rw [if_neg q]; rfl
    · rw [if_neg q, q_b2s, q_00]
    · rw [q_th0]; rfl
theorem sb42 (hN : 5000 < N) (u v : sg_St) (hI : qI u v) : sb_42 N qI u v := by
  unfold sb_42 fX5_sizeByTrying fX6_sizeByTrying
  obtain ⟨n, k, a, b, ld, cap, pr, rt, pk, mu, ins, S, B, C, Lk, Fl, hJ⟩ := hI
  rw [qx_few hN hJ, qm_few hN hJ]
  by_cases q : qc (qcand B Lk Fl C) k ≤ 9
  · have hJ0 := hJ.fr (qFX.rf u) (qFM.of0 v 0)
    obtain ⟨u', v', g, g', h1, h2, h3, h4, h5, h6, h7, h8, h9⟩ := q_tryboth hN hJ0
    refine ⟨(.inr (nI g.length), u'), nI g.length, v', ?_, ?_, Or.inl ⟨u', rfl, h5, (hJ0.fr h3 h4).I⟩⟩
    · rw [if_pos q, sg_bt_r, h1, q_bs, h6.cnt, q_bs]
    · rw [if_pos q, q_b2s, q_10]
      unfold fX6_bestSize
      rw [h2, q_bs, q_b2s, h7.2.2.2.2.1, h8]
  · refine ⟨(.inl 4, u), 0, sg_set v 0 0 1, ?_, ?_, Or.inr ⟨4, u, rfl, by decide, ?_, (hJ.fr (qFX.rf u) (qFM.of0 v 1)).I⟩⟩
    · rw [if_neg q]; rfl
    · rw [if_neg q, q_b2s, q_00]
    · rw [q_th0]; rfl
theorem sb43 (hN : 5000 < N) (u v : sg_St) (hI : qI u v) : sb_43 N qI u v := by
  unfold sb_43 fX5_restore fX6_restore
  obtain ⟨n, k, a, b, ld, cap, pr, rt, pk, mu, ins, S, B, C, Lk, Fl, hJ⟩ := hI
  obtain ⟨u', v', g, h1, h2, h3, h4, h5, h6, h7, h8⟩ := q_both hN hJ
  have hg := q_len12 h6.2.2.1 h6.2.2.2
  have hJ' := hJ.fr h3 h4
  have n1 : vp_nar .boolean 1 = 1 := rfl
  have v6 : v' 6 0 = nI g.length := h7.2.2.2.2.1
  obtain ⟨y, i1, i2, i3⟩ := q_loop (f := fun q : sg_St × Int32 => fX6_restore_L6 N q.1 q.2) (m := g.length) (N := N) (x0 := (v', 0)) (fun i q => q.2 = nI i ∧ (∀ j, j ≠ 19 → q.1 j = v' j) ∧ ∀ m, m < 12 → q.1 19 m = qt (C m ∨ ∃ j, j < i ∧ g.getD j 0 = m)) (fun r => (∀ j, j ≠ 19 → r j = v' j) ∧ ∀ m, m < 12 → r 19 m = qt (C m ∨ ∃ j, j < g.length ∧ g.getD j 0 = m)) (by omega) ⟨rfl, fun _ _ => rfl, fun m hm => ((hJ'.fl m hm).1).trans (qt_cg ⟨Or.inl, fun z => z.elim id (fun ⟨j, z1, _⟩ => absurd z1 (Nat.not_lt_zero j))⟩)⟩ (by
    rintro i ⟨q, c⟩ hi ⟨hz, d1, d2⟩
    dsimp only at hz d1 d2
    subst hz
    have q6 : q 6 0 = nI g.length := by rw [d1 6 (by omega)]; exact v6
    have q26 : q 26 i = nI (g.getD i 0) := by rw [d1 26 (by omega)]; exact h7.2.2.2.2.2.2.1 i hi
    have gl : g.getD i 0 < 12 := h6.2.2.2 _ (q_getD_m g i hi)
    refine Or.inl ⟨(sg_set q 19 (g.getD i 0) 1, nI (i + 1)), ?_, rfl, fun j hj => ?_, fun m hm => ?_⟩
    · show fX6_restore_L6 N q (nI i) = _
      unfold fX6_restore_L6
      rw [q6, q_ile0 hi (by omega), q_ck (show i < 12 by omega) (by omega), q_gt, q_cl (show i < 2147483648 by omega), q26, q_ck gl (by omega), q_gt, q_cl (show g.getD i 0 < 2147483648 by omega), n1, q_sc]
    · show sg_set q 19 (g.getD i 0) 1 j = v' j
      rw [sg_set_o hj]
      exact d1 j hj
    · show sg_set q 19 (g.getD i 0) 1 19 m = _
      rw [sg_set_s]
      by_cases e : m = g.getD i 0
      · rw [e, upd_s, qt_1 (Or.inr ⟨i, by omega, rfl⟩)]
      · rw [upd_o e, d2 m hm]
        exact qt_cg ⟨fun z => z.imp id (fun ⟨j, z1, z2⟩ => ⟨j, by omega, z2⟩), fun z => z.imp id (fun ⟨j, z1, z2⟩ => ⟨j, by
          rcases Nat.lt_or_ge j i with z3 | z3
          · exact z3
          · have z4 : j = i := by omega
            rw [z4] at z2
            exact absurd z2.symm e, z2⟩)⟩) (by
    rintro ⟨q, c⟩ ⟨hz, d1, d2⟩
    dsimp only at hz d1 d2
    subst hz
    have q6 : q 6 0 = nI g.length := by rw [d1 6 (by omega)]; exact v6
    refine ⟨q, ?_, d1, d2⟩
    show fX6_restore_L6 N q (nI g.length) = _
    unfold fX6_restore_L6
    rw [q6, q_ile1 (Nat.le_refl g.length) (by omega)])
  have hgd : qgood n k a b ld cap rt S (qcl C g) := qval_good (S := S) (B := B) (Lk := Lk) (Fl := Fl) hJ.Bk g [] 0 (by rw [qcl_nil]; exact hJ.gd) h8.1
  have hJ2 : qJ n k a b ld cap pr rt pk mu ins S B (qcl C g) Lk Fl (sg_set u' 4 0 (u' 4 0 ||| u' 8 0)) y := hJ'.sw (fun j hj => sg_set_o (by omega)) (fun j hj => i2 j (by omega)) (by rw [sg_set_s, upd_s]; exact hJ'.Cs.or h6.1) (by rw [sg_set_o (by omega)]; exact hJ'.Ls) (by rw [sg_set_o (by omega)]; exact hJ'.Fs) (fun m hm => by
    rw [i2 20 (by omega), i2 21 (by omega)]
    refine ⟨(i3 m hm).trans (qt_cg ⟨fun z => z.imp id (fun ⟨j, z1, z2⟩ => z2 ▸ q_getD_m g j z1), fun z => z.imp id (q_memD g m)⟩), (hJ'.fl m hm).2⟩) hgd hJ.2.2.2.2.2.2.2.2.1 hJ.2.2.2.2.2.2.2.2.2.1 (by rw [sg_set_o (by omega), i2 3 (by omega)]; exact hJ'.2.2.2.2.2.2.2.2.2.2.1)
  refine ⟨nI g.length, sg_set u' 4 0 (u' 4 0 ||| u' 8 0), y, ?_, ?_, hJ2.I⟩
  · rw [h1, q_bs]
    unfold fX4_closeAll
    rw [q_bs, sg_set_o (show (8 : Nat) ≠ 4 by omega), h6.cnt, q_bs]
  · rw [h2, q_bs, i1, q_bs, i2 6 (by omega), v6]
end CE
