/-! the reference's plans -/
theorem qs_z {f : Nat → Nat} {P Q : Nat → Prop} : ∀ {n : Nat}, (∀ i, i < n → P i → Q i) → (∀ i, i < n → Q i → ¬ P i → f i = 0) → qs f P n = qs f Q n
  | 0, _, _ => rfl
  | n + 1, h, h2 => by
    have ih := qs_z (f := f) (P := P) (Q := Q) (n := n) (fun i hi => h i (by omega)) (fun i hi => h2 i (by omega))
    by_cases q : P n
    · rw [qs_s1 q, qs_s1 (h n (by omega) q), ih]
    · by_cases r : Q n
      · rw [qs_s0 q, qs_s1 r, ih, h2 n (by omega) r q]; rfl
      · rw [qs_s0 q, qs_s0 r, ih]
theorem qlex_i : ∀ (i : Nat) (p g : List Nat), (∀ j, j < i → p.getD j 0 = g.getD j 0) → i < p.length → i < g.length → p.getD i 0 < g.getD i 0 → qlex p g
  | _, [], _, _, h, _, _ => absurd h (Nat.not_lt_zero _)
  | _, _ :: _, [], _, _, h, _ => absurd h (Nat.not_lt_zero _)
  | 0, x :: p, y :: g, _, _, _, h => Or.inl h
  | i + 1, x :: p, y :: g, h, h1, h2, h3 => Or.inr ⟨h 0 (by omega), qlex_i i p g (fun j hj => h (j + 1) (by omega)) (Nat.lt_of_succ_lt_succ h1) (Nat.lt_of_succ_lt_succ h2) h3⟩
theorem q_ext : ∀ (p g : List Nat), p.length = g.length → (∀ j, j < p.length → p.getD j 0 = g.getD j 0) → p = g
  | [], [], _, _ => rfl
  | [], _ :: _, h, _ => by cases h
  | _ :: _, [], h, _ => by cases h
  | x :: p, y :: g, h, h2 => by
    have e : x = y := h2 0 (Nat.succ_pos _)
    rw [e, q_ext p g (Nat.succ.inj h) (fun j hj => h2 (j + 1) (Nat.succ_lt_succ hj))]
theorem q_getD_l {p : List Nat} {l j : Nat} (h : j < p.length) : (p ++ [l]).getD j 0 = p.getD j 0 := by
  rw [List.getD_eq_getElem?_getD, List.getD_eq_getElem?_getD, List.getElem?_append_left h]
theorem q_getD_r {p : List Nat} {l : Nat} : (p ++ [l]).getD p.length 0 = l := by
  rw [List.getD_eq_getElem?_getD, List.getElem?_append_right (Nat.le_refl _), Nat.sub_self]
  rfl
theorem q_getD_m : ∀ (p : List Nat) (i : Nat), i < p.length → p.getD i 0 ∈ p
  | [], _, h => absurd h (Nat.not_lt_zero _)
  | x :: p, 0, _ => List.mem_cons_self
  | x :: p, i + 1, h => List.mem_cons_of_mem _ (q_getD_m p i (Nat.lt_of_succ_lt_succ h))
section PY
variable {N n k : Nat} {u v w : sg_St} {a b ld cap pr rt lab : Nat → Nat} {S B Lk Fl C C0 P : Nat → Prop} {s : Int32} {l : Nat}
theorem qm_worth (hN : 200 < N) (hM : qM v n k a b ld cap pr rt S B) (hV : ∀ l, l < k → v 19 l = qt (C l)) (hC : ∀ l, C l → l < k) (hSn : ∀ i, S i → i < n) (hS0 : ∀ i, S i → ld i = 0) : ∃ v', fX6_worth N v = some (nI (qworth n a b ld pr S C), v') ∧ ∀ j, j ≠ 22 → v' j = v j := by
  have hk := hM.2.2.2.1
  have hn := hM.2.2.1
  obtain ⟨w, p1, p2, lab, p3, p4⟩ := qm_paint (E := C) (W := -1) (X := -1) hN hM hV (fun m => ⟨fun z => ⟨hC m z, q_m1 (by have := hC m z; omega), Or.inl z⟩, fun z => z.2.2.elim id (fun e => absurd e (q_m1 (by omega)))⟩)
  have hMw := hM.fr (qKM.of22 p2)
  refine ⟨w, ?_, p2⟩
  unfold fX6_worth
  rw [p1, q_bs, q_sum (g := fun i => ld i * pr i) (P := fun i => ¬ S i ∧ qg_L a b S C i) (n := n) (by omega) (fun i x hi hp => by
    show fX6_worth_L10 N w x (nI i) = _
    have h2 := hMw.2.2.2.2.2.1 i hi
    unfold fX6_worth_L10 fX6_worth_j58 fX6_worth_j59
    rw [Int32.add_zero]
    by_cases q : S i
    · simp (disch := omega) only [q_ile0, q_ile1, q_ilt0, q_ilt1, q_ieq0, q_ieq1, q_iltz, q_ilez, q_ilez0, q_izlt, q_im1, q_im1a, q_ieqz, q_ieqz0, q_l10, q_l12, q_ck, q_cl, q_gt, q_bs, q_b2s, q_ls, q_sc, nI_add, if_true, if_false, ite_true, ite_false, reduceIte, q_10, q_01, q_11, q_00, hMw.1, h2.1, qt_1 q]
    · rcases q_srcL (a := a) (b := b) (E := C) hSn i with ⟨s, g1, -⟩ | ⟨g1, g2⟩
      · exact absurd ⟨q, g1⟩ hp
      · simp (disch := omega) only [q_ile0, q_ile1, q_ilt0, q_ilt1, q_ieq0, q_ieq1, q_iltz, q_ilez, q_ilez0, q_izlt, q_im1, q_im1a, q_ieqz, q_ieqz0, q_l10, q_l12, q_ck, q_cl, q_gt, q_bs, q_b2s, q_ls, q_sc, nI_add, if_true, if_false, ite_true, ite_false, reduceIte, q_10, q_01, q_11, q_00, hMw.1, h2.1, qt_0 q, p3 i hi, qm_src (N := N) (show 20 < N by omega) hMw p3 p4 hi, g2]) (fun i x hi hp => by
    show fX6_worth_L10 N w x (nI i) = _
    have h2 := hMw.2.2.2.2.2.1 i hi
    unfold fX6_worth_L10 fX6_worth_j58 fX6_worth_j59
    rcases q_srcL (a := a) (b := b) (E := C) hSn i with ⟨s, g1, -, -, g4, g5⟩ | ⟨g1, g2⟩
    · simp (disch := omega) only [q_ile0, q_ile1, q_ilt0, q_ilt1, q_ieq0, q_ieq1, q_iltz, q_ilez, q_ilez0, q_izlt, q_im1, q_im1a, q_ieqz, q_ieqz0, q_l10, q_l12, q_ck, q_cl, q_gt, q_bs, q_b2s, q_ls, q_sc, nI_add, if_true, if_false, ite_true, ite_false, reduceIte, q_10, q_01, q_11, q_00, hMw.1, h2.1, qt_0 hp.1, p3 i hi, qm_src (N := N) (show 20 < N by omega) hMw p3 p4 hi, g5, h2.2.2.1, h2.2.2.2.1, q_mul]
    · exact absurd hp.2 g1) (fun x => by
    show fX6_worth_L10 N w x (nI n) = _
    unfold fX6_worth_L10
    simp (disch := omega) only [q_ile0, q_ile1, q_ilt0, q_ilt1, q_ieq0, q_ieq1, q_iltz, q_ilez, q_ilez0, q_izlt, q_im1, q_im1a, q_ieqz, q_ieqz0, q_l10, q_l12, q_ck, q_cl, q_gt, q_bs, q_b2s, q_ls, q_sc, nI_add, if_true, if_false, ite_true, ite_false, reduceIte, q_10, q_01, q_11, q_00, hMw.1]), q_bs, qs_z (f := fun i => ld i * pr i) (P := fun i => ¬ S i ∧ qg_L a b S C i) (Q := qg_L a b S C) (fun i _ q => q.2) (fun i _ q1 q2 => by
    have : S i := Classical.byContradiction (fun z => q2 ⟨z, q1⟩)
    show ld i * pr i = 0
    rw [hS0 i this, Nat.zero_mul])]
  rfl
theorem qm_choice (hk : k ≤ 12) (hl : l < k) (h19 : v 19 l = qt (C l)) (h20 : v 20 l = qt (Lk l)) (h21 : v 21 l = qt (Fl l)) (h18 : v 18 l = qt (B l)) : fX6_isChoice N v (nI l) = some (qt (B l ∧ ¬ C l ∧ ¬ Lk l ∧ ¬ Fl l)) := by
  unfold fX6_isChoice fX6_isChoice_j40
  by_cases q1 : C l
  · rw [qt_0 (P := B l ∧ ¬ C l ∧ ¬ Lk l ∧ ¬ Fl l) (fun z => z.2.1 q1)]
    simp (disch := omega) only [q_ile0, q_ile1, q_ilt0, q_ilt1, q_ieq0, q_ieq1, q_iltz, q_ilez, q_ilez0, q_izlt, q_im1, q_im1a, q_ieqz, q_ieqz0, q_l10, q_l12, q_ck, q_cl, q_gt, q_bs, q_b2s, q_ls, q_sc, nI_add, if_true, if_false, ite_true, ite_false, reduceIte, q_10, q_01, q_11, q_00, h19, qt_1 q1]
  by_cases q2 : Lk l
  · rw [qt_0 (P := B l ∧ ¬ C l ∧ ¬ Lk l ∧ ¬ Fl l) (fun z => z.2.2.1 q2)]
    simp (disch := omega) only [q_ile0, q_ile1, q_ilt0, q_ilt1, q_ieq0, q_ieq1, q_iltz, q_ilez, q_ilez0, q_izlt, q_im1, q_im1a, q_ieqz, q_ieqz0, q_l10, q_l12, q_ck, q_cl, q_gt, q_bs, q_b2s, q_ls, q_sc, nI_add, if_true, if_false, ite_true, ite_false, reduceIte, q_10, q_01, q_11, q_00, h19, qt_0 q1, h20, qt_1 q2]
  by_cases q3 : Fl l
  · rw [qt_0 (P := B l ∧ ¬ C l ∧ ¬ Lk l ∧ ¬ Fl l) (fun z => z.2.2.2 q3)]
    simp (disch := omega) only [q_ile0, q_ile1, q_ilt0, q_ilt1, q_ieq0, q_ieq1, q_iltz, q_ilez, q_ilez0, q_izlt, q_im1, q_im1a, q_ieqz, q_ieqz0, q_l10, q_l12, q_ck, q_cl, q_gt, q_bs, q_b2s, q_ls, q_sc, nI_add, if_true, if_false, ite_true, ite_false, reduceIte, q_10, q_01, q_11, q_00, h19, qt_0 q1, h20, qt_0 q2, h21, qt_1 q3]
  by_cases q4 : B l
  · rw [qt_1 (P := B l ∧ ¬ C l ∧ ¬ Lk l ∧ ¬ Fl l) ⟨q4, q1, q2, q3⟩]
    simp (disch := omega) only [q_ile0, q_ile1, q_ilt0, q_ilt1, q_ieq0, q_ieq1, q_iltz, q_ilez, q_ilez0, q_izlt, q_im1, q_im1a, q_ieqz, q_ieqz0, q_l10, q_l12, q_ck, q_cl, q_gt, q_bs, q_b2s, q_ls, q_sc, nI_add, if_true, if_false, ite_true, ite_false, reduceIte, q_10, q_01, q_11, q_00, h19, qt_0 q1, h20, qt_0 q2, h21, qt_0 q3, h18, qt_1 q4]
  · rw [qt_0 (P := B l ∧ ¬ C l ∧ ¬ Lk l ∧ ¬ Fl l) (fun z => q4 z.1)]
    simp (disch := omega) only [q_ile0, q_ile1, q_ilt0, q_ilt1, q_ieq0, q_ieq1, q_iltz, q_ilez, q_ilez0, q_izlt, q_im1, q_im1a, q_ieqz, q_ieqz0, q_l10, q_l12, q_ck, q_cl, q_gt, q_bs, q_b2s, q_ls, q_sc, nI_add, if_true, if_false, ite_true, ite_false, reduceIte, q_10, q_01, q_11, q_00, h19, qt_0 q1, h20, qt_0 q2, h21, qt_0 q3, h18, qt_0 q4]
/-- the reference while it plans: the plan p closed, the best one g -/
def qY (v : sg_St) (n k : Nat) (a b ld cap pr rt : Nat → Nat) (S B Lk Fl C0 : Nat → Prop) (p g : List Nat) : Prop := qM v n k a b ld cap pr rt S B ∧ (∀ l, l < k → v 19 l = qt (qcl C0 p l) ∧ v 20 l = qt (Lk l) ∧ v 21 l = qt (Fl l)) ∧ v 5 0 = nI p.length ∧ (∀ i, i < p.length → v 25 i = nI (p.getD i 0)) ∧ v 6 0 = nI g.length ∧ v 7 0 = nI (qworth n a b ld pr S (qcl C0 g)) ∧ (∀ i, i < g.length → v 26 i = nI (g.getD i 0)) ∧ g.Nodup ∧ ∀ x, x ∈ g → x < k
theorem qm_earlier {p g : List Nat} (hN : 20 < N) (hY : qY v n k a b ld cap pr rt S B Lk Fl C0 p g) (hpl : p.length ≤ 12) (hp : ∀ x, x ∈ p → x < 12) (hg : ∀ x, x ∈ g → x < 12) (hl : p.length = g.length) : fX6_isEarlier N v = some (qt (qlex p g)) := by
  obtain ⟨-, -, h5, h25, -, -, h26, -, -⟩ := hY
  obtain ⟨r, r1, r2⟩ := q_loop (f := fun z : Int32 => fX6_isEarlier_L2 N v z) (m := p.length) (N := N) (x0 := 0) (fun i z => z = nI i ∧ ∀ j, j < i → p.getD j 0 = g.getD j 0) (fun r => r = qt (qlex p g)) (by omega) ⟨rfl, fun j hj => absurd hj (Nat.not_lt_zero j)⟩ (by
    rintro i z hi ⟨hz, h⟩
    subst hz
    have b1 := hp _ (q_getD_m p i hi)
    have b2 := hg _ (q_getD_m g i (by omega))
    have e1 := h25 i hi
    have e2 := h26 i (by omega)
    by_cases q : p.getD i 0 = g.getD i 0
    · refine Or.inl ⟨nI (i + 1), ?_, rfl, fun j hj => ?_⟩
      · show fX6_isEarlier_L2 N v (nI i) = _
        unfold fX6_isEarlier_L2
        simp (disch := omega) only [q_ile0, q_ile1, q_ilt0, q_ilt1, q_ieq0, q_ieq1, q_iltz, q_ilez, q_ilez0, q_izlt, q_im1, q_im1a, q_ieqz, q_ieqz0, q_l10, q_l12, q_ck, q_cl, q_gt, q_bs, q_b2s, q_ls, q_sc, nI_add, if_true, if_false, ite_true, ite_false, reduceIte, q_10, q_01, q_11, q_00, h5, e1, e2]
      · rcases Nat.lt_or_ge j i with z | z
        · exact h j z
        · have : j = i := by omega
          subst this; exact q
    · refine Or.inr ?_
      by_cases q2 : p.getD i 0 < g.getD i 0
      · refine ⟨1, ?_, (qt_1 (qlex_i i p g h hi (by omega) q2)).symm⟩
        show fX6_isEarlier_L2 N v (nI i) = _
        unfold fX6_isEarlier_L2
        simp (disch := omega) only [q_ile0, q_ile1, q_ilt0, q_ilt1, q_ieq0, q_ieq1, q_iltz, q_ilez, q_ilez0, q_izlt, q_im1, q_im1a, q_ieqz, q_ieqz0, q_l10, q_l12, q_ck, q_cl, q_gt, q_bs, q_b2s, q_ls, q_sc, nI_add, if_true, if_false, ite_true, ite_false, reduceIte, q_10, q_01, q_11, q_00, h5, e1, e2]
      · refine ⟨0, ?_, (qt_0 (fun z => qlex_as _ _ z (qlex_i i g p (fun j hj => (h j hj).symm) (by omega) hi (by omega)))).symm⟩
        show fX6_isEarlier_L2 N v (nI i) = _
        unfold fX6_isEarlier_L2
        simp (disch := omega) only [q_ile0, q_ile1, q_ilt0, q_ilt1, q_ieq0, q_ieq1, q_iltz, q_ilez, q_ilez0, q_izlt, q_im1, q_im1a, q_ieqz, q_ieqz0, q_l10, q_l12, q_ck, q_cl, q_gt, q_bs, q_b2s, q_ls, q_sc, nI_add, if_true, if_false, ite_true, ite_false, reduceIte, q_10, q_01, q_11, q_00, h5, e1, e2]) (by
    rintro z ⟨hz, h⟩
    subst hz
    refine ⟨0, ?_, ?_⟩
    · show fX6_isEarlier_L2 N v (nI p.length) = _
      unfold fX6_isEarlier_L2
      simp (disch := omega) only [q_ile0, q_ile1, q_ilt0, q_ilt1, q_ieq0, q_ieq1, q_iltz, q_ilez, q_ilez0, q_izlt, q_im1, q_im1a, q_ieqz, q_ieqz0, q_l10, q_l12, q_ck, q_cl, q_gt, q_bs, q_b2s, q_ls, q_sc, nI_add, if_true, if_false, ite_true, ite_false, reduceIte, q_10, q_01, q_11, q_00, h5]
    · rw [q_ext p g hl h]
      exact (qt_0 (qlex_ir g)).symm)
  unfold fX6_isEarlier
  rw [r1, r2]
def qKY (k : Nat) (u v : sg_St) : Prop := (∀ j, j ≠ 5 → j ≠ 6 → j ≠ 7 → j ≠ 19 → j ≠ 22 → j ≠ 25 → j ≠ 26 → v j = u j) ∧ ∀ l, k ≤ l → v 19 l = u 19 l
theorem qKY.tr (h : qKY k u v) (h2 : qKY k v w) : qKY k u w := ⟨fun j h3 h4 h5 h6 h7 h8 h9 => (h2.1 j h3 h4 h5 h6 h7 h8 h9).trans (h.1 j h3 h4 h5 h6 h7 h8 h9), fun l hl => (h2.2 l hl).trans (h.2 l hl)⟩
theorem qKY.of22 (h : ∀ j, j ≠ 22 → v j = u j) : qKY k u v := ⟨fun j _ _ _ _ h5 _ _ => h j h5, fun l _ => by rw [h 19 (by omega)]⟩
theorem qm_take {p g : List Nat} (hN : 20 < N) (rc : sg_St → Int32 → Option sg_St) (hY : qY v n k a b ld cap pr rt S B Lk Fl C0 p g) (hnd : p.Nodup) (hp : ∀ x, x ∈ p → x < k) (hk : k ≤ 12) : ∃ v', fX6_tries_j59 N rc v (nI (qworth n a b ld pr S (qcl C0 p))) = some v' ∧ qKY k v v' ∧ qY v' n k a b ld cap pr rt S B Lk Fl C0 p p := by
  obtain ⟨hM, hV, h5, h25, h6, h7, h26, h8, h9⟩ := hY
  have hpl := q_len12 hnd (fun x q => by have := hp x q; omega)
  have o5 : sg_set v 7 0 (nI (qworth n a b ld pr S (qcl C0 p))) 5 0 = nI p.length := by rw [sg_set_o (by omega)]; exact h5
  generalize hv1 : sg_set (sg_set v 7 0 (nI (qworth n a b ld pr S (qcl C0 p)))) 6 0 (sg_set v 7 0 (nI (qworth n a b ld pr S (qcl C0 p))) 5 0) = v1
  have f1 : ∀ j, j ≠ 6 → j ≠ 7 → v1 j = v j := fun j h1 h2 => by rw [← hv1, sg_set_o h1, sg_set_o h2]
  have f6 : v1 6 0 = nI p.length := by rw [← hv1, sg_set_s, upd_s]; exact o5
  have f7 : v1 7 0 = nI (qworth n a b ld pr S (qcl C0 p)) := by rw [← hv1, sg_set_o (by omega), sg_set_s, upd_s]
  obtain ⟨v', r1, r2, r3⟩ := q_loop (f := fun z : sg_St × Int32 => fX6_tries_L74 N rc z.1 z.2) (m := p.length) (N := N) (x0 := (v1, 0)) (fun i z => z.2 = nI i ∧ (∀ j, j ≠ 26 → z.1 j = v1 j) ∧ ∀ q, q < i → z.1 26 q = nI (p.getD q 0)) (fun r => (∀ j, j ≠ 26 → r j = v1 j) ∧ ∀ q, q < p.length → r 26 q = nI (p.getD q 0)) (by omega) ⟨rfl, fun _ _ => rfl, fun q hq => absurd hq (Nat.not_lt_zero q)⟩ (by
    rintro i ⟨x, z⟩ hi ⟨hz, t1, t2⟩
    dsimp only at hz t1 t2
    replace hz : z = nI i := hz
    subst hz
    have x5 : x 5 0 = nI p.length := by rw [t1 5 (by omega), f1 5 (by omega) (by omega)]; exact h5
    have x25 : x 25 i = nI (p.getD i 0) := by rw [t1 25 (by omega), f1 25 (by omega) (by omega)]; exact h25 i hi
    refine Or.inl ⟨(sg_set x 26 i (nI (p.getD i 0)), nI (i + 1)), ?_, rfl, fun j hj => ?_, fun q hq => ?_⟩
    · show fX6_tries_L74 N rc x (nI i) = _
      unfold fX6_tries_L74
      simp (disch := omega) only [q_ile0, q_ile1, q_ilt0, q_ilt1, q_ieq0, q_ieq1, q_iltz, q_ilez, q_ilez0, q_izlt, q_im1, q_im1a, q_ieqz, q_ieqz0, q_l10, q_l12, q_ck, q_cl, q_gt, q_bs, q_b2s, q_ls, q_sc, nI_add, if_true, if_false, ite_true, ite_false, reduceIte, q_10, q_01, q_11, q_00, x5, x25]
    · show sg_set x 26 i _ j = _
      rw [sg_set_o hj]; exact t1 j hj
    · show sg_set x 26 i _ 26 q = _
      rw [sg_set_s]
      by_cases e : q = i
      · rw [e, upd_s]
      · rw [upd_o e]; exact t2 q (by omega)) (by
    rintro ⟨x, z⟩ ⟨hz, t1, t2⟩
    dsimp only at hz t1 t2
    replace hz : z = nI p.length := hz
    subst hz
    have x5 : x 5 0 = nI p.length := by rw [t1 5 (by omega), f1 5 (by omega) (by omega)]; exact h5
    refine ⟨x, ?_, t1, t2⟩
    show fX6_tries_L74 N rc x (nI p.length) = _
    unfold fX6_tries_L74
    simp (disch := omega) only [q_ile0, q_ile1, q_ilt0, q_ilt1, q_ieq0, q_ieq1, q_iltz, q_ilez, q_ilez0, q_izlt, q_im1, q_im1a, q_ieqz, q_ieqz0, q_l10, q_l12, q_ck, q_cl, q_gt, q_bs, q_b2s, q_ls, q_sc, nI_add, if_true, if_false, ite_true, ite_false, reduceIte, q_10, q_01, q_11, q_00, x5])
  have fr : ∀ j, j ≠ 6 → j ≠ 7 → j ≠ 26 → v' j = v j := fun j q1 q2 q3 => (r2 j q3).trans (f1 j q1 q2)
  refine ⟨v', ?_, ⟨fun j q1 q2 q3 q4 q5 q6 q7 => fr j q2 q3 q7, fun l _ => by rw [fr 19 (by omega) (by omega) (by omega)]⟩, hM.fr (fun j hj => fr j (by omega) (by omega) (by omega)), fun l hl => ?_, ?_, fun i hi => ?_, ?_, ?_, r3, hnd, hp⟩
  · unfold fX6_tries_j59
    rw [hv1, r1]
    rfl
  · rw [fr 19 (by omega) (by omega) (by omega), fr 20 (by omega) (by omega) (by omega), fr 21 (by omega) (by omega) (by omega)]; exact hV l hl
  · rw [fr 5 (by omega) (by omega) (by omega)]; exact h5
  · rw [fr 25 (by omega) (by omega) (by omega)]; exact h25 i hi
  · rw [r2 6 (by omega)]; exact f6
  · rw [r2 7 (by omega)]; exact f7
theorem qY.fr22 {p g : List Nat} (h : qY u n k a b ld cap pr rt S B Lk Fl C0 p g) (f : ∀ j, j ≠ 22 → v j = u j) : qY v n k a b ld cap pr rt S B Lk Fl C0 p g := by
  obtain ⟨hM, hV, h5, h25, h6, h7, h26, h8, h9⟩ := h
  refine ⟨hM.fr (qKM.of22 f), fun l hl => ?_, ?_, fun i hi => ?_, ?_, ?_, fun i hi => ?_, h8, h9⟩
  · rw [f 19 (by omega), f 20 (by omega), f 21 (by omega)]; exact hV l hl
  · rw [f 5 (by omega)]; exact h5
  · rw [f 25 (by omega)]; exact h25 i hi
  · rw [f 6 (by omega)]; exact h6
  · rw [f 7 (by omega)]; exact h7
  · rw [f 26 (by omega)]; exact h26 i hi
theorem qm_tries (hN : 200 < N) (hk : k ≤ 12) (hBk : ∀ l, B l → l < k) (hSn : ∀ i, S i → i < n) (hS0 : ∀ i, S i → ld i = 0) : ∀ (d : Nat) (v : sg_St) (p : List Nat) (f : Nat) (g : List Nat), qY v n k a b ld cap pr rt S B Lk Fl C0 p g → qgood n k a b ld cap rt S (qcl C0 p) → p.Nodup → (∀ x, x ∈ p → x < f ∧ ¬ C0 x) → f ≤ k → k + 1 ≤ d + f → ∃ v' g', fX6_tries N d v (nI f) = some v' ∧ qKY k v v' ∧ qY v' n k a b ld cap pr rt S B Lk Fl C0 p g' ∧ (g' = g ∨ ∃ e, qval n k a b ld cap rt S B Lk Fl C0 p f e ∧ g' = p ++ e) ∧ (∀ e, qval n k a b ld cap rt S B Lk Fl C0 p f e → qle n a b ld pr S C0 (p ++ e) g') ∧ qle n a b ld pr S C0 g g'
  | 0, v, p, f, g, hY, hgd, hnd, hp, hf, hd => by omega
  | d + 1, v, p, f, g, hY, hgd, hnd, hp, hf, hd => by
    have hp12 : ∀ x, x ∈ p → x < 12 := fun x q => by have := (hp x q).1; omega
    have hpk : ∀ x, x ∈ p → x < k := fun x q => by have := (hp x q).1; omega
    have hpl := q_len12 hnd hp12
    have hM := hY.1
    have h2 : v 2 0 = nI k := hM.2.1
    show ∃ v' g', fX6_tries_B N (fX6_tries N d) v (nI f) = some v' ∧ _
    unfold fX6_tries_B
    by_cases q0 : f = k
    · -- the end: the plan itself
      rw [h2, q_ieq1 q0]
      obtain ⟨w, w1, w2⟩ := qm_worth (C := qcl C0 p) hN hM (fun l hl => (hY.2.1 l hl).1) hgd.1 hSn hS0
      have hYw := hY.fr22 w2
      have hYw' := hYw
      obtain ⟨-, -, h5, -, h6, h7, -, h8, h9⟩ := hYw
      have hgl := q_len12 h8 (fun x q => by have := h9 x q; omega)
      have wb : ∀ C, qworth n a b ld pr S C ≤ 8910 := fun C => qworth_bd (fun i hi => ⟨(hM.2.2.2.2.2.1 i hi).2.2.2.2.2.1, (hM.2.2.2.2.2.1 i hi).2.2.2.2.2.2⟩) hM.2.2.1
      have wp := wb (qcl C0 p)
      have wg := wb (qcl C0 g)
      have only : ∀ e, qval n k a b ld cap rt S B Lk Fl C0 p f e → e = [] := fun e h => by
        cases e with
        | nil => rfl
        | cons l r => have := hBk l h.2.1.1; have := h.1; omega
      have stay : qle n a b ld pr S C0 p g → ∃ v' g', some w = some v' ∧ qKY k v v' ∧ qY v' n k a b ld cap pr rt S B Lk Fl C0 p g' ∧ (g' = g ∨ ∃ e, qval n k a b ld cap rt S B Lk Fl C0 p f e ∧ g' = p ++ e) ∧ (∀ e, qval n k a b ld cap rt S B Lk Fl C0 p f e → qle n a b ld pr S C0 (p ++ e) g') ∧ qle n a b ld pr S C0 g g' := fun h => ⟨w, g, rfl, qKY.of22 w2, hYw', Or.inl rfl, fun e he => by rw [only e he, List.append_nil]; exact h, qle_rf⟩
      have take : qle n a b ld pr S C0 g p → ∃ v' g', fX6_tries_j59 N (fX6_tries N d) w (nI (qworth n a b ld pr S (qcl C0 p))) = some v' ∧ qKY k v v' ∧ qY v' n k a b ld cap pr rt S B Lk Fl C0 p g' ∧ (g' = g ∨ ∃ e, qval n k a b ld cap rt S B Lk Fl C0 p f e ∧ g' = p ++ e) ∧ (∀ e, qval n k a b ld cap rt S B Lk Fl C0 p f e → qle n a b ld pr S C0 (p ++ e) g') ∧ qle n a b ld pr S C0 g g' := fun h => by
        obtain ⟨v', t1, t2, t3⟩ := qm_take (N := N) (by omega) (fX6_tries N d) hYw' hnd hpk hk
        exact ⟨v', p, t1, (qKY.of22 w2).tr t2, t3, Or.inr ⟨[], trivial, (List.append_nil p).symm⟩, fun e he => by rw [only e he, List.append_nil]; exact qle_rf, h⟩
      rw [w1, q_b2s, h7, h6, h5]
      by_cases q1 : qworth n a b ld pr S (qcl C0 p) < qworth n a b ld pr S (qcl C0 g)
      · rw [q_ilt1 q1 (by omega)]
        exact stay (Or.inl (by unfold qsc; omega))
      rw [q_ilt0 (by omega) (by omega)]
      by_cases q2 : qworth n a b ld pr S (qcl C0 p) = qworth n a b ld pr S (qcl C0 g)
      · rw [q_ieq1 q2]
        by_cases q3 : g.length < p.length
        · rw [q_ilt1 q3 (by omega)]
          exact stay (Or.inl (by unfold qsc; omega))
        rw [q_ilt0 (by omega) (by omega)]
        by_cases q4 : p.length = g.length
        · have hsc : qsc n a b ld pr S C0 p = qsc n a b ld pr S C0 g := by unfold qsc; omega
          rw [q_ieq1 q4, qm_earlier (N := N) (by omega) hYw' hpl hp12 (fun x q => by have := h9 x q; omega) q4, q_bs]
          by_cases q5 : qlex p g
          · rw [qt_1 q5, q_10]
            exact take (Or.inr ⟨hsc.symm, Or.inr q5⟩)
          · rw [qt_0 q5, q_00]
            refine stay (Or.inr ⟨hsc, ?_⟩)
            rcases qlex_to p g q4 with z | z | z
            · exact Or.inl z
            · exact absurd z q5
            · exact Or.inr z
        · rw [q_ieq0 (by omega) (by omega) (by omega)]
          exact take (Or.inl (by unfold qsc; omega))
      · rw [q_ieq0 (by omega) (by omega) (by omega)]
        exact take (Or.inl (by unfold qsc; omega))
    · -- without the line, then with it
      have hfk : f < k := by omega
      rw [h2, q_ieq0 (by omega) (by omega) (by omega), q_sc]
      obtain ⟨x, g1, a1, a2, a3, a4, a5, a6⟩ := qm_tries hN hk hBk hSn hS0 d v p (f + 1) g hY hgd hnd (fun y q => ⟨by have := (hp y q).1; omega, (hp y q).2⟩) (by omega) (by omega)
      rw [a1, q_bs]
      have hfp : ¬ f ∈ p := fun q => by have := (hp f q).1; omega
      have hMx := a3.1
      obtain ⟨x19, x20, x21⟩ := a3.2.1 f hfk
      have x18 := (hMx.2.2.2.2.2.2 f hfk).2.2.2
      rw [qm_choice (N := N) hk hfk x19 x20 x21 x18, q_bs]
      have none : (¬ qcand B Lk Fl C0 f ∨ ¬ qrs n k a b ld cap rt S B Lk Fl (qcl C0 p) f = 110) → ∀ w, (∀ j, j ≠ 22 → w j = x j) → ∃ v' g', some w = some v' ∧ qKY k v v' ∧ qY v' n k a b ld cap pr rt S B Lk Fl C0 p g' ∧ (g' = g ∨ ∃ e, qval n k a b ld cap rt S B Lk Fl C0 p f e ∧ g' = p ++ e) ∧ (∀ e, qval n k a b ld cap rt S B Lk Fl C0 p f e → qle n a b ld pr S C0 (p ++ e) g') ∧ qle n a b ld pr S C0 g g' := fun h w hw => ⟨w, g1, rfl, a2.tr (qKY.of22 hw), a3.fr22 hw, a4.imp id (fun ⟨e, z1, z2⟩ => ⟨e, qval_mo (by omega) e p z1, z2⟩), fun e he => by
        rcases qval_or he with ⟨r, z1, z2, z3, z4⟩ | z
        · exact h.elim (fun q => absurd z2 q) (fun q => absurd z3 q)
        · exact a5 e z, a6⟩
      by_cases q1 : B f ∧ ¬ qcl C0 p f ∧ ¬ Lk f ∧ ¬ Fl f
      · rw [qt_1 q1, q_10]
        have hcd : qcand B Lk Fl C0 f := ⟨q1.1, fun q => q1.2.1 (Or.inl q), q1.2.2.1, q1.2.2.2⟩
        obtain ⟨w, b1, b2⟩ := qm_reason (Lk := Lk) (Fl := Fl) hN hMx a3.2.1 hSn hgd hfk
        rw [b1, q_b2s]
        by_cases q2 : qrs n k a b ld cap rt S B Lk Fl (qcl C0 p) f = 110
        · rw [if_pos q2]
          have hYw := a3.fr22 b2
          have hYw' := hYw
          obtain ⟨c1, c2, c3, c4, c5, c6, c7, c8, c9⟩ := hYw
          have hpl2 : p.length < 12 := by
            have nd2 : (p ++ [f]).Nodup := List.nodup_append.mpr ⟨hnd, List.nodup_cons.mpr ⟨List.not_mem_nil, List.nodup_nil⟩, fun y hy z hz => by rw [List.mem_singleton.mp hz]; intro e; rw [e] at hy; exact hfp hy⟩
            have := q_len12 nd2 (fun y q => by
              rcases List.mem_append.mp q with q | q
              · exact hp12 y q
              · rw [List.mem_singleton.mp q]; omega)
            rw [List.length_append] at this
            have e1 : [f].length = 1 := rfl
            omega
          have n1 : vp_nar .boolean 1 = 1 := rfl
          have n0 : vp_nar .boolean 0 = 0 := rfl
          have w5 : (sg_set w 19 f 1) 5 0 = nI p.length := by rw [sg_set_o (by omega)]; exact c3
          have w5' : (sg_set (sg_set w 19 f 1) 25 p.length (nI f)) 5 0 = nI p.length := by rw [sg_set_o (by omega)]; exact w5
          generalize hy : sg_set (sg_set (sg_set w 19 f 1) 25 p.length (nI f)) 5 0 (nI (p.length + 1)) = y
          have fy : ∀ j, j ≠ 5 → j ≠ 19 → j ≠ 25 → y j = w j := fun j h1 h2 h3 => by rw [← hy, sg_set_o h1, sg_set_o h3, sg_set_o h2]
          have y19 : ∀ l, y 19 l = if l = f then 1 else w 19 l := fun l => by
            rw [← hy, sg_set_o (by omega), sg_set_o (by omega), sg_set_s]; rfl
          have y25 : ∀ l, y 25 l = if l = p.length then nI f else w 25 l := fun l => by
            rw [← hy, sg_set_o (by omega), sg_set_s, sg_set_o (by omega)]; rfl
          have y5 : y 5 0 = nI (p.length + 1) := by rw [← hy, sg_set_s, upd_s]
          have hYy : qY y n k a b ld cap pr rt S B Lk Fl C0 (p ++ [f]) g1 := by
            refine ⟨c1.fr (fun j hj => fy j (by omega) (by omega) (by omega)), fun l hl => ⟨?_, ?_, ?_⟩, ?_, fun i hi => ?_, ?_, ?_, fun i hi => ?_, c8, c9⟩
            · rw [y19]
              by_cases e : l = f
              · rw [if_pos e, qt_1 ((qcl_snoc l).mpr (Or.inr e))]
              · rw [if_neg e, (c2 l hl).1]
                by_cases z : qcl C0 p l
                · rw [qt_1 z, qt_1 ((qcl_snoc l).mpr (Or.inl z))]
                · rw [qt_0 z, qt_0 (fun z2 => ((qcl_snoc l).mp z2).elim z e)]
            · rw [fy 20 (by omega) (by omega) (by omega)]; exact (c2 l hl).2.1
            · rw [fy 21 (by omega) (by omega) (by omega)]; exact (c2 l hl).2.2
            · rw [y5, List.length_append]; rfl
            · rw [y25]
              rw [List.length_append] at hi
              have e1 : [f].length = 1 := rfl
              by_cases e : i = p.length
              · rw [if_pos e, e, q_getD_r]
              · rw [if_neg e, q_getD_l (by omega)]
                exact c4 i (by omega)
            · rw [fy 6 (by omega) (by omega) (by omega)]; exact c5
            · rw [fy 7 (by omega) (by omega) (by omega)]; exact c6
            · rw [fy 26 (by omega) (by omega) (by omega)]; exact c7 i hi
          have nd2 : (p ++ [f]).Nodup := List.nodup_append.mpr ⟨hnd, List.nodup_cons.mpr ⟨List.not_mem_nil, List.nodup_nil⟩, fun y hy z hz => by rw [List.mem_singleton.mp hz]; intro e; rw [e] at hy; exact hfp hy⟩
          obtain ⟨z, g2, d1, d2, d3, d4, d5, d6⟩ := qm_tries hN hk hBk hSn hS0 d y (p ++ [f]) (f + 1) g1 hYy (qgood_snoc (B := B) (Lk := Lk) (Fl := Fl) hgd hfk q2) nd2 (fun m q => by
            rcases List.mem_append.mp q with q | q
            · have := hp m q; exact ⟨by omega, this.2⟩
            · rw [List.mem_singleton.mp q]; exact ⟨by omega, hcd.2.1⟩) (by omega) (by omega)
          obtain ⟨z1, z2, z3, z4, z5, z6, z7, z8, z9⟩ := d3
          have hz5 : z 5 0 - 1 = nI p.length := by
            rw [z3, List.length_append]
            exact q_pred' p.length
          generalize ho : sg_set (sg_set z 5 0 (nI p.length)) 19 f 0 = o
          have fo : ∀ j, j ≠ 5 → j ≠ 19 → o j = z j := fun j h1 h2 => by rw [← ho, sg_set_o h2, sg_set_o h1]
          have o19 : ∀ l, o 19 l = if l = f then 0 else z 19 l := fun l => by
            rw [← ho, sg_set_s, sg_set_o (by omega)]; rfl
          have o5 : o 5 0 = nI p.length := by rw [← ho, sg_set_o (by omega), sg_set_s, upd_s]
          have hYo : qY o n k a b ld cap pr rt S B Lk Fl C0 p g2 := by
            refine ⟨z1.fr (fun j hj => fo j (by omega) (by omega)), fun l hl => ⟨?_, ?_, ?_⟩, o5, fun i hi => ?_, ?_, ?_, fun i hi => ?_, z8, z9⟩
            · rw [o19]
              by_cases e : l = f
              · rw [if_pos e, qt_0 (by rw [e]; exact q1.2.1)]
              · rw [if_neg e, (z2 l hl).1]
                by_cases zz : qcl C0 p l
                · rw [qt_1 zz, qt_1 ((qcl_snoc l).mpr (Or.inl zz))]
                · rw [qt_0 zz, qt_0 (fun z2 => ((qcl_snoc l).mp z2).elim zz e)]
            · rw [fo 20 (by omega) (by omega)]; exact (z2 l hl).2.1
            · rw [fo 21 (by omega) (by omega)]; exact (z2 l hl).2.2
            · rw [fo 25 (by omega) (by omega), z4 i (by rw [List.length_append]; omega), q_getD_l hi]
            · rw [fo 6 (by omega) (by omega)]; exact z5
            · rw [fo 7 (by omega) (by omega)]; exact z6
            · rw [fo 26 (by omega) (by omega)]; exact z7 i hi
          have app : ∀ r, p ++ [f] ++ r = p ++ f :: r := fun r => by rw [List.append_assoc]; rfl
          refine ⟨o, g2, ?_, ?_, hYo, ?_, fun e he => ?_, qle_tr a6 d6⟩
          · rw [n1, n0, q_cl (show f < 2147483648 by omega), w5, q_ck (show f < 12 by omega) (by omega), q_gt, q_ck (show p.length < 12 by omega) (by omega), q_gt, q_cl (show p.length < 2147483648 by omega), w5', q_sc, q_ls, hy, d1, q_bs, q_gt, hz5, ho]
          · exact ((((a2.tr (qKY.of22 b2)).tr (v := w) ⟨fun j h1 h2 h3 h4 h5 h6 h7 => fy j h1 h4 h6, fun l hl => by rw [y19, if_neg (by omega)]⟩).tr d2).tr ⟨fun j h1 h2 h3 h4 h5 h6 h7 => fo j h1 h4, fun l hl => by rw [o19, if_neg (by omega)]⟩)
          · rcases d4 with z | ⟨r, z, zz⟩
            · rw [z]
              exact a4.imp id (fun ⟨e, z1, z2⟩ => ⟨e, qval_mo (by omega) e p z1, z2⟩)
            · exact Or.inr ⟨f :: r, ⟨Nat.le_refl f, hcd, q2, z⟩, by rw [zz, app]⟩
          · rcases qval_or he with ⟨r, y1, y2, y3, y4⟩ | y1
            · rw [y1, ← app]
              exact d5 r y4
            · exact qle_tr (a5 e y1) d6
        · rw [if_neg q2]
          exact none (Or.inr q2) w b2
      · rw [qt_0 q1, q_00]
        exact none (Or.inl (fun q => q1 ⟨q.1, fun z => z.elim q.2.1 (fun z => hfp z), q.2.2.1, q.2.2.2⟩)) x (fun _ _ => rfl)
theorem qm_chooses (hN : 200 < N) (hM : qM v n k a b ld cap pr rt S B) (hV : qV v k C0 Lk Fl) (hBk : ∀ l, B l → l < k) (hSn : ∀ i, S i → i < n) (hS0 : ∀ i, S i → ld i = 0) (hgd : qgood n k a b ld cap rt S C0) : ∃ v' g, fX6_chooses N v = some v' ∧ (∀ j, j ≠ 0 → j ≠ 5 → j ≠ 6 → j ≠ 7 → j ≠ 19 → j ≠ 22 → j ≠ 25 → j ≠ 26 → v' j = v j) ∧ (∀ l, k ≤ l → v' 19 l = v 19 l) ∧ v' 0 0 = 0 ∧ qY v' n k a b ld cap pr rt S B Lk Fl C0 [] g ∧ qbest n k a b ld cap pr rt S B Lk Fl C0 g := by
  have hk := hM.2.2.2.1
  have hC : qcl C0 [] = C0 := funext (fun m => propext ⟨fun z => z.elim id (fun z => absurd z List.not_mem_nil), Or.inl⟩)
  generalize hx : sg_set (sg_set (sg_set v 0 0 0) 5 0 0) 6 0 0 = x
  have fx : ∀ j, j ≠ 0 → j ≠ 5 → j ≠ 6 → x j = v j := fun j h1 h2 h3 => by rw [← hx, sg_set_o h3, sg_set_o h2, sg_set_o h1]
  have x0 : x 0 0 = 0 := by rw [← hx, sg_set_o (by omega), sg_set_o (by omega), sg_set_s, upd_s]
  have x5 : x 5 0 = 0 := by rw [← hx, sg_set_o (by omega), sg_set_s, upd_s]
  have x6 : x 6 0 = 0 := by rw [← hx, sg_set_s, upd_s]
  have hMx : qM x n k a b ld cap pr rt S B := hM.fr (fun j hj => fx j (by omega) (by omega) (by omega))
  obtain ⟨w, w1, w2⟩ := qm_worth (C := C0) hN hMx (fun l hl => by rw [fx 19 (by omega) (by omega) (by omega)]; exact (hV l hl).1) hgd.1 hSn hS0
  generalize hy : sg_set w 7 0 (nI (qworth n a b ld pr S C0)) = y
  have fy : ∀ j, j ≠ 7 → y j = w j := fun j h1 => by rw [← hy, sg_set_o h1]
  have y7 : y 7 0 = nI (qworth n a b ld pr S C0) := by rw [← hy, sg_set_s, upd_s]
  have fv : ∀ j, j ≠ 0 → j ≠ 5 → j ≠ 6 → j ≠ 7 → j ≠ 22 → y j = v j := fun j h1 h2 h3 h4 h5 => by rw [fy j h4, w2 j h5, fx j h1 h2 h3]
  have hYy : qY y n k a b ld cap pr rt S B Lk Fl C0 [] [] := by
    refine ⟨hM.fr (fun j hj => fv j (by omega) (by omega) (by omega) (by omega) (by omega)), fun l hl => ?_, ?_, fun i hi => absurd hi (Nat.not_lt_zero i), ?_, ?_, fun i hi => absurd hi (Nat.not_lt_zero i), List.nodup_nil, fun x q => absurd q List.not_mem_nil⟩
    · rw [hC, fv 19 (by omega) (by omega) (by omega) (by omega) (by omega), fv 20 (by omega) (by omega) (by omega) (by omega) (by omega), fv 21 (by omega) (by omega) (by omega) (by omega) (by omega)]; exact hV l hl
    · rw [fy 5 (by omega), w2 5 (by omega)]; exact x5
    · rw [fy 6 (by omega), w2 6 (by omega)]; exact x6
    · rw [hC]; exact y7
  obtain ⟨v', g, d1, d2, d3, d4, d5, d6⟩ := qm_tries hN hk hBk hSn hS0 15 y [] 0 [] hYy (by rw [hC]; exact hgd) List.nodup_nil (fun x q => absurd q List.not_mem_nil) (Nat.zero_le k) (by omega)
  refine ⟨v', g, ?_, fun j h1 h2 h3 h4 h5 h6 h7 h8 => ?_, fun l hl => ?_, ?_, d3, ?_, fun e he => ?_⟩
  · unfold fX6_chooses
    rw [hx, w1, q_b2s, hy]
    rw [show fX6_tries N 15 y 0 = some v' from d1]
    rfl
  · rw [d2.1 j h2 h3 h4 h5 h6 h7 h8]; exact fv j h1 h2 h3 h4 h6
  · rw [d2.2 l hl, fv 19 (by omega) (by omega) (by omega) (by omega) (by omega)]
  · rw [d2.1 0 (by omega) (by omega) (by omega) (by omega) (by omega) (by omega) (by omega), fy 0 (by omega), w2 0 (by omega)]; exact x0
  · rcases d4 with z | ⟨e, z1, z2⟩
    · rw [z]; exact trivial
    · rw [z2]; exact z1
  · have := d5 e he
    exact this
end PY
