/-! the class's grid, plainly -/
section QC
variable {P Q : Nat → Prop} {n x : Nat}
theorem qc_add (h : x < n) (hx : ¬ P x) : qc (fun i => P i ∨ i = x) n = qc P n + 1 := by
  unfold qc
  rw [qs_or (P := P) (Q := fun i => i = x) (fun i _ h1 (h2 : i = x) => hx (h2 ▸ h1)), qs_one h]
theorem qc_mo (h : ∀ i, i < n → P i → Q i) : qc P n ≤ qc Q n := qs_le h
theorem qc_lt (h : ∀ i, i < n → P i → Q i) (hn : x < n) (h1 : Q x) (h2 : ¬ P x) : qc P n + 1 ≤ qc Q n := by
  rw [← qc_add hn h2]
  refine qc_mo (fun i hi q => ?_)
  rcases q with q | q
  · exact h i hi q
  · rw [q]; exact h1
theorem qc_full (h : n ≤ qc P n) (hx : x < n) : P x := by
  refine Classical.byContradiction (fun q => ?_)
  have h1 := qc_lt (P := P) (Q := fun _ => True) (n := n) (fun _ _ _ => trivial) hx trivial q
  have h2 := qc_le (P := fun _ => True) (n := n)
  omega
theorem qc_cg (h : ∀ i, i < n → (P i ↔ Q i)) : qc P n = qc Q n := qs_cg h (fun _ _ _ => rfl)
end QC
/-- the drawing as the class has it: n nodes, k lines, the lines' ends -/
def qX (u : sg_St) (n k : Nat) (a b : Nat → Nat) : Prop := u 0 0 = nI n ∧ u 1 0 = nI k ∧ n ≤ 10 ∧ k ≤ 12 ∧ ∀ l, l < k → u 14 l = nI (a l) ∧ u 15 l = nI (b l) ∧ a l < n ∧ b l < n ∧ a l ≠ b l
/-- all but the feeder's slate is as it was -/
def qfr (u v : sg_St) : Prop := ∀ j, j ≠ 17 → j ≠ 18 → v j = u j
theorem qfr.rf (u : sg_St) : qfr u u := fun _ _ _ => rfl
theorem qfr.tr {u v w : sg_St} (h : qfr u v) (h2 : qfr v w) : qfr u w := fun j h3 h4 => (h2 j h3 h4).trans (h j h3 h4)
theorem sg_set_o {u : sg_St} {k j i : Nat} {x : Int32} (h : j ≠ k) : sg_set u k i x j = u j := if_neg h
theorem sg_set_s {u : sg_St} {k i : Nat} {x : Int32} : sg_set u k i x k = upd (u k) i x := if_pos rfl
theorem upd_s {f : Nat → Int32} {i : Nat} {x : Int32} : upd f i x i = x := if_pos rfl
theorem upd_o {f : Nat → Int32} {i j : Nat} {x : Int32} (h : j ≠ i) : upd f i x j = f j := if_neg h
section XG
variable {N n k : Nat} {u v : sg_St} {a b ld pr : Nat → Nat} {C S P Q : Nat → Prop} {c s : Int32} {x y l : Nat}
theorem qX.fr (h : qX u n k a b) (f : qfr u v) : qX v n k a b := by
  obtain ⟨h0, h1, hn, hk, he⟩ := h
  refine ⟨by rw [f 0 (by omega) (by omega)]; exact h0, by rw [f 1 (by omega) (by omega)]; exact h1, hn, hk, fun l hl => ?_⟩
  rw [f 14 (by omega) (by omega), f 15 (by omega) (by omega)]
  exact he l hl
theorem qx_isLine (hg : qX u n k a b) (p : Int32) : (∃ l, l < k ∧ p = nI l ∧ fX1_isLine N u p = some 1) ∨ ((∀ l, l < k → p ≠ nI l) ∧ fX1_isLine N u p = some 0) := by
  obtain ⟨h0, h1, hn, hk, he⟩ := hg
  unfold fX1_isLine fX1_isLine_j16
  by_cases hp : p < 0
  · refine Or.inr ⟨fun l hl e => ?_, if_pos hp⟩
    subst e
    exact nI_pos (show l < 2 ^ 31 by omega) hp
  · obtain ⟨j, hj, rfl⟩ := nI_of hp
    rw [if_neg hp, h1]
    by_cases hjk : j < k
    · exact Or.inl ⟨j, hjk, rfl, by simp (disch := omega) only [q_ile0, q_ile1, q_ilt0, q_ilt1, q_ieq0, q_ieq1, q_iltz, q_ilez, q_ilez0, q_izlt, q_im1, q_im1a, q_ieqz, q_ieqz0, q_l10, q_l12, q_ck, q_cl, q_gt, q_bs, q_b2s, q_ls, q_sc, nI_add, if_true, if_false, ite_true, ite_false, reduceIte, q_10, q_01, q_11, q_00]⟩
    · refine Or.inr ⟨fun l hl e => ?_, by simp (disch := omega) only [q_ile0, q_ile1, q_ilt0, q_ilt1, q_ieq0, q_ieq1, q_iltz, q_ilez, q_ilez0, q_izlt, q_im1, q_im1a, q_ieqz, q_ieqz0, q_l10, q_l12, q_ck, q_cl, q_gt, q_bs, q_b2s, q_ls, q_sc, nI_add, if_true, if_false, ite_true, ite_false, reduceIte, q_10, q_01, q_11, q_00]⟩
      rw [q_eq (by omega) (by omega)] at e
      omega
theorem qx_isL (hg : qX u n k a b) (hl : l < k) : fX1_isLine N u (nI l) = some 1 := by
  obtain ⟨h0, h1, hn, hk, he⟩ := hg
  unfold fX1_isLine fX1_isLine_j16
  simp (disch := omega) only [q_ile0, q_ile1, q_ilt0, q_ilt1, q_ieq0, q_ieq1, q_iltz, q_ilez, q_ilez0, q_izlt, q_im1, q_im1a, q_ieqz, q_ieqz0, q_l10, q_l12, q_ck, q_cl, q_gt, q_bs, q_b2s, q_ls, q_sc, nI_add, if_true, if_false, ite_true, ite_false, reduceIte, q_10, q_01, q_11, q_00, h1]
theorem qx_isNode (hg : qX u n k a b) (p : Int32) : (∃ x, x < n ∧ p = nI x ∧ fX1_isNode N u p = some 1) ∨ ((∀ x, x < n → p ≠ nI x) ∧ fX1_isNode N u p = some 0) := by
  obtain ⟨h0, h1, hn, hk, he⟩ := hg
  unfold fX1_isNode fX1_isNode_j16
  by_cases hp : p < 0
  · refine Or.inr ⟨fun l hl e => ?_, if_pos hp⟩
    subst e
    exact nI_pos (show l < 2 ^ 31 by omega) hp
  · obtain ⟨j, hj, rfl⟩ := nI_of hp
    rw [if_neg hp, h0]
    by_cases hjk : j < n
    · exact Or.inl ⟨j, hjk, rfl, by simp (disch := omega) only [q_ile0, q_ile1, q_ilt0, q_ilt1, q_ieq0, q_ieq1, q_iltz, q_ilez, q_ilez0, q_izlt, q_im1, q_im1a, q_ieqz, q_ieqz0, q_l10, q_l12, q_ck, q_cl, q_gt, q_bs, q_b2s, q_ls, q_sc, nI_add, if_true, if_false, ite_true, ite_false, reduceIte, q_10, q_01, q_11, q_00]⟩
    · refine Or.inr ⟨fun l hl e => ?_, by simp (disch := omega) only [q_ile0, q_ile1, q_ilt0, q_ilt1, q_ieq0, q_ieq1, q_iltz, q_ilez, q_ilez0, q_izlt, q_im1, q_im1a, q_ieqz, q_ieqz0, q_l10, q_l12, q_ck, q_cl, q_gt, q_bs, q_b2s, q_ls, q_sc, nI_add, if_true, if_false, ite_true, ite_false, reduceIte, q_10, q_01, q_11, q_00]⟩
      rw [q_eq (by omega) (by omega)] at e
      omega
theorem qx_isN (hg : qX u n k a b) (hx : x < n) : fX1_isNode N u (nI x) = some 1 := by
  obtain ⟨h0, h1, hn, hk, he⟩ := hg
  unfold fX1_isNode fX1_isNode_j16
  simp (disch := omega) only [q_ile0, q_ile1, q_ilt0, q_ilt1, q_ieq0, q_ieq1, q_iltz, q_ilez, q_ilez0, q_izlt, q_im1, q_im1a, q_ieqz, q_ieqz0, q_l10, q_l12, q_ck, q_cl, q_gt, q_bs, q_b2s, q_ls, q_sc, nI_add, if_true, if_false, ite_true, ite_false, reduceIte, q_10, q_01, q_11, q_00, h0]
theorem qx_load (hg : qX u n k a b) (hx : x < n) : fX1_loadAt N u (nI x) = some (u 12 x) := by
  obtain ⟨h0, h1, hn, hk, he⟩ := hg
  unfold fX1_loadAt fX1_loadAt_j21
  simp (disch := omega) only [q_ile0, q_ile1, q_ilt0, q_ilt1, q_ieq0, q_ieq1, q_iltz, q_ilez, q_ilez0, q_izlt, q_im1, q_im1a, q_ieqz, q_ieqz0, q_l10, q_l12, q_ck, q_cl, q_gt, q_bs, q_b2s, q_ls, q_sc, nI_add, if_true, if_false, ite_true, ite_false, reduceIte, q_10, q_01, q_11, q_00, h0]
theorem qx_cap (hg : qX u n k a b) (hx : x < n) : fX1_capacityAt N u (nI x) = some (u 11 x) := by
  have hn := hg.2.2.1
  unfold fX1_capacityAt
  rw [qx_isN hg hx]
  simp (disch := omega) only [q_ile0, q_ile1, q_ilt0, q_ilt1, q_ieq0, q_ieq1, q_iltz, q_ilez, q_ilez0, q_izlt, q_im1, q_im1a, q_ieqz, q_ieqz0, q_l10, q_l12, q_ck, q_cl, q_gt, q_bs, q_b2s, q_ls, q_sc, nI_add, if_true, if_false, ite_true, ite_false, reduceIte, q_10, q_01, q_11, q_00]
theorem qx_cap0 (hg : qX u n k a b) : fX1_capacityAt N u (-1) = some 0 := by
  unfold fX1_capacityAt fX1_isNode fX1_isNode_j16
  rw [if_pos (show (-1 : Int32) < 0 by decide)]
  simp (disch := omega) only [q_ile0, q_ile1, q_ilt0, q_ilt1, q_ieq0, q_ieq1, q_iltz, q_ilez, q_ilez0, q_izlt, q_im1, q_im1a, q_ieqz, q_ieqz0, q_l10, q_l12, q_ck, q_cl, q_gt, q_bs, q_b2s, q_ls, q_sc, nI_add, if_true, if_false, ite_true, ite_false, reduceIte, q_10, q_01, q_11, q_00]
theorem qx_rat (hg : qX u n k a b) (hl : l < k) : fX1_ratingAt N u (nI l) = some (u 16 l) := by
  have hk := hg.2.2.2.1
  unfold fX1_ratingAt
  rw [qx_isL hg hl]
  simp (disch := omega) only [q_ile0, q_ile1, q_ilt0, q_ilt1, q_ieq0, q_ieq1, q_iltz, q_ilez, q_ilez0, q_izlt, q_im1, q_im1a, q_ieqz, q_ieqz0, q_l10, q_l12, q_ck, q_cl, q_gt, q_bs, q_b2s, q_ls, q_sc, nI_add, if_true, if_false, ite_true, ite_false, reduceIte, q_10, q_01, q_11, q_00]
theorem qx_oneEnd (hg : qX u n k a b) (hl : l < k) : fX1_oneEnd N u (nI l) = some (nI (a l)) := by
  have hk := hg.2.2.2.1
  unfold fX1_oneEnd
  rw [qx_isL hg hl]
  simp (disch := omega) only [q_ile0, q_ile1, q_ilt0, q_ilt1, q_ieq0, q_ieq1, q_iltz, q_ilez, q_ilez0, q_izlt, q_im1, q_im1a, q_ieqz, q_ieqz0, q_l10, q_l12, q_ck, q_cl, q_gt, q_bs, q_b2s, q_ls, q_sc, nI_add, if_true, if_false, ite_true, ite_false, reduceIte, q_10, q_01, q_11, q_00, (hg.2.2.2.2 l hl).1]
theorem qx_li (hg : qX u n k a b) (hN : 20 < N) (hl : ∀ i, i < n → u 12 i = nI (ld i)) (hs : qS s P) : fX1_loadIn N u s = some (nI (qs ld P n)) := by
  obtain ⟨h0, h1, hn, hk, he⟩ := hg
  unfold fX1_loadIn
  rw [q_sum (g := ld) (P := P) (n := n) (by omega) (fun i w hi hp => by
    show fX1_loadIn_L4 N u s w (nI i) = _
    unfold fX1_loadIn_L4
    rw [hs.has0 (by omega) hp]
    simp (disch := omega) only [q_ile0, q_ile1, q_ilt0, q_ilt1, q_ieq0, q_ieq1, q_iltz, q_ilez, q_ilez0, q_izlt, q_im1, q_im1a, q_ieqz, q_ieqz0, q_l10, q_l12, q_ck, q_cl, q_gt, q_bs, q_b2s, q_ls, q_sc, nI_add, if_true, if_false, ite_true, ite_false, reduceIte, q_10, q_01, q_11, q_00, h0]) (fun i w hi hp => by
    show fX1_loadIn_L4 N u s w (nI i) = _
    unfold fX1_loadIn_L4
    rw [hs.has1 hp]
    simp (disch := omega) only [q_ile0, q_ile1, q_ilt0, q_ilt1, q_ieq0, q_ieq1, q_iltz, q_ilez, q_ilez0, q_izlt, q_im1, q_im1a, q_ieqz, q_ieqz0, q_l10, q_l12, q_ck, q_cl, q_gt, q_bs, q_b2s, q_ls, q_sc, nI_add, if_true, if_false, ite_true, ite_false, reduceIte, q_10, q_01, q_11, q_00, h0, hl i hi]) (fun w => by
    show fX1_loadIn_L4 N u s w (nI n) = _
    unfold fX1_loadIn_L4
    simp (disch := omega) only [q_ile0, q_ile1, q_ilt0, q_ilt1, q_ieq0, q_ieq1, q_iltz, q_ilez, q_ilez0, q_izlt, q_im1, q_im1a, q_ieqz, q_ieqz0, q_l10, q_l12, q_ck, q_cl, q_gt, q_bs, q_b2s, q_ls, q_sc, nI_add, if_true, if_false, ite_true, ite_false, reduceIte, q_10, q_01, q_11, q_00, h0])]
  rfl
theorem qx_wi (hg : qX u n k a b) (hN : 20 < N) (hl : ∀ i, i < n → u 12 i = nI (ld i)) (hp : ∀ i, i < n → u 13 i = nI (pr i)) (hs : qS s P) : fX1_weightIn N u s = some (nI (qs (fun i => ld i * pr i) P n)) := by
  obtain ⟨h0, h1, hn, hk, he⟩ := hg
  unfold fX1_weightIn
  rw [q_sum (g := fun i => ld i * pr i) (P := P) (n := n) (by omega) (fun i w hi hq => by
    show fX1_weightIn_L4 N u s w (nI i) = _
    unfold fX1_weightIn_L4
    rw [hs.has0 (by omega) hq]
    simp (disch := omega) only [q_ile0, q_ile1, q_ilt0, q_ilt1, q_ieq0, q_ieq1, q_iltz, q_ilez, q_ilez0, q_izlt, q_im1, q_im1a, q_ieqz, q_ieqz0, q_l10, q_l12, q_ck, q_cl, q_gt, q_bs, q_b2s, q_ls, q_sc, nI_add, if_true, if_false, ite_true, ite_false, reduceIte, q_10, q_01, q_11, q_00, h0]) (fun i w hi hq => by
    show fX1_weightIn_L4 N u s w (nI i) = _
    unfold fX1_weightIn_L4
    rw [hs.has1 hq]
    simp (disch := omega) only [q_ile0, q_ile1, q_ilt0, q_ilt1, q_ieq0, q_ieq1, q_iltz, q_ilez, q_ilez0, q_izlt, q_im1, q_im1a, q_ieqz, q_ieqz0, q_l10, q_l12, q_ck, q_cl, q_gt, q_bs, q_b2s, q_ls, q_sc, nI_add, if_true, if_false, ite_true, ite_false, reduceIte, q_10, q_01, q_11, q_00, h0, hl i hi, hp i hi, q_mul]) (fun w => by
    show fX1_weightIn_L4 N u s w (nI n) = _
    unfold fX1_weightIn_L4
    simp (disch := omega) only [q_ile0, q_ile1, q_ilt0, q_ilt1, q_ieq0, q_ieq1, q_iltz, q_ilez, q_ilez0, q_izlt, q_im1, q_im1a, q_ieqz, q_ieqz0, q_l10, q_l12, q_ck, q_cl, q_gt, q_bs, q_b2s, q_ls, q_sc, nI_add, if_true, if_false, ite_true, ite_false, reduceIte, q_10, q_01, q_11, q_00, h0])]
  rfl
theorem qx_across (hg : qX u n k a b) (hx : x < n) (hl : l < k) : (∃ y, qg_E a b l x y ∧ y < n ∧ fX1_acrossFrom N u (nI x) (nI l) = some (nI y)) ∨ ((∀ y, ¬ qg_E a b l x y) ∧ fX1_acrossFrom N u (nI x) (nI l) = some (-1)) := by
  obtain ⟨h0, h1, hn, hk, he⟩ := hg
  obtain ⟨e1, e2, e3, e4, e5⟩ := he l hl
  have key : fX1_acrossFrom N u (nI x) (nI l) = (if nI (a l) = nI x then some (nI (b l)) else if nI (b l) = nI x then some (nI (a l)) else some (-1)) := by
    unfold fX1_acrossFrom
    simp (disch := omega) only [q_iltz, q_ilt1, q_ck, q_cl, q_gt, h1, e1, e2]
  rw [key]
  by_cases q : a l = x
  · rw [if_pos (by rw [q])]
    exact Or.inl ⟨b l, Or.inl ⟨q, rfl⟩, e4, rfl⟩
  · rw [if_neg (fun e => q ((q_eq (by omega) (by omega)).mp e))]
    by_cases r : b l = x
    · rw [if_pos (by rw [r])]
      exact Or.inl ⟨a l, Or.inr ⟨r, rfl⟩, e3, rfl⟩
    · rw [if_neg (fun e => r ((q_eq (by omega) (by omega)).mp e))]
      refine Or.inr ⟨fun y hy => ?_, rfl⟩
      rcases hy with ⟨q1, -⟩ | ⟨q1, -⟩
      · exact q q1
      · exact r q1
theorem qx_acr (hg : qX u n k a b) (hx : x < n) (hl : l < k) (hE : qg_E a b l x y) : fX1_acrossFrom N u (nI x) (nI l) = some (nI y) := by
  rcases qx_across (N := N) hg hx hl with ⟨z, h1, h2, h3⟩ | ⟨h1, h2⟩
  · rw [h3, qg_E_un h1 hE (hg.2.2.2.2 l hl).2.2.2.2]
  · exact absurd hE (h1 y)
theorem qx_lines (hg : qX u n k a b) (hN : 20 < N) (hs : qS s P) (hc : qS c C) : ∃ r, fX1_linesAt N u s c = some r ∧ qS r (fun l => l < k ∧ C l ∧ (P (a l) ∨ P (b l))) := by
  obtain ⟨h0, h1, hn, hk, he⟩ := hg
  obtain ⟨r, hr, hs⟩ := q_loop (f := fun z : Int32 × Int32 => fX1_linesAt_L5 N u s c z.1 z.2) (m := k) (N := N) (x0 := (0, 0)) (fun i z => z.2 = nI i ∧ qS z.1 (fun l => l < i ∧ C l ∧ (P (a l) ∨ P (b l)))) (fun r => qS r (fun l => l < k ∧ C l ∧ (P (a l) ∨ P (b l)))) (by omega) ⟨rfl, qS.z.cg (fun i => ⟨fun q => q.elim, fun q => absurd q.1 (Nat.not_lt_zero i)⟩)⟩ (by
    rintro i ⟨w, z⟩ hi ⟨hz, hw⟩
    replace hz : z = nI i := hz
    subst hz
    replace hw : qS w (fun l => l < i ∧ C l ∧ (P (a l) ∨ P (b l))) := hw
    obtain ⟨e1, e2, e3, e4, e5⟩ := he i hi
    have skip : ¬ (C i ∧ (P (a i) ∨ P (b i))) → qS w (fun l => l < i + 1 ∧ C l ∧ (P (a l) ∨ P (b l))) := fun hno => hw.cg (fun j => ⟨fun q => ⟨by omega, q.2⟩, fun q => ⟨by
      rcases Nat.lt_or_ge j i with r | r
      · exact r
      · have e : j = i := by omega
        subst e
        exact absurd q.2 hno, q.2⟩⟩)
    have take : C i ∧ (P (a i) ∨ P (b i)) → qS (w ||| qB i) (fun l => l < i + 1 ∧ C l ∧ (P (a l) ∨ P (b l))) := fun hy => (hw.or (qS.bit (show i < 32 by omega))).cg (fun j => ⟨fun q => by
      rcases q with q | q
      · exact ⟨by omega, q.2⟩
      · subst q; exact ⟨by omega, hy⟩, fun q => by
      rcases Nat.lt_or_ge j i with r | r
      · exact Or.inl ⟨r, q.2⟩
      · exact Or.inr (by omega)⟩)
    refine Or.inl ?_
    show ∃ y, fX1_linesAt_L5 N u s c w (nI i) = some (.inl y) ∧ _
    unfold fX1_linesAt_L5 fX1_linesAt_j51
    by_cases q1 : C i
    · rw [hc.has1 q1]
      by_cases q2 : P (a i)
      · refine ⟨(w ||| qB i, nI (i + 1)), ?_, rfl, take ⟨q1, Or.inl q2⟩⟩
        simp (disch := omega) only [q_ile0, q_ile1, q_ilt0, q_ilt1, q_ieq0, q_ieq1, q_iltz, q_ilez, q_ilez0, q_izlt, q_im1, q_im1a, q_ieqz, q_ieqz0, q_l10, q_l12, q_ck, q_cl, q_gt, q_bs, q_b2s, q_ls, q_sc, nI_add, if_true, if_false, ite_true, ite_false, reduceIte, q_10, q_01, q_11, q_00, h1, e1, hs.has1 q2, qx_bit]
      · by_cases q3 : P (b i)
        · refine ⟨(w ||| qB i, nI (i + 1)), ?_, rfl, take ⟨q1, Or.inr q3⟩⟩
          simp (disch := omega) only [q_ile0, q_ile1, q_ilt0, q_ilt1, q_ieq0, q_ieq1, q_iltz, q_ilez, q_ilez0, q_izlt, q_im1, q_im1a, q_ieqz, q_ieqz0, q_l10, q_l12, q_ck, q_cl, q_gt, q_bs, q_b2s, q_ls, q_sc, nI_add, if_true, if_false, ite_true, ite_false, reduceIte, q_10, q_01, q_11, q_00, h1, e1, e2, hs.has0 (show a i < 32 by omega) q2, hs.has1 q3, qx_bit]
        · refine ⟨(w, nI (i + 1)), ?_, rfl, skip (fun q => q.2.elim q2 q3)⟩
          simp (disch := omega) only [q_ile0, q_ile1, q_ilt0, q_ilt1, q_ieq0, q_ieq1, q_iltz, q_ilez, q_ilez0, q_izlt, q_im1, q_im1a, q_ieqz, q_ieqz0, q_l10, q_l12, q_ck, q_cl, q_gt, q_bs, q_b2s, q_ls, q_sc, nI_add, if_true, if_false, ite_true, ite_false, reduceIte, q_10, q_01, q_11, q_00, h1, e1, e2, hs.has0 (show a i < 32 by omega) q2, hs.has0 (show b i < 32 by omega) q3]
    · rw [hc.has0 (show i < 32 by omega) q1]
      refine ⟨(w, nI (i + 1)), ?_, rfl, skip (fun q => q1 q.1)⟩
      simp (disch := omega) only [q_ile0, q_ile1, q_ilt0, q_ilt1, q_ieq0, q_ieq1, q_iltz, q_ilez, q_ilez0, q_izlt, q_im1, q_im1a, q_ieqz, q_ieqz0, q_l10, q_l12, q_ck, q_cl, q_gt, q_bs, q_b2s, q_ls, q_sc, nI_add, if_true, if_false, ite_true, ite_false, reduceIte, q_10, q_01, q_11, q_00, h1]) (by
    rintro ⟨w, z⟩ ⟨hz, hw⟩
    replace hz : z = nI k := hz
    subst hz
    refine ⟨w, ?_, hw⟩
    show fX1_linesAt_L5 N u s c w (nI k) = _
    unfold fX1_linesAt_L5
    simp (disch := omega) only [q_ile0, q_ile1, q_ilt0, q_ilt1, q_ieq0, q_ieq1, q_iltz, q_ilez, q_ilez0, q_izlt, q_im1, q_im1a, q_ieqz, q_ieqz0, q_l10, q_l12, q_ck, q_cl, q_gt, q_bs, q_b2s, q_ls, q_sc, nI_add, if_true, if_false, ite_true, ite_false, reduceIte, q_10, q_01, q_11, q_00, h1])
  refine ⟨r, ?_, hs⟩
  unfold fX1_linesAt
  rw [hr]
  rfl
theorem qx_neigh (hN : 20 < N) (hg : qX u n k a b) (hx : x < n) (hc : qS c C) (hC : ∀ l, C l → l < k) : ∃ r, fX1_neighbours N u (nI x) c = some r ∧ qS r (fun y => ∃ l, C l ∧ qg_E a b l x y) := by
  have hg' := hg
  obtain ⟨h0, h1, hn, hk, he⟩ := hg
  obtain ⟨r, hr, hs⟩ := q_loop (f := fun z : Int32 × Int32 => fX1_neighbours_L5 N u (nI x) c z.1 z.2) (m := k) (N := N) (x0 := (0, 0)) (fun i z => z.2 = nI i ∧ qS z.1 (fun y => ∃ l, l < i ∧ C l ∧ qg_E a b l x y)) (fun r => qS r (fun y => ∃ l, C l ∧ qg_E a b l x y)) (by omega) ⟨rfl, qS.z.cg (fun i => ⟨fun q => q.elim, fun ⟨l, q, _⟩ => absurd q (Nat.not_lt_zero l)⟩)⟩ (by
    rintro i ⟨w, z⟩ hi ⟨hz, hw⟩
    replace hz : z = nI i := hz
    subst hz
    replace hw : qS w (fun y => ∃ l, l < i ∧ C l ∧ qg_E a b l x y) := hw
    obtain ⟨e1, e2, e3, e4, e5⟩ := he i hi
    have skip : (∀ y, ¬ (C i ∧ qg_E a b i x y)) → qS w (fun y => ∃ l, l < i + 1 ∧ C l ∧ qg_E a b l x y) := fun hno => hw.cg (fun j => ⟨fun ⟨l, q, q2⟩ => ⟨l, by omega, q2⟩, fun ⟨l, q, q2⟩ => ⟨l, by
      rcases Nat.lt_or_ge l i with r | r
      · exact r
      · have e : l = i := by omega
        subst e
        exact absurd q2 (hno j), q2⟩⟩)
    refine Or.inl ?_
    show ∃ y, fX1_neighbours_L5 N u (nI x) c w (nI i) = some (.inl y) ∧ _
    unfold fX1_neighbours_L5 fX1_neighbours_j34
    by_cases q1 : C i
    · rw [hc.has1 q1]
      rcases qx_across (N := N) hg' hx hi with ⟨y, f1, f2, f3⟩ | ⟨f1, f3⟩
      · refine ⟨(w ||| qB y, nI (i + 1)), ?_, rfl, ?_⟩
        · simp (disch := omega) only [q_ile0, q_ile1, q_ilt0, q_ilt1, q_ieq0, q_ieq1, q_iltz, q_ilez, q_ilez0, q_izlt, q_im1, q_im1a, q_ieqz, q_ieqz0, q_l10, q_l12, q_ck, q_cl, q_gt, q_bs, q_b2s, q_ls, q_sc, nI_add, if_true, if_false, ite_true, ite_false, reduceIte, q_10, q_01, q_11, q_00, h1, f3, qx_bit]
        · refine (hw.or (qS.bit (show y < 32 by omega))).cg (fun j => ⟨fun q => ?_, fun q => ?_⟩)
          · rcases q with ⟨l, g1, g2⟩ | q
            · exact ⟨l, by omega, g2⟩
            · subst q; exact ⟨i, by omega, q1, f1⟩
          · obtain ⟨l, g1, g2, g3⟩ := q
            by_cases e : l = i
            · subst e; exact Or.inr (qg_E_un g3 f1 e5)
            · exact Or.inl ⟨l, by omega, g2, g3⟩
      · refine ⟨(w, nI (i + 1)), ?_, rfl, skip (fun y q => f1 y q.2)⟩
        simp (disch := omega) only [q_ile0, q_ile1, q_ilt0, q_ilt1, q_ieq0, q_ieq1, q_iltz, q_ilez, q_ilez0, q_izlt, q_im1, q_im1a, q_ieqz, q_ieqz0, q_l10, q_l12, q_ck, q_cl, q_gt, q_bs, q_b2s, q_ls, q_sc, nI_add, if_true, if_false, ite_true, ite_false, reduceIte, q_10, q_01, q_11, q_00, h1, f3]
    · rw [hc.has0 (show i < 32 by omega) q1]
      refine ⟨(w, nI (i + 1)), ?_, rfl, skip (fun y q => q1 q.1)⟩
      simp (disch := omega) only [q_ile0, q_ile1, q_ilt0, q_ilt1, q_ieq0, q_ieq1, q_iltz, q_ilez, q_ilez0, q_izlt, q_im1, q_im1a, q_ieqz, q_ieqz0, q_l10, q_l12, q_ck, q_cl, q_gt, q_bs, q_b2s, q_ls, q_sc, nI_add, if_true, if_false, ite_true, ite_false, reduceIte, q_10, q_01, q_11, q_00, h1]) (by
    rintro ⟨w, z⟩ ⟨hz, hw⟩
    replace hz : z = nI k := hz
    subst hz
    replace hw : qS w (fun y => ∃ l, l < k ∧ C l ∧ qg_E a b l x y) := hw
    refine ⟨w, ?_, hw.cg (fun j => ⟨fun ⟨l, q, q2⟩ => ⟨l, q2⟩, fun ⟨l, q2⟩ => ⟨l, hC l q2.1, q2⟩⟩)⟩
    show fX1_neighbours_L5 N u (nI x) c w (nI k) = _
    unfold fX1_neighbours_L5
    simp (disch := omega) only [q_ile0, q_ile1, q_ilt0, q_ilt1, q_ieq0, q_ieq1, q_iltz, q_ilez, q_ilez0, q_izlt, q_im1, q_im1a, q_ieqz, q_ieqz0, q_l10, q_l12, q_ck, q_cl, q_gt, q_bs, q_b2s, q_ls, q_sc, nI_add, if_true, if_false, ite_true, ite_false, reduceIte, q_10, q_01, q_11, q_00, h1])
  refine ⟨r, ?_, hs⟩
  unfold fX1_neighbours
  rw [hr]
  rfl
end XG
