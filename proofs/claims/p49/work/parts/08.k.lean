/-! the reference's way from the source to a line -/
theorem q_pred (x : Nat) : nI (x + 1) + (-1) = nI x := by
  rw [nI_succ, Int32.add_assoc, show (1 : Int32) + -1 = 0 from by decide, Int32.add_zero]
theorem q_pred' (x : Nat) : nI (x + 1) - 1 = nI x := by
  rw [nI_succ, Int32.add_sub_cancel]
theorem q_getD_snoc {p : List Nat} {l i : Nat} (h : i < p.length) : (l :: p).getD (i + 1) 0 = p.getD i 0 := rfl
section PM
variable {N n k : Nat} {u v w : sg_St} {a b ld cap pr rt lab : Nat → Nat} {C C' E S B P Lk Fl : Nat → Prop} {c : Int32} {x y l i j t s : Nat}
/-- reached from s as the slate has it -/
def qre (s : Nat) (w : sg_St) (x : Nat) : Prop := x = s ∨ ¬ w 24 x = -1
/-- what the slate says of the way: each reached node but s has a line to a reached node, and a way from s with that line last -/
def qup (n : Nat) (a b : Nat → Nat) (C : Nat → Prop) (s : Nat) (w : sg_St) : Prop := w 24 s = -1 ∧ ∀ x, x < n → w 24 x = -1 ∨ ∃ l y p, w 24 x = nI l ∧ C l ∧ qg_E a b l x y ∧ qre s w y ∧ p ≠ [] ∧ qcn a b C p s 12 x l
theorem qm_up (hN : 20 < N) (hM : qM v n k a b ld cap pr rt S B) (hV : ∀ l, l < k → v 19 l = qt (C l)) (hC : ∀ l, C l → l < k) (hs : s < n) (hup : qup n a b C s v) (t : Int32) : ∃ r : sg_St × Int32, sg_it (fun z : sg_St × Int32 × Int32 => fX6_finds_L79 N z.1 t (nI s) z.2.1 z.2.2) N (v, 0, 0) = some r ∧ (∀ j, j ≠ 24 → r.1 j = v j) ∧ qup n a b C s r.1 ∧ ((r.2 = 0 ∧ qc (fun x => r.1 24 x = -1) n = qc (fun x => v 24 x = -1) n ∧ ∀ l, C l → (qre s r.1 (a l) ↔ qre s r.1 (b l))) ∨ (r.2 = 1 ∧ qc (fun x => r.1 24 x = -1) n < qc (fun x => v 24 x = -1) n)) := by
  have hM' := hM
  obtain ⟨h0, h1, hn, hk, he, -, -⟩ := hM
  refine q_loop (f := fun z : sg_St × Int32 × Int32 => fX6_finds_L79 N z.1 t (nI s) z.2.1 z.2.2) (m := k) (fun i z => z.2.2 = nI i ∧ (∀ j, j ≠ 24 → z.1 j = v j) ∧ qup n a b C s z.1 ∧ ((z.2.1 = 0 ∧ qc (fun x => z.1 24 x = -1) n = qc (fun x => v 24 x = -1) n ∧ ∀ l, l < i → C l → (qre s z.1 (a l) ↔ qre s z.1 (b l))) ∨ (z.2.1 = 1 ∧ qc (fun x => z.1 24 x = -1) n < qc (fun x => v 24 x = -1) n))) _ (by omega) ⟨rfl, fun _ _ => rfl, hup, Or.inl ⟨rfl, rfl, fun l hl => absurd hl (Nat.not_lt_zero l)⟩⟩ ?_ ?_
  · rintro i ⟨w, m, z⟩ hi ⟨hz, hfr, g1, g2⟩
    dsimp only at hz hfr g1 g2
    refine Classical.byContradiction (fun hG => ?_)
    replace hz : z = nI i := hz
    subst hz
    replace g1 : qup n a b C s w := g1
    obtain ⟨e1, e2, e3, e4, e5⟩ := he i hi
    have w2 : w 2 0 = nI k := by rw [hfr 2 (by omega)]; exact h1
    have w12 : w 12 i = nI (a i) := by rw [hfr 12 (by omega)]; exact e1
    have w13 : w 13 i = nI (b i) := by rw [hfr 13 (by omega)]; exact e2
    have w19 : w 19 i = qt (C i) := by rw [hfr 19 (by omega)]; exact hV i hi
    have skip : (C i → (qre s w (a i) ↔ qre s w (b i))) → fX6_finds_L79 N w t (nI s) m (nI i) = some (.inl (w, m, nI (i + 1))) → False := fun hs' e => hG (Or.inl ⟨_, e, rfl, hfr, g1, g2.imp (fun q => ⟨q.1, q.2.1, fun l hl hCl => by
      by_cases el : l = i
      · subst el; exact hs' hCl
      · exact q.2.2 l (by omega) hCl⟩) id⟩)
    by_cases q1 : C i
    · have flag : ∀ (x : Nat) (α : Type) (A B : α), x < n → (if nI x = nI s then B else if w 24 x = -1 then A else B) = @ite _ (qre s w x) (Classical.propDecidable _) B A := fun x α A B hx => by
        by_cases z1 : x = s
        · rw [q_ieq1 z1, if_pos (c := qre s w x) (Or.inl z1)]
        · rw [q_ieq0 (by omega) (by omega) (by omega)]
          by_cases z2 : w 24 x = -1
          · rw [if_pos z2, if_neg (c := qre s w x) (fun z => z.elim z1 (fun z => z z2))]
          · rw [if_neg z2, if_pos (c := qre s w x) (Or.inr z2)]
      have head : fX6_finds_L79 N w t (nI s) m (nI i) = @ite _ (qre s w (a i)) (Classical.propDecidable _) (@ite _ (qre s w (b i)) (Classical.propDecidable _) (fX6_finds_j167 N w t (nI s) m (nI i) 1 1) (fX6_finds_j167 N w t (nI s) m (nI i) 1 0)) (@ite _ (qre s w (b i)) (Classical.propDecidable _) (fX6_finds_j167 N w t (nI s) m (nI i) 0 1) (fX6_finds_j167 N w t (nI s) m (nI i) 0 0)) := by
        unfold fX6_finds_L79 fX6_finds_j133
        simp (disch := omega) only [q_ile0, q_ck, q_cl, q_gt, w2, w19, qt_1 q1, q_10, w12, w13]
        rw [flag (a i) _ _ _ e3, flag (b i) _ _ _ e4, flag (b i) _ _ _ e4]
      have fin : ∀ x y, qg_E a b i x y → x < n → y < n → ¬ qre s w x → qre s w y → fX6_finds_L79 N w t (nI s) m (nI i) = some (.inl (sg_set w 24 x (nI i), 1, nI (i + 1))) → False := fun x y r1 r2 r2' r3 r4 e => by
        have hxs : x ≠ s := fun z => r3 (Or.inl z)
        have hw1 : w 24 x = -1 := Classical.byContradiction (fun z => r3 (Or.inr z))
        have hnew : ∀ q, qre s w q → qre s (sg_set w 24 x (nI i)) q := fun q z => z.imp id (fun z => by
          show ¬ sg_set w 24 x (nI i) 24 q = -1
          rw [sg_set_s, upd_o (fun e => z (by rw [e]; exact hw1))]
          exact z)
        have hway : ∃ p, p ≠ [] ∧ qcn a b C p s 12 x i := by
          by_cases z : y = s
          · subst z
            exact ⟨[i], List.cons_ne_nil _ _, q1, by omega, x, qg_E_sy r1, rfl, rfl⟩
          · rcases g1.2 y r2' with f | ⟨ly, y0, py, f1, f2, f3, f4, f5, f6⟩
            · exact absurd f (r4.resolve_left z)
            · refine ⟨py ++ [i], by simp, qcn_app q1 py s 12 y ly f6 (fun e => ?_) (qg_E_sy r1)⟩
              subst e
              have := qg_E_un f3 (qg_E_sy r1) e5
              subst this
              exact r3 f4
        refine hG (Or.inl ⟨_, e, rfl, fun j hj => ?_, ⟨?_, fun q hq => ?_⟩, Or.inr ⟨rfl, ?_⟩⟩)
        · show sg_set w 24 x (nI i) j = _
          rw [sg_set_o hj]; exact hfr j hj
        · show sg_set w 24 x (nI i) 24 s = -1
          rw [sg_set_s, upd_o (fun e => hxs e.symm)]; exact g1.1
        · show sg_set w 24 x (nI i) 24 q = -1 ∨ ∃ l y p, sg_set w 24 x (nI i) 24 q = nI l ∧ _
          rw [sg_set_s]
          by_cases f : q = x
          · subst f
            rw [upd_s]
            obtain ⟨p, p1, p2⟩ := hway
            exact Or.inr ⟨i, y, p, rfl, q1, r1, hnew y r4, p1, p2⟩
          · rw [upd_o f]
            exact (g1.2 q hq).imp id (fun ⟨l, y, p, f1, f2, f3, f4, f5⟩ => ⟨l, y, p, f1, f2, f3, hnew y f4, f5⟩)
        · have hcnt := qc_lt (P := fun q => sg_set w 24 x (nI i) 24 q = -1) (Q := fun q => w 24 q = -1) (n := n) (x := x) (fun q _ z => by
            replace z : sg_set w 24 x (nI i) 24 q = -1 := z
            rw [sg_set_s] at z
            by_cases f : q = x
            · rw [f]; exact hw1
            · rw [upd_o f] at z; exact z) r2 hw1 (fun z => by
            replace z : sg_set w 24 x (nI i) 24 x = -1 := z
            rw [sg_set_s, upd_s] at z
            exact q_m1 (by omega) z)
          rcases g2 with ⟨-, g3, -⟩ | ⟨-, g3⟩
          · show qc (fun q => sg_set w 24 x (nI i) 24 q = -1) n < _
            replace g3 : qc (fun x => w 24 x = -1) n = qc (fun x => v 24 x = -1) n := g3
            omega
          · show qc (fun q => sg_set w 24 x (nI i) 24 q = -1) n < _
            replace g3 : qc (fun x => w 24 x = -1) n < qc (fun x => v 24 x = -1) n := g3
            omega
      by_cases q2 : qre s w (a i)
      · by_cases q3 : qre s w (b i)
        · refine skip (fun _ => ⟨fun _ => q3, fun _ => q2⟩) ?_
          rw [head, if_pos q2, if_pos q3]
          unfold fX6_finds_j167
          simp (disch := omega) only [q_ile0, q_ile1, q_ilt0, q_ilt1, q_ieq0, q_ieq1, q_iltz, q_ilez, q_ilez0, q_izlt, q_im1, q_im1a, q_ieqz, q_ieqz0, q_l10, q_l12, q_ck, q_cl, q_gt, q_bs, q_b2s, q_ls, q_sc, nI_add, if_true, if_false, ite_true, ite_false, reduceIte, q_10, q_01, q_11, q_00]
        · refine fin (b i) (a i) (Or.inr ⟨rfl, rfl⟩) e4 e3 q3 q2 ?_
          rw [head, if_pos q2, if_neg q3]
          unfold fX6_finds_j167 fX6_finds_j205
          simp (disch := omega) only [q_ile0, q_ile1, q_ilt0, q_ilt1, q_ieq0, q_ieq1, q_iltz, q_ilez, q_ilez0, q_izlt, q_im1, q_im1a, q_ieqz, q_ieqz0, q_l10, q_l12, q_ck, q_cl, q_gt, q_bs, q_b2s, q_ls, q_sc, nI_add, if_true, if_false, ite_true, ite_false, reduceIte, q_10, q_01, q_11, q_00, w13]
      · by_cases q3 : qre s w (b i)
        · refine fin (a i) (b i) (Or.inl ⟨rfl, rfl⟩) e3 e4 q2 q3 ?_
          rw [head, if_neg q2, if_pos q3]
          unfold fX6_finds_j167 fX6_finds_j205
          simp (disch := omega) only [q_ile0, q_ile1, q_ilt0, q_ilt1, q_ieq0, q_ieq1, q_iltz, q_ilez, q_ilez0, q_izlt, q_im1, q_im1a, q_ieqz, q_ieqz0, q_l10, q_l12, q_ck, q_cl, q_gt, q_bs, q_b2s, q_ls, q_sc, nI_add, if_true, if_false, ite_true, ite_false, reduceIte, q_10, q_01, q_11, q_00, w12]
        · refine skip (fun _ => ⟨fun z => absurd z q2, fun z => absurd z q3⟩) ?_
          rw [head, if_neg q2, if_neg q3]
          unfold fX6_finds_j167
          simp (disch := omega) only [q_ile0, q_ile1, q_ilt0, q_ilt1, q_ieq0, q_ieq1, q_iltz, q_ilez, q_ilez0, q_izlt, q_im1, q_im1a, q_ieqz, q_ieqz0, q_l10, q_l12, q_ck, q_cl, q_gt, q_bs, q_b2s, q_ls, q_sc, nI_add, if_true, if_false, ite_true, ite_false, reduceIte, q_10, q_01, q_11, q_00]
    · refine skip (fun z => absurd z q1) ?_
      unfold fX6_finds_L79
      simp (disch := omega) only [q_ile0, q_ile1, q_ilt0, q_ilt1, q_ieq0, q_ieq1, q_iltz, q_ilez, q_ilez0, q_izlt, q_im1, q_im1a, q_ieqz, q_ieqz0, q_l10, q_l12, q_ck, q_cl, q_gt, q_bs, q_b2s, q_ls, q_sc, nI_add, if_true, if_false, ite_true, ite_false, reduceIte, q_10, q_01, q_11, q_00, w2, w19, qt_0 q1]
  · rintro ⟨w, m, z⟩ ⟨hz, hfr, g1, g2⟩
    dsimp only at hz hfr g1 g2
    replace hz : z = nI k := hz
    subst hz
    have w2 : w 2 0 = nI k := by rw [hfr 2 (by omega)]; exact h1
    refine ⟨(w, m), ?_, hfr, g1, g2.imp (fun q => ⟨q.1, q.2.1, fun l hl => q.2.2 l (hC l hl) hl⟩) id⟩
    show fX6_finds_L79 N w t (nI s) m (nI k) = _
    unfold fX6_finds_L79
    simp (disch := omega) only [q_ile0, q_ile1, q_ilt0, q_ilt1, q_ieq0, q_ieq1, q_iltz, q_ilez, q_ilez0, q_izlt, q_im1, q_im1a, q_ieqz, q_ieqz0, q_l10, q_l12, q_ck, q_cl, q_gt, q_bs, q_b2s, q_ls, q_sc, nI_add, if_true, if_false, ite_true, ite_false, reduceIte, q_10, q_01, q_11, q_00, w2]
/-- path entries move up by one -/
theorem qm_shift (hN : 20 < N) {m : Nat} (hm : m ≤ 11) (h4 : w 4 0 = nI m) (p q r : Int32) : ∃ w', sg_it (fun z : sg_St × Int32 => fX6_finds_L272 N z.1 p q r z.2) N (w, w 4 0) = some w' ∧ (∀ j, j ≠ 23 → w' j = w j) ∧ ∀ i, i < m → w' 23 (i + 1) = w 23 i := by
  rw [h4]
  obtain ⟨w', e1, e2, e3⟩ := q_loop (f := fun z : sg_St × Int32 => fX6_finds_L272 N z.1 p q r z.2) (m := m) (N := N) (x0 := (w, nI m)) (fun i z => z.2 = nI (m - i) ∧ (∀ j, j ≠ 23 → z.1 j = w j) ∧ (∀ q, q < m - i → z.1 23 q = w 23 q) ∧ ∀ q, m - i ≤ q → q < m → z.1 23 (q + 1) = w 23 q) (fun r => (∀ j, j ≠ 23 → r j = w j) ∧ ∀ q, q < m → r 23 (q + 1) = w 23 q) (by omega) ⟨rfl, fun _ _ => rfl, fun _ _ => rfl, fun q h1 h2 => by omega⟩ (by
    rintro i ⟨x, z⟩ hi ⟨hz, g1, g2, g3⟩
    dsimp only at hz g1 g2 g3
    obtain ⟨d, hd⟩ : ∃ d, m - i = d + 1 := ⟨m - i - 1, by omega⟩
    replace hz : z = nI (m - i) := hz
    rw [hd] at hz g2 g3
    subst hz
    have hd2 : m - (i + 1) = d := by omega
    refine Or.inl ⟨(sg_set x 23 (d + 1) (x 23 d), nI d), ?_, by show nI d = nI (m - (i + 1)); rw [hd2], fun j hj => ?_, fun q hq => ?_, fun q h1 h2 => ?_⟩
    · show fX6_finds_L272 N x p q r (nI (d + 1)) = _
      unfold fX6_finds_L272
      rw [q_pred', q_pred]
      simp (disch := omega) only [q_ile0, q_ile1, q_ilt0, q_ilt1, q_ieq0, q_ieq1, q_iltz, q_ilez, q_ilez0, q_izlt, q_im1, q_im1a, q_ieqz, q_ieqz0, q_l10, q_l12, q_ck, q_cl, q_gt, q_bs, q_b2s, q_ls, q_sc, nI_add, if_true, if_false, ite_true, ite_false, reduceIte, q_10, q_01, q_11, q_00]
    · show sg_set x 23 (d + 1) (x 23 d) j = _
      rw [sg_set_o hj]; exact g1 j hj
    · show sg_set x 23 (d + 1) (x 23 d) 23 q = _
      rw [sg_set_s, upd_o (by omega)]
      exact g2 q (by omega)
    · show sg_set x 23 (d + 1) (x 23 d) 23 (q + 1) = _
      rw [sg_set_s]
      by_cases e : q = d
      · subst e
        rw [upd_s]
        exact g2 q (by omega)
      · rw [upd_o (by omega)]
        exact g3 q (by omega) h2) (by
    rintro ⟨x, z⟩ ⟨hz, g1, g2, g3⟩
    dsimp only at hz g1 g2 g3
    replace hz : z = nI (m - m) := hz
    rw [Nat.sub_self] at hz g3
    subst hz
    refine ⟨x, ?_, g1, fun q hq => g3 q (Nat.zero_le q) hq⟩
    show fX6_finds_L272 N x p q r (nI 0) = _
    unfold fX6_finds_L272
    simp (disch := omega) only [q_ile0, q_ile1, q_ilt0, q_ilt1, q_ieq0, q_ieq1, q_iltz, q_ilez, q_ilez0, q_izlt, q_im1, q_im1a, q_ieqz, q_ieqz0, q_l10, q_l12, q_ck, q_cl, q_gt, q_bs, q_b2s, q_ls, q_sc, nI_add, if_true, if_false, ite_true, ite_false, reduceIte, q_10, q_01, q_11, q_00])
  exact ⟨w', e1, e2, e3⟩
end PM
