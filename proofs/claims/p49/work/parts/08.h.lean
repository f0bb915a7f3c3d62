/-! the reference: paint, sources, sums, currents -/
noncomputable def qt (P : Prop) : Int32 := @ite _ P (Classical.propDecidable _) 1 0
theorem qt_1 {P : Prop} (h : P) : qt P = 1 := if_pos h
theorem qt_0 {P : Prop} (h : ¬ P) : qt P = 0 := if_neg h
theorem qs_lt {f g : Nat → Nat} {P : Nat → Prop} {x : Nat} : ∀ {n : Nat}, (∀ i, i < n → P i → f i ≤ g i) → x < n → P x → f x < g x → qs f P n < qs g P n
  | 0, _, h, _, _ => absurd h (Nat.not_lt_zero x)
  | n + 1, h, hx, hp, hl => by
    have le : ∀ {m : Nat}, m ≤ n → qs f P m ≤ qs g P m := by
      intro m
      induction m with
      | zero => intro _; exact Nat.le_refl _
      | succ m ih =>
        intro hm
        have := ih (by omega)
        by_cases q : P m
        · rw [qs_s1 q, qs_s1 q]; have := h m (by omega) q; omega
        · rw [qs_s0 q, qs_s0 q]; exact this
    by_cases e : x = n
    · subst e
      rw [qs_s1 hp, qs_s1 hp]
      have := le (Nat.le_refl x)
      omega
    · have ih := qs_lt (f := f) (g := g) (P := P) (n := n) (fun i hi => h i (by omega)) (show x < n by omega) hp hl
      by_cases q : P n
      · rw [qs_s1 q, qs_s1 q]; have := h n (by omega) q; omega
      · rw [qs_s0 q, qs_s0 q]; exact ih
/-- the reference's net -/
def qM (v : sg_St) (n k : Nat) (a b ld cap pr rt : Nat → Nat) (S B : Nat → Prop) : Prop := v 1 0 = nI n ∧ v 2 0 = nI k ∧ n ≤ 10 ∧ k ≤ 12 ∧ (∀ l, l < k → v 12 l = nI (a l) ∧ v 13 l = nI (b l) ∧ a l < n ∧ b l < n ∧ a l ≠ b l) ∧ (∀ i, i < n → v 8 i = qt (S i) ∧ v 9 i = nI (cap i) ∧ v 10 i = nI (ld i) ∧ v 11 i = nI (pr i) ∧ cap i ≤ 999 ∧ ld i ≤ 99 ∧ pr i ≤ 9) ∧ ∀ l, l < k → v 14 l = nI (rt l) ∧ rt l ≤ 999 ∧ 0 < rt l ∧ v 18 l = qt (B l)
def qKM (u v : sg_St) : Prop := ∀ j, ((1 ≤ j ∧ j < 3) ∨ (8 ≤ j ∧ j < 15) ∨ j = 18) → v j = u j
/-- the paint tells islands apart -/
def qlab (n : Nat) (a b : Nat → Nat) (E : Nat → Prop) (lab : Nat → Nat) : Prop := (∀ i, i < n → qg_R a b E i (lab i) ∧ lab i ≤ i) ∧ ∀ l, E l → lab (a l) = lab (b l)
section MM
variable {N n k : Nat} {u v : sg_St} {a b ld cap pr rt lab : Nat → Nat} {C C' E S B P : Nat → Prop} {W X : Int32} {x y l i j : Nat}
theorem qM.fr (h : qM u n k a b ld cap pr rt S B) (f : qKM u v) : qM v n k a b ld cap pr rt S B := by
  obtain ⟨h0, h1, hn, hk, he, h2, h3⟩ := h
  refine ⟨by rw [f 1 (by omega)]; exact h0, by rw [f 2 (by omega)]; exact h1, hn, hk, fun l hl => ?_, fun i hi => ?_, fun l hl => ?_⟩
  · rw [f 12 (by omega), f 13 (by omega)]; exact he l hl
  · rw [f 8 (by omega), f 9 (by omega), f 10 (by omega), f 11 (by omega)]; exact h2 i hi
  · rw [f 14 (by omega), f 18 (by omega)]; exact h3 l hl
theorem qKM.of22 (h : ∀ j, j ≠ 22 → v j = u j) : qKM u v := fun j hj => h j (by omega)
theorem qlab.eq (h : qlab n a b E lab) (hi : i < n) (hj : j < n) : lab i = lab j ↔ qg_R a b E i j := by
  constructor
  · intro e
    have h1 := (h.1 i hi).1
    rw [e] at h1
    exact qg_tr h1 (qg_sy (h.1 j hj).1)
  · intro q
    exact (q (fun z => lab z = lab i) rfl (fun l hl => by rw [h.2 l hl])).symm
theorem qm_inner (hN : 20 < N) (hM : qM v n k a b ld cap pr rt S B) (hC : ∀ l, l < k → v 19 l = qt (C l)) (hE : ∀ l, E l ↔ l < k ∧ nI l ≠ W ∧ (C l ∨ nI l = X)) (h22 : ∀ i, i < n → v 22 i = nI (lab i)) (hlab : ∀ i, i < n → qg_R a b E i (lab i) ∧ lab i ≤ i) : ∃ r : sg_St × Int32, sg_it (fun z : sg_St × Int32 × Int32 => fX6_paints_L34 N z.1 W X z.2.1 z.2.2) N (v, 0, 0) = some r ∧ (∀ j, j ≠ 22 → r.1 j = v j) ∧ ∃ lab' : Nat → Nat, (∀ i, i < n → r.1 22 i = nI (lab' i)) ∧ (∀ i, i < n → qg_R a b E i (lab' i) ∧ lab' i ≤ i) ∧ ((r.2 = 0 ∧ qs lab' (fun _ => True) n = qs lab (fun _ => True) n ∧ ∀ l, E l → lab' (a l) = lab' (b l)) ∨ (r.2 = 1 ∧ qs lab' (fun _ => True) n < qs lab (fun _ => True) n)) := by
  have hM' := hM
  obtain ⟨h0, h1, hn, hk, he, -, -⟩ := hM
  refine q_loop (f := fun z : sg_St × Int32 × Int32 => fX6_paints_L34 N z.1 W X z.2.1 z.2.2) (m := k) (fun i z => z.2.2 = nI i ∧ (∀ j, j ≠ 22 → z.1 j = v j) ∧ ∃ lab' : Nat → Nat, (∀ i, i < n → z.1 22 i = nI (lab' i)) ∧ (∀ i, i < n → qg_R a b E i (lab' i) ∧ lab' i ≤ i) ∧ ((z.2.1 = 0 ∧ qs lab' (fun _ => True) n = qs lab (fun _ => True) n ∧ ∀ l, l < i → E l → lab' (a l) = lab' (b l)) ∨ (z.2.1 = 1 ∧ qs lab' (fun _ => True) n < qs lab (fun _ => True) n))) _ (by omega) ⟨rfl, fun _ _ => rfl, lab, h22, hlab, Or.inl ⟨rfl, rfl, fun l hl => absurd hl (Nat.not_lt_zero l)⟩⟩ ?_ ?_
  · rintro i ⟨w, m, z⟩ hi ⟨hz, hfr, lab', g1, g2, g3⟩
    dsimp only at hz hfr g1 g2 g3
    refine Classical.byContradiction (fun hG => ?_)
    replace hz : z = nI i := hz
    subst hz
    obtain ⟨e1, e2, e3, e4, e5⟩ := he i hi
    have w2 : w 2 0 = nI k := by rw [hfr 2 (by omega)]; exact h1
    have w12 : w 12 i = nI (a i) := by rw [hfr 12 (by omega)]; exact e1
    have w13 : w 13 i = nI (b i) := by rw [hfr 13 (by omega)]; exact e2
    have w19 : w 19 i = qt (C i) := by rw [hfr 19 (by omega)]; exact hC i hi
    have la := g2 (a i) e3
    have lb := g2 (b i) e4
    have wa : w 22 (a i) = nI (lab' (a i)) := g1 _ e3
    have wb : w 22 (b i) = nI (lab' (b i)) := g1 _ e4
    have skip : (E i → lab' (a i) = lab' (b i)) → fX6_paints_L34 N w W X m (nI i) = some (.inl (w, m, nI (i + 1))) → False := fun hs e => hG (Or.inl ⟨_, e, rfl, hfr, lab', g1, g2, g3.imp (fun q => ⟨q.1, q.2.1, fun l hl hEl => by
      by_cases el : l = i
      · subst el; exact hs hEl
      · exact q.2.2 l (by omega) hEl⟩) id⟩)
    by_cases q0 : nI i = W
    · refine skip (fun q => absurd q0 ((hE i).mp q).2.1) ?_
      unfold fX6_paints_L34
      rw [if_pos (c := nI i = W) q0]
      simp (disch := omega) only [q_ile0, q_ile1, q_ilt0, q_ilt1, q_ieq0, q_ieq1, q_iltz, q_ilez, q_ilez0, q_izlt, q_im1, q_im1a, q_ieqz, q_ieqz0, q_l10, q_l12, q_ck, q_cl, q_gt, q_bs, q_b2s, q_ls, q_sc, nI_add, if_true, if_false, ite_true, ite_false, reduceIte, q_10, q_01, q_11, q_00, w2]
    · by_cases q1 : C i ∨ nI i = X
      · have hEi : E i := (hE i).mpr ⟨hi, q0, q1⟩
        have head : fX6_paints_L34 N w W X m (nI i) = fX6_paints_j65 N w W X m (nI i) := by
          unfold fX6_paints_L34
          rw [if_neg (c := nI i = W) q0]
          by_cases q2 : C i
          · simp (disch := omega) only [q_ile0, q_ile1, q_ilt0, q_ilt1, q_ieq0, q_ieq1, q_iltz, q_ilez, q_ilez0, q_izlt, q_im1, q_im1a, q_ieqz, q_ieqz0, q_l10, q_l12, q_ck, q_cl, q_gt, q_bs, q_b2s, q_ls, q_sc, nI_add, if_true, if_false, ite_true, ite_false, reduceIte, q_10, q_01, q_11, q_00, w2, w19, qt_1 q2]
          · rw [if_pos (c := nI i = X) (q1.resolve_left q2)]
            simp (disch := omega) only [q_ile0, q_ile1, q_ilt0, q_ilt1, q_ieq0, q_ieq1, q_iltz, q_ilez, q_ilez0, q_izlt, q_im1, q_im1a, q_ieqz, q_ieqz0, q_l10, q_l12, q_ck, q_cl, q_gt, q_bs, q_b2s, q_ls, q_sc, nI_add, if_true, if_false, ite_true, ite_false, reduceIte, q_10, q_01, q_11, q_00, w2, w19, qt_0 q2]
        by_cases q3 : lab' (a i) = lab' (b i)
        · refine skip (fun _ => q3) ?_
          rw [head]
          unfold fX6_paints_j65
          simp (disch := omega) only [q_ile0, q_ile1, q_ilt0, q_ilt1, q_ieq0, q_ieq1, q_iltz, q_ilez, q_ilez0, q_izlt, q_im1, q_im1a, q_ieqz, q_ieqz0, q_l10, q_l12, q_ck, q_cl, q_gt, q_bs, q_b2s, q_ls, q_sc, nI_add, if_true, if_false, ite_true, ite_false, reduceIte, q_10, q_01, q_11, q_00, w12, w13, wa, wb]
        · have fin : ∀ m', (m' = lab' (a i) ∨ m' = lab' (b i)) → m' ≤ lab' (a i) → m' ≤ lab' (b i) → fX6_paints_L34 N w W X m (nI i) = some (.inl (sg_set (sg_set w 22 (a i) (nI m')) 22 (b i) (nI m'), 1, nI (i + 1))) → False := fun m' r1 r2 r3 e => by
            refine hG (Or.inl ⟨_, e, rfl, fun j hj => ?_, fun q => if q = a i ∨ q = b i then m' else lab' q, fun q hq => ?_, fun q hq => ?_, Or.inr ⟨rfl, ?_⟩⟩)
            · show sg_set (sg_set w 22 (a i) (nI m')) 22 (b i) (nI m') j = _
              rw [sg_set_o hj, sg_set_o hj]
              exact hfr j hj
            · show sg_set (sg_set w 22 (a i) (nI m')) 22 (b i) (nI m') 22 q = nI (if q = a i ∨ q = b i then m' else lab' q)
              rw [sg_set_s]
              by_cases f1 : q = b i
              · rw [f1, upd_s, if_pos (Or.inr rfl)]
              · rw [upd_o f1, sg_set_s]
                by_cases f2 : q = a i
                · rw [f2, upd_s, if_pos (Or.inl rfl)]
                · rw [upd_o f2, if_neg (fun r => r.elim f2 f1)]
                  exact g1 q hq
            · show qg_R a b E q (if q = a i ∨ q = b i then m' else lab' q) ∧ (if q = a i ∨ q = b i then m' else lab' q) ≤ q
              have ha : qg_R a b E (a i) m' := r1.elim (fun r => by rw [r]; exact la.1) (fun r => by rw [r]; exact qg_tr (qg_ed hEi) lb.1)
              by_cases f1 : q = a i
              · rw [if_pos (Or.inl f1), f1]
                exact ⟨ha, by omega⟩
              · by_cases f2 : q = b i
                · rw [if_pos (Or.inr f2), f2]
                  exact ⟨qg_tr (qg_ed' hEi) ha, by omega⟩
                · rw [if_neg (fun r => r.elim f1 f2)]
                  exact g2 q hq
            · have hs : qs (fun q => if q = a i ∨ q = b i then m' else lab' q) (fun _ => True) n < qs lab' (fun _ => True) n := by
                have hle : ∀ q, q < n → True → (if q = a i ∨ q = b i then m' else lab' q) ≤ lab' q := fun q _ _ => by
                  by_cases f1 : q = a i
                  · rw [if_pos (Or.inl f1), f1]; exact r2
                  · by_cases f2 : q = b i
                    · rw [if_pos (Or.inr f2), f2]; exact r3
                    · rw [if_neg (fun r => r.elim f1 f2)]; exact Nat.le_refl _
                rcases r1 with r1 | r1
                · refine qs_lt (x := b i) hle e4 trivial ?_
                  show (if b i = a i ∨ b i = b i then m' else lab' (b i)) < lab' (b i)
                  rw [if_pos (Or.inr rfl)]
                  omega
                · refine qs_lt (x := a i) hle e3 trivial ?_
                  show (if a i = a i ∨ a i = b i then m' else lab' (a i)) < lab' (a i)
                  rw [if_pos (Or.inl rfl)]
                  omega
              rcases g3 with ⟨-, g4, -⟩ | ⟨-, g4⟩
              · omega
              · omega
          have s12 : ∀ q, (sg_set w 22 (a i) q) 13 i = nI (b i) := fun q => by rw [sg_set_o (by omega)]; exact w13
          by_cases q4 : lab' (b i) ≤ lab' (a i)
          · refine fin (lab' (b i)) (Or.inr rfl) q4 (Nat.le_refl _) ?_
            rw [head]
            unfold fX6_paints_j65 fX6_paints_j149
            simp (disch := omega) only [q_ile0, q_ile1, q_ilt0, q_ilt1, q_ieq0, q_ieq1, q_iltz, q_ilez, q_ilez0, q_izlt, q_im1, q_im1a, q_ieqz, q_ieqz0, q_l10, q_l12, q_ck, q_cl, q_gt, q_bs, q_b2s, q_ls, q_sc, nI_add, if_true, if_false, ite_true, ite_false, reduceIte, q_10, q_01, q_11, q_00, w12, w13, wa, wb, s12]
          · refine fin (lab' (a i)) (Or.inl rfl) (Nat.le_refl _) (by omega) ?_
            rw [head]
            unfold fX6_paints_j65 fX6_paints_j149
            simp (disch := omega) only [q_ile0, q_ile1, q_ilt0, q_ilt1, q_ieq0, q_ieq1, q_iltz, q_ilez, q_ilez0, q_izlt, q_im1, q_im1a, q_ieqz, q_ieqz0, q_l10, q_l12, q_ck, q_cl, q_gt, q_bs, q_b2s, q_ls, q_sc, nI_add, if_true, if_false, ite_true, ite_false, reduceIte, q_10, q_01, q_11, q_00, w12, w13, wa, wb, s12]
      · refine skip (fun q => absurd ((hE i).mp q).2.2 q1) ?_
        unfold fX6_paints_L34
        rw [if_neg (c := nI i = W) q0, if_neg (c := nI i = X) (fun q => q1 (Or.inr q))]
        simp (disch := omega) only [q_ile0, q_ile1, q_ilt0, q_ilt1, q_ieq0, q_ieq1, q_iltz, q_ilez, q_ilez0, q_izlt, q_im1, q_im1a, q_ieqz, q_ieqz0, q_l10, q_l12, q_ck, q_cl, q_gt, q_bs, q_b2s, q_ls, q_sc, nI_add, if_true, if_false, ite_true, ite_false, reduceIte, q_10, q_01, q_11, q_00, w2, w19, qt_0 (fun q => q1 (Or.inl q))]
  · rintro ⟨w, m, z⟩ ⟨hz, hfr, lab', g1, g2, g3⟩
    dsimp only at hz hfr g1 g2 g3
    replace hz : z = nI k := hz
    subst hz
    refine ⟨(w, m), ?_, hfr, lab', g1, g2, g3.imp (fun q => ⟨q.1, q.2.1, fun l hl => q.2.2 l ((hE l).mp hl).1 hl⟩) id⟩
    show fX6_paints_L34 N w W X m (nI k) = _
    have w2 : w 2 0 = nI k := by rw [hfr 2 (by omega)]; exact h1
    unfold fX6_paints_L34
    simp (disch := omega) only [q_ile0, q_ile1, q_ilt0, q_ilt1, q_ieq0, q_ieq1, q_iltz, q_ilez, q_ilez0, q_izlt, q_im1, q_im1a, q_ieqz, q_ieqz0, q_l10, q_l12, q_ck, q_cl, q_gt, q_bs, q_b2s, q_ls, q_sc, nI_add, if_true, if_false, ite_true, ite_false, reduceIte, q_10, q_01, q_11, q_00, w2]
theorem qm_paint (hN : 200 < N) (hM : qM v n k a b ld cap pr rt S B) (hC : ∀ l, l < k → v 19 l = qt (C l)) (hE : ∀ l, E l ↔ l < k ∧ nI l ≠ W ∧ (C l ∨ nI l = X)) : ∃ v', fX6_paints N v W X = some v' ∧ (∀ j, j ≠ 22 → v' j = v j) ∧ ∃ lab, (∀ i, i < n → v' 22 i = nI (lab i)) ∧ qlab n a b E lab := by
  have hM' := hM
  obtain ⟨h0, h1, hn, hk, he, -, -⟩ := hM
  obtain ⟨v1, a1, a2, a3⟩ := q_loop (f := fun z : sg_St × Int32 => fX6_paints_L2 N z.1 W X z.2) (m := n) (N := N) (x0 := (v, 0)) (fun i z => z.2 = nI i ∧ (∀ j, j ≠ 22 → z.1 j = v j) ∧ ∀ q, q < i → z.1 22 q = nI q) (fun r => (∀ j, j ≠ 22 → r j = v j) ∧ ∀ q, q < n → r 22 q = nI q) (by omega) ⟨rfl, fun _ _ => rfl, fun q hq => absurd hq (Nat.not_lt_zero q)⟩ (by
    rintro i ⟨w, z⟩ hi ⟨hz, g1, g2⟩
    dsimp only at hz g1 g2
    replace hz : z = nI i := hz
    subst hz
    have w1 : w 1 0 = nI n := by rw [g1 1 (by omega)]; exact h0
    refine Or.inl ⟨(sg_set w 22 i (nI i), nI (i + 1)), ?_, rfl, fun j hj => ?_, fun q hq => ?_⟩
    · show fX6_paints_L2 N w W X (nI i) = _
      unfold fX6_paints_L2
      simp (disch := omega) only [q_ile0, q_ile1, q_ilt0, q_ilt1, q_ieq0, q_ieq1, q_iltz, q_ilez, q_ilez0, q_izlt, q_im1, q_im1a, q_ieqz, q_ieqz0, q_l10, q_l12, q_ck, q_cl, q_gt, q_bs, q_b2s, q_ls, q_sc, nI_add, if_true, if_false, ite_true, ite_false, reduceIte, q_10, q_01, q_11, q_00, w1]
    · show sg_set w 22 i (nI i) j = _
      rw [sg_set_o hj]; exact g1 j hj
    · show sg_set w 22 i (nI i) 22 q = _
      rw [sg_set_s]
      by_cases e : q = i
      · rw [e, upd_s]
      · rw [upd_o e]; exact g2 q (by omega)) (by
    rintro ⟨w, z⟩ ⟨hz, g1, g2⟩
    dsimp only at hz g1 g2
    replace hz : z = nI n := hz
    subst hz
    have w1 : w 1 0 = nI n := by rw [g1 1 (by omega)]; exact h0
    refine ⟨w, ?_, g1, g2⟩
    show fX6_paints_L2 N w W X (nI n) = _
    unfold fX6_paints_L2
    simp (disch := omega) only [q_ile0, q_ile1, q_ilt0, q_ilt1, q_ieq0, q_ieq1, q_iltz, q_ilez, q_ilez0, q_izlt, q_im1, q_im1a, q_ieqz, q_ieqz0, q_l10, q_l12, q_ck, q_cl, q_gt, q_bs, q_b2s, q_ls, q_sc, nI_add, if_true, if_false, ite_true, ite_false, reduceIte, q_10, q_01, q_11, q_00, w1])
  obtain ⟨v2, b1, b2, b3⟩ := q_inv (f := fun z : sg_St × Int32 => fX6_paints_L25 N z.1 W X z.2) (fun z => (∀ j, j ≠ 22 → z.1 j = v j) ∧ ∃ lab : Nat → Nat, (∀ i, i < n → z.1 22 i = nI (lab i)) ∧ (∀ i, i < n → qg_R a b E i (lab i) ∧ lab i ≤ i) ∧ ((z.2 = 0 ∧ ∀ l, E l → lab (a l) = lab (b l)) ∨ z.2 = 1)) (fun z => 2 * qs (fun i => (z.1 22 i).toNatClampNeg) (fun _ => True) n + z.2.toNatClampNeg) (fun r => (∀ j, j ≠ 22 → r j = v j) ∧ ∃ lab, (∀ i, i < n → r 22 i = nI (lab i)) ∧ qlab n a b E lab) (by
    rintro ⟨w, m⟩ ⟨g1, lab, g2, g3, g4⟩
    dsimp only at g1 g2 g3 g4
    have cl : ∀ (w' : sg_St) (lab' : Nat → Nat), (∀ i, i < n → w' 22 i = nI (lab' i)) → (∀ i, i < n → lab' i ≤ i) → qs (fun i => (w' 22 i).toNatClampNeg) (fun _ => True) n = qs lab' (fun _ => True) n := fun w' lab' r1 r2 => qs_cg (fun _ _ => Iff.rfl) (fun i hi _ => by
      show (w' 22 i).toNatClampNeg = _
      have := r2 i hi
      rw [r1 i hi, q_cl (by omega)])
    rcases g4 with ⟨g4, g5⟩ | g4
    · replace g4 : m = 0 := g4
      subst g4
      refine Or.inr ⟨w, ?_, g1, lab, g2, g3, g5⟩
      show fX6_paints_L25 N w W X 0 = _
      unfold fX6_paints_L25
      exact if_pos rfl
    · replace g4 : m = 1 := g4
      subst g4
      have hMw : qM w n k a b ld cap pr rt S B := hM'.fr (qKM.of22 g1)
      obtain ⟨r, r1, r2, lab', r3, r4, r5⟩ := qm_inner (N := N) (by omega) hMw (fun l hl => by rw [g1 19 (by omega)]; exact hC l hl) hE g2 g3
      refine Or.inl ⟨(r.1, r.2), ?_, ⟨fun j hj => (r2 j hj).trans (g1 j hj), lab', r3, r4, r5.imp (fun q => ⟨q.1, q.2.2⟩) (fun q => q.1)⟩, ?_⟩
      · show fX6_paints_L25 N w W X 1 = _
        unfold fX6_paints_L25
        rw [q_10, r1]
        rfl
      · show 2 * qs (fun i => (r.1 22 i).toNatClampNeg) (fun _ => True) n + r.2.toNatClampNeg < 2 * qs (fun i => (w 22 i).toNatClampNeg) (fun _ => True) n + (1 : Int32).toNatClampNeg
        rw [cl _ _ r3 (fun i hi => (r4 i hi).2), cl _ _ g2 (fun i hi => (g3 i hi).2), show (1 : Int32).toNatClampNeg = 1 from by decide]
        rcases r5 with ⟨q1, q2, -⟩ | ⟨q1, q2⟩
        · rw [q1, q2, show (0 : Int32).toNatClampNeg = 0 from by decide]; omega
        · rw [q1, show (1 : Int32).toNatClampNeg = 1 from by decide]; omega) N (v1, 1) ⟨a2, fun i => i, a3, fun i _ => ⟨qg_rf, Nat.le_refl i⟩, Or.inr rfl⟩ (by
    show 2 * qs (fun i => (v1 22 i).toNatClampNeg) (fun _ => True) n + (1 : Int32).toNatClampNeg < N
    have h : qs (fun i => (v1 22 i).toNatClampNeg) (fun _ => True) n ≤ n * 9 := qs_bd (fun i hi _ => by
      show (v1 22 i).toNatClampNeg ≤ 9
      rw [a3 i hi, q_cl (by omega)]; omega)
    rw [show (1 : Int32).toNatClampNeg = 1 from by decide]
    omega)
  refine ⟨v2, ?_, b2, b3⟩
  unfold fX6_paints
  rw [a1, q_bs, b1]
  rfl
theorem qm_src (hN : 20 < N) (hM : qM v n k a b ld cap pr rt S B) (h22 : ∀ i, i < n → v 22 i = nI (lab i)) (hlab : qlab n a b E lab) (hx : x < n) : fX6_source N v (nI (lab x)) = some (qf (fun i => qg_R a b E x i ∧ S i) n) := by
  have hM' := hM
  obtain ⟨h0, h1, hn, hk, he, h2, -⟩ := hM
  have hlx := (hlab.1 x hx).2
  rw [← qf_cg (P := fun i => lab x = lab i ∧ S i) (n := n) (fun i => ⟨fun q => ⟨q.1, (hlab.eq hx q.1).mp q.2.1, q.2.2⟩, fun q => ⟨q.1, (hlab.eq hx q.1).mpr q.2.1, q.2.2⟩⟩)]
  unfold fX6_source
  refine q_first (P := fun i => lab x = lab i ∧ S i) (by omega) (fun i hi hp => ?_) (fun i hi hp => ?_) ?_
  · show fX6_source_L2 N v (nI (lab x)) (nI i) = _
    unfold fX6_source_L2
    have hli := (hlab.1 i hi).2
    by_cases q : S i
    · have q2 : ¬ lab x = lab i := fun e => hp ⟨e, q⟩
      simp (disch := omega) only [q_ile0, q_ile1, q_ilt0, q_ilt1, q_ieq0, q_ieq1, q_iltz, q_ilez, q_ilez0, q_izlt, q_im1, q_im1a, q_ieqz, q_ieqz0, q_l10, q_l12, q_ck, q_cl, q_gt, q_bs, q_b2s, q_ls, q_sc, nI_add, if_true, if_false, ite_true, ite_false, reduceIte, q_10, q_01, q_11, q_00, h0, (h2 i hi).1, qt_1 q, h22 i hi]
    · simp (disch := omega) only [q_ile0, q_ile1, q_ilt0, q_ilt1, q_ieq0, q_ieq1, q_iltz, q_ilez, q_ilez0, q_izlt, q_im1, q_im1a, q_ieqz, q_ieqz0, q_l10, q_l12, q_ck, q_cl, q_gt, q_bs, q_b2s, q_ls, q_sc, nI_add, if_true, if_false, ite_true, ite_false, reduceIte, q_10, q_01, q_11, q_00, h0, (h2 i hi).1, qt_0 q]
  · show fX6_source_L2 N v (nI (lab x)) (nI i) = _
    unfold fX6_source_L2
    have hli := (hlab.1 i hi).2
    simp (disch := omega) only [q_ile0, q_ile1, q_ilt0, q_ilt1, q_ieq0, q_ieq1, q_iltz, q_ilez, q_ilez0, q_izlt, q_im1, q_im1a, q_ieqz, q_ieqz0, q_l10, q_l12, q_ck, q_cl, q_gt, q_bs, q_b2s, q_ls, q_sc, nI_add, if_true, if_false, ite_true, ite_false, reduceIte, q_10, q_01, q_11, q_00, h0, (h2 i hi).1, qt_1 hp.2, h22 i hi, hp.1]
  · show fX6_source_L2 N v (nI (lab x)) (nI n) = _
    unfold fX6_source_L2
    simp (disch := omega) only [q_ile0, q_ile1, q_ilt0, q_ilt1, q_ieq0, q_ieq1, q_iltz, q_ilez, q_ilez0, q_izlt, q_im1, q_im1a, q_ieqz, q_ieqz0, q_l10, q_l12, q_ck, q_cl, q_gt, q_bs, q_b2s, q_ls, q_sc, nI_add, if_true, if_false, ite_true, ite_false, reduceIte, q_10, q_01, q_11, q_00, h0]
theorem qm_sum (hN : 20 < N) (hM : qM v n k a b ld cap pr rt S B) (h22 : ∀ i, i < n → v 22 i = nI (lab i)) (hlab : qlab n a b E lab) (hx : x < n) : fX6_sum N v (nI (lab x)) = some (nI (qs ld (qg_R a b E x) n)) := by
  have hM' := hM
  obtain ⟨h0, h1, hn, hk, he, h2, -⟩ := hM
  have hlx := (hlab.1 x hx).2
  unfold fX6_sum
  rw [q_sum (g := ld) (P := fun i => lab x = lab i) (n := n) (by omega) (fun i w hi hp => by
    show fX6_sum_L4 N v (nI (lab x)) w (nI i) = _
    unfold fX6_sum_L4 fX6_sum_j33
    have hli := (hlab.1 i hi).2
    rw [show w = w + 0 from (Int32.add_zero w).symm]
    simp (disch := omega) only [q_ile0, q_ile1, q_ilt0, q_ilt1, q_ieq0, q_ieq1, q_iltz, q_ilez, q_ilez0, q_izlt, q_im1, q_im1a, q_ieqz, q_ieqz0, q_l10, q_l12, q_ck, q_cl, q_gt, q_bs, q_b2s, q_ls, q_sc, nI_add, if_true, if_false, ite_true, ite_false, reduceIte, q_10, q_01, q_11, q_00, h0, h22 i hi]
    rw [Int32.add_zero, Int32.add_zero]) (fun i w hi hp => by
    show fX6_sum_L4 N v (nI (lab x)) w (nI i) = _
    unfold fX6_sum_L4 fX6_sum_j33
    have hli := (hlab.1 i hi).2
    simp (disch := omega) only [q_ile0, q_ile1, q_ilt0, q_ilt1, q_ieq0, q_ieq1, q_iltz, q_ilez, q_ilez0, q_izlt, q_im1, q_im1a, q_ieqz, q_ieqz0, q_l10, q_l12, q_ck, q_cl, q_gt, q_bs, q_b2s, q_ls, q_sc, nI_add, if_true, if_false, ite_true, ite_false, reduceIte, q_10, q_01, q_11, q_00, h0, h22 i hi, (h2 i hi).2.2.1]) (fun w => by
    show fX6_sum_L4 N v (nI (lab x)) w (nI n) = _
    unfold fX6_sum_L4
    simp (disch := omega) only [q_ile0, q_ile1, q_ilt0, q_ilt1, q_ieq0, q_ieq1, q_iltz, q_ilez, q_ilez0, q_izlt, q_im1, q_im1a, q_ieqz, q_ieqz0, q_l10, q_l12, q_ck, q_cl, q_gt, q_bs, q_b2s, q_ls, q_sc, nI_add, if_true, if_false, ite_true, ite_false, reduceIte, q_10, q_01, q_11, q_00, h0]), q_bs, qs_cg (g := ld) (Q := qg_R a b E x) (fun i hi => hlab.eq hx hi) (fun _ _ _ => rfl)]
theorem q_srcL (hSn : ∀ i, S i → i < n) (x : Nat) : (∃ s, qg_L a b S E x ∧ S s ∧ qg_R a b E x s ∧ s < n ∧ qf (fun i => qg_R a b E x i ∧ S i) n = nI s) ∨ (¬ qg_L a b S E x ∧ qf (fun i => qg_R a b E x i ∧ S i) n = -1) := by
  rcases qf_or (fun i => qg_R a b E x i ∧ S i) n with ⟨s, h1, h2, h3, h4⟩ | ⟨h1, h2⟩
  · exact Or.inl ⟨s, ⟨s, h2.2, h2.1⟩, h2.2, h2.1, h1, h4⟩
  · refine Or.inr ⟨fun q => ?_, h2⟩
    obtain ⟨s, g1, g2⟩ := q
    exact h1 s (hSn s g1) ⟨g2, g1⟩
theorem qm_flow (hN : 200 < N) (hM : qM v n k a b ld cap pr rt S B) (hSn : ∀ i, S i → i < n) (hC : ∀ l, l < k → v 19 l = qt (C l)) (hC' : ∀ m, C' m ↔ m < k ∧ (C m ∨ nI m = X)) (hl : l < k) : ∃ v', fX6_flow N v (nI l) X = some (nI (qfl a b ld n S C' l), v') ∧ ∀ j, j ≠ 22 → v' j = v j := by
  have hk := hM.2.2.2.1
  have hn := hM.2.2.1
  obtain ⟨v', e1, e2, lab, e3, e4⟩ := qm_paint (E := qg_del C' l) (W := nI l) (X := X) hN hM hC (fun m => ⟨fun q => ⟨((hC' m).mp q.1).1, fun e => q.2 ((q_eq (by have := ((hC' m).mp q.1).1; omega) (by omega)).mp e), ((hC' m).mp q.1).2⟩, fun q => ⟨(hC' m).mpr ⟨q.1, q.2.2⟩, fun e => q.2.1 (by rw [e])⟩⟩)
  have hMv := hM.fr (qKM.of22 e2)
  obtain ⟨f1, f2, f3, f4, f5⟩ := hMv.2.2.2.2.1 l hl
  refine ⟨v', ?_, e2⟩
  unfold fX6_flow
  rw [e1]
  simp (disch := omega) only [q_ile0, q_ile1, q_ilt0, q_ilt1, q_ieq0, q_ieq1, q_iltz, q_ilez, q_ilez0, q_izlt, q_im1, q_im1a, q_ieqz, q_ieqz0, q_l10, q_l12, q_ck, q_cl, q_gt, q_bs, q_b2s, q_ls, q_sc, nI_add, if_true, if_false, ite_true, ite_false, reduceIte, q_10, q_01, q_11, q_00, f1, f2, e3 _ f3, e3 _ f4]
  rw [qm_src (by omega) hMv e3 e4 f3]
  rcases q_srcL (a := a) (b := b) (E := qg_del C' l) hSn (a l) with ⟨s, g1, g2, g3, g4, g5⟩ | ⟨g1, g5⟩
  · rw [g5, qm_sum (by omega) hMv e3 e4 f4, qfl_a g1]
    simp (disch := omega) only [q_ile0, q_ile1, q_ilt0, q_ilt1, q_ieq0, q_ieq1, q_iltz, q_ilez, q_ilez0, q_izlt, q_im1, q_im1a, q_ieqz, q_ieqz0, q_l10, q_l12, q_ck, q_cl, q_gt, q_bs, q_b2s, q_ls, q_sc, nI_add, if_true, if_false, ite_true, ite_false, reduceIte, q_10, q_01, q_11, q_00]
  · rw [g5, q_bs, q_im1a, qm_src (by omega) hMv e3 e4 f4]
    rcases q_srcL (a := a) (b := b) (E := qg_del C' l) hSn (b l) with ⟨s, h1, h2, h3, h4, h5⟩ | ⟨h1, h5⟩
    · rw [h5, qm_sum (by omega) hMv e3 e4 f3, qfl_b g1 h1]
      simp (disch := omega) only [q_ile0, q_ile1, q_ilt0, q_ilt1, q_ieq0, q_ieq1, q_iltz, q_ilez, q_ilez0, q_izlt, q_im1, q_im1a, q_ieqz, q_ieqz0, q_l10, q_l12, q_ck, q_cl, q_gt, q_bs, q_b2s, q_ls, q_sc, nI_add, if_true, if_false, ite_true, ite_false, reduceIte, q_10, q_01, q_11, q_00]
    · rw [h5, qfl_0 g1 h1]
      simp (disch := omega) only [q_ile0, q_ile1, q_ilt0, q_ilt1, q_ieq0, q_ieq1, q_iltz, q_ilez, q_ilez0, q_izlt, q_im1, q_im1a, q_ieqz, q_ieqz0, q_l10, q_l12, q_ck, q_cl, q_gt, q_bs, q_b2s, q_ls, q_sc, nI_add, if_true, if_false, ite_true, ite_false, reduceIte, q_10, q_01, q_11, q_00]
      rfl
theorem qm_over (hN : 200 < N) (hM : qM v n k a b ld cap pr rt S B) (hSn : ∀ i, S i → i < n) (hC : ∀ l, l < k → v 19 l = qt (C l)) (hC' : ∀ m, C' m ↔ m < k ∧ (C m ∨ nI m = X)) : ∃ v', fX6_tooMuch N v X = some (qf (fun l => rt l < qcu a b ld n S C' l) k, v') ∧ ∀ j, j ≠ 22 → v' j = v j := by
  have hk := hM.2.2.2.1
  have hn := hM.2.2.1
  have hb : ∀ l, qfl a b ld n S C' l ≤ 990 := fun l => by
    have := qfl_bd (a := a) (b := b) (S := S) (C := C') (l := l) (n := n) (ld := ld) (fun i hi => (hM.2.2.2.2.2.1 i hi).2.2.2.2.2.1)
    omega
  obtain ⟨r, hr, hfr, hres⟩ := q_loop (f := fun z : sg_St × Int32 => fX6_tooMuch_L2 N z.1 X z.2) (m := k) (N := N) (x0 := (v, 0)) (fun i z => z.2 = nI i ∧ (∀ j, j ≠ 22 → z.1 j = v j) ∧ ∀ l, l < i → ¬ rt l < qcu a b ld n S C' l) (fun r => (∀ j, j ≠ 22 → r.2 j = v j) ∧ r.1 = qf (fun l => rt l < qcu a b ld n S C' l) k) (by omega) ⟨rfl, fun _ _ => rfl, fun l hl => absurd hl (Nat.not_lt_zero l)⟩ (by
    rintro i ⟨w, z⟩ hi ⟨hz, g1, g2⟩
    dsimp only at hz g1 g2
    replace hz : z = nI i := hz
    subst hz
    have hMw := hM.fr (qKM.of22 g1)
    have w2 := hMw.2.1
    have w19 : w 19 i = qt (C i) := by rw [g1 19 (by omega)]; exact hC i hi
    by_cases q : C' i
    · obtain ⟨w', f1, f2⟩ := qm_flow hN hMw hSn (fun l hl => by rw [g1 19 (by omega)]; exact hC l hl) hC' hi
      have head : fX6_tooMuch_L2 N w X (nI i) = fX6_tooMuch_j24 N w X (nI i) := by
        unfold fX6_tooMuch_L2
        by_cases q2 : C i
        · simp (disch := omega) only [q_ile0, q_ile1, q_ilt0, q_ilt1, q_ieq0, q_ieq1, q_iltz, q_ilez, q_ilez0, q_izlt, q_im1, q_im1a, q_ieqz, q_ieqz0, q_l10, q_l12, q_ck, q_cl, q_gt, q_bs, q_b2s, q_ls, q_sc, nI_add, if_true, if_false, ite_true, ite_false, reduceIte, q_10, q_01, q_11, q_00, w2, w19, qt_1 q2]
        · rw [if_pos (c := nI i = X) (((hC' i).mp q).2.resolve_left q2)]
          simp (disch := omega) only [q_ile0, q_ile1, q_ilt0, q_ilt1, q_ieq0, q_ieq1, q_iltz, q_ilez, q_ilez0, q_izlt, q_im1, q_im1a, q_ieqz, q_ieqz0, q_l10, q_l12, q_ck, q_cl, q_gt, q_bs, q_b2s, q_ls, q_sc, nI_add, if_true, if_false, ite_true, ite_false, reduceIte, q_10, q_01, q_11, q_00, w2, w19, qt_0 q2]
      have hw14 : w' 14 i = nI (rt i) := by rw [f2 14 (by omega)]; exact (hMw.2.2.2.2.2.2 i hi).1
      have hr9 := (hMw.2.2.2.2.2.2 i hi).2.1
      have hbi := hb i
      by_cases q3 : rt i < qfl a b ld n S C' i
      · refine Or.inr ⟨(nI i, w'), ?_, fun j hj => (f2 j hj).trans (g1 j hj), (qf_s (P := fun l => rt l < qcu a b ld n S C' l) (by show rt i < qcu a b ld n S C' i; rw [qcu_1 q]; exact q3) g2 hi).symm⟩
        show fX6_tooMuch_L2 N w X (nI i) = _
        rw [head]
        unfold fX6_tooMuch_j24
        rw [f1]
        simp (disch := omega) only [q_ile0, q_ile1, q_ilt0, q_ilt1, q_ieq0, q_ieq1, q_iltz, q_ilez, q_ilez0, q_izlt, q_im1, q_im1a, q_ieqz, q_ieqz0, q_l10, q_l12, q_ck, q_cl, q_gt, q_bs, q_b2s, q_ls, q_sc, nI_add, if_true, if_false, ite_true, ite_false, reduceIte, q_10, q_01, q_11, q_00, hw14]
      · refine Or.inl ⟨(w', nI (i + 1)), ?_, rfl, fun j hj => (f2 j hj).trans (g1 j hj), fun l hl => ?_⟩
        · show fX6_tooMuch_L2 N w X (nI i) = _
          rw [head]
          unfold fX6_tooMuch_j24
          rw [f1]
          simp (disch := omega) only [q_ile0, q_ile1, q_ilt0, q_ilt1, q_ieq0, q_ieq1, q_iltz, q_ilez, q_ilez0, q_izlt, q_im1, q_im1a, q_ieqz, q_ieqz0, q_l10, q_l12, q_ck, q_cl, q_gt, q_bs, q_b2s, q_ls, q_sc, nI_add, if_true, if_false, ite_true, ite_false, reduceIte, q_10, q_01, q_11, q_00, hw14]
        · by_cases e : l = i
          · subst e; rw [qcu_1 q]; exact q3
          · exact g2 l (by omega)
    · refine Or.inl ⟨(w, nI (i + 1)), ?_, rfl, g1, fun l hl => ?_⟩
      · show fX6_tooMuch_L2 N w X (nI i) = _
        unfold fX6_tooMuch_L2
        rw [if_neg (c := nI i = X) (fun e => q ((hC' i).mpr ⟨hi, Or.inr e⟩))]
        simp (disch := omega) only [q_ile0, q_ile1, q_ilt0, q_ilt1, q_ieq0, q_ieq1, q_iltz, q_ilez, q_ilez0, q_izlt, q_im1, q_im1a, q_ieqz, q_ieqz0, q_l10, q_l12, q_ck, q_cl, q_gt, q_bs, q_b2s, q_ls, q_sc, nI_add, if_true, if_false, ite_true, ite_false, reduceIte, q_10, q_01, q_11, q_00, w2, w19, qt_0 (fun e => q ((hC' i).mpr ⟨hi, Or.inl e⟩))]
      · by_cases e : l = i
        · subst e; rw [qcu_0 q]; exact Nat.not_lt_zero _
        · exact g2 l (by omega)) (by
    rintro ⟨w, z⟩ ⟨hz, g1, g2⟩
    dsimp only at hz g1 g2
    replace hz : z = nI k := hz
    subst hz
    have w2 := (hM.fr (qKM.of22 g1)).2.1
    refine ⟨(-1, w), ?_, g1, (qf_n g2).symm⟩
    show fX6_tooMuch_L2 N w X (nI k) = _
    unfold fX6_tooMuch_L2
    simp (disch := omega) only [q_ile0, q_ile1, q_ilt0, q_ilt1, q_ieq0, q_ieq1, q_iltz, q_ilez, q_ilez0, q_izlt, q_im1, q_im1a, q_ieqz, q_ieqz0, q_l10, q_l12, q_ck, q_cl, q_gt, q_bs, q_b2s, q_ls, q_sc, nI_add, if_true, if_false, ite_true, ite_false, reduceIte, q_10, q_01, q_11, q_00, w2])
  obtain ⟨r1, r2⟩ := r
  replace hres : r1 = _ := hres
  subst hres
  exact ⟨r2, hr, hfr⟩
end MM
